/-! rows over the class's world: written by wip/gen/mk03.py -/
theorem hh_E_0 {K : Nat → ClassId} {ad : Nat → Nat} {v : hh_M} : hh_E K ad v 0 = .inr (7, [.ref (ad 1), .ref (ad (hh_rI 0)), .ref (ad (hh_rI 1)), .ref (ad 4)]) := rfl
theorem hh_E_1 {K : Nat → ClassId} {ad : Nat → Nat} {v : hh_M} : hh_E K ad v 1 = .inr (4, [.ref (ad 2), .ref (ad 3), .int (v 1 2)]) := rfl
theorem hh_E_2 {K : Nat → ClassId} {ad : Nat → Nat} {v : hh_M} : hh_E K ad v 2 = .inl (K 2, 6, .inr (.inr (.inr (.inr (fun i => some (ad (hh_mI i))))))) := rfl
theorem hh_E_3 {K : Nat → ClassId} {ad : Nat → Nat} {v : hh_M} : hh_E K ad v 3 = .inl (K 1, 6, .inr (.inr (.inr (.inr (fun i => some (ad (hh_bI i))))))) := rfl
theorem hh_E_4 {K : Nat → ClassId} {ad : Nat → Nat} {v : hh_M} : hh_E K ad v 4 = .inr (6, [.ref (ad 5), .ref (ad 6), .ref (ad 7)]) := rfl
theorem hh_E_5 {K : Nat → ClassId} {ad : Nat → Nat} {v : hh_M} : hh_E K ad v 5 = .inl (K 0, 100, .inl (v 5)) := rfl
theorem hh_E_6 {K : Nat → ClassId} {ad : Nat → Nat} {v : hh_M} : hh_E K ad v 6 = .inl (K 0, 100, .inl (v 6)) := rfl
theorem hh_E_7 {K : Nat → ClassId} {ad : Nat → Nat} {v : hh_M} : hh_E K ad v 7 = .inl (K 0, 100, .inl (v 7)) := rfl
theorem hh_E_m {K : Nat → ClassId} {ad : Nat → Nat} {v : hh_M} {i : Nat} (h : i < 6) : hh_E K ad v (hh_mI i) = .inr (3, [.int (v (hh_mI i) 0), .int (v (hh_mI i) 1), .int (v (hh_mI i) 2), .int (v (hh_mI i) 3), .int (v (hh_mI i) 4), .int (v (hh_mI i) 5), .int (v (hh_mI i) 6)]) := by unfold hh_E; rw [hh_kd_m h] <;> rfl
theorem hh_E_b {K : Nat → ClassId} {ad : Nat → Nat} {v : hh_M} {i : Nat} (h : i < 6) : hh_E K ad v (hh_bI i) = .inl (K 0, 100, .inl (v (hh_bI i))) := by unfold hh_E; rw [hh_kd_b h] <;> rfl
theorem hh_E_r {K : Nat → ClassId} {ad : Nat → Nat} {v : hh_M} (r : Nat) : hh_E K ad v (hh_rI r) = .inr (5, [.ref (ad 1), .ref (ad (hh_lI r)), .ref (ad (hh_kI r)), .ref (ad (hh_HI r)), .ref (ad (hh_CI r)), .int (v (hh_rI r) 5), .int (v (hh_rI r) 6), .int (v (hh_rI r) 7), .int (v (hh_rI r) 8), .int (v (hh_rI r) 9)]) := by unfold hh_E; rw [hh_kd_r r, hh_rd_r r] <;> rfl
theorem hh_E_l {K : Nat → ClassId} {ad : Nat → Nat} {v : hh_M} (r : Nat) : hh_E K ad v (hh_lI r) = .inl (K 0, 6, .inl (v (hh_lI r))) := by unfold hh_E; rw [hh_kd_l r] <;> rfl
theorem hh_E_k {K : Nat → ClassId} {ad : Nat → Nat} {v : hh_M} (r : Nat) : hh_E K ad v (hh_kI r) = .inl (K 0, 6, .inl (v (hh_kI r))) := by unfold hh_E; rw [hh_kd_k r] <;> rfl
theorem hh_E_H {K : Nat → ClassId} {ad : Nat → Nat} {v : hh_M} (r : Nat) : hh_E K ad v (hh_HI r) = .inl (K 3, 8, .inr (.inr (.inr (.inr (fun i => some (ad (hh_hI r i))))))) := by unfold hh_E; rw [hh_kd_H r, hh_rd_H r] <;> rfl
theorem hh_E_C {K : Nat → ClassId} {ad : Nat → Nat} {v : hh_M} (r : Nat) : hh_E K ad v (hh_CI r) = .inl (K 4, 24, .inr (.inr (.inr (.inr (fun i => some (ad (hh_cI r i))))))) := by unfold hh_E; rw [hh_kd_C r, hh_rd_C r] <;> rfl
theorem hh_E_h {K : Nat → ClassId} {ad : Nat → Nat} {v : hh_M} (r : Nat) {i : Nat} (h : i < 8) : hh_E K ad v (hh_hI r i) = .inr (1, [.int (v (hh_hI r i) 0), .int (v (hh_hI r i) 1), .int (v (hh_hI r i) 2), .int (v (hh_hI r i) 3), .int (v (hh_hI r i) 4), .int (v (hh_hI r i) 5), .int (v (hh_hI r i) 6), .int (v (hh_hI r i) 7), .int (v (hh_hI r i) 8), .int (v (hh_hI r i) 9), .int (v (hh_hI r i) 10), .int (v (hh_hI r i) 11), .int (v (hh_hI r i) 12)]) := by unfold hh_E; rw [hh_kd_h r h] <;> rfl
theorem hh_E_c {K : Nat → ClassId} {ad : Nat → Nat} {v : hh_M} (r : Nat) {i : Nat} (h : i < 24) : hh_E K ad v (hh_cI r i) = .inr (0, [.ref (ad (hh_gI r i 0)), .ref (ad (hh_gI r i 1)), .int (v (hh_cI r i) 2), .int (v (hh_cI r i) 3), .int (v (hh_cI r i) 4), .int (v (hh_cI r i) 5), .int (v (hh_cI r i) 6)]) := by unfold hh_E; rw [hh_kd_c r h, hh_rd_c r h, hh_ix_c r h] <;> rfl
theorem hh_E_g {K : Nat → ClassId} {ad : Nat → Nat} {v : hh_M} (r : Nat) {i g : Nat} (h : i < 24) (hg : g < 2) : hh_E K ad v (hh_gI r i g) = .inr (2, [.int (v (hh_gI r i g) 0), .int (v (hh_gI r i g) 1), .int (v (hh_gI r i g) 2), .int (v (hh_gI r i g) 3), .int (v (hh_gI r i g) 4), .int (v (hh_gI r i g) 5)]) := by unfold hh_E; rw [hh_kd_g r h hg] <;> rfl
theorem hh_b_m {i : Nat} (h : i < 6) : hh_mI i < 190 := by unfold hh_mI; omega
theorem hh_b_b {i : Nat} (h : i < 6) : hh_bI i < 190 := by unfold hh_bI; omega
theorem hh_b_r {r : Nat} (h : r < 2) : hh_rI r < 190 := by unfold hh_rI; omega
theorem hh_b_l {r : Nat} (h : r < 2) : hh_lI r < 190 := by unfold hh_lI; omega
theorem hh_b_k {r : Nat} (h : r < 2) : hh_kI r < 190 := by unfold hh_kI; omega
theorem hh_b_H {r : Nat} (h : r < 2) : hh_HI r < 190 := by unfold hh_HI; omega
theorem hh_b_C {r : Nat} (h : r < 2) : hh_CI r < 190 := by unfold hh_CI; omega
theorem hh_b_h {r i : Nat} (hr : r < 2) (h : i < 8) : hh_hI r i < 190 := by unfold hh_hI; omega
theorem hh_b_c {r i : Nat} (hr : r < 2) (h : i < 24) : hh_cI r i < 190 := by unfold hh_cI; omega
theorem hh_b_g {r i g : Nat} (hr : r < 2) (h : i < 24) (hg : g < 2) : hh_gI r i g < 190 := by unfold hh_gI; omega
theorem hh_pm0 {K : Nat → ClassId} {ad : Nat → Nat} {v : hh_M} {i : Nat} (h : i < 6) {x : Int32} : hh_E K ad (hh_up v (hh_mI i) 0 x) (hh_mI i) = .inr (3, [.int x, .int (v (hh_mI i) 1), .int (v (hh_mI i) 2), .int (v (hh_mI i) 3), .int (v (hh_mI i) 4), .int (v (hh_mI i) 5), .int (v (hh_mI i) 6)]) := by rw [hh_E_m h]; simp [hh_up]
theorem hh_pm1 {K : Nat → ClassId} {ad : Nat → Nat} {v : hh_M} {i : Nat} (h : i < 6) {x : Int32} : hh_E K ad (hh_up v (hh_mI i) 1 x) (hh_mI i) = .inr (3, [.int (v (hh_mI i) 0), .int x, .int (v (hh_mI i) 2), .int (v (hh_mI i) 3), .int (v (hh_mI i) 4), .int (v (hh_mI i) 5), .int (v (hh_mI i) 6)]) := by rw [hh_E_m h]; simp [hh_up]
theorem hh_pm2 {K : Nat → ClassId} {ad : Nat → Nat} {v : hh_M} {i : Nat} (h : i < 6) {x : Int32} : hh_E K ad (hh_up v (hh_mI i) 2 x) (hh_mI i) = .inr (3, [.int (v (hh_mI i) 0), .int (v (hh_mI i) 1), .int x, .int (v (hh_mI i) 3), .int (v (hh_mI i) 4), .int (v (hh_mI i) 5), .int (v (hh_mI i) 6)]) := by rw [hh_E_m h]; simp [hh_up]
theorem hh_pm3 {K : Nat → ClassId} {ad : Nat → Nat} {v : hh_M} {i : Nat} (h : i < 6) {x : Int32} : hh_E K ad (hh_up v (hh_mI i) 3 x) (hh_mI i) = .inr (3, [.int (v (hh_mI i) 0), .int (v (hh_mI i) 1), .int (v (hh_mI i) 2), .int x, .int (v (hh_mI i) 4), .int (v (hh_mI i) 5), .int (v (hh_mI i) 6)]) := by rw [hh_E_m h]; simp [hh_up]
theorem hh_pm4 {K : Nat → ClassId} {ad : Nat → Nat} {v : hh_M} {i : Nat} (h : i < 6) {x : Int32} : hh_E K ad (hh_up v (hh_mI i) 4 x) (hh_mI i) = .inr (3, [.int (v (hh_mI i) 0), .int (v (hh_mI i) 1), .int (v (hh_mI i) 2), .int (v (hh_mI i) 3), .int x, .int (v (hh_mI i) 5), .int (v (hh_mI i) 6)]) := by rw [hh_E_m h]; simp [hh_up]
theorem hh_pm5 {K : Nat → ClassId} {ad : Nat → Nat} {v : hh_M} {i : Nat} (h : i < 6) {x : Int32} : hh_E K ad (hh_up v (hh_mI i) 5 x) (hh_mI i) = .inr (3, [.int (v (hh_mI i) 0), .int (v (hh_mI i) 1), .int (v (hh_mI i) 2), .int (v (hh_mI i) 3), .int (v (hh_mI i) 4), .int x, .int (v (hh_mI i) 6)]) := by rw [hh_E_m h]; simp [hh_up]
theorem hh_pm6 {K : Nat → ClassId} {ad : Nat → Nat} {v : hh_M} {i : Nat} (h : i < 6) {x : Int32} : hh_E K ad (hh_up v (hh_mI i) 6 x) (hh_mI i) = .inr (3, [.int (v (hh_mI i) 0), .int (v (hh_mI i) 1), .int (v (hh_mI i) 2), .int (v (hh_mI i) 3), .int (v (hh_mI i) 4), .int (v (hh_mI i) 5), .int x]) := by rw [hh_E_m h]; simp [hh_up]
theorem hh_pM2 {K : Nat → ClassId} {ad : Nat → Nat} {v : hh_M} {x : Int32} : hh_E K ad (hh_up v 1 2 x) 1 = .inr (4, [.ref (ad 2), .ref (ad 3), .int x]) := by rw [hh_E_1]; simp [hh_up]
theorem hh_pr5 {K : Nat → ClassId} {ad : Nat → Nat} {v : hh_M} (r : Nat) {x : Int32} : hh_E K ad (hh_up v (hh_rI r) 5 x) (hh_rI r) = .inr (5, [.ref (ad 1), .ref (ad (hh_lI r)), .ref (ad (hh_kI r)), .ref (ad (hh_HI r)), .ref (ad (hh_CI r)), .int x, .int (v (hh_rI r) 6), .int (v (hh_rI r) 7), .int (v (hh_rI r) 8), .int (v (hh_rI r) 9)]) := by rw [hh_E_r r]; simp [hh_up]
theorem hh_pr6 {K : Nat → ClassId} {ad : Nat → Nat} {v : hh_M} (r : Nat) {x : Int32} : hh_E K ad (hh_up v (hh_rI r) 6 x) (hh_rI r) = .inr (5, [.ref (ad 1), .ref (ad (hh_lI r)), .ref (ad (hh_kI r)), .ref (ad (hh_HI r)), .ref (ad (hh_CI r)), .int (v (hh_rI r) 5), .int x, .int (v (hh_rI r) 7), .int (v (hh_rI r) 8), .int (v (hh_rI r) 9)]) := by rw [hh_E_r r]; simp [hh_up]
theorem hh_pr7 {K : Nat → ClassId} {ad : Nat → Nat} {v : hh_M} (r : Nat) {x : Int32} : hh_E K ad (hh_up v (hh_rI r) 7 x) (hh_rI r) = .inr (5, [.ref (ad 1), .ref (ad (hh_lI r)), .ref (ad (hh_kI r)), .ref (ad (hh_HI r)), .ref (ad (hh_CI r)), .int (v (hh_rI r) 5), .int (v (hh_rI r) 6), .int x, .int (v (hh_rI r) 8), .int (v (hh_rI r) 9)]) := by rw [hh_E_r r]; simp [hh_up]
theorem hh_pr8 {K : Nat → ClassId} {ad : Nat → Nat} {v : hh_M} (r : Nat) {x : Int32} : hh_E K ad (hh_up v (hh_rI r) 8 x) (hh_rI r) = .inr (5, [.ref (ad 1), .ref (ad (hh_lI r)), .ref (ad (hh_kI r)), .ref (ad (hh_HI r)), .ref (ad (hh_CI r)), .int (v (hh_rI r) 5), .int (v (hh_rI r) 6), .int (v (hh_rI r) 7), .int x, .int (v (hh_rI r) 9)]) := by rw [hh_E_r r]; simp [hh_up]
theorem hh_pr9 {K : Nat → ClassId} {ad : Nat → Nat} {v : hh_M} (r : Nat) {x : Int32} : hh_E K ad (hh_up v (hh_rI r) 9 x) (hh_rI r) = .inr (5, [.ref (ad 1), .ref (ad (hh_lI r)), .ref (ad (hh_kI r)), .ref (ad (hh_HI r)), .ref (ad (hh_CI r)), .int (v (hh_rI r) 5), .int (v (hh_rI r) 6), .int (v (hh_rI r) 7), .int (v (hh_rI r) 8), .int x]) := by rw [hh_E_r r]; simp [hh_up]
theorem hh_ph0 {K : Nat → ClassId} {ad : Nat → Nat} {v : hh_M} (r : Nat) {i : Nat} (h : i < 8) {x : Int32} : hh_E K ad (hh_up v (hh_hI r i) 0 x) (hh_hI r i) = .inr (1, [.int x, .int (v (hh_hI r i) 1), .int (v (hh_hI r i) 2), .int (v (hh_hI r i) 3), .int (v (hh_hI r i) 4), .int (v (hh_hI r i) 5), .int (v (hh_hI r i) 6), .int (v (hh_hI r i) 7), .int (v (hh_hI r i) 8), .int (v (hh_hI r i) 9), .int (v (hh_hI r i) 10), .int (v (hh_hI r i) 11), .int (v (hh_hI r i) 12)]) := by rw [hh_E_h r h]; simp [hh_up]
theorem hh_ph1 {K : Nat → ClassId} {ad : Nat → Nat} {v : hh_M} (r : Nat) {i : Nat} (h : i < 8) {x : Int32} : hh_E K ad (hh_up v (hh_hI r i) 1 x) (hh_hI r i) = .inr (1, [.int (v (hh_hI r i) 0), .int x, .int (v (hh_hI r i) 2), .int (v (hh_hI r i) 3), .int (v (hh_hI r i) 4), .int (v (hh_hI r i) 5), .int (v (hh_hI r i) 6), .int (v (hh_hI r i) 7), .int (v (hh_hI r i) 8), .int (v (hh_hI r i) 9), .int (v (hh_hI r i) 10), .int (v (hh_hI r i) 11), .int (v (hh_hI r i) 12)]) := by rw [hh_E_h r h]; simp [hh_up]
theorem hh_ph2 {K : Nat → ClassId} {ad : Nat → Nat} {v : hh_M} (r : Nat) {i : Nat} (h : i < 8) {x : Int32} : hh_E K ad (hh_up v (hh_hI r i) 2 x) (hh_hI r i) = .inr (1, [.int (v (hh_hI r i) 0), .int (v (hh_hI r i) 1), .int x, .int (v (hh_hI r i) 3), .int (v (hh_hI r i) 4), .int (v (hh_hI r i) 5), .int (v (hh_hI r i) 6), .int (v (hh_hI r i) 7), .int (v (hh_hI r i) 8), .int (v (hh_hI r i) 9), .int (v (hh_hI r i) 10), .int (v (hh_hI r i) 11), .int (v (hh_hI r i) 12)]) := by rw [hh_E_h r h]; simp [hh_up]
theorem hh_ph3 {K : Nat → ClassId} {ad : Nat → Nat} {v : hh_M} (r : Nat) {i : Nat} (h : i < 8) {x : Int32} : hh_E K ad (hh_up v (hh_hI r i) 3 x) (hh_hI r i) = .inr (1, [.int (v (hh_hI r i) 0), .int (v (hh_hI r i) 1), .int (v (hh_hI r i) 2), .int x, .int (v (hh_hI r i) 4), .int (v (hh_hI r i) 5), .int (v (hh_hI r i) 6), .int (v (hh_hI r i) 7), .int (v (hh_hI r i) 8), .int (v (hh_hI r i) 9), .int (v (hh_hI r i) 10), .int (v (hh_hI r i) 11), .int (v (hh_hI r i) 12)]) := by rw [hh_E_h r h]; simp [hh_up]
theorem hh_ph4 {K : Nat → ClassId} {ad : Nat → Nat} {v : hh_M} (r : Nat) {i : Nat} (h : i < 8) {x : Int32} : hh_E K ad (hh_up v (hh_hI r i) 4 x) (hh_hI r i) = .inr (1, [.int (v (hh_hI r i) 0), .int (v (hh_hI r i) 1), .int (v (hh_hI r i) 2), .int (v (hh_hI r i) 3), .int x, .int (v (hh_hI r i) 5), .int (v (hh_hI r i) 6), .int (v (hh_hI r i) 7), .int (v (hh_hI r i) 8), .int (v (hh_hI r i) 9), .int (v (hh_hI r i) 10), .int (v (hh_hI r i) 11), .int (v (hh_hI r i) 12)]) := by rw [hh_E_h r h]; simp [hh_up]
theorem hh_ph5 {K : Nat → ClassId} {ad : Nat → Nat} {v : hh_M} (r : Nat) {i : Nat} (h : i < 8) {x : Int32} : hh_E K ad (hh_up v (hh_hI r i) 5 x) (hh_hI r i) = .inr (1, [.int (v (hh_hI r i) 0), .int (v (hh_hI r i) 1), .int (v (hh_hI r i) 2), .int (v (hh_hI r i) 3), .int (v (hh_hI r i) 4), .int x, .int (v (hh_hI r i) 6), .int (v (hh_hI r i) 7), .int (v (hh_hI r i) 8), .int (v (hh_hI r i) 9), .int (v (hh_hI r i) 10), .int (v (hh_hI r i) 11), .int (v (hh_hI r i) 12)]) := by rw [hh_E_h r h]; simp [hh_up]
theorem hh_ph6 {K : Nat → ClassId} {ad : Nat → Nat} {v : hh_M} (r : Nat) {i : Nat} (h : i < 8) {x : Int32} : hh_E K ad (hh_up v (hh_hI r i) 6 x) (hh_hI r i) = .inr (1, [.int (v (hh_hI r i) 0), .int (v (hh_hI r i) 1), .int (v (hh_hI r i) 2), .int (v (hh_hI r i) 3), .int (v (hh_hI r i) 4), .int (v (hh_hI r i) 5), .int x, .int (v (hh_hI r i) 7), .int (v (hh_hI r i) 8), .int (v (hh_hI r i) 9), .int (v (hh_hI r i) 10), .int (v (hh_hI r i) 11), .int (v (hh_hI r i) 12)]) := by rw [hh_E_h r h]; simp [hh_up]
theorem hh_ph7 {K : Nat → ClassId} {ad : Nat → Nat} {v : hh_M} (r : Nat) {i : Nat} (h : i < 8) {x : Int32} : hh_E K ad (hh_up v (hh_hI r i) 7 x) (hh_hI r i) = .inr (1, [.int (v (hh_hI r i) 0), .int (v (hh_hI r i) 1), .int (v (hh_hI r i) 2), .int (v (hh_hI r i) 3), .int (v (hh_hI r i) 4), .int (v (hh_hI r i) 5), .int (v (hh_hI r i) 6), .int x, .int (v (hh_hI r i) 8), .int (v (hh_hI r i) 9), .int (v (hh_hI r i) 10), .int (v (hh_hI r i) 11), .int (v (hh_hI r i) 12)]) := by rw [hh_E_h r h]; simp [hh_up]
theorem hh_ph8 {K : Nat → ClassId} {ad : Nat → Nat} {v : hh_M} (r : Nat) {i : Nat} (h : i < 8) {x : Int32} : hh_E K ad (hh_up v (hh_hI r i) 8 x) (hh_hI r i) = .inr (1, [.int (v (hh_hI r i) 0), .int (v (hh_hI r i) 1), .int (v (hh_hI r i) 2), .int (v (hh_hI r i) 3), .int (v (hh_hI r i) 4), .int (v (hh_hI r i) 5), .int (v (hh_hI r i) 6), .int (v (hh_hI r i) 7), .int x, .int (v (hh_hI r i) 9), .int (v (hh_hI r i) 10), .int (v (hh_hI r i) 11), .int (v (hh_hI r i) 12)]) := by rw [hh_E_h r h]; simp [hh_up]
theorem hh_ph9 {K : Nat → ClassId} {ad : Nat → Nat} {v : hh_M} (r : Nat) {i : Nat} (h : i < 8) {x : Int32} : hh_E K ad (hh_up v (hh_hI r i) 9 x) (hh_hI r i) = .inr (1, [.int (v (hh_hI r i) 0), .int (v (hh_hI r i) 1), .int (v (hh_hI r i) 2), .int (v (hh_hI r i) 3), .int (v (hh_hI r i) 4), .int (v (hh_hI r i) 5), .int (v (hh_hI r i) 6), .int (v (hh_hI r i) 7), .int (v (hh_hI r i) 8), .int x, .int (v (hh_hI r i) 10), .int (v (hh_hI r i) 11), .int (v (hh_hI r i) 12)]) := by rw [hh_E_h r h]; simp [hh_up]
theorem hh_ph10 {K : Nat → ClassId} {ad : Nat → Nat} {v : hh_M} (r : Nat) {i : Nat} (h : i < 8) {x : Int32} : hh_E K ad (hh_up v (hh_hI r i) 10 x) (hh_hI r i) = .inr (1, [.int (v (hh_hI r i) 0), .int (v (hh_hI r i) 1), .int (v (hh_hI r i) 2), .int (v (hh_hI r i) 3), .int (v (hh_hI r i) 4), .int (v (hh_hI r i) 5), .int (v (hh_hI r i) 6), .int (v (hh_hI r i) 7), .int (v (hh_hI r i) 8), .int (v (hh_hI r i) 9), .int x, .int (v (hh_hI r i) 11), .int (v (hh_hI r i) 12)]) := by rw [hh_E_h r h]; simp [hh_up]
theorem hh_ph11 {K : Nat → ClassId} {ad : Nat → Nat} {v : hh_M} (r : Nat) {i : Nat} (h : i < 8) {x : Int32} : hh_E K ad (hh_up v (hh_hI r i) 11 x) (hh_hI r i) = .inr (1, [.int (v (hh_hI r i) 0), .int (v (hh_hI r i) 1), .int (v (hh_hI r i) 2), .int (v (hh_hI r i) 3), .int (v (hh_hI r i) 4), .int (v (hh_hI r i) 5), .int (v (hh_hI r i) 6), .int (v (hh_hI r i) 7), .int (v (hh_hI r i) 8), .int (v (hh_hI r i) 9), .int (v (hh_hI r i) 10), .int x, .int (v (hh_hI r i) 12)]) := by rw [hh_E_h r h]; simp [hh_up]
theorem hh_ph12 {K : Nat → ClassId} {ad : Nat → Nat} {v : hh_M} (r : Nat) {i : Nat} (h : i < 8) {x : Int32} : hh_E K ad (hh_up v (hh_hI r i) 12 x) (hh_hI r i) = .inr (1, [.int (v (hh_hI r i) 0), .int (v (hh_hI r i) 1), .int (v (hh_hI r i) 2), .int (v (hh_hI r i) 3), .int (v (hh_hI r i) 4), .int (v (hh_hI r i) 5), .int (v (hh_hI r i) 6), .int (v (hh_hI r i) 7), .int (v (hh_hI r i) 8), .int (v (hh_hI r i) 9), .int (v (hh_hI r i) 10), .int (v (hh_hI r i) 11), .int x]) := by rw [hh_E_h r h]; simp [hh_up]
theorem hh_pc2 {K : Nat → ClassId} {ad : Nat → Nat} {v : hh_M} (r : Nat) {i : Nat} (h : i < 24) {x : Int32} : hh_E K ad (hh_up v (hh_cI r i) 2 x) (hh_cI r i) = .inr (0, [.ref (ad (hh_gI r i 0)), .ref (ad (hh_gI r i 1)), .int x, .int (v (hh_cI r i) 3), .int (v (hh_cI r i) 4), .int (v (hh_cI r i) 5), .int (v (hh_cI r i) 6)]) := by rw [hh_E_c r h]; simp [hh_up]
theorem hh_pc3 {K : Nat → ClassId} {ad : Nat → Nat} {v : hh_M} (r : Nat) {i : Nat} (h : i < 24) {x : Int32} : hh_E K ad (hh_up v (hh_cI r i) 3 x) (hh_cI r i) = .inr (0, [.ref (ad (hh_gI r i 0)), .ref (ad (hh_gI r i 1)), .int (v (hh_cI r i) 2), .int x, .int (v (hh_cI r i) 4), .int (v (hh_cI r i) 5), .int (v (hh_cI r i) 6)]) := by rw [hh_E_c r h]; simp [hh_up]
theorem hh_pc4 {K : Nat → ClassId} {ad : Nat → Nat} {v : hh_M} (r : Nat) {i : Nat} (h : i < 24) {x : Int32} : hh_E K ad (hh_up v (hh_cI r i) 4 x) (hh_cI r i) = .inr (0, [.ref (ad (hh_gI r i 0)), .ref (ad (hh_gI r i 1)), .int (v (hh_cI r i) 2), .int (v (hh_cI r i) 3), .int x, .int (v (hh_cI r i) 5), .int (v (hh_cI r i) 6)]) := by rw [hh_E_c r h]; simp [hh_up]
theorem hh_pc5 {K : Nat → ClassId} {ad : Nat → Nat} {v : hh_M} (r : Nat) {i : Nat} (h : i < 24) {x : Int32} : hh_E K ad (hh_up v (hh_cI r i) 5 x) (hh_cI r i) = .inr (0, [.ref (ad (hh_gI r i 0)), .ref (ad (hh_gI r i 1)), .int (v (hh_cI r i) 2), .int (v (hh_cI r i) 3), .int (v (hh_cI r i) 4), .int x, .int (v (hh_cI r i) 6)]) := by rw [hh_E_c r h]; simp [hh_up]
theorem hh_pc6 {K : Nat → ClassId} {ad : Nat → Nat} {v : hh_M} (r : Nat) {i : Nat} (h : i < 24) {x : Int32} : hh_E K ad (hh_up v (hh_cI r i) 6 x) (hh_cI r i) = .inr (0, [.ref (ad (hh_gI r i 0)), .ref (ad (hh_gI r i 1)), .int (v (hh_cI r i) 2), .int (v (hh_cI r i) 3), .int (v (hh_cI r i) 4), .int (v (hh_cI r i) 5), .int x]) := by rw [hh_E_c r h]; simp [hh_up]
theorem hh_pg0 {K : Nat → ClassId} {ad : Nat → Nat} {v : hh_M} (r : Nat) {i g : Nat} (h : i < 24) (hg : g < 2) {x : Int32} : hh_E K ad (hh_up v (hh_gI r i g) 0 x) (hh_gI r i g) = .inr (2, [.int x, .int (v (hh_gI r i g) 1), .int (v (hh_gI r i g) 2), .int (v (hh_gI r i g) 3), .int (v (hh_gI r i g) 4), .int (v (hh_gI r i g) 5)]) := by rw [hh_E_g r h hg]; simp [hh_up]
theorem hh_pg1 {K : Nat → ClassId} {ad : Nat → Nat} {v : hh_M} (r : Nat) {i g : Nat} (h : i < 24) (hg : g < 2) {x : Int32} : hh_E K ad (hh_up v (hh_gI r i g) 1 x) (hh_gI r i g) = .inr (2, [.int (v (hh_gI r i g) 0), .int x, .int (v (hh_gI r i g) 2), .int (v (hh_gI r i g) 3), .int (v (hh_gI r i g) 4), .int (v (hh_gI r i g) 5)]) := by rw [hh_E_g r h hg]; simp [hh_up]
theorem hh_pg2 {K : Nat → ClassId} {ad : Nat → Nat} {v : hh_M} (r : Nat) {i g : Nat} (h : i < 24) (hg : g < 2) {x : Int32} : hh_E K ad (hh_up v (hh_gI r i g) 2 x) (hh_gI r i g) = .inr (2, [.int (v (hh_gI r i g) 0), .int (v (hh_gI r i g) 1), .int x, .int (v (hh_gI r i g) 3), .int (v (hh_gI r i g) 4), .int (v (hh_gI r i g) 5)]) := by rw [hh_E_g r h hg]; simp [hh_up]
theorem hh_pg3 {K : Nat → ClassId} {ad : Nat → Nat} {v : hh_M} (r : Nat) {i g : Nat} (h : i < 24) (hg : g < 2) {x : Int32} : hh_E K ad (hh_up v (hh_gI r i g) 3 x) (hh_gI r i g) = .inr (2, [.int (v (hh_gI r i g) 0), .int (v (hh_gI r i g) 1), .int (v (hh_gI r i g) 2), .int x, .int (v (hh_gI r i g) 4), .int (v (hh_gI r i g) 5)]) := by rw [hh_E_g r h hg]; simp [hh_up]
theorem hh_pg4 {K : Nat → ClassId} {ad : Nat → Nat} {v : hh_M} (r : Nat) {i g : Nat} (h : i < 24) (hg : g < 2) {x : Int32} : hh_E K ad (hh_up v (hh_gI r i g) 4 x) (hh_gI r i g) = .inr (2, [.int (v (hh_gI r i g) 0), .int (v (hh_gI r i g) 1), .int (v (hh_gI r i g) 2), .int (v (hh_gI r i g) 3), .int x, .int (v (hh_gI r i g) 5)]) := by rw [hh_E_g r h hg]; simp [hh_up]
theorem hh_pg5 {K : Nat → ClassId} {ad : Nat → Nat} {v : hh_M} (r : Nat) {i g : Nat} (h : i < 24) (hg : g < 2) {x : Int32} : hh_E K ad (hh_up v (hh_gI r i g) 5 x) (hh_gI r i g) = .inr (2, [.int (v (hh_gI r i g) 0), .int (v (hh_gI r i g) 1), .int (v (hh_gI r i g) 2), .int (v (hh_gI r i g) 3), .int (v (hh_gI r i g) 4), .int x]) := by rw [hh_E_g r h hg]; simp [hh_up]

section HHR
variable {p : Program} {l : Launch} {e : Env} {R : Room} {s : State} {m : MethodId} {args : Array Value} {below : List Frame} {meth : Method} {c : Code} {H : Heap} {locs : List Loc} {cells slots : Nat} {Q : State → Prop}
variable {cc : ByteArray} {pc nL : Nat} {ls : Array Slot} {rest : List Value} {D : va_G} {K : Nat → ClassId} {ad : Nat → Nat} {A : Nat → Prop} {v : hh_M} {ret : Option FieldType} {own : String}
/-- a field is read -/
theorem hh_get (C0 : hh_C p s m args meth c D K cc nL ret own A) (hp : hh_H D K ad A s.heap v H locs) {j ci N index : Nat} {C : String} {T : u_T} {fs : List Value} (hj : j < 190) (he : hh_E K ad v j = .inr (ci, fs)) (hc : hh_cl[ci]? = some (C, T, N)) (hin : ∀ w ∈ u_ws C T N, w ∈ hh_wa) (k : Nat) (hk : k < N) (hw : Cond.fieldLink own index C (T k).2.1 (T k).2.2.1 ∈ hh_wa) (hsame : (T k).1 = C) {x : Value} (hv : fs[k]? = some x) (hdg : decode cc pc = .ok (.getfield index, 3))
    (kk : W p l e R s m args below meth c H locs cells slots Q (F0 m (pc + 3) ls (x :: rest))) : W p l e R s m args below meth c H locs cells slots Q (F0 m pc ls (.ref (ad j) :: rest)) := by
  obtain ⟨hx, hb, hr, hml, hown, hts, hK, hlk, hA⟩ := C0
  exact va_get (D := D) (cl := hh_cl) (ws := hh_W K ad v) hx hb hts hin hown hK hp.1 j (by rw [hh_W_at hj, he]) hc k hk (hts _ hw) (by rw [hsame]; exact fun _ h => h) hv hdg kk
/-- a field of whole numbers is written -/
theorem hh_put (C0 : hh_C p s m args meth c D K cc nL ret own A) (hp : hh_H D K ad A s.heap v H locs) {j ci N index : Nat} {C : String} {T : u_T} {ty0 : Nat → FieldType} {fs : List Value} {x : Int32} {k : Nat} (hj : j < 190) (he : hh_E K ad v j = .inr (ci, fs)) (he2 : hh_E K ad (hh_up v j k x) j = .inr (ci, fs.set k (.int x))) (hc : hh_cl[ci]? = some (C, T, N)) (hin : ∀ w ∈ u_ws C T N, w ∈ hh_wa) (hty : ∀ k, k < N → parseFieldDescriptor (T k).2.2.1 = some (ty0 k)) (hnm : ∀ a, a < N → ∀ b, b < N → a ≠ b → (T a).2.1 ≠ (T b).2.1) (hk : k < N) (hw : Cond.fieldLink own index C (T k).2.1 (T k).2.2.1 ∈ hh_wa) (hsame : (T k).1 = C) (hfin : (T k).2.2.2 = false) {ty : FieldType} (hd : parseFieldDescriptor (T k).2.2.1 = some ty) (hn : narrow ty (.int x) = .int x) (hfit : fits ty (.int x) = true) (hl : k < fs.length) (hdg : decode cc pc = .ok (.putfield index, 3))
    (kk : ∀ (H1 : Heap) (locs1 : List Loc), hh_H D K ad A s.heap (hh_up v j k x) H1 locs1 → W p l e R s m args below meth c H1 locs1 cells slots Q (F0 m (pc + 3) ls rest)) : W p l e R s m args below meth c H locs cells slots Q (F0 m pc ls (.int x :: .ref (ad j) :: rest)) := by
  obtain ⟨hx, hb, hr, hml, hown, hts, hK, hlk, hA⟩ := C0
  refine va_put (D := D) (cl := hh_cl) (ws := hh_W K ad v) hx hb hts hin ty0 hty hnm hown hK hp.1 hp.2.1 hp.2.2 j (by rw [hh_W_at hj, he]) hc k hk (hts _ hw) (by rw [hsame]; exact fun _ h => h) hfin hd hn hfit hl hdg (fun H1 locs1 hP hD hS => kk H1 locs1 ?_)
  rw [← he2, hh_W_set hj] at hP hD
  exact ⟨hP, hD, hS⟩
/-- a place of a row of whole numbers is read -/
theorem hh_ial (C0 : hh_C p s m args meth c D K cc nL ret own A) (hp : hh_H D K ad A s.heap v H locs) {j n : Nat} (hj : j < 190) (he : hh_E K ad v j = .inl (K 0, n, .inl (v j))) {i : Int32} {k' : Nat} (hin : vp_in i n) (hk : i.toNatClampNeg = k') (hdg : decode cc pc = .ok (.iaload, 1))
    (kk : W p l e R s m args below meth c H locs cells slots Q (F0 m (pc + 1) ls (.int (v j k') :: rest))) : W p l e R s m args below meth c H locs cells slots Q (F0 m pc ls (.int i :: .ref (ad j) :: rest)) := by
  obtain ⟨hx, hb, hr, hml, hown, hts, hK, hlk, hA⟩ := C0
  subst hk
  exact va_iald (D := D) (cl := hh_cl) (tys := hh_ty K) (ws := hh_W K ad v) (f := v j) hx hb hK hp.1 j 0 (by rw [hh_W_at hj, he]) rfl hin hdg kk
/-- a place of a row of whole numbers is written -/
theorem hh_ias (C0 : hh_C p s m args meth c D K cc nL ret own A) (hp : hh_H D K ad A s.heap v H locs) {j n : Nat} (hj : j < 190) {i x : Int32} {k' : Nat} (he : ∀ w : hh_M, hh_E K ad w j = .inl (K 0, n, .inl (w j))) (hin : vp_in i n) (hk : i.toNatClampNeg = k') (hdg : decode cc pc = .ok (.iastore, 1))
    (kk : ∀ (H1 : Heap) (locs1 : List Loc), hh_H D K ad A s.heap (hh_up v j k' x) H1 locs1 → W p l e R s m args below meth c H1 locs1 cells slots Q (F0 m (pc + 1) ls rest)) : W p l e R s m args below meth c H locs cells slots Q (F0 m pc ls (.int x :: .int i :: .ref (ad j) :: rest)) := by
  obtain ⟨hx, hb, hr, hml, hown, hts, hK, hlk, hA⟩ := C0
  subst hk
  refine va_iast (D := D) (cl := hh_cl) (tys := hh_ty K) (ws := hh_W K ad v) (f := v j) hx hb hK hp.1 hp.2.1 hp.2.2 j 0 (by rw [hh_W_at hj, he]) rfl hin hdg (fun H1 locs1 hP hD hS => kk H1 locs1 ?_)
  have e : (Sum.inl (K 0, n, .inl (upd (v j) i.toNatClampNeg x)) : va_E) = hh_E K ad (hh_up v j i.toNatClampNeg x) j := by rw [he, hh_up_self]
  rw [e, hh_W_set hj] at hP hD
  exact ⟨hP, hD, hS⟩
/-- a place of a row of references is read -/
theorem hh_aal (C0 : hh_C p s m args meth c D K cc nL ret own A) (hp : hh_H D K ad A s.heap v H locs) {j n t0 : Nat} {f : Nat → Nat} {cA : ClassId} {ty : FieldType} (hj : j < 190) (he : hh_E K ad v j = .inl (cA, n, .inr (.inr (.inr (.inr (fun i => some (ad (f i)))))))) (ht : (hh_ty K)[t0]? = some (cA, ty)) (hr : ty.isReference = true) {i : Int32} {k' : Nat} (hin : vp_in i n) (hk : i.toNatClampNeg = k') (hdg : decode cc pc = .ok (.aaload, 1))
    (kk : W p l e R s m args below meth c H locs cells slots Q (F0 m (pc + 1) ls (.ref (ad (f k')) :: rest))) : W p l e R s m args below meth c H locs cells slots Q (F0 m pc ls (.int i :: .ref (ad j) :: rest)) := by
  obtain ⟨hx, hb, -, hml, hown, hts, hK, hlk, hA⟩ := C0
  subst hk
  have hlt : i.toNatClampNeg < n := Nat.not_le.mp fun q => hin (Or.inr q)
  exact W.aald (v := va_rf (some (ad (f i.toNatClampNeg)))) (ty := ty) hx hb (hp.1 j (ad j, .inl (cA, n, .inr (.inr (.inr (.inr (fun i => some (ad (f i)))))))) (by rw [hh_W_at hj, he])) ((hK.2 t0 _ ht).1 n (fun i => va_rf (some (ad (f i))))) hr (fun q => by cases q) (by show ¬ (i < 0 ∨ (arrV _ _ _).slots.size ≤ _); rw [arrV_size]; exact hin) (by show (arrV _ _ _).slots[_]? = _; rw [arrV_read _ _ hlt]) rfl rfl hdg kk
end HHR
/-- CONTRACTS over the world: a method's answer and the numbers behind it -/
def hh_Pc (D : va_G) (K : Nat → ClassId) (ad : Nat → Nat) (As : List Value) (v : hh_M) (sz : Nat) : Array Value → State → Prop := va_Pc As (fun U => U.heap.size = sz ∧ va_P D hh_cl (hh_W K ad v) U.heap ∧ va_K D hh_cl (hh_ty K) U ∧ va_D (fun _ => True) (hh_W K ad v))
def hh_B (D : va_G) (K : Nat → ClassId) (ad : Nat → Nat) (A : Nat → Prop) (v : hh_M) (t : State) : Prop := va_P D hh_cl (hh_W K ad v) t.heap ∧ va_K D hh_cl (hh_ty K) t ∧ va_D A (hh_W K ad v)
def hh_Ki (l : Launch) (D : va_G) (K : Nat → ClassId) (ad : Nat → Nat) (y : MethodName) (ws : List Cond) (rm : Room) (As : List Value) (v : hh_M) (φ : Int32 → hh_M → Prop) : Prop := ∀ sz : Nat, Met l y ws rm (hh_Pc D K ad As v sz) (va_Qi φ (hh_B D K ad (va_A (hh_W K ad v) sz)) (va_A (hh_W K ad v) sz)) 0 0 (va_A (hh_W K ad v) sz)
def hh_Kv (l : Launch) (D : va_G) (K : Nat → ClassId) (ad : Nat → Nat) (y : MethodName) (ws : List Cond) (rm : Room) (As : List Value) (v : hh_M) (φ : hh_M → Prop) : Prop := ∀ sz : Nat, Met l y ws rm (hh_Pc D K ad As v sz) (va_Qv φ (hh_B D K ad (va_A (hh_W K ad v) sz)) (va_A (hh_W K ad v) sz)) 0 0 (va_A (hh_W K ad v) sz)
def hh_Kl (l : Launch) (D : va_G) (K : Nat → ClassId) (ad : Nat → Nat) (y : MethodName) (ws : List Cond) (rm : Room) (As : List Value) (v : hh_M) (φ : Int64 → hh_M → Prop) : Prop := ∀ sz : Nat, Met l y ws rm (hh_Pc D K ad As v sz) (va_Ql φ (hh_B D K ad (va_A (hh_W K ad v) sz)) (va_A (hh_W K ad v) sz)) 0 0 (va_A (hh_W K ad v) sz)
abbrev hh_wm (y : MethodName) (cc : ByteArray) (nL : Nat) (ret : Option FieldType) : List Cond := Cond.code y cc nL ret :: hh_wa
section HHM
variable {l : Launch} {D : va_G} {K : Nat → ClassId} {ad : Nat → Nat} {y : MethodName} {cc : ByteArray} {nL : Nat} {ret : Option FieldType} {rm : Room} {As : List Value} {v : hh_M}
theorem hh_enter {Qc : Array Value → State → Outcome → State → Prop} {sz : Nat} (hy : plainName y.cls = true) (hn : (lg_sl As).length ≤ nL)
    (body : ∀ (p : Program) (e : Env) (s : State) (m : MethodId) (args : Array Value) (below : List Frame) (meth : Method) (c : Code) (ls : Array Slot) (A : Nat → Prop), s.heap.size = sz → A = va_A (hh_W K ad v) sz → hh_C p s m args meth c D K cc nL ret y.cls A → hh_H D K ad A s.heap v s.heap [] → lv_has ls nL (lv_args 0 As) → W p l e rm s m args below meth c s.heap [] 0 0 (MQ below Qc args s 0 0 A) (F0 m 0 ls [])) :
    Met l y (hh_wm y cc nL ret) rm (hh_Pc D K ad As v sz) Qc 0 0 (va_A (hh_W K ad v) sz) := by
  refine Met.ofW (cc := cc) (maxL := nL) (ret := ret) hy rfl ?_
  intro p e s m args below meth c s₁ B hml hv
  obtain ⟨rfl, hsz, hP, hK, hD0⟩ := hv
  have hts := atoms_spec (ws := hh_wm y cc nL ret) B.pre
  subst hsz
  have hl := lv_entry As (n := nL) hn
  rw [lg_entry_eq]
  exact body p e s m _ below meth c _ _ rfl rfl ⟨B.exec, B.bytes, B.returns, hml, findClass_of_methodNamed B.named, fun w hw => hts w (List.mem_cons_of_mem _ hw), hK, B.notSynchronized, fun q h => Or.inr h⟩ ⟨hP, hD0.self, va_S.rf⟩ hl
theorem hh_Ki_of {φ : Int32 → hh_M → Prop} (hy : plainName y.cls = true) (hn : (lg_sl As).length ≤ nL)
    (body : ∀ (p : Program) (e : Env) (s : State) (m : MethodId) (args : Array Value) (below : List Frame) (meth : Method) (c : Code) (ls : Array Slot) (A : Nat → Prop), hh_C p s m args meth c D K cc nL ret y.cls A → hh_H D K ad A s.heap v s.heap [] → lv_has ls nL (lv_args 0 As) → W p l e rm s m args below meth c s.heap [] 0 0 (MQ below (va_Qi φ (hh_B D K ad A) A) args s 0 0 A) (F0 m 0 ls [])) : hh_Ki l D K ad y (hh_wm y cc nL ret) rm As v φ := by
  intro sz
  refine hh_enter hy hn ?_
  intro p e s m args below meth c ls A _ hA C0 hp hl
  subst hA
  exact body p e s m args below meth c ls _ C0 hp hl
theorem hh_Kv_of {φ : hh_M → Prop} (hy : plainName y.cls = true) (hn : (lg_sl As).length ≤ nL)
    (body : ∀ (p : Program) (e : Env) (s : State) (m : MethodId) (args : Array Value) (below : List Frame) (meth : Method) (c : Code) (ls : Array Slot) (A : Nat → Prop), hh_C p s m args meth c D K cc nL ret y.cls A → hh_H D K ad A s.heap v s.heap [] → lv_has ls nL (lv_args 0 As) → W p l e rm s m args below meth c s.heap [] 0 0 (MQ below (va_Qv φ (hh_B D K ad A) A) args s 0 0 A) (F0 m 0 ls [])) : hh_Kv l D K ad y (hh_wm y cc nL ret) rm As v φ := by
  intro sz
  refine hh_enter hy hn ?_
  intro p e s m args below meth c ls A _ hA C0 hp hl
  subst hA
  exact body p e s m args below meth c ls _ C0 hp hl
theorem hh_Kl_of {φ : Int64 → hh_M → Prop} (hy : plainName y.cls = true) (hn : (lg_sl As).length ≤ nL)
    (body : ∀ (p : Program) (e : Env) (s : State) (m : MethodId) (args : Array Value) (below : List Frame) (meth : Method) (c : Code) (ls : Array Slot) (A : Nat → Prop), hh_C p s m args meth c D K cc nL ret y.cls A → hh_H D K ad A s.heap v s.heap [] → lv_has ls nL (lv_args 0 As) → W p l e rm s m args below meth c s.heap [] 0 0 (MQ below (va_Ql φ (hh_B D K ad A) A) args s 0 0 A) (F0 m 0 ls [])) : hh_Kl l D K ad y (hh_wm y cc nL ret) rm As v φ := by
  intro sz
  refine hh_enter hy hn ?_
  intro p e s m args below meth c ls A _ hA C0 hp hl
  subst hA
  exact body p e s m args below meth c ls _ C0 hp hl
end HHM
section HHE
variable {p : Program} {l : Launch} {e : Env} {R : Room} {s : State} {m : MethodId} {args : Array Value} {below : List Frame} {meth : Method} {c : Code} {H : Heap} {locs : List Loc}
variable {cc : ByteArray} {pc nL : Nat} {ls : Array Slot} {D : va_G} {K : Nat → ClassId} {ad : Nat → Nat} {A : Nat → Prop} {v : hh_M} {ret : Option FieldType} {own : String}
/-- the ends -/
theorem hh_iret {φ : Int32 → hh_M → Prop} {x : Int32} (C0 : hh_C p s m args meth c D K cc nL (some .int) own A) (hp : hh_H D K ad A s.heap v H locs) (hdg : decode cc pc = .ok (.ireturn, 1)) (hφ : φ x v) : W p l e R s m args below meth c H locs 0 0 (MQ below (va_Qi φ (hh_B D K ad A) A) args s 0 0 A) (F0 m pc ls [.int x]) := by
  obtain ⟨hx, hb, hr, hml, hown, hts, hK, hlk, hA⟩ := C0
  exact W.iret hx hb hr (fun t ht hW => ⟨⟨x, v, rfl, hφ, by rw [ht]; exact hp.1, va_K.moved hW.alike hK, hp.2.1⟩, hp.2.2.F ht⟩) hp.2.2.2.2 hdg hlk
theorem hh_zret {φ : Int32 → hh_M → Prop} {x : Int32} (C0 : hh_C p s m args meth c D K cc nL (some .boolean) own A) (hp : hh_H D K ad A s.heap v H locs) (hdg : decode cc pc = .ok (.ireturn, 1)) (h01 : x = 0 ∨ x = 1) (hφ : φ x v) : W p l e R s m args below meth c H locs 0 0 (MQ below (va_Qi φ (hh_B D K ad A) A) args s 0 0 A) (F0 m pc ls [.int x]) := by
  obtain ⟨hx, hb, hr, hml, hown, hts, hK, hlk, hA⟩ := C0
  exact W.zret hx hb hr (by rcases h01 with rfl | rfl <;> rfl) (fun t ht hW => ⟨⟨x, v, rfl, hφ, by rw [ht]; exact hp.1, va_K.moved hW.alike hK, hp.2.1⟩, hp.2.2.F ht⟩) hp.2.2.2.2 hdg hlk
theorem hh_lret {φ : Int64 → hh_M → Prop} {x : Int64} (C0 : hh_C p s m args meth c D K cc nL (some .long) own A) (hp : hh_H D K ad A s.heap v H locs) (hdg : decode cc pc = .ok (.lreturn, 1)) (hφ : φ x v) : W p l e R s m args below meth c H locs 0 0 (MQ below (va_Ql φ (hh_B D K ad A) A) args s 0 0 A) (F0 m pc ls [.long x]) := by
  obtain ⟨hx, hb, hr, hml, hown, hts, hK, hlk, hA⟩ := C0
  exact W.lret hx hb hr (fun t ht hW => ⟨⟨x, v, rfl, hφ, by rw [ht]; exact hp.1, va_K.moved hW.alike hK, hp.2.1⟩, hp.2.2.F ht⟩) hp.2.2.2.2 hdg hlk
theorem hh_vret {φ : hh_M → Prop} (C0 : hh_C p s m args meth c D K cc nL none own A) (hp : hh_H D K ad A s.heap v H locs) (hdg : decode cc pc = .ok (.return_, 1)) (hφ : φ v) : W p l e R s m args below meth c H locs 0 0 (MQ below (va_Qv φ (hh_B D K ad A) A) args s 0 0 A) (F0 m pc ls []) := by
  obtain ⟨hx, hb, hr, hml, hown, hts, hK, hlk, hA⟩ := C0
  exact W.vret hx hb hr (fun t ht hW => ⟨⟨v, rfl, hφ, by rw [ht]; exact hp.1, va_K.moved hW.alike hK, hp.2.1⟩, hp.2.2.F ht⟩) hp.2.2.2.2 hdg hlk
end HHE
/-- a callee's words -/
theorem hh_gV {own C : String} {index nL : Nat} {y : MethodName} {bytes : ByteArray} {ret : Option FieldType} (h1 : Cond.methodLink own index y ∈ hh_wa) (h2 : Cond.instanceMethod y ∈ hh_wa) (h3 : Cond.selects C y y ∈ hh_wa) (h4 : Cond.initialized C ∈ hh_wa) (h5 : Cond.code y bytes nL ret ∈ hh_wa) : GoodIn hh_wa (wsV own index C y (hh_wm y bytes nL ret)) := by
  intro w hw
  unfold wsV at hw
  rcases List.mem_append.mp hw with hw | hw
  · simp only [List.mem_cons, List.not_mem_nil, or_false] at hw
    rcases hw with rfl | rfl | rfl | rfl
    · exact hh_good _ h1
    · exact hh_good _ h2
    · exact hh_good _ h3
    · exact hh_good _ h4
  · rcases List.mem_cons.mp hw with rfl | hw
    · exact hh_good _ h5
    · exact hh_good _ hw
theorem hh_gS {own : String} {index nL : Nat} {y : MethodName} {bytes : ByteArray} {ret : Option FieldType} (h1 : Cond.methodLink own index y ∈ hh_wa) (h2 : Cond.static y ∈ hh_wa) (h4 : Cond.initialized own ∈ hh_wa) (h5 : Cond.code y bytes nL ret ∈ hh_wa) : GoodIn hh_wa (wsS own index y (hh_wm y bytes nL ret)) := by
  intro w hw
  unfold wsS at hw
  rcases List.mem_append.mp hw with hw | hw
  · simp only [List.mem_cons, List.not_mem_nil, or_false] at hw
    rcases hw with rfl | rfl | rfl
    · exact hh_good _ h1
    · exact hh_good _ h2
    · exact hh_good _ h4
  · rcases List.mem_cons.mp hw with rfl | hw
    · exact hh_good _ h5
    · exact hh_good _ hw
theorem hh_blind {D : va_G} {K : Nat → ClassId} {ad : Nat → Nat} {As : List Value} {v : hh_M} {sz : Nat} : FrameBlind (hh_Pc D K ad As v sz) := by
  intro a U g mk q
  obtain ⟨q0, q1, qP, qK, qD⟩ := q
  exact ⟨q0, q1, qP, va_K.moved (u := U) (U := U.calling g mk a) (Vm.Alike.refl U.vm) qK, qD⟩
section HHC
variable {p : Program} {l : Launch} {e : Env} {R : Room} {s : State} {m : MethodId} {args : Array Value} {below : List Frame} {meth : Method} {c : Code} {H : Heap} {locs : List Loc} {cells slots : Nat} {Q : State → Prop}
variable {cc : ByteArray} {pc nL : Nat} {ls : Array Slot} {rest st0 : List Value} {D : va_G} {K : Nat → ClassId} {ad : Nat → Nat} {A : Nat → Prop} {v : hh_M} {ret : Option FieldType} {own : String}
variable {C : String} {T : u_T} {N j ci index maxL n : Nat} {y : MethodName} {bytes : ByteArray} {ret' : Option FieldType} {rm : Room} {As : List Value} {fs : List Value}
theorem hh_free (hp : hh_H D K ad A s.heap v H locs) (hA : ∀ q, s.heap.size ≤ q → A q) : ∀ q, va_A (hh_W K ad v) H.size q → A q := by
  intro q hq
  rcases hq with ⟨k, e', he⟩ | hq
  · exact hp.2.1.2 k (q, e') he
  · exact hA q (Nat.le_trans hp.2.2.1 hq)
/-- an own method of an object is called (invokevirtual): it answers a whole number -/
theorem hh_cVi {φ : Int32 → hh_M → Prop} (C0 : hh_C p s m args meth c D K cc nL ret own A) (hp : hh_H D K ad A s.heap v H locs) (M : hh_Ki l D K ad y (hh_wm y bytes maxL ret') rm (.ref (ad j) :: As) v φ) (hc : hh_cl[ci]? = some (C, T, N)) (hj : j < 190) (he : hh_E K ad v j = .inr (ci, fs)) (g : GoodIn hh_wa (wsV own index C y (hh_wm y bytes maxL ret'))) (hrm : rm.cells = 0 ∧ rm.slots = 0)
    (hd : y.cls = C ∧ y.cls ≠ "java/lang/invoke/MethodHandle" ∧ y.cls ≠ "java/lang/invoke/VarHandle" ∧ (parseMethodDescriptor y.desc).map (fun d => d.parameters.length) = some n) (hR : rm.frames + 1 ≤ R.frames ∧ 8 + (maxL + 11) + rm.locals ≤ R.locals) (hf : cells ≤ R.cells ∧ slots ≤ R.slots) (hsz : ls.size = nL) (hn : As.length = n) (hst0 : st0 = As.reverse ++ .ref (ad j) :: rest) (hst : (rest.map fun v => v.category).sum ≤ 8) (hdg : decode cc pc = .ok (.invokevirtual index, 3))
    (kk : ∀ (q : Int32) (v1 : hh_M) (H1 : Heap) (locs1 : List Loc), φ q v1 → hh_H D K ad A s.heap v1 H1 locs1 → W p l e R s m args below meth c H1 locs1 cells slots Q (F0 m (pc + 3) ls (.int q :: rest))) : W p l e R s m args below meth c H locs cells slots Q (F0 m pc ls st0) := by
  subst hst0
  obtain ⟨hx, hb, hr, hml, hown, hts, hK, hlk, hA⟩ := C0
  have hF := hh_free hp hA
  refine va_calli (va_runV (As := As) (rest := rest) ⟨hx, hb, hml, hown, hts⟩ (M H.size) (cwV n hts g rfl hrm.1 hrm.2 hd hR) ⟨hh_blind, va_recv (q := (C, T, N)) hK hp.1 hc (by rw [hh_W_at hj, he]), fun U hU hW => ⟨rfl, by rw [hU], by rw [hU]; exact hp.1, va_K.moved hW.alike hK, hp.2.1.weaken (fun _ _ _ _ => trivial)⟩⟩ rfl hn hsz rfl (lv_room hst) hdg ⟨hf.1, hf.2⟩) hp.2.2 (fun q _ h => hF q h) hF (fun q v1 t H1 locs1 ht hvm hw hB hz1 hk1 hS1 => ?_)
  obtain ⟨hP1, hK1, hD1⟩ := hB
  rw [ht] at hP1
  exact kk q v1 H1 locs1 hw ⟨hP1, hD1.weaken (fun k q _ h => hF _ h), hS1⟩
/-- the same, with no answer -/
theorem hh_cVv {φ : hh_M → Prop} (C0 : hh_C p s m args meth c D K cc nL ret own A) (hp : hh_H D K ad A s.heap v H locs) (M : hh_Kv l D K ad y (hh_wm y bytes maxL ret') rm (.ref (ad j) :: As) v φ) (hc : hh_cl[ci]? = some (C, T, N)) (hj : j < 190) (he : hh_E K ad v j = .inr (ci, fs)) (g : GoodIn hh_wa (wsV own index C y (hh_wm y bytes maxL ret'))) (hrm : rm.cells = 0 ∧ rm.slots = 0)
    (hd : y.cls = C ∧ y.cls ≠ "java/lang/invoke/MethodHandle" ∧ y.cls ≠ "java/lang/invoke/VarHandle" ∧ (parseMethodDescriptor y.desc).map (fun d => d.parameters.length) = some n) (hR : rm.frames + 1 ≤ R.frames ∧ 8 + (maxL + 11) + rm.locals ≤ R.locals) (hf : cells ≤ R.cells ∧ slots ≤ R.slots) (hsz : ls.size = nL) (hn : As.length = n) (hst0 : st0 = As.reverse ++ .ref (ad j) :: rest) (hst : (rest.map fun v => v.category).sum ≤ 8) (hdg : decode cc pc = .ok (.invokevirtual index, 3))
    (kk : ∀ (v1 : hh_M) (H1 : Heap) (locs1 : List Loc), φ v1 → hh_H D K ad A s.heap v1 H1 locs1 → W p l e R s m args below meth c H1 locs1 cells slots Q (F0 m (pc + 3) ls rest)) : W p l e R s m args below meth c H locs cells slots Q (F0 m pc ls st0) := by
  subst hst0
  obtain ⟨hx, hb, hr, hml, hown, hts, hK, hlk, hA⟩ := C0
  have hF := hh_free hp hA
  refine va_callv (va_runV (As := As) (rest := rest) ⟨hx, hb, hml, hown, hts⟩ (M H.size) (cwV n hts g rfl hrm.1 hrm.2 hd hR) ⟨hh_blind, va_recv (q := (C, T, N)) hK hp.1 hc (by rw [hh_W_at hj, he]), fun U hU hW => ⟨rfl, by rw [hU], by rw [hU]; exact hp.1, va_K.moved hW.alike hK, hp.2.1.weaken (fun _ _ _ _ => trivial)⟩⟩ rfl hn hsz rfl (lv_room hst) hdg ⟨hf.1, hf.2⟩) hp.2.2 (fun q _ h => hF q h) hF (fun v1 t H1 locs1 ht hvm hw hB hz1 hk1 hS1 => ?_)
  obtain ⟨hP1, hK1, hD1⟩ := hB
  rw [ht] at hP1
  exact kk v1 H1 locs1 hw ⟨hP1, hD1.weaken (fun k q _ h => hF _ h), hS1⟩
/-- the same, with a long answer -/
theorem hh_cVl {φ : Int64 → hh_M → Prop} (C0 : hh_C p s m args meth c D K cc nL ret own A) (hp : hh_H D K ad A s.heap v H locs) (M : hh_Kl l D K ad y (hh_wm y bytes maxL ret') rm (.ref (ad j) :: As) v φ) (hc : hh_cl[ci]? = some (C, T, N)) (hj : j < 190) (he : hh_E K ad v j = .inr (ci, fs)) (g : GoodIn hh_wa (wsV own index C y (hh_wm y bytes maxL ret'))) (hrm : rm.cells = 0 ∧ rm.slots = 0)
    (hd : y.cls = C ∧ y.cls ≠ "java/lang/invoke/MethodHandle" ∧ y.cls ≠ "java/lang/invoke/VarHandle" ∧ (parseMethodDescriptor y.desc).map (fun d => d.parameters.length) = some n) (hR : rm.frames + 1 ≤ R.frames ∧ 8 + (maxL + 11) + rm.locals ≤ R.locals) (hf : cells ≤ R.cells ∧ slots ≤ R.slots) (hsz : ls.size = nL) (hn : As.length = n) (hst0 : st0 = As.reverse ++ .ref (ad j) :: rest) (hst : (rest.map fun v => v.category).sum ≤ 8) (hdg : decode cc pc = .ok (.invokevirtual index, 3))
    (kk : ∀ (q : Int64) (v1 : hh_M) (H1 : Heap) (locs1 : List Loc), φ q v1 → hh_H D K ad A s.heap v1 H1 locs1 → W p l e R s m args below meth c H1 locs1 cells slots Q (F0 m (pc + 3) ls (.long q :: rest))) : W p l e R s m args below meth c H locs cells slots Q (F0 m pc ls st0) := by
  subst hst0
  obtain ⟨hx, hb, hr, hml, hown, hts, hK, hlk, hA⟩ := C0
  have hF := hh_free hp hA
  refine va_calll (va_runV (As := As) (rest := rest) ⟨hx, hb, hml, hown, hts⟩ (M H.size) (cwV n hts g rfl hrm.1 hrm.2 hd hR) ⟨hh_blind, va_recv (q := (C, T, N)) hK hp.1 hc (by rw [hh_W_at hj, he]), fun U hU hW => ⟨rfl, by rw [hU], by rw [hU]; exact hp.1, va_K.moved hW.alike hK, hp.2.1.weaken (fun _ _ _ _ => trivial)⟩⟩ rfl hn hsz rfl (lv_room hst) hdg ⟨hf.1, hf.2⟩) hp.2.2 (fun q _ h => hF q h) hF (fun q v1 t H1 locs1 ht hvm hw hB hz1 hk1 hS1 => ?_)
  obtain ⟨hP1, hK1, hD1⟩ := hB
  rw [ht] at hP1
  exact kk q v1 H1 locs1 hw ⟨hP1, hD1.weaken (fun k q _ h => hF _ h), hS1⟩
/-- a static method that answers nothing -/
theorem hh_cSv {φ : hh_M → Prop} (C0 : hh_C p s m args meth c D K cc nL ret own A) (hp : hh_H D K ad A s.heap v H locs) (M : hh_Kv l D K ad y (hh_wm y bytes maxL ret') rm As v φ) (g : GoodIn hh_wa (wsS own index y (hh_wm y bytes maxL ret'))) (hrm : rm.cells = 0 ∧ rm.slots = 0)
    (hd : y.cls = own ∧ y.cls ≠ "java/lang/invoke/MethodHandle" ∧ y.cls ≠ "java/lang/invoke/VarHandle" ∧ (parseMethodDescriptor y.desc).map (fun d => d.parameters.length) = some n) (hR : rm.frames + 1 ≤ R.frames ∧ 8 + (maxL + 11) + rm.locals ≤ R.locals) (hf : cells ≤ R.cells ∧ slots ≤ R.slots) (hsz : ls.size = nL) (hn : As.length = n) (hst0 : st0 = As.reverse ++ rest) (hst : (rest.map fun v => v.category).sum ≤ 8) (hdg : decode cc pc = .ok (.invokestatic index, 3))
    (kk : ∀ (v1 : hh_M) (H1 : Heap) (locs1 : List Loc), φ v1 → hh_H D K ad A s.heap v1 H1 locs1 → W p l e R s m args below meth c H1 locs1 cells slots Q (F0 m (pc + 3) ls rest)) : W p l e R s m args below meth c H locs cells slots Q (F0 m pc ls st0) := by
  subst hst0
  obtain ⟨hx, hb, hr, hml, hown, hts, hK, hlk, hA⟩ := C0
  have hF := hh_free hp hA
  refine va_callv (va_runS (As := As) (rest := rest) ⟨hx, hb, hml, hown, hts⟩ (M H.size) (cwS n hts g rfl hrm.1 hrm.2 hd hR) ⟨hh_blind, fun U hU hW => ⟨rfl, by rw [hU], by rw [hU]; exact hp.1, va_K.moved hW.alike hK, hp.2.1.weaken (fun _ _ _ _ => trivial)⟩⟩ rfl hn hsz rfl (lv_room hst) hdg ⟨hf.1, hf.2⟩) hp.2.2 (fun q _ h => hF q h) hF (fun v1 t H1 locs1 ht hvm hw hB hz1 hk1 hS1 => ?_)
  obtain ⟨hP1, hK1, hD1⟩ := hB
  rw [ht] at hP1
  exact kk v1 H1 locs1 hw ⟨hP1, hD1.weaken (fun k q _ h => hF _ h), hS1⟩
end HHC
