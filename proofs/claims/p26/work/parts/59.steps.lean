/-! a step of a run: pass, call, text, speed, and nothing but asking -/
def hp_R (v w : hh_M) : Prop := (hf_X7_many v 0).toInt ≤ (hf_X7_many w 0).toInt ∧ (hf_X7_many v 3).toInt ≤ (hf_X7_many w 3).toInt ∧ (hf_X7_many v 5).toInt ≤ (hf_X7_many w 5).toInt ∧ (hf_X7_many v 6).toInt ≤ (hf_X7_many w 6).toInt ∧ (hf_X7_many v 7).toInt ≤ (hf_X7_many w 7).toInt ∧ (hf_X7_many v 8).toInt ≤ (hf_X7_many w 8).toInt ∧ (hf_X7_many v 9).toInt ≤ (hf_X7_many w 9).toInt ∧ (hf_X7_many v 11).toInt ≤ (hf_X7_many w 11).toInt ∧ (hf_X7_many v 12).toInt ≤ (hf_X7_many w 12).toInt
def hp_J (k : Nat) (nh nc : Nat → Nat) (v : hh_M) : Prop := hh_T 4 nh nc v ∧ nh 0 = 5 ∧ nh 1 ≤ 5 ∧ ∃ T, T ≤ 8 * k ∧ hm_I T k v
section HPJ
variable {k : Nat} {nh nc nc' : Nat → Nat} {v w : hh_M}
theorem hp_e5 (hT : hh_T 4 nh nc v) (h5 : nh 0 = 5) : (v (hh_rI 0) 5).toNatClampNeg = 5 := by
  rw [hh_T_r5 hT 0, h5]
  exact nI_clamp (by decide)
theorem hp_e6 (hT : hh_T 4 nh nc v) : (v (hh_rI 0) 6).toNatClampNeg = nc 0 := by
  rw [hh_T_r6 hT 0]
  exact nI_clamp (by have := hT.2.2.1 0; omega)
theorem hp_eM (hT : hh_T 4 nh nc v) : (v 1 2).toNatClampNeg = 4 := by
  rw [hh_T_M hT]
  exact nI_clamp (by decide)
theorem hp_mv (hJ : hp_J k nh nc v) (hT : hh_T 4 nh nc' w) (hle : nc 0 ≤ nc' 0) (hI : ∃ T, T ≤ 8 * (k + 1) ∧ hm_I T (k + 1) w) (hM : hm_M v w) (hk : k < 18) : hp_J (k + 1) nh nc' w ∧ hp_R v w := by
  obtain ⟨hTv, h5, h1, T, hT8, hIv⟩ := hJ
  obtain ⟨T', hT8', hIw⟩ := hI
  exact ⟨⟨hT, h5, h1, T', hT8', hIw⟩, hp_mono hIv hIw hM (by omega) (by omega) (hp_e5 hTv h5) (hp_e5 hT h5) (hh_T_r6 hTv 0) (hh_T_r6 hT 0) hle (hT.2.2.1 0)⟩
theorem hp_pass {se : Int32} (hJ : hp_J k nh nc v) (hk : k < 18) (hs : se.toNatClampNeg ≤ 8) (hw : w = (hf_X7_pass v se).2) (hT : hh_T 4 nh nc w) : hp_J (k + 1) nh nc w ∧ hp_R v w := by
  obtain ⟨T, hT8, hIv⟩ := hJ.2.2.2
  have h := hm_pass (se := se) hIv (by omega) (by omega) (by rw [hp_e5 hJ.1 hJ.2.1]; decide) (by rw [hp_e6 hJ.1]; exact hJ.1.2.2.1 0)
  rw [← hw] at h
  exact hp_mv hJ hT (Nat.le_refl _) ⟨T + se.toNatClampNeg, by omega, h.1.mo (by omega)⟩ h.2 hk
theorem hp_speed {ha sp : Int32} (hJ : hp_J k nh nc v) (hk : k < 18) (hh : ha.toNatClampNeg < 5) (hw : w = (hf_X7_speed v ha sp).2) (hT : hh_T 4 nh nc w) : hp_J (k + 1) nh nc w ∧ hp_R v w := by
  obtain ⟨T, hT8, hIv⟩ := hJ.2.2.2
  have h := hm_speed (ha := ha) (sp := sp) hIv (by omega)
  rw [← hw] at h
  exact hp_mv hJ hT (Nat.le_refl _) ⟨T, by omega, h.1.mo (by omega)⟩ h.2 hk
theorem hp_text {fr to : Int32} (hJ : hp_J k nh nc v) (hk : k < 18) (hh : to.toNatClampNeg < 5) (hw : w = (hf_X7_text v fr to).2) (hT : hh_T 4 nh nc w) : hp_J (k + 1) nh nc w ∧ hp_R v w := by
  obtain ⟨T, hT8, hIv⟩ := hJ.2.2.2
  have h := hm_text (fr := fr) (to := to) hIv (by omega) (by omega)
  rw [← hw] at h
  exact hp_mv hJ hT (Nat.le_refl _) ⟨T, by omega, h.1⟩ h.2 hk
theorem hp_call {fr to : Int32} (hJ : hp_J k nh nc v) (hk : k < 18) (hf : fr.toNatClampNeg < 5) (ht : to.toNatClampNeg < 5) (hc : nc 0 < 24) (hw : w = (hf_X7_call v fr to).2) (hT : hh_T 4 nh nc' w) : hp_J (k + 1) nh nc' w ∧ hp_R v w := by
  obtain ⟨T, hT8, hIv⟩ := hJ.2.2.2
  have hM6 : (v 1 2).toNatClampNeg ≤ 6 := by rw [hp_eM hJ.1]; decide
  have h := hm_call (fr := fr) (to := to) hIv (by omega) hM6 (by omega) (by omega)
  have h6 := hp_call6 (fr := fr) (to := to) hM6 (by have := hIv.2.2.2.2.1; omega)
  rw [← hw] at h h6
  have e : nc 0 ≤ nc' 0 := by
    have a := hp_e6 hT
    rcases h6 with q | q
    · rw [q, hp_e6 hJ.1] at a
      omega
    · rw [q, hh_T_r6 hJ.1 0, nI_1, nI_clamp (by omega)] at a
      omega
  exact hp_mv hJ hT e ⟨T, by omega, h.1⟩ h.2 hk
/-- a step that does nothing -/
theorem hp_none (hJ : hp_J k nh nc v) (hk : k < 18) : hp_J (k + 1) nh nc v ∧ hp_R v v := by
  obtain ⟨T, hT8, hIv⟩ := hJ.2.2.2
  exact hp_mv hJ hJ.1 (Nat.le_refl _) ⟨T, by omega, hIv.mo (by omega)⟩ hm_M.rf hk
/-- what the end of a call asks leaves all of it -/
theorem hp_ask {ca se : Int32} (hJ : hp_J k nh nc v) (hw : w = (hf_X7_endsIn v ca se).2) (hT : hh_TT 4 (nh 0) (nc 0) w) : (∃ nh' nc', hp_J k nh' nc' w ∧ nc' 0 = nc 0) ∧ ∀ j, j < 105 → w j = v j := by
  obtain ⟨T, hT8, hIv⟩ := hJ.2.2.2
  obtain ⟨nh', nc', hT', e1, e2, e3⟩ := hT
  have hu := hu_endsIn (v := v) ca se
  rw [← hw] at hu
  have h5 := hJ.2.1
  exact ⟨⟨nh', nc', ⟨hT', by omega, by omega, T, hT8, hIv.A hu⟩, e2⟩, fun j hj => hu j (by omega)⟩
theorem hp_F9 {n c : Nat} (h : hh_F (hh_Pq n c) v w) : hh_F (hq_P9 n c) v w := h.mo (fun j k hp => by
  unfold hh_Pq hh_Ps at hp
  unfold hq_P9
  rcases hp with h1 | h1
  · exact Or.inl h1
  · exact Or.inr ⟨h1.1, h1.2.1⟩)
/-- asking leaves the checksum -/
theorem hp_sum {nm : Nat} (hT : hh_T nm nh nc v) (h : hh_F (hh_Pq (nh 0) (nc 0)) v w) : (hf_X7_digest v).1 = (hf_X7_digest w).1 := by
  have e5 : (v (hh_rI 0) 5).toNatClampNeg = nh 0 := by rw [hh_T_r5 hT 0]; exact nI_clamp (by have := hT.2.1 0; omega)
  have e6 : (v (hh_rI 0) 6).toNatClampNeg = nc 0 := by rw [hh_T_r6 hT 0]; exact nI_clamp (by have := hT.2.2.1 0; omega)
  exact (hq_digest hT (hp_F9 h) (hT.2.1 0) (hT.2.2.1 0) e5 e6).1
end HPJ
