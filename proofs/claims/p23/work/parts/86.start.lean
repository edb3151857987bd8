/-! A START WITH THE SCRIPT hz_S: the witness's own state with another script (named, not copied: this part wants the witness's modules, so it compiles in a WHOLE round) -/
def hz_cells : Array Value := (hz_S.map Value.int).toArray
def hz_about : State := start1.aboutOf hz_cells
theorem hz_warm : start1.about.WarmedH hz_about.vm := State.WarmedH.refl start1.about

set_option maxRecDepth 16384 in
theorem hz_rest_1 : tables_1_1.all (fun c => goodWord c || c.before start1.args0 hz_about) = true := by decide +kernel
set_option maxRecDepth 16384 in
theorem hz_rest_2 : tables_1_2.all (fun c => goodWord c || c.before start1.args0 hz_about) = true := by decide +kernel
set_option maxRecDepth 16384 in
theorem hz_rest_3 : tables_1_3.all (fun c => goodWord c || c.before start1.args0 hz_about) = true := by decide +kernel
set_option maxRecDepth 16384 in
theorem hz_rest_4 : tables_1_4.all (fun c => goodWord c || c.before start1.args0 hz_about) = true := by decide +kernel
set_option maxRecDepth 16384 in
theorem hz_rest_5 : tables_1_5.all (fun c => goodWord c || c.before start1.args0 hz_about) = true := by decide +kernel
set_option maxRecDepth 16384 in
theorem hz_rest_6 : tables_1_6.all (fun c => goodWord c || c.before start1.args0 hz_about) = true := by decide +kernel
set_option maxRecDepth 16384 in
theorem hz_rest_7 : tables_1_7.all (fun c => goodWord c || c.before start1.args0 hz_about) = true := by decide +kernel
theorem hz_one {ws : List Cond} {c : Cond} (h1 : ws.all (fun c => goodWord c || c.before start1.args0 hz_about) = true) (h : c ∈ ws) (h2 : c.before start1.args0 start1.about = true) : c.before start1.args0 hz_about = true := by
  have h3 := List.all_eq_true.mp h1 c h
  by_cases hg : goodWord c = true
  · exact word_at hz_warm (good_of_word hg) h2
  · simpa [hg] using h3
theorem hz_words : ∀ c ∈ (Cond.code x code maxLocals ret :: tables_1), c.before start1.args0 hz_about = true := by
  intro c hc
  rcases List.mem_cons.mp hc with h | h
  · subst h
    exact word_at hz_warm (good_of_word (by decide +kernel)) start1.word_code
  have h : c ∈ tables_1_1 ++ (tables_1_2 ++ (tables_1_3 ++ (tables_1_4 ++ (tables_1_5 ++ (tables_1_6 ++ (tables_1_7)))))) := h
  rcases List.mem_append.mp h with h1 | h
  · exact hz_one hz_rest_1 h1 (by exact start1.words_1 c h1)
  rcases List.mem_append.mp h with h2 | h
  · exact hz_one hz_rest_2 h2 (by exact start1.words_2 c h2)
  rcases List.mem_append.mp h with h3 | h
  · exact hz_one hz_rest_3 h3 (by exact start1.words_3 c h3)
  rcases List.mem_append.mp h with h4 | h
  · exact hz_one hz_rest_4 h4 (by exact start1.words_4 c h4)
  rcases List.mem_append.mp h with h5 | h
  · exact hz_one hz_rest_5 h5 (by exact start1.words_5 c h5)
  rcases List.mem_append.mp h with h6 | h
  · exact hz_one hz_rest_6 h6 (by exact start1.words_6 c h6)
  exact hz_one hz_rest_7 h (start1.words_7 c h)
set_option maxRecDepth 65536 in
theorem hz_tl (s : Array Value) : (start1.aboutOf s).heap.toList = ({ cls := 47, slots := s, vm := .none } : Cell) :: (start1.aboutOf #[]).heap.toList.tail := rfl
theorem hz_fits_vm {s s' : State} (h : s.vm = s'.vm) : cellFits s = cellFits s' := by
  funext c
  unfold cellFits State.fitsSlot State.slotType?
  rw [h]
set_option maxRecDepth 65536 in
theorem hz_st (i : Nat) : hz_about.slotType? 47 .none i = some .int := rfl
set_option maxRecDepth 65536 in
theorem hz_fit0 : cellFits hz_about ({ cls := 47, slots := hz_cells, vm := .none } : Cell) = true := by
  unfold cellFits
  rw [List.all_eq_true]
  intro i hi
  show (match hz_cells[i]? with | some v => hz_about.fitsSlot 47 .none i v | none => true) = true
  have e : hz_cells[i]? = (hz_S[i]?).map Value.int := by simp [hz_cells]
  rw [e]
  cases hz_S[i]? with
  | none => rfl
  | some x =>
    show hz_about.fitsSlot 47 .none i (.int x) = true
    unfold State.fitsSlot
    rw [hz_st]
    rfl
theorem hz_fit : heapFits hz_about = true := by
  have h0 : heapFits start1.about = true := start1.atStart.2.2.2.2.2.2.2.2.1
  unfold heapFits at h0 ⊢
  rw [← Array.all_toList] at h0 ⊢
  rw [show start1.about = start1.aboutOf start1.cells0 from rfl, hz_tl, List.all_cons, Bool.and_eq_true] at h0
  rw [show hz_about.heap.toList = _ from hz_tl hz_cells, List.all_cons, Bool.and_eq_true]
  exact ⟨hz_fit0, by rw [hz_fits_vm (s := hz_about) (s' := start1.aboutOf start1.cells0) rfl]; exact h0.2⟩
set_option maxRecDepth 65536 in
theorem hz_arr : hz_about.arrayAt? 0 = some ({ cls := 47, slots := hz_cells, vm := .none } : Cell) := rfl
set_option maxRecDepth 16384 in
theorem hz_given : (Cond.and given_1 narrow_1).before start1.args0 hz_about = true := by decide +kernel
theorem hz_ev (idx : List Nat) : (Term.arg 0).eval start1.args0 hz_about none idx hz_about = some (.ref 0) := rfl
theorem hz_ints : hz_about.IntsAt 0 hz_S := by
  have harr : (Cond.arrayOf (.arg 0) .int).before start1.args0 hz_about = true := flat_of_before _ hz_given _ (by decide +kernel)
  obtain ⟨hcell, -, -, -⟩ := State.arrayAt?_spec hz_arr
  exact ⟨_, hz_arr, by simp [hz_cells], (Cond.arrayOf_spec harr (hz_ev []) hcell).1, by rw [hz_S_len]; decide⟩
theorem hz_rest : rest_1_c.before start1.args0 hz_about = true := by
  have h := hz_ints
  have e1 : (Cond.isInt (.length (.arg 0))).before start1.args0 hz_about = true := by
    simp [Cond.before, Cond.holds, Cond.value, h.length_eval (hz_ev [])]
  have e2 : (Cond.all (.arg 0) (.isInt (.elem (.arg 0) (.index 0)))).before start1.args0 hz_about = true := by
    have h9 := h.all_value (hz_ev []) (c := .isInt (.elem (.arg 0) (.index 0))) (fun k hk => by
      have h8 := h.elem_nat (hz_ev [k]) (i := .index 0) (k := k) (by simp [Term.eval]) hk
      simp [Cond.value, h8])
    simp [Cond.before, Cond.holds, h9]
  unfold rest_1_c
  rw [Cond.before_and, e1, e2]
  rfl
set_option maxRecDepth 16384 in
theorem hz_app (R : Room) (hroom : hz_about.hasRoom start1.e0.platform R = true) : (headSpec (Cond.code x code maxLocals ret :: tables_1) R).applies x start1.e0.platform hz_about = true :=
  (Spec.applies_iff rfl).mpr ⟨rfl, rfl, rfl, by decide +kernel, by decide +kernel, by decide +kernel, hroom, atoms_intro hz_words⟩
set_option maxRecDepth 16384 in
theorem hz_start : AtStart classFile x code maxLocals ret World_1 tables_1 room_1 Calls_1 rest_1 Pre_1 launch0 start1.p0 start1.e0 hz_about ⟨0, 0⟩ start1.args0 Lib.HandBits.below0 :=
  ⟨lists_1, trivial, launch0.admits_env _ _ _, launch0.least_env, fairChoices_fair.cas, fairChoices_fair.clock, rfl, by decide +kernel, hz_fit, hz_app room_1 (launch0.hasRoom_least _ room_1 (by decide +kernel) (by decide +kernel) (by decide +kernel) (by decide +kernel) (by decide +kernel) (by decide +kernel)), trivial, hz_rest, hz_given⟩
set_option maxRecDepth 16384 in
theorem hz_big : (headSpec (Cond.code x code maxLocals ret :: tables_1) hz_room).applies x start1.e0.platform hz_about = true :=
  hz_app hz_room (launch0.hasRoom_least _ hz_room (by decide +kernel) (by decide +kernel) (by decide +kernel) (by decide +kernel) (by decide +kernel) (by decide +kernel))
/-- how the run at that start ends -/
theorem hz_run : ∃ (n : Nat) (r : Int32), (∀ k < n, Within (stepsAlone start1.p0.tables start1.e0 k hz_about) Lib.HandBits.below0) ∧ (stepsAlone start1.p0.tables start1.e0 n hz_about).status = Status.running ∧ Ended (stepsAlone start1.p0.tables start1.e0 n hz_about) Lib.HandBits.below0 (.returned (some (.int r))) ∧ (False ∨ hz_about.heap.size + 802944 ≤ (stepsAlone start1.p0.tables start1.e0 n hz_about).heap.size) := by
  obtain ⟨n, o, w, h1, h2, r, rfl, h3⟩ := lw_walk launch0 0 start1.p0 start1.e0 (launch0.admits_env _ _ _) fairChoices_fair.cas fairChoices_fair.clock hz_about ⟨0, 0⟩ start1.args0 Lib.HandBits.below0 rfl ((Spec.applies_iff_loose rfl).mp hz_big).1 ⟨rfl, hz_ints, hz_given⟩ trivial
  exact ⟨n, r, w, h1, h2, h3⟩
/-- THE STATEMENT OF p23 FALLS, with nothing taken for given -/
theorem whole_falls : RefutedClaimed_1_1 := by
  obtain ⟨n, r, w, h1, h2, hr | hr⟩ := hz_run
  · exact hr.elim
  · refine ⟨launch0, start1.p0, start1.e0, hz_about, ⟨0, 0⟩, start1.args0, Lib.HandBits.below0, rfl, hz_start, n, _, w, h1, h2, fun hp => ?_⟩
    have h := hp.2.1.2.2.2.2.1
    have h9 : (stepsAlone start1.p0.tables start1.e0 n hz_about).heap.size ≤ hz_about.heap.size + 798207 := h
    omega
theorem whole_not : ¬ (Claimed_1_1 ∧ Claimed_1_2) := whole_is_false rfl hz_start hz_big rfl hz_ints
