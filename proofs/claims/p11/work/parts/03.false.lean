/-! the law's run from that start comes to no return; the same number of steps from the witness's own start doesn't stop -/
set_option maxRecDepth 16384 in
theorem od_run : od_chk start1.p0.tables start1.e0 290 od_st = true := by decide +kernel
set_option maxRecDepth 16384 in
theorem od_good : od_chk start1.p0.tables start1.e0 290 start1.about = false := by decide +kernel
theorem od_start : AtStart classFile x code maxLocals ret World_1 tables_1 room_1 Calls_1 rest_1 Pre_1 launch0 start1.p0 start1.e0 od_st ⟨0, 0⟩ start1.args0 Lib.HandBits.below0 :=
  ⟨lists_1, trivial, launch0.admits_env _ _ _, launch0.least_env, fairChoices_fair.cas, fairChoices_fair.clock, rfl, by decide +kernel, od_fits,
    (Spec.applies_iff rfl).mpr ⟨rfl, rfl, rfl, by decide +kernel, by decide +kernel, by decide +kernel, launch0.hasRoom_least _ room_1 (by decide +kernel) (by decide +kernel) (by decide +kernel) (by decide +kernel) (by decide +kernel) (by decide +kernel), atoms_intro od_words⟩,
    trivial, (show rest_1_c.before start1.args0 od_st = true by decide +kernel), od_narrow⟩
/-- the claim as it is written is false -/
theorem od_false : ¬ Claimed_1_1 := by
  intro h
  obtain ⟨hl, hw, ha, -, hcas, hclk, hfr, hargs, hfit, happ, hcalls, hrest, hpre⟩ := od_start
  obtain ⟨n, o, -, -, hend, hpost⟩ := h launch0 rfl hl hw start1.p0 start1.e0 ha hcas hclk od_st ⟨0, 0⟩ start1.args0 Lib.HandBits.below0 hfr hargs hfit happ ⟨hcalls, hrest, hpre⟩
  have hlen := od_sound start1.p0.tables start1.e0 290 od_st od_run n
  cases o with
  | threw a =>
    obtain ⟨⟨v, hv⟩, -⟩ := hpost.2
    cases hv
  | returned v =>
    apply hlen
    have h2 : (stepsAlone start1.p0.tables start1.e0 n od_st).frames = _ := hend
    rw [h2]
    rfl
theorem od_not : ¬ (Claimed_1_1 ∧ Claimed_1_2) := fun h => od_false h.1
