section
/-! a start that meets the premises, but for the class of the cell of FIRST_SETTINGS -/
/-- a second class of arrays of int, at the end of the table, with a method clone() of its own: one byte that is no instruction -/
def od_cls : Class := { start1.cArr "no name" 23 .int with methods := #[Lib.HandJ.method "clone" "()Ljava/lang/Object;" [] (some (.object "java/lang/Object")) 0x1 1 ⟨#[0xff]⟩] }
def od_heap : Heap := start1.about.heap.setIfInBounds 4 { cls := 29, slots := #[.int 3, .int 16, .int 2], vm := .none }
def od_st : State := { start1.about with vm := { start1.about.vm with classes := start1.about.vm.classes.push od_cls }, heap := od_heap }
theorem od_narrow : (Cond.and given_1 narrow_1).before start1.args0 od_st = true := by decide +kernel
theorem od_fits : heapFits od_st = true := by decide +kernel
def od_chk (tb : Tables) (e : Env) : Nat → State → Bool
  | 0, s => !(Nat.beq s.frames.length 1) && !(decide (s.status = .running))
  | n + 1, s => !(Nat.beq s.frames.length 1) && (match s.status, s.curStatus?, s.alone with
    | .running, some .runnable, true => od_chk tb e n (stepThread tb e s).1
    | _, _, _ => true)
theorem od_sound (tb : Tables) (e : Env) : ∀ (n : Nat) (s : State), od_chk tb e n s = true → ∀ k, (stepsAlone tb e k s).frames.length ≠ 1
  | 0, s, h, k => by
    unfold od_chk at h
    rw [Bool.and_eq_true] at h
    have h1 : s.frames.length ≠ 1 := fun hc => by rw [hc] at h; exact absurd h.1 (by decide)
    have h2 : s.status ≠ .running := fun hc => by have := h.2; simp [hc] at this
    cases k with
    | zero => exact h1
    | succ k =>
      unfold stepsAlone
      split
      · rename_i hr _ _
        exact absurd hr h2
      · exact h1
  | n + 1, s, h, k => by
    unfold od_chk at h
    rw [Bool.and_eq_true] at h
    have h1 : s.frames.length ≠ 1 := fun hc => by rw [hc] at h; exact absurd h.1 (by decide)
    have h2 := h.2
    cases k with
    | zero => exact h1
    | succ k =>
      unfold stepsAlone
      split
      · rename_i hr h3 h4
        rw [hr, h3, h4] at h2
        exact od_sound tb e n _ h2 k
      · exact h1
end
section
/-! the words of the tables hold at that start: a class more at the end changes none -/
theorem od_find {name : String} {c : ClassId} (h : start1.about.vm.findClass name = some c) : od_st.vm.findClass name = some c := by
  unfold Vm.findClass at h ⊢
  show (start1.about.vm.classes.push od_cls).findIdx? _ = some c
  rw [Array.findIdx?_push, h]
  rfl
theorem od_at {c : Nat} {k : Class} (h : start1.about.vm.classes[c]? = some k) : od_st.vm.classes[c]? = some k := by
  show (start1.about.vm.classes.push od_cls)[c]? = some k
  have h1 := (Array.getElem?_eq_some_iff.mp h).1
  rw [Array.getElem?_push, if_neg (Nat.ne_of_lt h1)]
  exact h
theorem od_meth {x : MethodName} {meth : Method} (h : (start1.about.methodNamed? x).bind start1.about.vm.method? = some meth) : (od_st.methodNamed? x).bind od_st.vm.method? = some meth := by
  rw [Option.bind_eq_some_iff] at h ⊢
  obtain ⟨m, hm, hmeth⟩ := h
  simp only [State.methodNamed?, Option.bind_eq_bind, Option.bind_eq_some_iff, Option.pure_def, Option.some.injEq] at hm
  obtain ⟨c, hc, k, hk, i, hi, rfl⟩ := hm
  simp only [Vm.method?, Option.bind_eq_bind, Option.bind_eq_some_iff] at hmeth
  obtain ⟨k2, hk2, hme⟩ := hmeth
  refine ⟨⟨c, i⟩, ?_, ?_⟩
  · simp only [State.methodNamed?, Option.bind_eq_bind, Option.bind_eq_some_iff, Option.pure_def, Option.some.injEq]
    exact ⟨c, od_find hc, k, od_at hk, i, hi, rfl⟩
  · simp only [Vm.method?, Option.bind_eq_bind, Option.bind_eq_some_iff]
    exact ⟨k2, od_at hk2, hme⟩
theorem od_code {x : MethodName} {b : ByteArray} {n : Nat} {r : Option FieldType} (h : (Cond.code x b n r).before start1.args0 start1.about = true) : (Cond.code x b n r).before start1.args0 od_st = true := by
  simp only [Cond.before, Cond.holds, Cond.value] at h ⊢
  rcases hm : (start1.about.methodNamed? x).bind start1.about.vm.method? with _ | meth
  · rw [hm] at h
    have h9 : false = true := h
    cases h9
  · rw [hm] at h
    rw [od_meth hm]
    exact h
theorem od_isc (c : Cond) (hc : su_isCode c = true) (h : c.before start1.args0 start1.about = true) : c.before start1.args0 od_st = true := by
  cases c
  case code => exact od_code h
  all_goals exact absurd hc (by simp [su_isCode])
set_option maxRecDepth 16384 in
theorem od_w1_0 : (tables_1_1.take 40).all (fun c => su_isCode c || c.before start1.args0 od_st) = true := by decide +kernel
set_option maxRecDepth 16384 in
theorem od_w1_1 : ((tables_1_1.drop 40).take 40).all (fun c => su_isCode c || c.before start1.args0 od_st) = true := by decide +kernel
set_option maxRecDepth 16384 in
theorem od_w1_2 : (((tables_1_1.drop 40).drop 40).take 40).all (fun c => su_isCode c || c.before start1.args0 od_st) = true := by decide +kernel
set_option maxRecDepth 16384 in
theorem od_w1_3 : ((((tables_1_1.drop 40).drop 40).drop 40).take 40).all (fun c => su_isCode c || c.before start1.args0 od_st) = true := by decide +kernel
set_option maxRecDepth 16384 in
theorem od_w1_4 : (((((tables_1_1.drop 40).drop 40).drop 40).drop 40).take 40).all (fun c => su_isCode c || c.before start1.args0 od_st) = true := by decide +kernel
set_option maxRecDepth 16384 in
theorem od_w1_5 : (((((tables_1_1.drop 40).drop 40).drop 40).drop 40).drop 40).all (fun c => su_isCode c || c.before start1.args0 od_st) = true := by decide +kernel
theorem od_w1 : tables_1_1.all (fun c => su_isCode c || c.before start1.args0 od_st) = true := (start1.su_all_split _ 40 tables_1_1 od_w1_0 (start1.su_all_split _ 40 (tables_1_1.drop 40) od_w1_1 (start1.su_all_split _ 40 ((tables_1_1.drop 40).drop 40) od_w1_2 (start1.su_all_split _ 40 (((tables_1_1.drop 40).drop 40).drop 40) od_w1_3 (start1.su_all_split _ 40 ((((tables_1_1.drop 40).drop 40).drop 40).drop 40) od_w1_4 od_w1_5)))))
set_option maxRecDepth 16384 in
theorem od_w2_0 : (tables_1_2.take 40).all (fun c => su_isCode c || c.before start1.args0 od_st) = true := by decide +kernel
set_option maxRecDepth 16384 in
theorem od_w2_1 : ((tables_1_2.drop 40).take 40).all (fun c => su_isCode c || c.before start1.args0 od_st) = true := by decide +kernel
set_option maxRecDepth 16384 in
theorem od_w2_2 : (((tables_1_2.drop 40).drop 40).take 40).all (fun c => su_isCode c || c.before start1.args0 od_st) = true := by decide +kernel
set_option maxRecDepth 16384 in
theorem od_w2_3 : ((((tables_1_2.drop 40).drop 40).drop 40).take 40).all (fun c => su_isCode c || c.before start1.args0 od_st) = true := by decide +kernel
set_option maxRecDepth 16384 in
theorem od_w2_4 : (((((tables_1_2.drop 40).drop 40).drop 40).drop 40).take 40).all (fun c => su_isCode c || c.before start1.args0 od_st) = true := by decide +kernel
set_option maxRecDepth 16384 in
theorem od_w2_5 : (((((tables_1_2.drop 40).drop 40).drop 40).drop 40).drop 40).all (fun c => su_isCode c || c.before start1.args0 od_st) = true := by decide +kernel
theorem od_w2 : tables_1_2.all (fun c => su_isCode c || c.before start1.args0 od_st) = true := (start1.su_all_split _ 40 tables_1_2 od_w2_0 (start1.su_all_split _ 40 (tables_1_2.drop 40) od_w2_1 (start1.su_all_split _ 40 ((tables_1_2.drop 40).drop 40) od_w2_2 (start1.su_all_split _ 40 (((tables_1_2.drop 40).drop 40).drop 40) od_w2_3 (start1.su_all_split _ 40 ((((tables_1_2.drop 40).drop 40).drop 40).drop 40) od_w2_4 od_w2_5)))))
set_option maxRecDepth 16384 in
theorem od_w3_0 : (tables_1_3.take 40).all (fun c => su_isCode c || c.before start1.args0 od_st) = true := by decide +kernel
set_option maxRecDepth 16384 in
theorem od_w3_1 : ((tables_1_3.drop 40).take 40).all (fun c => su_isCode c || c.before start1.args0 od_st) = true := by decide +kernel
set_option maxRecDepth 16384 in
theorem od_w3_2 : (((tables_1_3.drop 40).drop 40).take 40).all (fun c => su_isCode c || c.before start1.args0 od_st) = true := by decide +kernel
set_option maxRecDepth 16384 in
theorem od_w3_3 : ((((tables_1_3.drop 40).drop 40).drop 40).take 40).all (fun c => su_isCode c || c.before start1.args0 od_st) = true := by decide +kernel
set_option maxRecDepth 16384 in
theorem od_w3_4 : (((((tables_1_3.drop 40).drop 40).drop 40).drop 40).take 40).all (fun c => su_isCode c || c.before start1.args0 od_st) = true := by decide +kernel
set_option maxRecDepth 16384 in
theorem od_w3_5 : (((((tables_1_3.drop 40).drop 40).drop 40).drop 40).drop 40).all (fun c => su_isCode c || c.before start1.args0 od_st) = true := by decide +kernel
theorem od_w3 : tables_1_3.all (fun c => su_isCode c || c.before start1.args0 od_st) = true := (start1.su_all_split _ 40 tables_1_3 od_w3_0 (start1.su_all_split _ 40 (tables_1_3.drop 40) od_w3_1 (start1.su_all_split _ 40 ((tables_1_3.drop 40).drop 40) od_w3_2 (start1.su_all_split _ 40 (((tables_1_3.drop 40).drop 40).drop 40) od_w3_3 (start1.su_all_split _ 40 ((((tables_1_3.drop 40).drop 40).drop 40).drop 40) od_w3_4 od_w3_5)))))
set_option maxRecDepth 16384 in
theorem od_w4_0 : (tables_1_4.take 40).all (fun c => su_isCode c || c.before start1.args0 od_st) = true := by decide +kernel
set_option maxRecDepth 16384 in
theorem od_w4_1 : ((tables_1_4.drop 40).take 40).all (fun c => su_isCode c || c.before start1.args0 od_st) = true := by decide +kernel
set_option maxRecDepth 16384 in
theorem od_w4_2 : (((tables_1_4.drop 40).drop 40).take 40).all (fun c => su_isCode c || c.before start1.args0 od_st) = true := by decide +kernel
set_option maxRecDepth 16384 in
theorem od_w4_3 : ((((tables_1_4.drop 40).drop 40).drop 40).take 40).all (fun c => su_isCode c || c.before start1.args0 od_st) = true := by decide +kernel
set_option maxRecDepth 16384 in
theorem od_w4_4 : (((((tables_1_4.drop 40).drop 40).drop 40).drop 40).take 40).all (fun c => su_isCode c || c.before start1.args0 od_st) = true := by decide +kernel
set_option maxRecDepth 16384 in
theorem od_w4_5 : (((((tables_1_4.drop 40).drop 40).drop 40).drop 40).drop 40).all (fun c => su_isCode c || c.before start1.args0 od_st) = true := by decide +kernel
theorem od_w4 : tables_1_4.all (fun c => su_isCode c || c.before start1.args0 od_st) = true := (start1.su_all_split _ 40 tables_1_4 od_w4_0 (start1.su_all_split _ 40 (tables_1_4.drop 40) od_w4_1 (start1.su_all_split _ 40 ((tables_1_4.drop 40).drop 40) od_w4_2 (start1.su_all_split _ 40 (((tables_1_4.drop 40).drop 40).drop 40) od_w4_3 (start1.su_all_split _ 40 ((((tables_1_4.drop 40).drop 40).drop 40).drop 40) od_w4_4 od_w4_5)))))
set_option maxRecDepth 16384 in
theorem od_w5_0 : (tables_1_5.take 40).all (fun c => su_isCode c || c.before start1.args0 od_st) = true := by decide +kernel
set_option maxRecDepth 16384 in
theorem od_w5_1 : ((tables_1_5.drop 40).take 40).all (fun c => su_isCode c || c.before start1.args0 od_st) = true := by decide +kernel
set_option maxRecDepth 16384 in
theorem od_w5_2 : (((tables_1_5.drop 40).drop 40).take 40).all (fun c => su_isCode c || c.before start1.args0 od_st) = true := by decide +kernel
set_option maxRecDepth 16384 in
theorem od_w5_3 : ((((tables_1_5.drop 40).drop 40).drop 40).take 40).all (fun c => su_isCode c || c.before start1.args0 od_st) = true := by decide +kernel
set_option maxRecDepth 16384 in
theorem od_w5_4 : (((((tables_1_5.drop 40).drop 40).drop 40).drop 40).take 40).all (fun c => su_isCode c || c.before start1.args0 od_st) = true := by decide +kernel
set_option maxRecDepth 16384 in
theorem od_w5_5 : (((((tables_1_5.drop 40).drop 40).drop 40).drop 40).drop 40).all (fun c => su_isCode c || c.before start1.args0 od_st) = true := by decide +kernel
theorem od_w5 : tables_1_5.all (fun c => su_isCode c || c.before start1.args0 od_st) = true := (start1.su_all_split _ 40 tables_1_5 od_w5_0 (start1.su_all_split _ 40 (tables_1_5.drop 40) od_w5_1 (start1.su_all_split _ 40 ((tables_1_5.drop 40).drop 40) od_w5_2 (start1.su_all_split _ 40 (((tables_1_5.drop 40).drop 40).drop 40) od_w5_3 (start1.su_all_split _ 40 ((((tables_1_5.drop 40).drop 40).drop 40).drop 40) od_w5_4 od_w5_5)))))
set_option maxRecDepth 16384 in
theorem od_w6_0 : (tables_1_6.take 40).all (fun c => su_isCode c || c.before start1.args0 od_st) = true := by decide +kernel
set_option maxRecDepth 16384 in
theorem od_w6_1 : ((tables_1_6.drop 40).take 40).all (fun c => su_isCode c || c.before start1.args0 od_st) = true := by decide +kernel
set_option maxRecDepth 16384 in
theorem od_w6_2 : ((tables_1_6.drop 40).drop 40).all (fun c => su_isCode c || c.before start1.args0 od_st) = true := by decide +kernel
theorem od_w6 : tables_1_6.all (fun c => su_isCode c || c.before start1.args0 od_st) = true := (start1.su_all_split _ 40 tables_1_6 od_w6_0 (start1.su_all_split _ 40 (tables_1_6.drop 40) od_w6_1 od_w6_2))
theorem od_words : ∀ c ∈ (Cond.code x code maxLocals ret :: tables_1), c.before start1.args0 od_st = true := by
  intro c hc
  have h0 := start1.words c hc
  rcases hq : su_isCode c with _ | _
  · rcases List.mem_cons.mp hc with h | h
    · rw [h] at hq; cases hq
    have key : ∀ l : List Cond, l.all (fun c => su_isCode c || c.before start1.args0 od_st) = true → c ∈ l → c.before start1.args0 od_st = true := fun l hl hm => by
      have h9 := List.all_eq_true.mp hl c hm
      rw [hq] at h9
      exact h9
    have h1 : c ∈ tables_1_1 ++ (tables_1_2 ++ (tables_1_3 ++ (tables_1_4 ++ (tables_1_5 ++ (tables_1_6))))) := h
    rcases List.mem_append.mp h1 with h2 | h1
    · exact key _ od_w1 h2
    rcases List.mem_append.mp h1 with h2 | h1
    · exact key _ od_w2 h2
    rcases List.mem_append.mp h1 with h2 | h1
    · exact key _ od_w3 h2
    rcases List.mem_append.mp h1 with h2 | h1
    · exact key _ od_w4 h2
    rcases List.mem_append.mp h1 with h2 | h1
    · exact key _ od_w5 h2
    exact key _ od_w6 h1
  · exact od_isc c hq h0
end
section
/-! the law's run from that start comes to no return; the same number of steps from the witness's own start doesn't stop -/
set_option maxRecDepth 16384 in
theorem od_run : od_chk start1.p0.tables start1.e0 290 od_st = true := by decide +kernel
set_option maxRecDepth 16384 in
theorem od_good : od_chk start1.p0.tables start1.e0 290 start1.about = false := by decide +kernel
theorem od_start : AtStart classFile x code maxLocals ret World_1 tables_1 room_1 Calls_1 rest_1 Pre_1 launch0 start1.p0 start1.e0 od_st ⟨0, 0⟩ start1.args0 Lib.HandBits.below0 :=
  ⟨lists_1, trivial, launch0.admits_env _ _ _, launch0.least_env, fairChoices_fair.cas, fairChoices_fair.clock, rfl, by decide +kernel, od_fits,
    (Spec.applies_iff rfl).mpr ⟨rfl, rfl, rfl, by decide +kernel, by decide +kernel, by decide +kernel, launch0.hasRoom_least _ room_1 (by decide +kernel) (by decide +kernel) (by decide +kernel) (by decide +kernel) (by decide +kernel) (by decide +kernel), atoms_intro od_words⟩,
    trivial, (show rest_1_c.before start1.args0 od_st = true by decide +kernel), od_narrow⟩
/-- the claim as it is written is false -/
theorem od_false : ¬ Claimed_1_1 := by
  intro h
  obtain ⟨hl, hw, ha, -, hcas, hclk, hfr, hargs, hfit, happ, hcalls, hrest, hpre⟩ := od_start
  obtain ⟨n, o, -, -, hend, hpost⟩ := h launch0 rfl hl hw start1.p0 start1.e0 ha hcas hclk od_st ⟨0, 0⟩ start1.args0 Lib.HandBits.below0 hfr hargs hfit happ ⟨hcalls, hrest, hpre⟩
  have hlen := od_sound start1.p0.tables start1.e0 290 od_st od_run n
  cases o with
  | threw a =>
    obtain ⟨⟨v, hv⟩, -⟩ := hpost.2
    cases hv
  | returned v =>
    apply hlen
    have h2 : (stepsAlone start1.p0.tables start1.e0 n od_st).frames = _ := hend
    rw [h2]
    rfl
theorem od_not : ¬ (Claimed_1_1 ∧ Claimed_1_2) := fun h => od_false h.1
end
