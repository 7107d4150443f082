/-! the words of the tables hold at that start: a class more at the end changes none -/
theorem od_find {name : String} {c : ClassId} (h : start1.about.vm.findClass name = some c) : od_st.vm.findClass name = some c := by
  unfold Vm.findClass at h ⊢
  show (start1.about.vm.classes.push od_cls).findIdx? _ = some c
  rw [Array.findIdx?_push, h]
  rfl
theorem od_at {c : Nat} {k : Class} (h : start1.about.vm.classes[c]? = some k) : od_st.vm.classes[c]? = some k := by
  show (start1.about.vm.classes.push od_cls)[c]? = some k
  have h1 := (Array.getElem?_eq_some_iff.mp h).1
  rw [Array.getElem?_push, if_neg (Nat.ne_of_lt h1)]
  exact h
theorem od_meth {x : MethodName} {meth : Method} (h : (start1.about.methodNamed? x).bind start1.about.vm.method? = some meth) : (od_st.methodNamed? x).bind od_st.vm.method? = some meth := by
  rw [Option.bind_eq_some_iff] at h ⊢
  obtain ⟨m, hm, hmeth⟩ := h
  simp only [State.methodNamed?, Option.bind_eq_bind, Option.bind_eq_some_iff, Option.pure_def, Option.some.injEq] at hm
  obtain ⟨c, hc, k, hk, i, hi, rfl⟩ := hm
  simp only [Vm.method?, Option.bind_eq_bind, Option.bind_eq_some_iff] at hmeth
  obtain ⟨k2, hk2, hme⟩ := hmeth
  refine ⟨⟨c, i⟩, ?_, ?_⟩
  · simp only [State.methodNamed?, Option.bind_eq_bind, Option.bind_eq_some_iff, Option.pure_def, Option.some.injEq]
    exact ⟨c, od_find hc, k, od_at hk, i, hi, rfl⟩
  · simp only [Vm.method?, Option.bind_eq_bind, Option.bind_eq_some_iff]
    exact ⟨k2, od_at hk2, hme⟩
theorem od_code {x : MethodName} {b : ByteArray} {n : Nat} {r : Option FieldType} (h : (Cond.code x b n r).before start1.args0 start1.about = true) : (Cond.code x b n r).before start1.args0 od_st = true := by
  simp only [Cond.before, Cond.holds, Cond.value] at h ⊢
  rcases hm : (start1.about.methodNamed? x).bind start1.about.vm.method? with _ | meth
  · rw [hm] at h
    have h9 : false = true := h
    cases h9
  · rw [hm] at h
    rw [od_meth hm]
    exact h
theorem od_isc (c : Cond) (hc : su_isCode c = true) (h : c.before start1.args0 start1.about = true) : c.before start1.args0 od_st = true := by
  cases c
  case code => exact od_code h
  all_goals exact absurd hc (by simp [su_isCode])
set_option maxRecDepth 16384 in
theorem od_w1_0 : (tables_1_1.take 40).all (fun c => su_isCode c || c.before start1.args0 od_st) = true := by decide +kernel
set_option maxRecDepth 16384 in
theorem od_w1_1 : ((tables_1_1.drop 40).take 40).all (fun c => su_isCode c || c.before start1.args0 od_st) = true := by decide +kernel
set_option maxRecDepth 16384 in
theorem od_w1_2 : (((tables_1_1.drop 40).drop 40).take 40).all (fun c => su_isCode c || c.before start1.args0 od_st) = true := by decide +kernel
set_option maxRecDepth 16384 in
theorem od_w1_3 : ((((tables_1_1.drop 40).drop 40).drop 40).take 40).all (fun c => su_isCode c || c.before start1.args0 od_st) = true := by decide +kernel
set_option maxRecDepth 16384 in
theorem od_w1_4 : (((((tables_1_1.drop 40).drop 40).drop 40).drop 40).take 40).all (fun c => su_isCode c || c.before start1.args0 od_st) = true := by decide +kernel
set_option maxRecDepth 16384 in
theorem od_w1_5 : (((((tables_1_1.drop 40).drop 40).drop 40).drop 40).drop 40).all (fun c => su_isCode c || c.before start1.args0 od_st) = true := by decide +kernel
theorem od_w1 : tables_1_1.all (fun c => su_isCode c || c.before start1.args0 od_st) = true := (start1.su_all_split _ 40 tables_1_1 od_w1_0 (start1.su_all_split _ 40 (tables_1_1.drop 40) od_w1_1 (start1.su_all_split _ 40 ((tables_1_1.drop 40).drop 40) od_w1_2 (start1.su_all_split _ 40 (((tables_1_1.drop 40).drop 40).drop 40) od_w1_3 (start1.su_all_split _ 40 ((((tables_1_1.drop 40).drop 40).drop 40).drop 40) od_w1_4 od_w1_5)))))
set_option maxRecDepth 16384 in
theorem od_w2_0 : (tables_1_2.take 40).all (fun c => su_isCode c || c.before start1.args0 od_st) = true := by decide +kernel
set_option maxRecDepth 16384 in
theorem od_w2_1 : ((tables_1_2.drop 40).take 40).all (fun c => su_isCode c || c.before start1.args0 od_st) = true := by decide +kernel
set_option maxRecDepth 16384 in
theorem od_w2_2 : (((tables_1_2.drop 40).drop 40).take 40).all (fun c => su_isCode c || c.before start1.args0 od_st) = true := by decide +kernel
set_option maxRecDepth 16384 in
theorem od_w2_3 : ((((tables_1_2.drop 40).drop 40).drop 40).take 40).all (fun c => su_isCode c || c.before start1.args0 od_st) = true := by decide +kernel
set_option maxRecDepth 16384 in
theorem od_w2_4 : (((((tables_1_2.drop 40).drop 40).drop 40).drop 40).take 40).all (fun c => su_isCode c || c.before start1.args0 od_st) = true := by decide +kernel
set_option maxRecDepth 16384 in
theorem od_w2_5 : (((((tables_1_2.drop 40).drop 40).drop 40).drop 40).drop 40).all (fun c => su_isCode c || c.before start1.args0 od_st) = true := by decide +kernel
theorem od_w2 : tables_1_2.all (fun c => su_isCode c || c.before start1.args0 od_st) = true := (start1.su_all_split _ 40 tables_1_2 od_w2_0 (start1.su_all_split _ 40 (tables_1_2.drop 40) od_w2_1 (start1.su_all_split _ 40 ((tables_1_2.drop 40).drop 40) od_w2_2 (start1.su_all_split _ 40 (((tables_1_2.drop 40).drop 40).drop 40) od_w2_3 (start1.su_all_split _ 40 ((((tables_1_2.drop 40).drop 40).drop 40).drop 40) od_w2_4 od_w2_5)))))
set_option maxRecDepth 16384 in
theorem od_w3_0 : (tables_1_3.take 40).all (fun c => su_isCode c || c.before start1.args0 od_st) = true := by decide +kernel
set_option maxRecDepth 16384 in
theorem od_w3_1 : ((tables_1_3.drop 40).take 40).all (fun c => su_isCode c || c.before start1.args0 od_st) = true := by decide +kernel
set_option maxRecDepth 16384 in
theorem od_w3_2 : (((tables_1_3.drop 40).drop 40).take 40).all (fun c => su_isCode c || c.before start1.args0 od_st) = true := by decide +kernel
set_option maxRecDepth 16384 in
theorem od_w3_3 : ((((tables_1_3.drop 40).drop 40).drop 40).take 40).all (fun c => su_isCode c || c.before start1.args0 od_st) = true := by decide +kernel
set_option maxRecDepth 16384 in
theorem od_w3_4 : (((((tables_1_3.drop 40).drop 40).drop 40).drop 40).take 40).all (fun c => su_isCode c || c.before start1.args0 od_st) = true := by decide +kernel
set_option maxRecDepth 16384 in
theorem od_w3_5 : (((((tables_1_3.drop 40).drop 40).drop 40).drop 40).drop 40).all (fun c => su_isCode c || c.before start1.args0 od_st) = true := by decide +kernel
theorem od_w3 : tables_1_3.all (fun c => su_isCode c || c.before start1.args0 od_st) = true := (start1.su_all_split _ 40 tables_1_3 od_w3_0 (start1.su_all_split _ 40 (tables_1_3.drop 40) od_w3_1 (start1.su_all_split _ 40 ((tables_1_3.drop 40).drop 40) od_w3_2 (start1.su_all_split _ 40 (((tables_1_3.drop 40).drop 40).drop 40) od_w3_3 (start1.su_all_split _ 40 ((((tables_1_3.drop 40).drop 40).drop 40).drop 40) od_w3_4 od_w3_5)))))
set_option maxRecDepth 16384 in
theorem od_w4_0 : (tables_1_4.take 40).all (fun c => su_isCode c || c.before start1.args0 od_st) = true := by decide +kernel
set_option maxRecDepth 16384 in
theorem od_w4_1 : ((tables_1_4.drop 40).take 40).all (fun c => su_isCode c || c.before start1.args0 od_st) = true := by decide +kernel
set_option maxRecDepth 16384 in
theorem od_w4_2 : (((tables_1_4.drop 40).drop 40).take 40).all (fun c => su_isCode c || c.before start1.args0 od_st) = true := by decide +kernel
set_option maxRecDepth 16384 in
theorem od_w4_3 : ((((tables_1_4.drop 40).drop 40).drop 40).take 40).all (fun c => su_isCode c || c.before start1.args0 od_st) = true := by decide +kernel
set_option maxRecDepth 16384 in
theorem od_w4_4 : (((((tables_1_4.drop 40).drop 40).drop 40).drop 40).take 40).all (fun c => su_isCode c || c.before start1.args0 od_st) = true := by decide +kernel
set_option maxRecDepth 16384 in
theorem od_w4_5 : (((((tables_1_4.drop 40).drop 40).drop 40).drop 40).drop 40).all (fun c => su_isCode c || c.before start1.args0 od_st) = true := by decide +kernel
theorem od_w4 : tables_1_4.all (fun c => su_isCode c || c.before start1.args0 od_st) = true := (start1.su_all_split _ 40 tables_1_4 od_w4_0 (start1.su_all_split _ 40 (tables_1_4.drop 40) od_w4_1 (start1.su_all_split _ 40 ((tables_1_4.drop 40).drop 40) od_w4_2 (start1.su_all_split _ 40 (((tables_1_4.drop 40).drop 40).drop 40) od_w4_3 (start1.su_all_split _ 40 ((((tables_1_4.drop 40).drop 40).drop 40).drop 40) od_w4_4 od_w4_5)))))
set_option maxRecDepth 16384 in
theorem od_w5_0 : (tables_1_5.take 40).all (fun c => su_isCode c || c.before start1.args0 od_st) = true := by decide +kernel
set_option maxRecDepth 16384 in
theorem od_w5_1 : ((tables_1_5.drop 40).take 40).all (fun c => su_isCode c || c.before start1.args0 od_st) = true := by decide +kernel
set_option maxRecDepth 16384 in
theorem od_w5_2 : (((tables_1_5.drop 40).drop 40).take 40).all (fun c => su_isCode c || c.before start1.args0 od_st) = true := by decide +kernel
set_option maxRecDepth 16384 in
theorem od_w5_3 : ((((tables_1_5.drop 40).drop 40).drop 40).take 40).all (fun c => su_isCode c || c.before start1.args0 od_st) = true := by decide +kernel
set_option maxRecDepth 16384 in
theorem od_w5_4 : (((((tables_1_5.drop 40).drop 40).drop 40).drop 40).take 40).all (fun c => su_isCode c || c.before start1.args0 od_st) = true := by decide +kernel
set_option maxRecDepth 16384 in
theorem od_w5_5 : (((((tables_1_5.drop 40).drop 40).drop 40).drop 40).drop 40).all (fun c => su_isCode c || c.before start1.args0 od_st) = true := by decide +kernel
theorem od_w5 : tables_1_5.all (fun c => su_isCode c || c.before start1.args0 od_st) = true := (start1.su_all_split _ 40 tables_1_5 od_w5_0 (start1.su_all_split _ 40 (tables_1_5.drop 40) od_w5_1 (start1.su_all_split _ 40 ((tables_1_5.drop 40).drop 40) od_w5_2 (start1.su_all_split _ 40 (((tables_1_5.drop 40).drop 40).drop 40) od_w5_3 (start1.su_all_split _ 40 ((((tables_1_5.drop 40).drop 40).drop 40).drop 40) od_w5_4 od_w5_5)))))
set_option maxRecDepth 16384 in
theorem od_w6_0 : (tables_1_6.take 40).all (fun c => su_isCode c || c.before start1.args0 od_st) = true := by decide +kernel
set_option maxRecDepth 16384 in
theorem od_w6_1 : ((tables_1_6.drop 40).take 40).all (fun c => su_isCode c || c.before start1.args0 od_st) = true := by decide +kernel
set_option maxRecDepth 16384 in
theorem od_w6_2 : ((tables_1_6.drop 40).drop 40).all (fun c => su_isCode c || c.before start1.args0 od_st) = true := by decide +kernel
theorem od_w6 : tables_1_6.all (fun c => su_isCode c || c.before start1.args0 od_st) = true := (start1.su_all_split _ 40 tables_1_6 od_w6_0 (start1.su_all_split _ 40 (tables_1_6.drop 40) od_w6_1 od_w6_2))
theorem od_words : ∀ c ∈ (Cond.code x code maxLocals ret :: tables_1), c.before start1.args0 od_st = true := by
  intro c hc
  have h0 := start1.words c hc
  rcases hq : su_isCode c with _ | _
  · rcases List.mem_cons.mp hc with h | h
    · rw [h] at hq; cases hq
    have key : ∀ l : List Cond, l.all (fun c => su_isCode c || c.before start1.args0 od_st) = true → c ∈ l → c.before start1.args0 od_st = true := fun l hl hm => by
      have h9 := List.all_eq_true.mp hl c hm
      rw [hq] at h9
      exact h9
    have h1 : c ∈ tables_1_1 ++ (tables_1_2 ++ (tables_1_3 ++ (tables_1_4 ++ (tables_1_5 ++ (tables_1_6))))) := h
    rcases List.mem_append.mp h1 with h2 | h1
    · exact key _ od_w1 h2
    rcases List.mem_append.mp h1 with h2 | h1
    · exact key _ od_w2 h2
    rcases List.mem_append.mp h1 with h2 | h1
    · exact key _ od_w3 h2
    rcases List.mem_append.mp h1 with h2 | h1
    · exact key _ od_w4 h2
    rcases List.mem_append.mp h1 with h2 | h1
    · exact key _ od_w5 h2
    exact key _ od_w6 h1
  · exact od_isc c hq h0
