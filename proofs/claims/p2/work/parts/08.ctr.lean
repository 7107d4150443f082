
def rmd (fr lo mc ms : Nat) : Room := { frames := fr, cells := mc, slots := ms, locals := lo }
def PcC (D : va_G) (cA : Nat → ClassId) (ad : Pl → Nat) (N0 : Nat) (av : List AV) (σ : Sg) : Array Value → State → Prop := va_Pc (av.map (cv ad)) (fun U => N0 ≤ U.heap.size ∧ va_P D vwCl (wl ad cA σ) U.heap ∧ va_K D vwCl (TY cA) U ∧ STt ad (fun q => N0 ≤ q) U)
def QcC (D : va_G) (cA : Nat → ClassId) (ad : Pl → Nat) (N0 : Nat) (K : Option AV → Sg → Prop) (kx : String → Sg → Prop) : Array Value → State → Outcome → State → Prop := fun _ st oc t => ((∃ (r : Option AV) (σ : Sg), oc = .returned (r.map (cv ad)) ∧ okR r ∧ K r σ ∧ va_P D vwCl (wl ad cA σ) t.heap) ∨ (∃ (q : Addr) (E : String) (ce : Cell) (σ : Sg), oc = .threw q ∧ kx E σ ∧ va_P D vwCl (wl ad cA σ) t.heap ∧ t.heap[q]? = some ce ∧ ce.vm = .none ∧ st.vm.findClass E = some ce.cls)) ∧ va_F (fun q => N0 ≤ q) st t
/-- a method's contract: room of d frames, mc cells, ms slots; what it does -/
def Ctr (y : MethodName) (b : ByteArray) (nL : Nat) (ret : Option FieldType) (fr lo mc ms : Nat) (Sp : CSp) : Prop :=
  ∀ (l : Launch) (D : va_G) (cA : Nat → ClassId) (ad : Pl → Nat) (N0 : Nat) (av : List AV) (σ : Sg) (K : Option AV → Sg → Prop) (kx : String → Sg → Prop), l.stackTraces = false → (∀ σ, va_D (fun q => N0 ≤ q) (wl ad cA σ)) → okS av → Sp av σ K kx → xt_Met l y (.code y b nL ret :: GWS) (rmd fr lo mc ms) (PcC D cA ad N0 av σ) (QcC D cA ad N0 K kx) mc ms (fun q => N0 ≤ q)
theorem PcC_bl {D : va_G} {cA : Nat → ClassId} {ad : Pl → Nat} {N0 : Nat} {av : List AV} {σ : Sg} : FrameBlind (PcC D cA ad N0 av σ) := by
  intro a U g mk h
  obtain ⟨q0, q1, qP, qK, qS⟩ := h
  exact ⟨q0, q1, qP, va_K.moved (u := U) (U := U.calling g mk a) (Vm.Alike.refl U.vm) qK, STt_same (U := U) (V := U.calling g mk a) rfl rfl qS⟩
theorem gw_good {w : Cond} (h : w ∈ GWS) : (w.onTables && w.keeps) = true ∨ ∃ ty, w = .arrayClass ty := good_of_word (GWS_good w h)
theorem gw_in {y : MethodName} {b : ByteArray} {nL : Nat} {ret : Option FieldType} (h : Cond.code y b nL ret ∈ GWS) : GoodIn GWS (.code y b nL ret :: GWS) := fun w hw => by
  rcases List.mem_cons.mp hw with e | e
  · subst e
    exact ⟨h, gw_good h⟩
  · exact ⟨e, gw_good e⟩
/-- what a call asks of the tables: kind 0 a method of an object, 1 a static one of the class itself or of another, 2 a private static one of the nest -/
def StcOK (own : String) (fr lo : Nat) (a : Nat) (v : Nat × Nat × CSp × Nat × Nat) : Prop := ∃ (y : MethodName) (b : ByteArray) (nL : Nat) (ret : Option FieldType) (fr' lo' n' : Nat), Ctr y b nL ret fr' lo' v.2.2.2.1 v.2.2.2.2 v.2.2.1 ∧ (fr' + 1 ≤ fr ∧ 19 + nL + lo' ≤ lo) ∧ Cond.code y b nL ret ∈ GWS ∧ Cond.initialized y.cls ∈ GWS ∧ (y.cls ≠ "java/lang/invoke/MethodHandle" ∧ y.cls ≠ "java/lang/invoke/VarHandle" ∧ (parseMethodDescriptor y.desc).map (fun d => d.parameters.length) = some n') ∧
  ((v.1 = n' + 1 ∧ v.2.1 ≠ 1000 ∧ Cond.methodLink own a y ∈ GWS ∧ Cond.instanceMethod y ∈ GWS ∧ ∃ (T : u_T) (N : Nat), vwCl[v.2.1]? = some (y.cls, T, N) ∧ Cond.selects y.cls y y ∈ GWS) ∨
   (v.1 = n' ∧ v.2.1 = 1000 ∧ Cond.methodLink own a y ∈ GWS ∧ Cond.static y ∈ GWS) ∨
   (v.1 = n' ∧ v.2.1 = 1000 ∧ (∃ host, Cond.methodLinkNest own a y host ∈ NWS) ∧ Cond.static y ∈ GWS))
section CTR
variable {p : Program} {l : Launch} {e : Env} {R : Room} {s : State} {m : MethodId} {args : Array Value} {below : List Frame} {meth : Method} {c : Code} {Q : State → Prop}
variable {cc : ByteArray} {nL : Nat} {own : String} {D : va_G} {cA : Nat → ClassId} {ad : Pl → Nat} {N0 : Nat} {Ψ : String → Sg → Prop}
theorem pso_cv (r : Option AV) (st : List AV) : (r.map (cv ad)).toList ++ st.map (cv ad) = (pso r st).map (cv ad) := by cases r <;> rfl
theorem okS_pso {r : Option AV} {st : List AV} (hr : okR r) (h : okS st) : okS (pso r st) := by
  cases r with
  | none => exact h
  | some v => exact okS_p hr h
/-- the frame g, with q thrown over it, comes to Q -/
def xt_W (p : Program) (l : Launch) (e : Env) (R : Room) (s : State) (m : MethodId) (args : Array Value) (below : List Frame) (meth : Method) (c : Code) (H : Heap) (locs : List Loc) (cells slots : Nat) (Q : State → Prop) (g : JFrame) (q : Addr) : Prop :=
  ∀ T : State, T.heap = H → Stand p l e R s m args below meth c T locs cells slots → ∃ t, Steps p.tables e below ((T.setTop g).pushFrame (.throwing q)) t ∧ Q t
/-- where a method throws on -/
def XO (p : Program) (l : Launch) (e : Env) (R : Room) (s : State) (m : MethodId) (args : Array Value) (below : List Frame) (meth : Method) (c : Code) (Q : State → Prop) (D : va_G) (cA : Nat → ClassId) (ad : Pl → Nat) (A : Nat → Prop) (Ψ : String → Sg → Prop) : Prop :=
  ∀ (E : String) (σ : Sg) (H : Heap) (locs : List Loc) (pc : Nat) (ls : Array Slot) (st : List Value) (q : Addr) (ce : Cell) (nc ns : Nat), Ψ E σ → va_P D vwCl (wl ad cA σ) H → va_S A s.heap H locs → H[q]? = some ce → ce.vm = .none → s.vm.findClass E = some ce.cls → nc ≤ R.cells → ns ≤ R.slots → xt_W p l e R s m args below meth c H locs nc ns Q (F0 m pc ls st) q
theorem run_go {pc : Nat} {L : List (Option AV)} {st stk : List AV} {σ : Sg} {nc ns mc ms : Nat} {K : Option AV → Sg → Prop} (hX : XO p l e R s m args below meth c Q D cA ad (fun q => N0 ≤ q) Ψ) (hc : nc + mc ≤ R.cells) (hs : ns + ms ≤ R.slots) (hok : okS stk → okS st)
    (hrun : ∀ (T : State) (locs : List Loc) (ls : Array Slot), okS stk → va_P D vwCl (wl ad cA σ) T.heap → va_S (fun q => N0 ≤ q) s.heap T.heap locs → lv_has ls nL (prs ad 0 L) → Stand p l e R s m args below meth c T locs nc ns →
      ∃ (vm₁ : Vm) (a : Array Value) (mk : MethodId) (g : JFrame) (o : Outcome) (t U' : State) (L : List Loc), s.WarmedH vm₁ ∧ g = F0 m pc ls (st.map (cv ad)) ∧ Stand p l e R s m args below meth c U' (locs ++ L) (nc + mc) (ns + ms) ∧ (∀ z ∈ L, N0 ≤ z.base) ∧ U'.heap = t.heap ∧ U'.vm = t.vm ∧ QcC D cA ad N0 K Ψ a ((T.setVm vm₁).calling g mk a) o t ∧ ∀ t2, Steps p.tables e below (xt_at o g U') t2 → Steps p.tables e below (T.setTop (F0 m pc ls (stk.map (cv ad)))) t2)
    (hk : ∀ r σ', K r σ' → GW p l e R s m args below meth c Q nL D cA ad (fun q => N0 ≤ q) (pc + 3) (L) (pso r st) (σ') (nc + mc) (ns + ms)) : GW p l e R s m args below meth c Q nL D cA ad (fun q => N0 ≤ q) (pc) (L) (stk) (σ) (nc) (ns) := by
  intro o1 o2 o3 H locs ls hP hS hl T hT X
  subst hT
  obtain ⟨vm₁, a, mk, g, o, t, U', Lc, hW, rfl, X', hL, e1, e2, ⟨hq, hF⟩, stps⟩ := hrun T locs ls o2 hP hS hl X
  have k3 : va_S (fun q => N0 ≤ q) s.heap U'.heap (locs ++ Lc) := xt_keep (H := T.heap) rfl e1 hS hL hF
  rcases hq with ⟨r, σ', rfl, hokr, hkr, hPt⟩ | ⟨q, E, ce, σ', rfl, hx, hPt, hce, hcv, hcl⟩
  · obtain ⟨t2, a1, b1⟩ := hk r σ' hkr o1 (okS_pso hokr (hok o2)) o3 U'.heap (locs ++ Lc) ls (by rw [e1]; exact hPt) k3 hl U' rfl X'
    refine ⟨t2, stps t2 ?_, b1⟩
    show Steps p.tables e below (U'.setTop { F0 m pc ls (st.map (cv ad)) with pc := pc + 3, stack := (r.map (cv ad)).toList ++ st.map (cv ad) }) t2
    rw [pso_cv]
    exact a1
  · have hcl2 : s.vm.findClass E = some ce.cls := by
      have h9 : vm₁.findClass E = some ce.cls := hcl
      rw [hW.alike.findClass] at h9
      exact h9
    obtain ⟨t2, a1, b1⟩ := hX E σ' U'.heap (locs ++ Lc) pc ls (st.map (cv ad)) q ce (nc + mc) (ns + ms) hx (by rw [e1]; exact hPt) k3 (by rw [e1]; exact hce) hcv hcl2 hc hs U' rfl X'
    exact ⟨t2, stps t2 a1, b1⟩
theorem cal_of (C : Cx p s m args c cc nL own D cA ad (fun q => N0 ≤ q)) (hN : N0 ≤ s.heap.size) (hl0 : l.stackTraces = false) {fr lo : Nat} (hRf : R.frames = fr) (hRl : R.locals = lo) (hX : XO p l e R s m args below meth c Q D cA ad (fun q => N0 ≤ q) Ψ) {a : Nat} {v : Nat × Nat × CSp × Nat × Nat} (hS : StcOK own fr lo a v) : CalOK p l e R s m args below meth c Q nL D cA ad (fun q => N0 ≤ q) cc Ψ a v := by
  obtain ⟨y, b, nL', ret, fr', lo', n', hM, hd', hcode, hini, hdd, hkind⟩ := hS
  obtain ⟨n, ci, Sp, mc, ms⟩ := v
  have hts := C.2.2.2.2.1
  have hws : ∀ w ∈ (Cond.code y b nL' ret :: GWS), ∀ (a' : Array Value) (U : State), s.WarmedH U.vm → w.before a' U = true := pay_in hts (gw_in hcode)
  have hin9 : ∀ (a' : Array Value) (U : State), s.WarmedH U.vm → (Cond.initialized y.cls).before a' U = true := fun a' U hW => word_at hW (gw_good hini) (hts _ hini)
  have hlen : ∀ sig, parseMethodDescriptor y.desc = some sig → n' = sig.parameters.length := fun sig h => by
    have h2 := hdd.2.2
    rw [h] at h2
    exact (Option.some.inj h2).symm
  have hpc : ∀ (av : List AV) (σ : Sg) (T : State) (locs : List Loc), va_P D vwCl (wl ad cA σ) T.heap → va_S (fun q => N0 ≤ q) s.heap T.heap locs → ∀ vm₁ : Vm, s.WarmedH vm₁ → PcC D cA ad N0 av σ (av.map (cv ad)).toArray (T.setVm vm₁) := fun av σ T locs hP hS vm₁ hW =>
    ⟨rfl, Nat.le_trans hN hS.1, hP, va_K.moved (U := T.setVm vm₁) hW.alike C.2.2.2.2.2.1, STt_next (U := T.setVm vm₁) C.2.2.2.2.2.2.2.2 hS hW rfl⟩
  have hroom : ∀ (pc : Nat) (ls : Array Slot) (st : List AV), st.length ≤ 8 → 2 * (F0 m pc ls (st.map (cv ad))).monitorRoom + ((st.map (cv ad)).map fun v => v.category).sum + (nL' + 11) + lo' ≤ R.locals := fun pc ls st h => by
    rw [cv_sum, hRl]
    show 2 * 0 + st.length + (nL' + 11) + lo' ≤ lo
    omega
  obtain ⟨kfr, klo⟩ := hd'
  rcases hkind with ⟨e1, e2, hml, hin, T9, N9, hcl, hsel⟩ | ⟨e1, e2, hml, hst⟩ | ⟨e1, e2, ⟨host, hml⟩, hst⟩
  · refine Or.inr ⟨e2, ?_⟩
    intro pc L st avr k0 e0 i0 sl σ nc ns K hd hs hn hst hc hsl hSp hk
    refine run_go hX hc hsl (fun z => fun w hw => z w (List.mem_append_right _ hw)) (fun T locs ls o2 hP hS hl X => ?_) hk
    have okr : okS (.inr (k0, e0, i0) :: avr) := fun w hw => o2 w (List.mem_append_left _ (List.mem_reverse.mpr hw))
    obtain ⟨q, n1, n2⟩ := wl_ok (ad := ad) (cA := cA) (σ := σ) (okS_c okr).1 (isSt_o hs)
    rw [cel_o hs] at n2
    obtain ⟨cellB, hcB, hoB, hclB⟩ := va_recv C.2.2.2.2.2.1 hP hcl n2
    obtain ⟨mk, mM, hnamed, hmM, hstM, habM⟩ := Cond.instanceMethod_spec (hts _ hin)
    obtain ⟨mM', cM, hmM', -, -, -, -, -, -, hsigM⟩ := Cond.code_spec hnamed (hts _ hcode)
    cases hmM.symm.trans hmM'
    obtain ⟨c2, r2, m2, q1, q2, q3, q4, kP, hkP, hkPi⟩ := Cond.selects_spec (hts _ hsel)
    cases hclB.symm.trans q1
    cases (State.methodFound?_of_named hnamed ⟨hdd.1, hdd.2.1⟩).symm.trans q2
    cases hnamed.symm.trans q3
    have hselP : selectMethod e.platform s.vm cellB.cls mk = .method mk := by rw [Launch.admits_selectMethod X.admits]; exact q4
    have hstk : (((Sum.inr (k0, e0, i0) :: avr).reverse ++ st).map (cv ad)) = (avr.map (cv ad)).reverse ++ .ref (ad (k0, e0, i0)) :: st.map (cv ad) := by simp [cv]
    obtain ⟨vm₁, X₁, hstep⟩ := X.invokevirtual C.1 C.2.2.2.1 (hts _ hml) hnamed hmM hstM hkP hkPi ⟨hdd.1, hdd.2.1⟩ (a := ad (k0, e0, i0)) (cell := cellB) hcB
      (fun z h => by rw [h] at hoB; cases hoB) hselP hmM habM hkP hkPi (g := F0 m pc ls (((Sum.inr (k0, e0, i0) :: avr).reverse ++ st).map (cv ad))) rfl (argsL := avr.map (cv ad)) (rest := st.map (cv ad)) (by rw [List.length_map]; have z1 := hlen _ hsigM; have z2 : n = n' + 1 := e1; omega) hstk (by rw [C.2.1]; exact hd)
    obtain ⟨o, t, U', Lc, Y, hL, f1, f2, hQ, stp⟩ := xt_inv (hM l D cA ad N0 (.inr (k0, e0, i0) :: avr) σ K Ψ hl0 C.2.2.2.2.2.2.1 okr hSp) PcC_bl (by rw [hRf]; exact kfr) rfl rfl hws List.mem_cons_self hin9 X₁ (g := F0 m pc ls (st.map (cv ad))) rfl (by rw [C.2.2.1]; exact hl.1) (by rw [C.2.1]; exact hd) (hroom pc ls st hst) (X₁.named hnamed) hc hsl (hpc _ σ T locs hP hS vm₁ X₁.warmed)
    exact ⟨vm₁, _, mk, _, o, t, U', Lc, X₁.warmed, rfl, Y, hL, f1, f2, hQ, fun t2 ht2 => hstep _ fun acts => by rw [doInvoke_state]; exact stp.trans ht2⟩
  · refine Or.inl ⟨e2, ?_⟩
    intro pc L st av σ nc ns K hd hn hst2 hc hsl hSp hk
    refine run_go hX hc hsl (fun z => fun w hw => z w (List.mem_append_right _ hw)) (fun T locs ls o2 hP hS hl X => ?_) hk
    have okr : okS av := fun w hw => o2 w (List.mem_append_left _ (List.mem_reverse.mpr hw))
    obtain ⟨mk, hnamed⟩ := Cond.code_named (hts _ hcode)
    obtain ⟨mM, cM, hmM, -, -, -, -, -, -, hsigM⟩ := Cond.code_spec hnamed (hts _ hcode)
    have hsta : mM.isStatic = true := Cond.static_spec hnamed hmM (hts _ hst)
    obtain ⟨kP, hkP, -⟩ := className_of_methodNamed hnamed
    have hiP : kP.init = .initialized := Cond.initialized_spec (findClass_of_methodNamed hnamed) hkP (hts _ hini)
    obtain ⟨vm₁, X₁, hstep⟩ := X.invokestatic C.1 C.2.2.2.1 (hts _ hml) hnamed hmM hsta hkP hiP ⟨hdd.1, hdd.2.1⟩ (g := F0 m pc ls ((av.reverse ++ st).map (cv ad))) rfl (argsL := av.map (cv ad)) (rest := st.map (cv ad)) (by rw [List.length_map]; have z1 := hlen _ hsigM; have z2 : n = n' := e1; omega) (by simp) (by rw [C.2.1]; exact hd)
    obtain ⟨o, t, U', Lc, Y, hL, f1, f2, hQ, stp⟩ := xt_inv (hM l D cA ad N0 av σ K Ψ hl0 C.2.2.2.2.2.2.1 okr hSp) PcC_bl (by rw [hRf]; exact kfr) rfl rfl hws List.mem_cons_self hin9 X₁ (g := F0 m pc ls (st.map (cv ad))) rfl (by rw [C.2.2.1]; exact hl.1) (by rw [C.2.1]; exact hd) (hroom pc ls st hst2) (X₁.named hnamed) hc hsl (hpc _ σ T locs hP hS vm₁ X₁.warmed)
    exact ⟨vm₁, _, mk, _, o, t, U', Lc, X₁.warmed, rfl, Y, hL, f1, f2, hQ, fun t2 ht2 => hstep _ fun acts => by rw [doInvoke_state]; exact stp.trans ht2⟩
  · refine Or.inl ⟨e2, ?_⟩
    intro pc L st av σ nc ns K hd hn hst2 hc hsl hSp hk
    refine run_go hX hc hsl (fun z => fun w hw => z w (List.mem_append_right _ hw)) (fun T locs ls o2 hP hS hl X => ?_) hk
    have okr : okS av := fun w hw => o2 w (List.mem_append_left _ (List.mem_reverse.mpr hw))
    obtain ⟨mk, hnamed⟩ := Cond.code_named (hts _ hcode)
    obtain ⟨mM, cM, hmM, -, -, -, -, -, -, hsigM⟩ := Cond.code_spec hnamed (hts _ hcode)
    have hsta : mM.isStatic = true := Cond.static_spec hnamed hmM (hts _ hst)
    obtain ⟨kP, hkP, -⟩ := className_of_methodNamed hnamed
    have hiP : kP.init = .initialized := Cond.initialized_spec (findClass_of_methodNamed hnamed) hkP (hts _ hini)
    obtain ⟨vm₁, X₁, hstep⟩ := X.invokestaticNest C.1 C.2.2.2.1 (va_Nw.use (NWS_on _ hml) (C.2.2.2.2.2.2.2.2.2.1 _ hml)) hnamed hmM hsta hkP hiP ⟨hdd.1, hdd.2.1⟩ (g := F0 m pc ls ((av.reverse ++ st).map (cv ad))) rfl (argsL := av.map (cv ad)) (rest := st.map (cv ad)) (by rw [List.length_map]; have z1 := hlen _ hsigM; have z2 : n = n' := e1; omega) (by simp) (by rw [C.2.1]; exact hd)
    obtain ⟨o, t, U', Lc, Y, hL, f1, f2, hQ, stp⟩ := xt_inv (hM l D cA ad N0 av σ K Ψ hl0 C.2.2.2.2.2.2.1 okr hSp) PcC_bl (by rw [hRf]; exact kfr) rfl rfl hws List.mem_cons_self hin9 X₁ (g := F0 m pc ls (st.map (cv ad))) rfl (by rw [C.2.2.1]; exact hl.1) (by rw [C.2.1]; exact hd) (hroom pc ls st hst2) (X₁.named hnamed) hc hsl (hpc _ σ T locs hP hS vm₁ X₁.warmed)
    exact ⟨vm₁, _, mk, _, o, t, U', Lc, X₁.warmed, rfl, Y, hL, f1, f2, hQ, fun t2 ht2 => hstep _ fun acts => by rw [doInvoke_state]; exact stp.trans ht2⟩
end CTR
/-- what a body owes at its end -/
def xt_MQ (below : List Frame) (Q : Array Value → State → Outcome → State → Prop) (a : Array Value) (s : State) (mc ms : Nat) (free : Addr → Prop) : State → Prop := fun t => ∃ o, t.status = .running ∧ Ended t below o ∧ Q a s o t ∧ xt_Fr s t mc ms free
theorem xt_ret {p : Program} {l : Launch} {e : Env} {R : Room} {s : State} {m : MethodId} {args : Array Value} {below : List Frame} {meth : Method} {c : Code} {H : Heap} {locs : List Loc} {cells slots mc ms : Nat} {free : Addr → Prop} {Qc : Array Value → State → Outcome → State → Prop} {g : JFrame} (k : W p l e R s m args below meth c H locs cells slots (MQ below Qc args s mc ms free) g) : W p l e R s m args below meth c H locs cells slots (xt_MQ below Qc args s mc ms free) g := by
  intro T hT X
  obtain ⟨t, a1, o, b1, b2, b3, L, ⟨-, h1, h2⟩, h3⟩ := k T hT X
  exact ⟨t, a1, o, b1, b2, b3, h1, L, h2, h3⟩
theorem xt_out {p : Program} {l : Launch} {e : Env} {R : Room} {s : State} {m : MethodId} {args : Array Value} {below : List Frame} {meth : Method} {c : Code} {H : Heap} {locs : List Loc} {cells slots mc ms pc : Nat} {ls : Array Slot} {rest : List Value} {q : Addr} {free : Addr → Prop} {Qc : Array Value → State → Outcome → State → Prop} (hout : ∀ x ∈ c.exceptionTable.toList, covers x pc = false) (hlocks : meth.locks = false)
    (hx : ∀ t : State, t.heap = H → s.WarmedH t.vm → Qc args s (.threw q) t) (hf : ∀ z ∈ locs, free z.base) (hc : cells ≤ mc) (hs : slots ≤ ms) : xt_W p l e R s m args below meth c H locs cells slots (xt_MQ below Qc args s mc ms free) (F0 m pc ls rest) q := by
  intro T hT X
  obtain ⟨st1, hrun, hend, hW, hsm⟩ := X.leaveThrown q (g := F0 m pc ls rest) rfl rfl rfl hout hlocks
  exact ⟨_, st1, .threw q, hrun, hend, hx _ hT hW, hW, locs, hsm.mono hc hs, hf⟩
theorem xt_ofW {l : Launch} {y : MethodName} {ws ws' : List Cond} {rm : Room} {Pc : Array Value → State → Prop} {Qc : Array Value → State → Outcome → State → Prop} {mc ms : Nat} {free : Addr → Prop} {cc : ByteArray} {maxL : Nat} {ret : Option FieldType} (hy : plainName y.cls = true) (hw : ws = Cond.code y cc maxL ret :: ws')
    (body : ∀ p e s m args below meth c s₁, BodyLoose p l y (headSpec ws rm) cc maxL ret e s m args below meth c s₁ → c.maxLocals = maxL → (∀ x ∈ c.exceptionTable.toList, False) → Pc args s →
      W p l e (headSpec ws rm).room s m args below meth c s.heap [] 0 0 (xt_MQ below Qc args s mc ms free) (entryFrame m args maxL)) : xt_Met l y ws rm Pc Qc mc ms free := by
  have hmem : Cond.code y cc maxL ret ∈ ws := by rw [hw]; exact List.mem_cons_self
  refine MetFree.of_bodyS (code := cc) (maxLocals := maxL) (ret := ret) hy ?_ ?_
  · intro args s m h hn
    obtain ⟨meth, c, h1, h2, h3, h4, h5, h6, -, -⟩ := Cond.code_spec hn (atoms_spec (ws := ws) h _ hmem)
    exact ⟨meth, c, h1, h2, h3, h4, h5, h6⟩
  · intro p e s m args below meth c s₁ B hml hP _
    have ht : ∀ x ∈ c.exceptionTable.toList, False := by
      obtain ⟨meth9, c9, h1, h2, -, -, -, -, h7, -⟩ := Cond.code_spec B.named (atoms_spec (ws := ws) B.pre _ hmem)
      cases Option.some.inj (h1.symm.trans B.method)
      cases Option.some.inj (h2.symm.trans (Stand.of_body B).code)
      intro x hx
      rw [Array.isEmpty_iff.mp h7] at hx
      cases hx
    obtain ⟨t, a1, o, b1, b2, b3, b4⟩ := body p e s m args below meth c s₁ B hml ht hP s₁ (by rw [B.state]; rfl) (Stand.of_body B)
    exact ⟨t, o, a1, b1, b2, b3, b4⟩
/-! ===== 'throw new E()': own rows ===== -/
/-- the four words of a throw that speak of the heap -/
def xt_hw : List Cond := [.isRef (.static Bundle.tN "UNASSIGNED_STACK" Bundle.steD), .isRef (.static Bundle.tN "SUPPRESSED_SENTINEL" Bundle.listD), .laysStatic Bundle.tN "UNASSIGNED_STACK" Bundle.steD, .laysStatic Bundle.tN "SUPPRESSED_SENTINEL" Bundle.listD]
/-- a throw at pc: its instructions and its words -/
def ThrOK (own : String) (cc : ByteArray) (q : Ent) : Prop := match q with
  | (pc, _, a, b, tg) => ∃ names : List String, decode cc (pc + 3) = .ok (.dup, 1) ∧ decode cc (pc + 4) = .ok (.invokespecial b.toNat, 3) ∧ decode cc (pc + 7) = .ok (.athrow, 1) ∧ Bundle.fit (exn tg) = true ∧ (∀ n ∈ names, Bundle.fit n = true) ∧ names.length ≤ 2 ∧ (Cond.classLink own a (exn tg) ∈ GWS ∧ Cond.initialized (exn tg) ∈ GWS ∧ ∀ w ∈ Bundle.ownAtoms0 own b.toNat (exn tg) names, w ∈ GWS ∨ w ∈ NWS ∨ w ∈ xt_hw)
section XTT
variable {p : Program} {l : Launch} {e : Env} {R : Room} {s : State} {m : MethodId} {args : Array Value} {below : List Frame} {meth : Method} {c : Code} {locs : List Loc} {cells slots : Nat}
/-- the frame that runs, taken as begun in the heap of this moment -/
theorem xt_re {T : State} (X : Stand p l e R s m args below meth c T locs cells slots) (k n : Nat) (hc : cells + k ≤ R.cells) (hs : slots + n ≤ R.slots) :
    Stand p l e { frames := R.frames, locals := R.locals, cells := k, slots := n } ((T.setVm s.vm).setFrames (.invoking m args :: below)) m args below meth c T [] 0 0 := by
  have ht : (T.setVm s.vm).topJava?.isSome := X.here.top
  have hfr : ((T.setVm s.vm).setFrames (.invoking m args :: below)).frames = .invoking m args :: below := State.frames_setFrames _ (State.cur_lt_of_top ht)
  obtain ⟨g0, h0⟩ := Option.isSome_iff_exists.mp ht
  obtain ⟨r, hr⟩ := State.topJava?_eq_some.mp h0
  obtain ⟨th, hth, -⟩ := State.frames_cons hr
  have hlim : e.platform.stackLimits (T.setVm s.vm).me = e.platform.stackLimits s.me := X.limits
  have hby : (T.setVm s.vm).me.stackBytes = s.me.stackBytes := X.bytes
  have hdrop : ((T.heap.toList.drop T.heap.size).map (·.slots.size)).sum = 0 := by
    rw [List.drop_eq_nil_of_le (Nat.le_of_eq Array.length_toList)]
    rfl
  have huse : ((T.setVm s.vm).setFrames (.invoking m args :: below)).localsInUse = s.localsInUse := by
    rw [State.localsInUse_invoking hfr (meth := meth) (c := c) X.method X.code, State.localsInUse_invoking X.frames X.method X.code]
  have hroom : ((T.setVm s.vm).setFrames (.invoking m args :: below)).hasRoom e.platform { frames := R.frames, locals := R.locals, cells := k, slots := n } = true := by
    have h := X.room
    have q1 := X.heapSize
    have q2 := X.used
    simp only [State.hasRoom, Bool.and_eq_true, decide_eq_true_eq] at h ⊢
    obtain ⟨⟨⟨⟨h1, h2, h3, h4, h5, h6⟩, h7⟩, h8⟩, h9⟩ := h
    rw [X.frames, List.length_cons] at h2 h3
    simp only [hfr, huse, List.length_cons, State.stackLimits_setFrames, State.stackBytes_setFrames, hlim, hby]
    refine ⟨⟨⟨⟨h1, h2, h3, h4, h5, h6⟩, ?_⟩, ?_⟩, X.book⟩
    · show T.heap.size + k ≤ e.platform.maxCells
      omega
    · show T.slotsUsed + n ≤ e.platform.maxSlots
      omega
  refine ⟨X.admits, X.cas, X.clock, hfr, hroom, X.hears, X.method, X.code, X.here, X.tail, X.warmed, by rw [State.stackLimits_setFrames]; rfl, by rw [State.stackBytes_setFrames]; rfl, ?_, Nat.le_refl _, Nat.le_refl _, ?_, ?_, fun a c9 h9 => ⟨c9, h9, rfl, rfl, fun _ _ => rfl⟩⟩
  · show T.setVm s.vm = { ((T.setVm s.vm).setFrames (.invoking m args :: below)).setFrames (T.setVm s.vm).frames with heap := T.heap, slotsUsed := T.slotsUsed }
    rw [State.setFrames_setFrames, State.setFrames_self hth]
    rfl
  · show T.slotsUsed = T.slotsUsed + ((T.heap.toList.drop T.heap.size).map (·.slots.size)).sum
    rw [hdrop]
    rfl
  · show ((T.heap.toList.drop T.heap.size).map (·.slots.size)).sum ≤ 0
    rw [hdrop]
    exact Nat.le_refl _
/-- old cells stay where nothing is written -/
theorem xt_old {s' U : State} {k n : Nat} (h : s'.sameButNew ({ U with vm := s'.vm } : State) [] k n) : s'.heap.size ≤ U.heap.size ∧ ∀ q : Nat, q < s'.heap.size → U.heap[q]? = s'.heap[q]? := by
  obtain ⟨-, h2, -, -, -, h6⟩ := h
  refine ⟨h2, fun q hq => ?_⟩
  obtain ⟨c9, e1, e2, -, e4⟩ := h6 q _ (Array.getElem?_eq_getElem hq)
  have hsl : c9.slots = (s'.heap[q]).slots := Array.ext_getElem? fun i => e4 i (fun hm => nomatch hm)
  have h9 : c9 = s'.heap[q] := by
    rw [hsl] at e2
    exact e2
  have e5 : U.heap[q]? = some c9 := e1
  rw [e5, h9, Array.getElem?_eq_getElem hq]
end XTT

theorem thr_of {p : Program} {l : Launch} {e : Env} {R : Room} {s : State} {m : MethodId} {args : Array Value} {below : List Frame} {meth : Method} {c : Code} {cc : ByteArray} {nL : Nat} {own : String} {D : va_G} {cA : Nat → ClassId} {ad : Pl → Nat} {N0 mc ms : Nat} {K : Option AV → Sg → Prop} {kx : String → Sg → Prop} (C : Cx p s m args c cc nL own D cA ad (fun q => N0 ≤ q)) (hl0 : l.stackTraces = false) {q : Ent} (hq : decode cc q.1 = .ok (.new q.2.2.1, 3)) (hT : ThrOK own cc q) (htab : ∀ x ∈ c.exceptionTable.toList, False) (hlocks : meth.locks = false) (hfr : 6 ≤ R.frames) (hlo : 89 ≤ R.locals) (hmc : mc ≤ R.cells) (hms : ms ≤ R.slots) :
    ThrG p l e R s m args below meth c (xt_MQ below (QcC D cA ad N0 K kx) args s mc ms (fun q => N0 ≤ q)) nL D cA ad (fun q => N0 ≤ q) kx mc ms q := by
  obtain ⟨pc, op, a, b, tg⟩ := q
  obtain ⟨names, d3, d4, d7, hfit, hfits, hlen, hk, hini, hat⟩ := hT
  intro L st σ nc ns hst hc hs hx o1 o2 o3 H locs ls hP hS hl T hTH X
  subst hTH
  have htr : e.platform.stackTraces = false := (show e.platform.stackTraces = l.stackTraces by rw [X.admits.platform]).trans hl0
  have Y := xt_re X 1 6 (Nat.le_trans hc hmc) (Nat.le_trans hs hms)
  obtain ⟨s', hs'⟩ : ∃ z, z = (T.setVm s.vm).setFrames (.invoking m args :: below) := ⟨_, rfl⟩
  rw [← hs'] at Y
  have hvm : s'.vm = s.vm := by rw [hs']; rfl
  have hhp : s'.heap = T.heap := by rw [hs']; rfl
  have hW0 : s.WarmedH s'.vm := by rw [hvm]; exact State.WarmedH.refl s
  have wd : ∀ w ∈ GWS, w.before args s' = true := fun w hw => word_at hW0 (gw_good hw) (C.2.2.2.2.1 w hw)
  have hU : Sx "UNASSIGNED_STACK" Bundle.steD (fun q => N0 ≤ q) s' s'.heap := by rw [hhp]; exact (C.2.2.2.2.2.2.2.2.2.2.1.kept hS.2.1).moved hW0.alike
  have hN : Sx "SUPPRESSED_SENTINEL" Bundle.listD (fun q => N0 ≤ q) s' s'.heap := by rw [hhp]; exact (C.2.2.2.2.2.2.2.2.2.2.2.kept hS.2.1).moved hW0.alike
  have h : ∀ w ∈ Bundle.ownAtoms0 own b.toNat (exn tg) names, w.before args s' = true := by
    intro w hw
    rcases hat w hw with h | h | h
    · exact wd w h
    · exact va_Nw.use (NWS_on w h) ((C.2.2.2.2.2.2.2.2.2.1 w h).same (NWS_on w h) hvm.symm)
    · simp only [xt_hw, List.mem_cons, List.not_mem_nil, or_false] at h
      rcases h with h | h | h | h <;> rw [h]
      · exact hU.ref
      · exact hN.ref
      · exact hU.lays
      · exact hN.lays
  have hown' : s'.vm.findClass own = some m.cls := by rw [hvm]; exact C.2.2.2.1
  have hins : (Cond.instantiable (exn tg) 6).before args s' = true := h _ (by simp [Bundle.ownAtoms0])
  obtain ⟨vm₁, cX, kX, hfX, hkX, -, -, X₁, st1⟩ := Y.newCold C.1 (own := own) (C := exn tg) (index := a) (n := 6) hown' (wd _ hk) hins (wd _ hini) (g := F0 m pc ls (st.map (cv ad))) rfl (by rw [C.2.1]; exact hq) (Nat.le_refl _) (Nat.le_refl _)
  generalize hT1 : (T.setVm vm₁).pushCell { cls := cX, slots := kX.instanceTypes.map defaultValue, vm := .none } = T1 at X₁ st1
  have hcellA : T1.heap[T.heap.size]? = some (freshCell cX kX) := by rw [← hT1]; exact State.heap_pushCell_size _ _
  have d3' : decode c.code (pc + 3) = .ok (.dup, 1) := by rw [C.2.1]; exact d3
  have hcat : (Value.ref T.heap.size).category = 1 := rfl
  obtain ⟨U, hsteps, hrun, hend, hW, hsame, ce, hce, hO⟩ := X₁.ctorThrow0 C.1 htr (own := own) (cls := exn tg) (names := names) (ic := b.toNat) hown' hfit hfits h (fun x hx => nomatch hx) hfX hkX hcellA (by rw [hhp]; exact Nat.le_refl _)
    (g := { method := m, pc := pc + 4, locals := ls, stack := .ref T.heap.size :: .ref T.heap.size :: st.map (cv ad), locked := none }) rfl (by rw [C.2.2.1]; exact hl.1) rfl rfl (rest := st.map (cv ad)) rfl
    (by rw [C.2.1]; exact d4) (by rw [C.2.1]; exact d7) (fun x hx => (htab x hx).elim) (by show names.length + 3 < R.frames; omega) (by
      show 2 * 0 + ((Value.ref T.heap.size :: st.map (cv ad)).map fun v => v.category).sum + (13 * (names.length + 1) + 41) ≤ R.locals
      rw [List.map_cons, List.sum_cons, hcat, cv_sum]
      omega) hlocks
  obtain ⟨f1, f2⟩ := xt_old hsame
  rw [hhp] at f1 f2
  have hWs : s.WarmedH U.vm := State.WarmedH.trans hW0 hW
  have hcl : s.vm.findClass (exn tg) = some ce.cls := by
    have h9 := hO.cls
    rw [hvm] at h9
    exact h9
  have hall : s.sameButNew ({ U with vm := s.vm } : State) locs mc ms := by
    subst hs'
    obtain ⟨e1, e2⟩ := hsame
    rw [State.setFrames_setFrames] at e1
    have h2 : (T.setVm s.vm).sameButNew ({ U with vm := s.vm } : State) [] (0 + 1) (0 + 6) := ⟨e1, e2⟩
    have h3 := X.same.trans h2
    rw [List.append_nil] at h3
    exact h3.mono hc hs
  have hPU : va_P D vwCl (wl ad cA σ) U.heap := hP.kept (fun k q hk => f2 q.1 ((hP k q hk).lt))
  have hFU : va_F (fun q => N0 ≤ q) s U := ⟨Nat.le_trans hS.1 f1, fun q h1 h2 => by rw [f2 q (Nat.lt_of_lt_of_le h1 hS.1)]; exact hS.2.1 q h1 h2⟩
  refine ⟨U, ?_, .threw T.heap.size, hrun, hend, ⟨Or.inr ⟨T.heap.size, exn tg, ce, σ, rfl, hx, hPU, hce, hO.vm, hcl⟩, hFU⟩, hWs, locs, hall, hS.2.2⟩
  refine st1 _ ?_
  show Steps p.tables e below (T1.setTop { method := m, pc := pc + 3, locals := ls, stack := .ref T.heap.size :: st.map (cv ad), locked := none }) _
  jvm_step X₁.here [X₁.here.top, C.1, d3', Value.category]
  exact hsteps
theorem sl_len (ad : Pl → Nat) : ∀ av : List AV, (lg_sl (av.map (cv ad))).length = av.length
  | [] => rfl
  | v :: av => by
    have h := sl_len ad av
    unfold lg_sl at h ⊢
    rw [List.map_cons, List.flatMap_cons, List.length_append, h, cv_cat]
    simp [Nat.add_comm]
/-- a method's contract, out of its run: from its entry, and from each stop with a measure that falls -/
theorem ctr_of {y : MethodName} {b : ByteArray} {nL : Nat} {ret : Option FieldType} {fr lo mc ms : Nat} {Sp : CSp} (hy : plainName y.cls = true) {FT : Nat → Option (Nat × Nat × Nat)} {GT : Nat → Option Nat} {CT : Nat → Option (Nat × Nat × CSp × Nat × Nat)} {sw : List Swt} {rt : Nat} {pr : List Ent} (stops : List Nat) (J : List AV → Sg → (Option AV → Sg → Prop) → (String → Sg → Prop) → Nat → KK) (F : Nat)
    (hret : (rt = 0 → ret = some .int) ∧ (rt = 1 → ret = some .boolean) ∧ (rt = 2 → ret = none) ∧ (rt = 3 → ∃ n, ret = some (.object n)))
    (hpr : ∀ q ∈ pr, decode b q.1 = .ok (dec sw q) ∧ okE q = true) (hF : ∀ a v, FT a = some v → FldOK y.cls a v) (hG : ∀ a k, GT a = some k → StaOK y.cls a k) (hC : ∀ a v, CT a = some v → StcOK y.cls fr lo a v) (hM : ∀ a k, GT a = some k → 300 ≤ k → 1 ≤ fr ∧ 26 ≤ lo) (hTh : ∀ q ∈ pr, q.2.1 = 55 → ThrOK y.cls b q ∧ 6 ≤ fr ∧ 89 ≤ lo)
    (hlen : ∀ av σ K kx, Sp av σ K kx → av.length ≤ nL)
    (ob1 : ∀ av σ K kx, okS av → Sp av σ K kx → wp (FT, GT, CT, sw, rt, mc, ms) K kx pr stops (fun pc L st σ' nc ns => ∃ n, J av σ K kx n pc L st σ' nc ns) F 0 (entL av nL) [] σ 0 0)
    (ob2 : ∀ av σ K kx n pc L st σ' nc ns, okS av → Sp av σ K kx → J av σ K kx n pc L st σ' nc ns → wp (FT, GT, CT, sw, rt, mc, ms) K kx pr stops (fun pc L st σ' nc ns => ∃ n', n' < n ∧ J av σ K kx n' pc L st σ' nc ns) F pc L st σ' nc ns) : Ctr y b nL ret fr lo mc ms Sp := by
  intro l D cA ad N0 av σ K kx hl0 hDD hok hSp
  refine xt_ofW (cc := b) (maxL := nL) (ret := ret) hy rfl ?_
  intro p e s m args below meth c s₁ B hml htab hv
  obtain ⟨rfl, hN, hP, hK, hST⟩ := hv
  have C : Cx p s m _ c b nL y.cls D cA ad (fun q => N0 ≤ q) := ⟨B.exec, B.bytes, hml, findClass_of_methodNamed B.named, fun w hw => atoms_spec (ws := Cond.code y b nL ret :: GWS) B.pre w (List.mem_cons_of_mem _ hw), hK, hDD, fun q h => Nat.le_trans hN h, hST⟩
  have hlocks := B.notSynchronized
  have hr := B.returns
  have hX : XO p l e (rmd fr lo mc ms) s m (av.map (cv ad)).toArray below meth c (xt_MQ below (QcC D cA ad N0 K kx) (av.map (cv ad)).toArray s mc ms (fun q => N0 ≤ q)) D cA ad (fun q => N0 ≤ q) kx := by
    intro E σ' H locs pc ls st q ce nc ns hx hP' hS' hce hcv hcl hnc hns
    exact xt_out (fun x hx => (htab x hx).elim) hlocks (fun t ht _ => ⟨Or.inr ⟨q, E, ce, σ', rfl, hx, by rw [ht]; exact hP', by rw [ht]; exact hce, hcv, hcl⟩, hS'.F ht⟩) (fun z hz => hS'.2.2 z hz) hnc hns
  have hC' : ∀ a v, CT a = some v → CalOK p l e (rmd fr lo mc ms) s m (av.map (cv ad)).toArray below meth c (xt_MQ below (QcC D cA ad N0 K kx) (av.map (cv ad)).toArray s mc ms (fun q => N0 ≤ q)) nL D cA ad (fun q => N0 ≤ q) b kx a v := fun a v h => cal_of C hN hl0 rfl rfl hX (hC a v h)
  have rI : RetI p l e (rmd fr lo mc ms) s m (av.map (cv ad)).toArray below meth c (xt_MQ below (QcC D cA ad N0 K kx) (av.map (cv ad)).toArray s mc ms (fun q => N0 ≤ q)) nL D cA ad (fun q => N0 ≤ q) b K rt mc ms := by
    intro pc L x σ' nc ns hdg hrt h1 h2 hΦ o1 o2 o3 H locs ls hP' hS' hl'
    refine W.widen (k := mc) (n := ms) h1 h2 ?_
    refine xt_ret ?_
    have hq : ∀ t : State, t.heap = H → s.WarmedH t.vm → QcC D cA ad N0 K kx (av.map (cv ad)).toArray s (.returned (some (.int (iI x)))) t := fun t ht _ => ⟨Or.inl ⟨some (.inl x), σ', rfl, trivial, hΦ, by rw [ht]; exact hP'⟩, hS'.F ht⟩
    rcases hrt with h | ⟨h, hx⟩
    · exact W.zret (v := iI x) (ty := .int) C.1 C.2.1 (hr.trans (hret.1 h)) rfl hq (fun q hq => hS'.2.2 q hq) hdg hlocks
    · exact W.zret (v := iI x) (ty := .boolean) C.1 C.2.1 (hr.trans (hret.2.1 h)) (narrow_b hx) hq (fun q hq => hS'.2.2 q hq) hdg hlocks
  have rV : RetV p l e (rmd fr lo mc ms) s m (av.map (cv ad)).toArray below meth c (xt_MQ below (QcC D cA ad N0 K kx) (av.map (cv ad)).toArray s mc ms (fun q => N0 ≤ q)) nL D cA ad (fun q => N0 ≤ q) b K rt mc ms := by
    intro pc L σ' nc ns hdg hrt h1 h2 hΦ o1 o2 o3 H locs ls hP' hS' hl'
    refine W.widen (k := mc) (n := ms) h1 h2 ?_
    refine xt_ret ?_
    exact W.vret C.1 C.2.1 (hr.trans (hret.2.2.1 hrt)) (fun t ht _ => ⟨Or.inl ⟨none, σ', rfl, trivial, hΦ, by rw [ht]; exact hP'⟩, hS'.F ht⟩) (fun q hq => hS'.2.2 q hq) hdg hlocks
  have rA : RetA p l e (rmd fr lo mc ms) s m (av.map (cv ad)).toArray below meth c (xt_MQ below (QcC D cA ad N0 K kx) (av.map (cv ad)).toArray s mc ms (fun q => N0 ≤ q)) nL D cA ad (fun q => N0 ≤ q) b K rt mc ms := by
    intro pc L x σ' nc ns hdg hrt h1 h2 hΦ o1 o2 o3 H locs ls hP' hS' hl'
    refine W.widen (k := mc) (n := ms) h1 h2 ?_
    refine xt_ret ?_
    obtain ⟨nm, hnm⟩ := hret.2.2.2 hrt
    exact W.aret (v := .ref (ad x)) C.1 C.2.1 (hr.trans hnm) (Or.inl ⟨nm, rfl⟩) (Or.inr ⟨_, rfl⟩) (fun t ht _ => ⟨Or.inl ⟨some (.inr x), σ', rfl, (okS_c o2).1, hΦ, by rw [ht]; exact hP'⟩, hS'.F ht⟩) (fun q hq => hS'.2.2 q hq) hdg hlocks
  have hR : (∀ a k, GT a = some k → 300 ≤ k → 1 ≤ (rmd fr lo mc ms).frames ∧ 26 ≤ (rmd fr lo mc ms).locals) ∧ mc ≤ (rmd fr lo mc ms).cells ∧ ms ≤ (rmd fr lo mc ms).slots := ⟨hM, Nat.le_refl _, Nat.le_refl _⟩
  have hT' : ∀ q ∈ pr, q.2.1 = 55 → ThrG p l e (rmd fr lo mc ms) s m (av.map (cv ad)).toArray below meth c (xt_MQ below (QcC D cA ad N0 K kx) (av.map (cv ad)).toArray s mc ms (fun q => N0 ≤ q)) nL D cA ad (fun q => N0 ≤ q) kx mc ms q := fun q hq h5 => by
    obtain ⟨z1, z2, z3⟩ := hTh q hq h5
    have hd := (hpr q hq).1
    obtain ⟨pc, op, a, b9, tg⟩ := q
    have h5 : op = 55 := h5
    subst h5
    exact thr_of C hl0 hd z1 htab hlocks z2 z3 (Nat.le_refl _) (Nat.le_refl _)
  have hJ : ∀ n pc L st σ' nc ns, J av σ K kx n pc L st σ' nc ns → GW p l e (rmd fr lo mc ms) s m (av.map (cv ad)).toArray below meth c (xt_MQ below (QcC D cA ad N0 K kx) (av.map (cv ad)).toArray s mc ms (fun q => N0 ≤ q)) nL D cA ad (fun q => N0 ≤ q) pc L st σ' nc ns := by
    intro n
    induction n using Nat.strongRecOn with
    | _ n ih =>
      intro pc L st σ' nc ns hj
      exact wp_sound C hF hG hC' hR rI rV rA hpr hT' (fun pc L st σ nc ns h => by obtain ⟨n', h1, h2⟩ := h; exact ih n' h1 pc L st σ nc ns h2) F pc L st σ' nc ns (ob2 av σ K kx n pc L st σ' nc ns hok hSp hj)
  have h0 := wp_sound C hF hG hC' hR rI rV rA hpr hT' (fun pc L st σ nc ns h => by obtain ⟨n, h⟩ := h; exact hJ n pc L st σ nc ns h) F 0 (entL av nL) [] σ 0 0 (ob1 av σ K kx hok hSp)
  have hle := hlen av σ K kx hSp
  have hlv := lv_entry (av.map (cv ad)) (n := nL) (by rw [sl_len]; exact hle)
  rw [lg_entry_eq]
  rw [← prs_ent ad (nL - av.length) av 0] at hlv
  refine h0 ?_ (fun _ h => nomatch h) ?_ s.heap [] _ hP va_S.rf hlv
  · intro v hv
    rcases List.mem_append.mp hv with h | h
    · obtain ⟨w, h1, h2⟩ := List.mem_map.mp h
      cases h2
      exact hok _ h1
    · have := List.eq_of_mem_replicate h
      cases this
  · show (av.map some ++ List.replicate (nL - av.length) none).length = nL
    rw [List.length_append, List.length_map, List.length_replicate]
    omega
