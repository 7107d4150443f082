/-! ===== methods that return or throw: own rows over the library ===== -/
/-- the caller's frame g behind a call of three bytes, by the callee's outcome -/
def xt_at (o : Outcome) (g : JFrame) (U : State) : State := match o with
  | .returned v => U.setTop { g with pc := g.pc + 3, stack := v.toList ++ g.stack }
  | .threw q => (U.setTop g).pushFrame (.throwing q)
/-- what a call may have changed -/
def xt_Fr (st t : State) (mc ms : Nat) (free : Addr → Prop) : Prop := st.WarmedH t.vm ∧ ∃ L : List Loc, st.sameButNew ({ t with vm := st.vm } : State) L mc ms ∧ ∀ z ∈ L, free z.base
/-- a contract with both ways out -/
def xt_Met (l : Launch) (y : MethodName) (ws : List Cond) (rm : Room) (Pc : Array Value → State → Prop) (Q : Array Value → State → Outcome → State → Prop) (mc ms : Nat) (free : Addr → Prop) : Prop :=
  MetFree l y (headSpec ws rm) Pc (fun _ _ _ _ _ => True) (fun a st o t => Q a st o t ∧ xt_Fr st t mc ms free)
section XT
variable {p : Program} {l : Launch} {e : Env} {R : Room} {s : State} {m : MethodId} {args : Array Value} {below : List Frame} {meth : Method} {c : Code} {locs : List Loc} {cells slots : Nat}
/-- the callee runs to its end, whichever it is -/
theorem xt_inv {y : MethodName} {ws : List Cond} {rm : Room} {Pc : Array Value → State → Prop} {Q : Array Value → State → Outcome → State → Prop} {mc ms : Nat} {free : Addr → Prop} {bytes : ByteArray} {maxL : Nat} {ret : Option FieldType}
    (hM : xt_Met l y ws rm Pc Q mc ms free) (hbl : FrameBlind Pc) (hfr : rm.frames + 1 ≤ R.frames) (hrc : rm.cells = mc) (hrs : rm.slots = ms)
    (hws : ∀ w ∈ ws, ∀ (a' : Array Value) (U : State), s.WarmedH U.vm → w.before a' U = true) (hcode : Cond.code y bytes maxL ret ∈ ws) (hini : ∀ (a' : Array Value) (U : State), s.WarmedH U.vm → (Cond.initialized y.cls).before a' U = true)
    {U : State} (X : Stand p l e R s m args below meth c U locs cells slots) {g : JFrame} (hg : g.method = m) (hsz : g.locals.size = c.maxLocals) {ig : Instr} (hdg : decode c.code g.pc = .ok (ig, 3))
    (hlo : 2 * g.monitorRoom + (g.stack.map fun v => v.category).sum + (maxL + 11) + rm.locals ≤ R.locals) {mk : MethodId} (hn : U.methodNamed? y = some mk) (hc : cells + mc ≤ R.cells) (hs : slots + ms ≤ R.slots) {a : Array Value} (hP : Pc a U) :
    ∃ (o : Outcome) (t U' : State) (L : List Loc), Stand p l e R s m args below meth c U' (locs ++ L) (cells + mc) (slots + ms) ∧ (∀ z ∈ L, free z.base) ∧ U'.heap = t.heap ∧ U'.vm = t.vm ∧ Q a (U.calling g mk a) o t ∧ Steps p.tables e below (doInvoke e (U.setTop g) [] mk a).1 (xt_at o g U') := by
  obtain ⟨mY, cY, hmY, hcY, -, hlY, -, -, -, -⟩ := Cond.code_spec hn (hws _ hcode a U X.warmed)
  obtain ⟨kY, hkY, -⟩ := className_of_methodNamed hn
  have hiY : kY.init = .initialized := Cond.initialized_spec (findClass_of_methodNamed hn) hkY (hini a U X.warmed)
  have hat : At U g.method c below := by rw [hg]; exact X.here
  have happ : (headSpec ws rm).appliesLoose y e.platform (U.calling g mk a) = true :=
    Spec.appliesLoose_calling (g := g) hat hdg hn hkY hiY (X.room_calling (g := g) (R' := (headSpec ws rm).room) hsz hmY hcY hfr (by rw [hlY]; exact hlo) (by show cells + rm.cells ≤ R.cells; rw [hrc]; exact hc) (by show slots + rm.slots ≤ R.slots; rw [hrs]; exact hs)) (atoms_intro fun w hw => hws w hw a U X.warmed)
  obtain ⟨mid, hmid⟩ := hat.above
  have hfs : (U.setTop g).frames = (.java g :: mid) ++ below := by rw [State.frames_setTop' g hat.top, hmid]; rfl
  obtain ⟨o, t, hst, -, hend, hQ⟩ := Steps.callFree hM p X.admits X.cas X.clock (acts := []) hfs happ (hbl a U g mk hP) trivial
  have hQ : Q a (U.calling g mk a) o t ∧ xt_Fr (U.calling g mk a) t mc ms free := hQ
  obtain ⟨hQ, hW, L, hsame, hL⟩ := hQ
  rw [State.frames_setTop' g hat.top] at hend
  obtain ⟨g₀, hg0⟩ := Option.isSome_iff_exists.mp hat.top
  obtain ⟨r, hr⟩ := State.topJava?_eq_some.mp hg0
  obtain ⟨U', hU'⟩ : ∃ z, z = ({ U with heap := t.heap, slotsUsed := t.slotsUsed } : State).setVm t.vm := ⟨_, rfl⟩
  have hr' : U'.frames = .java g₀ :: r := by rw [hU']; exact hr
  have hWU : U.WarmedH t.vm := hW
  obtain ⟨e2, q2, q3, q4, q5, q6⟩ := hsame
  have e3 : t = ({ (U.calling g mk a).setFrames t.frames with heap := t.heap, slotsUsed := t.slotsUsed } : State).setVm t.vm := by
    have h1 : t = ({ t with vm := (U.calling g mk a).vm } : State).setVm t.vm := rfl
    rw [e2] at h1
    exact h1
  have hsm : U.sameButNew ({ U with heap := t.heap, slotsUsed := t.slotsUsed } : State) L mc ms := by
    refine ⟨?_, q2, q3, q4, q5, q6⟩
    obtain ⟨th, hth, -⟩ := State.frames_cons hr
    show ({ U with heap := t.heap, slotsUsed := t.slotsUsed } : State) = { U.setFrames U.frames with heap := t.heap, slotsUsed := t.slotsUsed }
    rw [State.setFrames_self hth]
  have hX : Stand p l e R s m args below meth c U' (locs ++ L) (cells + mc) (slots + ms) := by
    subst hU'
    exact ⟨X.admits, X.cas, X.clock, X.frames, X.room, X.hears, X.method, X.code, (X.here.setHeapUsed t.heap t.slotsUsed).setVm hWU.alike, X.tail, State.WarmedH.trans X.warmed hWU, X.limits, X.bytes, X.same.trans (hsm.setVm s.vm)⟩
  have hfin : t = xt_at o g U' := by
    cases o with
    | returned v =>
      obtain ⟨c2, i2, n2, hc2, hd2, hf2⟩ := hend
      have h1 : t.code? g.method = U.code? g.method := by rw [State.code?_eq, State.code?_eq, hWU.alike.method?]
      cases Option.some.inj (hc2.symm.trans (h1.trans hat.code))
      rw [hdg] at hd2
      cases hd2
      refine e3.trans ?_
      show _ = U'.setTop { g with pc := g.pc + 3, stack := v.toList ++ g.stack }
      rw [hf2, State.calling_eq hat.top, State.setFrames_setFrames, State.setTop_of_frames _ hr', hU', hr]
      rfl
    | threw q =>
      have hf2 : t.frames = .throwing q :: .java g :: U.frames.tail := hend
      refine e3.trans ?_
      show _ = (U'.setTop g).pushFrame (.throwing q)
      rw [hf2, State.calling_eq hat.top, State.setFrames_setFrames, State.pushFrame, State.frames_setTop _ hr', State.setTop_of_frames _ hr', State.setFrames_setFrames, hU', hr]
      rfl
  refine ⟨o, t, U', L, hX, hL, by rw [hU']; rfl, by rw [hU']; rfl, hQ, ?_⟩
  rw [← hfin]
  exact hst
/-- what a call has left of what was there -/
theorem xt_keep {H0 H : Heap} {st t T' : State} {L : List Loc} {A : Nat → Prop} (h0 : st.heap = H) (e1 : T'.heap = t.heap) (hS : va_S A H0 H locs) (hL : ∀ q ∈ L, A q.base) (hF : va_F A st t) : va_S A H0 T'.heap (locs ++ L) := by
  obtain ⟨hz, hk⟩ := hF
  rw [h0] at hz hk
  rw [e1]
  refine ⟨Nat.le_trans hS.1 hz, fun q h1 h2 => ?_, fun q hq => ?_⟩
  · rw [hk q (Nat.lt_of_lt_of_le h1 hS.1) h2]
    exact hS.2.1 q h1 h2
  · rcases List.mem_append.mp hq with h | h
    · exact hS.2.2 q h
    · exact hL q h
end XT
/-! a static of Throwable that nobody writes, and that holds a reference or null -/
def Sx (n d : String) (A : Nat → Prop) (U : State) (H : Heap) : Prop := ∃ (c : ClassId) (k : Class) (i : Nat) (f : Field) (a : Nat) (cell : Cell) (v : Value), U.vm.findClass Bundle.tN = some c ∧ U.fieldFound? Bundle.tN n d = some (c, k, i, f) ∧ f.isStatic = true ∧ k.statics = some a ∧ H[a]? = some cell ∧ cell.vm.isStatics = true ∧ cell.cls = c ∧ f.slot < cell.slots.size ∧ k.staticTypes[f.slot]? = some f.type ∧ cell.slots[f.slot]? = some v ∧ v.isRef = true ∧ ¬ A a
theorem Sx.moved {n d : String} {A : Nat → Prop} {u U : State} {H : Heap} (hvm : u.vm.Alike U.vm) (h : Sx n d A u H) : Sx n d A U H := by
  obtain ⟨c, k, i, f, a, cell, v, h1, h2, h3, h4, h5, h6, h7, h8, h9, h10⟩ := h
  obtain ⟨k', hi', he⟩ := State.fieldFound?_setVm hvm h2
  exact ⟨c, k', i, f, a, cell, v, by rw [hvm.findClass]; exact h1, hi', h3, by rw [he]; exact h4, h5, h6, h7, h8, by rw [he]; exact h9, h10⟩
theorem Sx.kept {n d : String} {A : Nat → Prop} {U : State} {H H1 : Heap} (h : Sx n d A U H) (hq : ∀ a : Nat, a < H.size → ¬ A a → H1[a]? = H[a]?) : Sx n d A U H1 := by
  obtain ⟨c, k, i, f, a, cell, v, h1, h2, h3, h4, h5, h6, h7, h8, h9, h10, h11, h12⟩ := h
  exact ⟨c, k, i, f, a, cell, v, h1, h2, h3, h4, by rw [hq a (Array.getElem?_eq_some_iff.mp h5).1 h12]; exact h5, h6, h7, h8, h9, h10, h11, h12⟩
theorem Sx.lays {n d : String} {A : Nat → Prop} {s : State} {args : Array Value} (h : Sx n d A s s.heap) : (Cond.laysStatic Bundle.tN n d).before args s = true := by
  obtain ⟨c, k, i, f, a, cell, v, h1, h2, h3, h4, h5, h6, h7, h8, h9, -⟩ := h
  show (Cond.laysStatic Bundle.tN n d).holds args s none s [] = true
  exact Cond.laysStatic_of h1 h2 h3 h4 h5 h6 h7 h8 h9
theorem Sx.ref {n d : String} {A : Nat → Prop} {s : State} {args : Array Value} (h : Sx n d A s s.heap) : (Cond.isRef (.static Bundle.tN n d)).before args s = true := by
  obtain ⟨c, k, i, f, a, cell, v, h1, h2, h3, h4, h5, h6, h7, h8, h9, h10, h11, -⟩ := h
  have he : (Term.static Bundle.tN n d).eval args s none [] s = some v := by
    simp [Term.eval, State.fieldNamed?, h2, h3, h4, h5, h6, h10]
  simp only [Cond.before, Cond.holds, Cond.value, he]
  cases v <;> simp_all [Value.isRef]
/-! references lead to places of the world -/
def okT (k n : Nat) (t : Nat × Nat) : Bool := match t.2 with
  | 0 => Nat.ble (EL k) (EL t.1) && Nat.ble (IL k) (IL t.1)
  | 1 => Nat.ble 2 (EL t.1) && Nat.ble 1 (IL t.1)
  | 2 => Nat.ble 1 (EL t.1) && Nat.ble 1 (IL t.1)
  | 3 => Nat.ble n (EL t.1) && Nat.ble 1 (IL t.1)
  | _ => Nat.ble (EL k) (EL t.1) && Nat.ble n (IL t.1)
def okK (k : Nat) : Bool := match SH k with
  | .inl (_, sl) => sl.all (fun o => match o with
    | none => true
    | some t => Nat.ble t.2 2 && okT k 0 t)
  | .inr (t, n, r) => Nat.ble t 1 || Nat.beq t 9 || okT k n r
theorem okK_all : ∀ k, k < 300 → okK k = true := by decide +kernel
theorem okT_sp {k n e i j : Nat} {t : Nat × Nat} (h : okT k n t = true) (he : e < EL k) (hi : i < IL k) (hj : t.2 ≤ 2 ∨ j < n) : okv (.inr (tgt t e i j)) := by
  obtain ⟨kd, wy⟩ := t
  have hk : ∀ a b c d : Nat, (Nat.ble a b && Nat.ble c d) = true → a ≤ b ∧ c ≤ d := fun a b c d h => by
    rw [Bool.and_eq_true] at h
    exact ⟨Nat.le_of_ble_eq_true h.1, Nat.le_of_ble_eq_true h.2⟩
  rcases wy with _ | _ | _ | _ | wy
  · obtain ⟨h1, h2⟩ := hk _ _ _ _ h
    exact ⟨Nat.lt_of_lt_of_le he h1, Nat.lt_of_lt_of_le hi h2⟩
  · obtain ⟨h1, h2⟩ := hk _ _ _ _ h
    refine ⟨?_, h2⟩
    show 1 - e < EL kd
    have h1 : 2 ≤ EL kd := h1
    omega
  · obtain ⟨h1, h2⟩ := hk _ _ _ _ h
    exact ⟨h1, h2⟩
  · obtain ⟨h1, h2⟩ := hk _ _ _ _ h
    rcases hj with hj | hj
    · exact absurd hj (by show ¬ (3 ≤ 2); decide)
    · exact ⟨Nat.lt_of_lt_of_le hj h1, h2⟩
  · obtain ⟨h1, h2⟩ := hk _ _ _ _ h
    rcases hj with hj | hj
    · exact absurd hj (by show ¬ (wy + 4 ≤ 2); omega)
    · exact ⟨Nat.lt_of_lt_of_le he h1, Nat.lt_of_lt_of_le hj h2⟩
theorem okv_k {k e i : Nat} (h : okv (.inr (k, e, i))) : k < 300 := by
  rcases (EL_b k e h.1).2 with h2 | h2
  · omega
  · unfold isSt at h2
    rw [Bool.and_eq_true] at h2
    have := Nat.le_of_ble_eq_true h2.2
    omega
theorem SH_o {k ci j e i : Nat} {sl : List (Option (Nat × Nat))} {t : Nat × Nat} (h : SH k = .inl (ci, sl)) (h2 : sl[j]? = some (some t)) (hok : okv (.inr (k, e, i))) : okv (.inr (tgt t e i j)) := by
  have h3 := okK_all k (okv_k hok)
  simp only [okK, h] at h3
  have h4 := List.all_eq_true.mp h3 _ (List.mem_of_getElem? h2)
  simp only [Bool.and_eq_true] at h4
  exact okT_sp h4.2 hok.1 hok.2 (Or.inl (Nat.le_of_ble_eq_true h4.1))
theorem SH_r {k t n e i j : Nat} {r : Nat × Nat} (h : SH k = .inr (t + 2, n, r)) (ht : t ≤ 6) (hok : okv (.inr (k, e, i))) (hj : j < n) : okv (.inr (tgt r e i j)) := by
  have h3 := okK_all k (okv_k hok)
  simp only [okK, h, Bool.or_eq_true] at h3
  rcases h3 with (h3 | h3) | h3
  · have := Nat.le_of_ble_eq_true h3; omega
  · have := Nat.eq_of_beq_eq_true h3; omega
  · exact okT_sp h3 hok.1 hok.2 (Or.inr hj)
theorem cel_a (ad : Pl → Nat) (cA : Nat → ClassId) {k t n e i : Nat} {r : Nat × Nat} (h : SH k = .inr (t, n, r)) (hq : isSt k = false) (f : Nat → Int) : ∃ (t0 : Nat) (c9 : ClassId) (ty9 : FieldType) (x9 : vp_A), cel ad cA (k, e, i) f = .inl (c9, x9) ∧ (TY cA)[t0]? = some (c9, ty9) ∧ x9.1 = n := by
  unfold SH at h
  split at h <;> first | (cases h; done) | (exact absurd hq (by decide)) | (cases h; exact ⟨0, _, _, _, rfl, rfl, rfl⟩) | (cases h; exact ⟨1, _, _, _, rfl, rfl, rfl⟩) | (cases h; exact ⟨2, _, _, _, rfl, rfl, rfl⟩) | (cases h; exact ⟨3, _, _, _, rfl, rfl, rfl⟩)
/-! statics: tables that nobody writes; the nest's words; what a throw asks -/
def sN (k : Nat) : Nat := match SH k with
  | .inl _ => 0
  | .inr (_, n, _) => n
def STt (ad : Pl → Nat) (A : Nat → Prop) (U : State) : Prop :=
  (∀ q ∈ STL, va_Z q.2.1 q.2.2 "[I" (.ref (ad (q.1, 0, 0))) A U U.heap ∧ va_T .int (ad (q.1, 0, 0)) (sN q.1) (fun j => .int (iI (sv q.1 j))) A U U.heap) ∧ (∀ w ∈ NWS, va_Nw w U) ∧ Sx "UNASSIGNED_STACK" Bundle.steD A U U.heap ∧ Sx "SUPPRESSED_SENTINEL" Bundle.listD A U U.heap
theorem STL_ok (q : Nat × String × String) (h : q ∈ STL) : okv (.inr (q.1, 0, 0)) := by
  have h2 : ∀ q ∈ STL, 0 < EL q.1 ∧ 0 < IL q.1 := by decide +kernel
  exact h2 q h
theorem STt_t {ad : Pl → Nat} {A : Nat → Prop} {s : State} (hS : STt ad A s) {k t n e i : Nat} {r : Nat × Nat} (h : SH k = .inr (t, n, r)) (hq : isSt k = true) (hok : okv (.inr (k, e, i))) : e = 0 ∧ i = 0 ∧ va_T .int (ad (k, 0, 0)) n (fun j => .int (iI (sv k j))) A s s.heap := by
  have hk : k = 200 ∨ k = 201 ∨ k = 202 ∨ k = 203 := by
    unfold isSt at hq
    rw [Bool.and_eq_true] at hq
    have := Nat.le_of_ble_eq_true hq.1
    have := Nat.le_of_ble_eq_true hq.2
    omega
  have hn : sN k = n := by simp only [sN, h]
  have key : ∀ (C n' : String), (k, C, n') ∈ STL → va_T .int (ad (k, 0, 0)) n (fun j => .int (iI (sv k j))) A s s.heap := fun C n' h => by
    have := (hS.1 _ h).2
    rw [hn] at this
    exact this
  obtain ⟨h1, h2⟩ := hok
  have h1 : e < EL k := h1
  have h2 : i < IL k := h2
  have he : EL k = 1 ∧ IL k = 1 := by rcases hk with rfl | rfl | rfl | rfl <;> exact ⟨rfl, rfl⟩
  have hm : ∃ C n', (k, C, n') ∈ STL := by
    rcases hk with rfl | rfl | rfl | rfl
    · exact ⟨_, _, List.mem_of_getElem? (i := 0) rfl⟩
    · exact ⟨_, _, List.mem_of_getElem? (i := 1) rfl⟩
    · exact ⟨_, _, List.mem_of_getElem? (i := 2) rfl⟩
    · exact ⟨_, _, List.mem_of_getElem? (i := 3) rfl⟩
  obtain ⟨C, n', hm⟩ := hm
  exact ⟨by omega, by omega, key C n' hm⟩
theorem STt_same {ad : Pl → Nat} {A : Nat → Prop} {U V : State} (hv : U.vm = V.vm) (hh : U.heap = V.heap) (h : STt ad A U) : STt ad A V := by
  have ha : U.vm.Alike V.vm := by rw [hv]; exact Vm.Alike.refl _
  obtain ⟨h1, h2, h3, h4⟩ := h
  rw [hh] at h1 h3 h4
  exact ⟨fun q hq => ⟨(h1 q hq).1.moved ha, (h1 q hq).2.moved ha⟩, fun w hw => (h2 w hw).same (NWS_on w hw) hv, h3.moved ha, h4.moved ha⟩
theorem STt_next {ad : Pl → Nat} {A : Nat → Prop} {s U : State} {H : Heap} {locs : List Loc} (h : STt ad A s) (hS : va_S A s.heap H locs) (hW : s.WarmedH U.vm) (hU : U.heap = H) : STt ad A U := by
  have ha : s.vm.Alike U.vm := hW.alike
  obtain ⟨h1, h2, h3, h4⟩ := h
  subst hU
  refine ⟨fun q hq => ⟨((h1 q hq).1.kept hS.2.1).moved ha, ((h1 q hq).2.kept hS.2.1).moved ha⟩, fun w hw => ?_, (h3.kept hS.2.1).moved ha, (h4.kept hS.2.1).moved ha⟩
  have h5 := h2 w hw
  have h6 := (List.mem_filter.mp hw).2
  cases w <;> first | (exact va_Nw.warmF hW h5) | (exact va_Nw.warmM hW h5) | (exact va_tabs rfl (rfl : (s.setVm U.vm).vm = U.vm) (by rw [Cond.declares_setVm ha]; exact h5)) | (exact va_tabs rfl (rfl : (s.setVm U.vm).vm = U.vm) (by rw [Cond.castable_setVm ha]; exact h5)) | (simp [isNw] at h6; done)
theorem wMath : Cond.initialized "java/lang/Math" ∈ GWS ∧ (Cond.static Lib.Math.min.name ∈ GWS ∧ Cond.static Lib.Math.max.name ∈ GWS) ∧ (Cond.code Lib.Math.min.name Lib.Math.min.code 2 (some .int) ∈ GWS ∧ Cond.code Lib.Math.max.name Lib.Math.max.code 2 (some .int) ∈ GWS) := by decide +kernel
theorem wCopy : Cond.native arraycopyName ∈ GWS ∧ Cond.static arraycopyName ∈ GWS ∧ Cond.initialized "java/lang/System" ∈ GWS := by decide +kernel
