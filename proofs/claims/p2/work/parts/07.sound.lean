
theorem lgetK_m {K K' : AV → Prop} (h : ∀ v, K v → K' v) : ∀ (L : List (Option AV)) (k : Nat), lgetK K L k → lgetK K' L k
  | [], _, z => z
  | none :: _, 0, z => z
  | some v :: _, 0, z => h v z
  | none :: r, k + 1, z => lgetK_m h r k z
  | some _ :: r, k + 1, z => lgetK_m h r k z
theorem lsetK_m {K K' : List (Option AV) → Prop} (h : ∀ v, K v → K' v) : ∀ (L : List (Option AV)) (k : Nat) (v : AV), lsetK L k v K → lsetK L k v K'
  | [], _, _, z => z
  | _ :: _, 0, _, z => h _ z
  | o :: r, k + 1, v, z => lsetK_m (K := fun r' => K (o :: r')) (K' := fun r' => K' (o :: r')) (fun _ => h _) r k v z
theorem swc_m {x : Int} {K K' : Nat → Prop} (h : ∀ v, K v → K' v) : ∀ (ts : List Nat) (z : Int), swc x K ts z → swc x K' ts z
  | [], _, _ => trivial
  | _ :: r, z, q => ⟨fun e => h _ (q.1 e), swc_m h r (z + 1) q.2⟩

/-- a static, or a method of the JDK, that the class 'own' links by its number a -/
def StaOK (own : String) (a : Nat) (k : Nat) : Prop := (k = 301 → Cond.methodLink own a Lib.Math.min.name ∈ GWS) ∧ (k = 302 → Cond.methodLink own a Lib.Math.max.name ∈ GWS) ∧ (k = 303 → Cond.methodLink own a arraycopyName ∈ GWS) ∧ (k < 300 → ∃ C n, (k, C, n) ∈ STL ∧ (Cond.fieldLink own a C n "[I" ∈ GWS ∨ ∃ host, Cond.fieldLinkNest own a C n "[I" host ∈ NWS))
/-- a call of a method of an object -/
def CalV (p : Program) (l : Launch) (e : Env) (R : Room) (s : State) (m : MethodId) (args : Array Value) (below : List Frame) (meth : Method) (c : Code) (Q : State → Prop) (nL : Nat) (D : va_G) (cA : Nat → ClassId) (ad : Pl → Nat) (A : Nat → Prop) (cc : ByteArray) (Ψ : String → Sg → Prop) (a n ci : Nat) (Sp : CSp) (mc ms : Nat) : Prop :=
  ∀ (pc : Nat) (L : List (Option AV)) (st avr : List AV) (k0 e0 i0 : Nat) (sl : List (Option (Nat × Nat))) (σ : Sg) (nc ns : Nat) (K : Option AV → Sg → Prop), decode cc pc = .ok (.invokevirtual a, 3) → SH k0 = .inl (ci, sl) → avr.length + 1 = n → st.length ≤ 8 → nc + mc ≤ R.cells → ns + ms ≤ R.slots → Sp (.inr (k0, e0, i0) :: avr) σ K Ψ → (∀ r σ', K r σ' → GW p l e R s m args below meth c Q nL D cA ad A (pc + 3) (L) (pso r st) (σ') (nc + mc) (ns + ms)) → GW p l e R s m args below meth c Q nL D cA ad A (pc) (L) ((Sum.inr (k0, e0, i0) :: avr).reverse ++ st) (σ) (nc) (ns)
/-- a call of a static method -/
def CalS (p : Program) (l : Launch) (e : Env) (R : Room) (s : State) (m : MethodId) (args : Array Value) (below : List Frame) (meth : Method) (c : Code) (Q : State → Prop) (nL : Nat) (D : va_G) (cA : Nat → ClassId) (ad : Pl → Nat) (A : Nat → Prop) (cc : ByteArray) (Ψ : String → Sg → Prop) (a n : Nat) (Sp : CSp) (mc ms : Nat) : Prop :=
  ∀ (pc : Nat) (L : List (Option AV)) (st av : List AV) (σ : Sg) (nc ns : Nat) (K : Option AV → Sg → Prop), decode cc pc = .ok (.invokestatic a, 3) → av.length = n → st.length ≤ 8 → nc + mc ≤ R.cells → ns + ms ≤ R.slots → Sp av σ K Ψ → (∀ r σ', K r σ' → GW p l e R s m args below meth c Q nL D cA ad A (pc + 3) (L) (pso r st) (σ') (nc + mc) (ns + ms)) → GW p l e R s m args below meth c Q nL D cA ad A (pc) (L) (av.reverse ++ st) (σ) (nc) (ns)
def CalOK (p : Program) (l : Launch) (e : Env) (R : Room) (s : State) (m : MethodId) (args : Array Value) (below : List Frame) (meth : Method) (c : Code) (Q : State → Prop) (nL : Nat) (D : va_G) (cA : Nat → ClassId) (ad : Pl → Nat) (A : Nat → Prop) (cc : ByteArray) (Ψ : String → Sg → Prop) (a : Nat) (v : Nat × Nat × CSp × Nat × Nat) : Prop :=
  (v.2.1 = 1000 ∧ CalS p l e R s m args below meth c Q nL D cA ad A cc Ψ a v.1 v.2.2.1 v.2.2.2.1 v.2.2.2.2) ∨ (v.2.1 ≠ 1000 ∧ CalV p l e R s m args below meth c Q nL D cA ad A cc Ψ a v.1 v.2.1 v.2.2.1 v.2.2.2.1 v.2.2.2.2)
/-- the ends of a method -/
def RetI (p : Program) (l : Launch) (e : Env) (R : Room) (s : State) (m : MethodId) (args : Array Value) (below : List Frame) (meth : Method) (c : Code) (Q : State → Prop) (nL : Nat) (D : va_G) (cA : Nat → ClassId) (ad : Pl → Nat) (A : Nat → Prop) (cc : ByteArray) (Φ : Option AV → Sg → Prop) (rt mc ms : Nat) : Prop := ∀ (pc : Nat) (L : List (Option AV)) (x : Int) (σ : Sg) (nc ns : Nat), decode cc pc = .ok (.ireturn, 1) → (rt = 0 ∨ (rt = 1 ∧ (x = 0 ∨ x = 1))) → nc ≤ mc → ns ≤ ms → Φ (some (.inl x)) σ → GW p l e R s m args below meth c Q nL D cA ad A (pc) (L) ([.inl x]) (σ) (nc) (ns)
def RetV (p : Program) (l : Launch) (e : Env) (R : Room) (s : State) (m : MethodId) (args : Array Value) (below : List Frame) (meth : Method) (c : Code) (Q : State → Prop) (nL : Nat) (D : va_G) (cA : Nat → ClassId) (ad : Pl → Nat) (A : Nat → Prop) (cc : ByteArray) (Φ : Option AV → Sg → Prop) (rt mc ms : Nat) : Prop := ∀ (pc : Nat) (L : List (Option AV)) (σ : Sg) (nc ns : Nat), decode cc pc = .ok (.return_, 1) → rt = 2 → nc ≤ mc → ns ≤ ms → Φ none σ → GW p l e R s m args below meth c Q nL D cA ad A (pc) (L) ([]) (σ) (nc) (ns)
def RetA (p : Program) (l : Launch) (e : Env) (R : Room) (s : State) (m : MethodId) (args : Array Value) (below : List Frame) (meth : Method) (c : Code) (Q : State → Prop) (nL : Nat) (D : va_G) (cA : Nat → ClassId) (ad : Pl → Nat) (A : Nat → Prop) (cc : ByteArray) (Φ : Option AV → Sg → Prop) (rt mc ms : Nat) : Prop := ∀ (pc : Nat) (L : List (Option AV)) (x : Pl) (σ : Sg) (nc ns : Nat), decode cc pc = .ok (.areturn, 1) → rt = 3 → nc ≤ mc → ns ≤ ms → Φ (some (.inr x)) σ → GW p l e R s m args below meth c Q nL D cA ad A (pc) (L) ([.inr x]) (σ) (nc) (ns)
/-- a throw goes as it should -/
def ThrG (p : Program) (l : Launch) (e : Env) (R : Room) (s : State) (m : MethodId) (args : Array Value) (below : List Frame) (meth : Method) (c : Code) (Q : State → Prop) (nL : Nat) (D : va_G) (cA : Nat → ClassId) (ad : Pl → Nat) (A : Nat → Prop) (Ψ : String → Sg → Prop) (mc ms : Nat) (q : Ent) : Prop := ∀ (L : List (Option AV)) (st : List AV) (σ : Sg) (nc ns : Nat), st.length ≤ 8 → nc + 1 ≤ mc → ns + 6 ≤ ms → Ψ (exn q.2.2.2.2) σ → GW p l e R s m args below meth c Q nL D cA ad A (q.1) (L) (st) (σ) (nc) (ns)
def okE (q : Ent) : Bool := decide (q.2.1 < 56) && (decide (q.2.1 = 1 → (Int8.ofInt q.2.2.2.1).toInt32 = iI q.2.2.2.1) && (decide (q.2.1 = 2 → (Int16.ofInt q.2.2.2.1).toInt32 = iI q.2.2.2.1) && decide (q.2.1 = 3 ∨ q.2.1 = 5 ∨ q.2.1 = 7 ∨ q.2.1 = 9 → q.2.2.1 < 4)))
theorem okE_sp {q : Ent} (h : okE q = true) : q.2.1 < 56 ∧ (q.2.1 = 1 → (Int8.ofInt q.2.2.2.1).toInt32 = iI q.2.2.2.1) ∧ (q.2.1 = 2 → (Int16.ofInt q.2.2.2.1).toInt32 = iI q.2.2.2.1) ∧ (q.2.1 = 3 ∨ q.2.1 = 5 ∨ q.2.1 = 7 ∨ q.2.1 = 9 → q.2.2.1 < 4) := by
  simp only [okE, Bool.and_eq_true, decide_eq_true_eq] at h
  exact h
theorem takeK_sp {K : List AV → List AV → Prop} : ∀ (n : Nat) (st acc : List AV), takeK K n st acc → ∃ av st', st = av.reverse ++ st' ∧ av.length = n ∧ K (av ++ acc) st'
  | 0, st, acc, h => ⟨[], st, rfl, rfl, h⟩
  | n + 1, [], acc, h => (h : False).elim
  | n + 1, v :: st, acc, h => by
    obtain ⟨av, st', h1, h2, h3⟩ := takeK_sp n st (v :: acc) h
    refine ⟨av ++ [v], st', by rw [h1]; simp, by simp [h2], by simpa using h3⟩
theorem lnthK_sp {α : Type} {K : α → Prop} : ∀ (l : List α) (n : Nat), lnthK K l n → ∃ x, l[n]? = some x ∧ K x
  | [], _, h => (h : False).elim
  | x :: _, 0, h => ⟨x, rfl, h⟩
  | _ :: r, n + 1, h => by
    obtain ⟨x, h1, h2⟩ := lnthK_sp r n h
    exact ⟨x, by simpa using h1, h2⟩
theorem b2p_sp {b : Bool} {P : Prop} (h : b2p b P) : b = true ∧ P := by
  cases b
  · exact (h : False).elim
  · exact ⟨rfl, h⟩
theorem lkK_sp {K : Ent → Prop} : ∀ (l : List Ent) (pc : Nat), lkK K l pc → ∃ q ∈ l, q.1 = pc ∧ K q
  | [], _, h => (h : False).elim
  | q :: r, pc, h => by
    unfold lkK at h
    rcases hb : Nat.beq q.1 pc with _ | _
    · rw [hb] at h
      obtain ⟨x, h1, h2⟩ := lkK_sp r pc h
      exact ⟨x, List.mem_cons_of_mem _ h1, h2⟩
    · rw [hb] at h
      exact ⟨q, List.mem_cons_self, Nat.eq_of_beq_eq_true hb, h⟩
section SND
variable {p : Program} {l : Launch} {e : Env} {R : Room} {s : State} {m : MethodId} {args : Array Value} {below : List Frame} {meth : Method} {c : Code} {Q : State → Prop}
variable {cc : ByteArray} {nL : Nat} {own : String} {D : va_G} {cA : Nat → ClassId} {ad : Pl → Nat} {A : Nat → Prop}
variable {tb : Tb} {Φ : Option AV → Sg → Prop} {Ψ : String → Sg → Prop} {K : KK}
theorem g_gets (C : Cx p s m args c cc nL own D cA ad A) {pc : Nat} {L : List (Option AV)} {st : List AV} {σ : Sg} {nc ns : Nat} {a k : Nat} (hk : k < 300) (hG : StaOK own a k) (hd : decode cc pc = .ok (.getstatic a, 3)) (h : GW p l e R s m args below meth c Q nL D cA ad A (pc + 3) (L) (.inr (k, 0, 0) :: st) (σ) (nc) (ns)) : GW p l e R s m args below meth c Q nL D cA ad A (pc) (L) (st) (σ) (nc) (ns) := by
  intro o1 o2 o3 H locs ls hP hS hl
  obtain ⟨C9, n9, h1, h2⟩ := hG.2.2.2 hk
  have hST := C.2.2.2.2.2.2.2.2
  have hz := (hST.1 _ h1).1
  have hk2 := h o1 (okS_p (STL_ok _ h1) o2) o3 H locs ls hP hS hl
  rcases h2 with h2 | ⟨host, h2⟩
  · exact va_gets C.1 C.2.1 hz hS C.2.2.2.1 (C.2.2.2.2.1 _ h2) (fun _ h9 => h9) hd hk2
  · exact va_getsN C.1 C.2.1 hz hS C.2.2.2.1 (va_Nw.use (NWS_on _ h2) (hST.2.1 _ h2)) (fun _ h9 => h9) hd hk2
set_option maxHeartbeats 4000000 in
theorem stp_sound (C : Cx p s m args c cc nL own D cA ad A) (hF : ∀ a v, tb.1 a = some v → FldOK own a v) (hG : ∀ a k, tb.2.1 a = some k → StaOK own a k) (hC : ∀ a v, tb.2.2.1 a = some v → CalOK p l e R s m args below meth c Q nL D cA ad A cc Ψ a v)
    (hR : (∀ a k, tb.2.1 a = some k → 300 ≤ k → 1 ≤ R.frames ∧ 26 ≤ R.locals) ∧ tb.2.2.2.2.2.1 ≤ R.cells ∧ tb.2.2.2.2.2.2 ≤ R.slots) (rI : RetI p l e R s m args below meth c Q nL D cA ad A cc Φ tb.2.2.2.2.1 tb.2.2.2.2.2.1 tb.2.2.2.2.2.2) (rV : RetV p l e R s m args below meth c Q nL D cA ad A cc Φ tb.2.2.2.2.1 tb.2.2.2.2.2.1 tb.2.2.2.2.2.2) (rA : RetA p l e R s m args below meth c Q nL D cA ad A cc Φ tb.2.2.2.2.1 tb.2.2.2.2.2.1 tb.2.2.2.2.2.2)
    (hK : ∀ pc L st σ nc ns, K pc L st σ nc ns → GW p l e R s m args below meth c Q nL D cA ad A (pc) (L) (st) (σ) (nc) (ns)) (q : Ent) (hT : q.2.1 = 55 → ThrG p l e R s m args below meth c Q nL D cA ad A Ψ tb.2.2.2.2.2.1 tb.2.2.2.2.2.2 q) (hq : decode cc q.1 = .ok (dec tb.2.2.2.1 q)) (ho : okE q = true) {L : List (Option AV)} {st : List AV} {σ : Sg} {nc ns : Nat} (h : stp tb Φ Ψ K q L st σ nc ns) : GW p l e R s m args below meth c Q nL D cA ad A (q.1) (L) (st) (σ) (nc) (ns) := by
  obtain ⟨pc, op, a, b, tg⟩ := q
  have hlt : op < 56 := (okE_sp ho).1
  have hcase : op = 0 ∨ op = 1 ∨ op = 2 ∨ op = 3 ∨ op = 4 ∨ op = 5 ∨ op = 6 ∨ op = 7 ∨ op = 8 ∨ op = 9 ∨ op = 10 ∨ op = 11 ∨ op = 12 ∨ op = 13 ∨ op = 14 ∨ op = 15 ∨ op = 16 ∨ op = 17 ∨ op = 18 ∨ op = 19 ∨ op = 20 ∨ op = 21 ∨ op = 22 ∨ op = 23 ∨ op = 24 ∨ op = 25 ∨ op = 26 ∨ op = 27 ∨ op = 28 ∨ op = 29 ∨ op = 30 ∨ op = 31 ∨ op = 32 ∨ op = 33 ∨ op = 34 ∨ op = 35 ∨ op = 36 ∨ op = 37 ∨ op = 38 ∨ op = 39 ∨ op = 40 ∨ op = 41 ∨ op = 42 ∨ op = 43 ∨ op = 44 ∨ op = 45 ∨ op = 46 ∨ op = 47 ∨ op = 48 ∨ op = 49 ∨ op = 50 ∨ op = 51 ∨ op = 52 ∨ op = 53 ∨ op = 54 ∨ op = 55 := by omega
  clear hlt
  rcases hcase with rfl | rfl | rfl | rfl | rfl | rfl | rfl | rfl | rfl | rfl | rfl | rfl | rfl | rfl | rfl | rfl | rfl | rfl | rfl | rfl | rfl | rfl | rfl | rfl | rfl | rfl | rfl | rfl | rfl | rfl | rfl | rfl | rfl | rfl | rfl | rfl | rfl | rfl | rfl | rfl | rfl | rfl | rfl | rfl | rfl | rfl | rfl | rfl | rfl | rfl | rfl | rfl | rfl | rfl | rfl | rfl
  · -- 0
    exact g_iconst C hq (hK _ _ _ _ _ _ h)
  · -- 1
    exact g_bipush C hq ((okE_sp ho).2.1 rfl) (hK _ _ _ _ _ _ h)
  · -- 2
    exact g_sipush C hq ((okE_sp ho).2.2.1 rfl) (hK _ _ _ _ _ _ h)
  · -- 3
    refine g_iload_n C ((okE_sp ho).2.2.2 (by simp)) hq ?_
    refine lgetK_m (fun v hv => ?_) L a h
    rcases v with x | x
    · exact hK _ _ _ _ _ _ hv
    · exact (hv : False).elim
  · -- 4
    refine g_iload C hq ?_
    refine lgetK_m (fun v hv => ?_) L a h
    rcases v with x | x
    · exact hK _ _ _ _ _ _ hv
    · exact (hv : False).elim
  · -- 5
    refine g_aload_n C ((okE_sp ho).2.2.2 (by simp)) hq ?_
    refine lgetK_m (fun v hv => ?_) L a h
    rcases v with x | x
    · exact (hv : False).elim
    · exact hK _ _ _ _ _ _ hv
  · -- 6
    refine g_aload C hq ?_
    refine lgetK_m (fun v hv => ?_) L a h
    rcases v with x | x
    · exact (hv : False).elim
    · exact hK _ _ _ _ _ _ hv
  · -- 7
    rcases st with _ | ⟨x | x, st⟩
    · exact (h : False).elim
    · exact g_istore_n C ((okE_sp ho).2.2.2 (by simp)) hq (lsetK_m (fun L hv => hK _ _ _ _ _ _ hv) L a _ h)
    · exact (h : False).elim
  · -- 8
    rcases st with _ | ⟨x | x, st⟩
    · exact (h : False).elim
    · exact g_istore C hq (lsetK_m (fun L hv => hK _ _ _ _ _ _ hv) L a _ h)
    · exact (h : False).elim
  · -- 9
    rcases st with _ | ⟨x | x, st⟩
    · exact (h : False).elim
    · exact (h : False).elim
    · exact g_astore_n C ((okE_sp ho).2.2.2 (by simp)) hq (lsetK_m (fun L hv => hK _ _ _ _ _ _ hv) L a _ h)
  · -- 10
    rcases st with _ | ⟨x | x, st⟩
    · exact (h : False).elim
    · exact (h : False).elim
    · exact g_astore C hq (lsetK_m (fun L hv => hK _ _ _ _ _ _ hv) L a _ h)
  · -- 11
    refine g_iinc C hq ?_
    refine lgetK_m (fun v hv => ?_) L a h
    rcases v with x | x
    · exact lsetK_m (fun L hv => hK _ _ _ _ _ _ hv) L a _ hv
    · exact (hv : False).elim
  · -- 12
    rcases st with _ | ⟨y | y, _ | ⟨x | x, st⟩⟩
    all_goals first | exact (h : False).elim | exact g_iadd C hq (hK _ _ _ _ _ _ h)
  · -- 13
    rcases st with _ | ⟨y | y, _ | ⟨x | x, st⟩⟩
    all_goals first | exact (h : False).elim | exact g_isub C hq (hK _ _ _ _ _ _ h)
  · -- 14
    rcases st with _ | ⟨y | y, _ | ⟨x | x, st⟩⟩
    all_goals first | exact (h : False).elim | exact g_imul C hq (hK _ _ _ _ _ _ h)
  · -- 15
    rcases st with _ | ⟨x | x, st⟩
    all_goals first | exact (h : False).elim | exact g_ineg C hq (hK _ _ _ _ _ _ h)
  · -- 16
    rcases st with _ | ⟨y | y, _ | ⟨x | x, st⟩⟩
    all_goals first | exact (h : False).elim | exact g_idiv C hq (And.left h) (hK _ _ _ _ _ _ (And.right h))
  · -- 17
    rcases st with _ | ⟨y | y, _ | ⟨x | x, st⟩⟩
    all_goals first | exact (h : False).elim | exact g_irem C hq (And.left h) (hK _ _ _ _ _ _ (And.right h))
  · -- 18
    rcases st with _ | ⟨y | y, _ | ⟨x | x, st⟩⟩
    all_goals first | exact (h : False).elim | exact g_iand C hq (hK _ _ _ _ _ _ h)
  · -- 19
    rcases st with _ | ⟨y | y, _ | ⟨x | x, st⟩⟩
    all_goals first | exact (h : False).elim | exact g_ior C hq (hK _ _ _ _ _ _ h)
  · -- 20
    rcases st with _ | ⟨y | y, _ | ⟨x | x, st⟩⟩
    all_goals first | exact (h : False).elim | exact g_ixor C hq (hK _ _ _ _ _ _ h)
  · -- 21
    rcases st with _ | ⟨y | y, _ | ⟨x | x, st⟩⟩
    all_goals first | exact (h : False).elim | exact g_ishl C hq (hK _ _ _ _ _ _ h)
  · -- 22
    rcases st with _ | ⟨y | y, _ | ⟨x | x, st⟩⟩
    all_goals first | exact (h : False).elim | exact g_ishr C hq (hK _ _ _ _ _ _ h)
  · -- 23
    rcases st with _ | ⟨x, st⟩
    · exact (h : False).elim
    · exact g_dup C hq (hK _ _ _ _ _ _ h)
  · -- 24
    rcases st with _ | ⟨x, st⟩
    · exact (h : False).elim
    · exact g_pop C hq (hK _ _ _ _ _ _ h)
  · -- 25
    rcases st with _ | ⟨x, _ | ⟨y, st⟩⟩
    · exact (h : False).elim
    · exact (h : False).elim
    · exact g_dup2 C hq (hK _ _ _ _ _ _ h)
  · -- 26
    rcases st with _ | ⟨x | x, st⟩
    all_goals first | exact (h : False).elim | exact g_if_eq C hq (by omega) ⟨fun z => hK _ _ _ _ _ _ (And.left h z), fun z => hK _ _ _ _ _ _ (And.right h z)⟩
  · -- 27
    rcases st with _ | ⟨x | x, st⟩
    all_goals first | exact (h : False).elim | exact g_if_ne C hq (by omega) ⟨fun z => hK _ _ _ _ _ _ (And.left h z), fun z => hK _ _ _ _ _ _ (And.right h z)⟩
  · -- 28
    rcases st with _ | ⟨x | x, st⟩
    all_goals first | exact (h : False).elim | exact g_if_lt C hq (by omega) ⟨fun z => hK _ _ _ _ _ _ (And.left h z), fun z => hK _ _ _ _ _ _ (And.right h z)⟩
  · -- 29
    rcases st with _ | ⟨x | x, st⟩
    all_goals first | exact (h : False).elim | exact g_if_ge C hq (by omega) ⟨fun z => hK _ _ _ _ _ _ (And.left h z), fun z => hK _ _ _ _ _ _ (And.right h z)⟩
  · -- 30
    rcases st with _ | ⟨x | x, st⟩
    all_goals first | exact (h : False).elim | exact g_if_gt C hq (by omega) ⟨fun z => hK _ _ _ _ _ _ (And.left h z), fun z => hK _ _ _ _ _ _ (And.right h z)⟩
  · -- 31
    rcases st with _ | ⟨x | x, st⟩
    all_goals first | exact (h : False).elim | exact g_if_le C hq (by omega) ⟨fun z => hK _ _ _ _ _ _ (And.left h z), fun z => hK _ _ _ _ _ _ (And.right h z)⟩
  · -- 32
    rcases st with _ | ⟨y | y, _ | ⟨x | x, st⟩⟩
    all_goals first | exact (h : False).elim | exact g_icmp_eq C hq (by omega) ⟨fun z => hK _ _ _ _ _ _ (And.left h z), fun z => hK _ _ _ _ _ _ (And.right h z)⟩
  · -- 33
    rcases st with _ | ⟨y | y, _ | ⟨x | x, st⟩⟩
    all_goals first | exact (h : False).elim | exact g_icmp_ne C hq (by omega) ⟨fun z => hK _ _ _ _ _ _ (And.left h z), fun z => hK _ _ _ _ _ _ (And.right h z)⟩
  · -- 34
    rcases st with _ | ⟨y | y, _ | ⟨x | x, st⟩⟩
    all_goals first | exact (h : False).elim | exact g_icmp_lt C hq (by omega) ⟨fun z => hK _ _ _ _ _ _ (And.left h z), fun z => hK _ _ _ _ _ _ (And.right h z)⟩
  · -- 35
    rcases st with _ | ⟨y | y, _ | ⟨x | x, st⟩⟩
    all_goals first | exact (h : False).elim | exact g_icmp_ge C hq (by omega) ⟨fun z => hK _ _ _ _ _ _ (And.left h z), fun z => hK _ _ _ _ _ _ (And.right h z)⟩
  · -- 36
    rcases st with _ | ⟨y | y, _ | ⟨x | x, st⟩⟩
    all_goals first | exact (h : False).elim | exact g_icmp_gt C hq (by omega) ⟨fun z => hK _ _ _ _ _ _ (And.left h z), fun z => hK _ _ _ _ _ _ (And.right h z)⟩
  · -- 37
    rcases st with _ | ⟨y | y, _ | ⟨x | x, st⟩⟩
    all_goals first | exact (h : False).elim | exact g_icmp_le C hq (by omega) ⟨fun z => hK _ _ _ _ _ _ (And.left h z), fun z => hK _ _ _ _ _ _ (And.right h z)⟩
  · -- 38
    exact g_goto C hq (by omega) (hK _ _ _ _ _ _ h)
  · -- 39
    simp only [stp] at h
    rcases hf : tb.1 a with _ | ⟨ci, j, ty⟩
    · rw [hf] at h; exact h.elim
    rw [hf] at h
    rcases st with _ | ⟨x | ⟨k, e', i⟩, st⟩
    · exact (h : False).elim
    · exact (h : False).elim
    simp only [] at h
    rcases hs : SH k with ⟨ci', sl⟩ | z
    · rw [hs] at h
      obtain ⟨h1, h2⟩ := b2p_sp h
      have h1 := Nat.eq_of_beq_eq_true h1
      subst h1
      obtain ⟨o, h3, h4⟩ := lnthK_sp _ _ h2
      rcases o with _ | t
      · obtain ⟨h5, h6⟩ := b2p_sp h4
        exact g_get C (hF _ _ hf) hq hs (v := .inl (σ k e' i j)) (slv_int h3) (fun _ => trivial) (hK _ _ _ _ _ _ h6)
      · obtain ⟨h5, h6⟩ := b2p_sp h4
        exact g_get C (hF _ _ hf) hq hs (v := .inr (tgt t e' i j)) (slv_ref h3) (fun z => SH_o hs h3 z) (hK _ _ _ _ _ _ h6)
    · rw [hs] at h; exact h.elim
  · -- 40
    simp only [stp] at h
    rcases hf : tb.1 a with _ | ⟨ci, j, ty⟩
    · rw [hf] at h; exact h.elim
    rw [hf] at h
    rcases st with _ | ⟨x | x, _ | ⟨y | ⟨k, e', i⟩, st⟩⟩
    · exact (h : False).elim
    · exact (h : False).elim
    · exact (h : False).elim
    · simp only [] at h
      rcases hs : SH k with ⟨ci', sl⟩ | z
      · rw [hs] at h
        obtain ⟨h1, h2⟩ := b2p_sp h
        have h1 := Nat.eq_of_beq_eq_true h1
        subst h1
        obtain ⟨o, h3, h4⟩ := lnthK_sp _ _ h2
        rcases o with _ | t
        · rcases ty with _ | _ | ty
          · exact g_put C (hF _ _ hf) hq hs h3 (Or.inl rfl) (hK _ _ _ _ _ _ h4)
          · exact g_put C (hF _ _ hf) hq hs h3 (Or.inr ⟨rfl, And.left h4⟩) (hK _ _ _ _ _ _ (And.right h4))
          · exact (h4 : False).elim
        · exact (h4 : False).elim
      · rw [hs] at h; exact h.elim
    all_goals exact (h : False).elim
  · -- 41
    rcases st with _ | ⟨x | x, _ | ⟨y | ⟨k, e', i⟩, st⟩⟩
    · exact (h : False).elim
    · exact (h : False).elim
    · exact (h : False).elim
    · simp only [stp] at h
      rcases hs : SH k with z | ⟨t, n, r⟩
      · rw [hs] at h; exact h.elim
      · rw [hs] at h
        split at h
        · rename_i heq; cases heq
        · rename_i heq; cases heq; exact g_iald C hq hs h.1 (hK _ _ _ _ _ _ h.2)
        · rename_i heq; cases heq; exact g_sald C hq hs h.1 (hK _ _ _ _ _ _ h.2)
        · exact h.elim
    all_goals exact (h : False).elim
  · -- 42
    rcases st with _ | ⟨v | v, _ | ⟨x | x, _ | ⟨y | ⟨k, e', i⟩, st⟩⟩⟩
    · exact (h : False).elim
    · exact (h : False).elim
    · exact (h : False).elim
    · exact (h : False).elim
    · simp only [stp] at h
      rcases hs : SH k with z | ⟨t, n, r⟩
      · rw [hs] at h; exact h.elim
      · rw [hs] at h
        split at h
        · rename_i heq; cases heq
        · rename_i heq; cases heq; exact g_iast C hq hs h.1 (hK _ _ _ _ _ _ h.2)
        · exact h.elim
    all_goals exact (h : False).elim
  · -- 43
    rcases st with _ | ⟨x | x, _ | ⟨y | ⟨k, e', i⟩, st⟩⟩
    · exact (h : False).elim
    · exact (h : False).elim
    · exact (h : False).elim
    · simp only [stp] at h
      rcases hs : SH k with z | ⟨t, n, r⟩
      · rw [hs] at h; exact h.elim
      · rw [hs] at h
        split at h
        · rename_i heq; cases heq
        · rename_i heq; cases heq; obtain ⟨h1, h2⟩ := b2p_sp h; exact g_aald C hq hs (Nat.le_of_ble_eq_true h1) h2.1 (hK _ _ _ _ _ _ h2.2)
        · exact h.elim
    all_goals exact (h : False).elim
  · -- 44
    rcases st with _ | ⟨x | ⟨k, e', i⟩, st⟩
    · exact (h : False).elim
    · exact (h : False).elim
    · simp only [stp] at h
      rcases hs : SH k with z | ⟨t, n, r⟩
      · rw [hs] at h; exact h.elim
      · rw [hs] at h
        exact g_alen C hq hs (hK _ _ _ _ _ _ h)
  · -- 45
    simp only [stp] at h
    rcases hf : tb.2.1 a with _ | k
    · rw [hf] at h; exact h.elim
    · rw [hf] at h
      obtain ⟨h1, h2⟩ := b2p_sp h
      exact g_gets C (Nat.lt_of_lt_of_le (Nat.lt_succ_self _) (Nat.le_of_ble_eq_true h1)) (hG _ _ hf) hq (hK _ _ _ _ _ _ h2)
  · -- 46
    simp only [stp] at h
    rcases hf : tb.2.2.1 a with _ | ⟨n, ci, Sp, mc, ms⟩
    · rw [hf] at h; exact h.elim
    · rw [hf] at h
      obtain ⟨av, st', h1, h2, h3⟩ := takeK_sp n st [] h
      rw [List.append_nil] at h3
      obtain ⟨h4, h5⟩ := b2p_sp h3
      simp only [Bool.and_eq_true] at h4
      have z1 := Nat.le_of_ble_eq_true h4.1
      have z2 := Nat.le_of_ble_eq_true h4.2.1
      have z3 := Nat.le_of_ble_eq_true h4.2.2
      rcases av with _ | ⟨x | ⟨k0, e0, i0⟩, avr⟩
      · exact (h5 : False).elim
      · exact (h5 : False).elim
      simp only [] at h5
      rcases hs : SH k0 with ⟨ci', sl⟩ | z
      · rw [hs] at h5
        obtain ⟨h6, h7⟩ := b2p_sp h5
        have h6 := Nat.eq_of_beq_eq_true h6
        subst h6
        rcases hC a _ hf with ⟨g1, -⟩ | ⟨-, g2⟩
        · exact absurd g1 (SH_c hs)
        · rw [h1]
          exact g2 pc L st' avr k0 e0 i0 sl σ nc ns _ hq hs h2 z1 (Nat.le_trans z2 hR.2.1) (Nat.le_trans z3 hR.2.2) h7 (fun r σ' hv => hK _ _ _ _ _ _ hv)
      · rw [hs] at h5; exact h5.elim
  · -- 47
    simp only [stp] at h
    rcases hf : tb.2.2.1 a with _ | ⟨n, ci, Sp, mc, ms⟩
    · rw [hf] at h; exact h.elim
    · rw [hf] at h
      obtain ⟨av, st', h1, h2, h3⟩ := takeK_sp n st [] h
      rw [List.append_nil] at h3
      obtain ⟨h4, h5⟩ := b2p_sp h3
      have z0 : ci = 1000 := by
        simp only [Bool.and_eq_true] at h4
        exact Nat.eq_of_beq_eq_true h4.1
      have h4 := ((Bool.and_eq_true _ _).mp h4).2
      simp only [Bool.and_eq_true] at h4
      have z1 := Nat.le_of_ble_eq_true h4.1
      have z2 := Nat.le_of_ble_eq_true h4.2.1
      have z3 := Nat.le_of_ble_eq_true h4.2.2
      rcases hC a _ hf with ⟨-, g2⟩ | ⟨g1, -⟩
      · rw [h1]
        exact g2 pc L st' av σ nc ns _ hq h2 z1 (Nat.le_trans z2 hR.2.1) (Nat.le_trans z3 hR.2.2) h5 (fun r σ' hv => hK _ _ _ _ _ _ hv)
      · exact absurd z0 g1
  · -- 48
    simp only [stp] at h
    rcases st with _ | ⟨x | x, _ | ⟨y, st⟩⟩
    · exact (h : False).elim
    · obtain ⟨h1, h2⟩ := b2p_sp h
      simp only [Bool.and_eq_true] at h1
      have z1 := Nat.le_of_ble_eq_true h1.1
      have z2 := Nat.le_of_ble_eq_true h1.2
      rcases hrt : tb.2.2.2.2.1 with _ | _ | rt
      · rw [hrt] at h2; exact rI pc L x σ nc ns hq (Or.inl hrt) z1 z2 h2
      · rw [hrt] at h2; exact rI pc L x σ nc ns hq (Or.inr ⟨hrt, h2.1⟩) z1 z2 h2.2
      · rw [hrt] at h2; exact (h2 : False).elim
    all_goals exact (h : False).elim
  · -- 49
    simp only [stp] at h
    rcases st with _ | ⟨x, st⟩
    · obtain ⟨h1, h2⟩ := b2p_sp h
      simp only [Bool.and_eq_true] at h1
      exact rV pc L σ nc ns hq (Nat.eq_of_beq_eq_true h1.1) (Nat.le_of_ble_eq_true h1.2.1) (Nat.le_of_ble_eq_true h1.2.2) h2
    · exact (h : False).elim
  · -- 50
    simp only [stp] at h
    rcases st with _ | ⟨x | x, _ | ⟨y, st⟩⟩
    · exact (h : False).elim
    · exact (h : False).elim
    · exact (h : False).elim
    · obtain ⟨h1, h2⟩ := b2p_sp h
      simp only [Bool.and_eq_true] at h1
      exact rA pc L x σ nc ns hq (Nat.eq_of_beq_eq_true h1.1) (Nat.le_of_ble_eq_true h1.2.1) (Nat.le_of_ble_eq_true h1.2.2) h2
    · exact (h : False).elim
  · -- 51
    simp only [stp] at h
    rcases hf : tb.2.2.2.1[a]? with _ | ⟨lo, ts, df, len⟩
    · rw [hf] at h; exact h.elim
    · rw [hf] at h
      rcases st with _ | ⟨x | x, st⟩
      · exact (h : False).elim
      · simp only [dec, hf] at hq
        exact g_switch C hq ⟨swc_m (fun t ht => hK _ _ _ _ _ _ ht) ts lo h.1, fun z => hK _ _ _ _ _ _ (h.2 z)⟩
      · exact (h : False).elim
  · -- 52
    simp only [stp] at h
    rcases hf : tb.2.1 a with _ | k
    · rw [hf] at h; exact h.elim
    · rw [hf] at h
      split at h
      · rename_i heq; cases heq
        rcases st with _ | ⟨y | y, _ | ⟨x | x, st⟩⟩
        · exact (h : False).elim
        · exact (h : False).elim
        · obtain ⟨h1, h2⟩ := b2p_sp h
          simp only [Bool.and_eq_true] at h1
          exact g_mmin C ((hG _ _ hf).1 rfl) ⟨(hR.1 _ _ hf (by decide)).1, (hR.1 _ _ hf (by decide)).2, Nat.le_trans (Nat.le_of_ble_eq_true h1.2.1) hR.2.1, Nat.le_trans (Nat.le_of_ble_eq_true h1.2.2) hR.2.2⟩ (Nat.le_of_ble_eq_true h1.1) hq (hK _ _ _ _ _ _ h2)
        all_goals exact (h : False).elim
      · exact h.elim
  · -- 53
    simp only [stp] at h
    rcases hf : tb.2.1 a with _ | k
    · rw [hf] at h; exact h.elim
    · rw [hf] at h
      split at h
      · rename_i heq; cases heq
        rcases st with _ | ⟨y | y, _ | ⟨x | x, st⟩⟩
        · exact (h : False).elim
        · exact (h : False).elim
        · obtain ⟨h1, h2⟩ := b2p_sp h
          simp only [Bool.and_eq_true] at h1
          exact g_mmax C ((hG _ _ hf).2.1 rfl) ⟨(hR.1 _ _ hf (by decide)).1, (hR.1 _ _ hf (by decide)).2, Nat.le_trans (Nat.le_of_ble_eq_true h1.2.1) hR.2.1, Nat.le_trans (Nat.le_of_ble_eq_true h1.2.2) hR.2.2⟩ (Nat.le_of_ble_eq_true h1.1) hq (hK _ _ _ _ _ _ h2)
        all_goals exact (h : False).elim
      · exact h.elim
  · -- 54
    simp only [stp] at h
    rcases hf : tb.2.1 a with _ | k
    · rw [hf] at h; exact h.elim
    · rw [hf] at h
      split at h
      · rename_i heq; cases heq
        split at h
        · rename_i n dp kd ed id sp ks es is st'
          split at h
          · rename_i n0 r0 n1 r1 hs0 hs1
            obtain ⟨h1, h2⟩ := b2p_sp h
            exact g_copy C ((hG _ _ hf).2.2.1 rfl) (hR.1 _ _ hf (by decide)) (Nat.le_of_ble_eq_true h1) hs0 hs1 h2.1 hq (hK _ _ _ _ _ _ h2.2)
          · exact h.elim
        · exact h.elim
      · exact h.elim
  · -- 55
    simp only [stp] at h
    obtain ⟨h1, h2⟩ := b2p_sp h
    simp only [Bool.and_eq_true] at h1
    exact hT rfl L st σ nc ns (Nat.le_of_ble_eq_true h1.1) (Nat.le_of_ble_eq_true h1.2.1) (Nat.le_of_ble_eq_true h1.2.2) h2
theorem wp_sound (C : Cx p s m args c cc nL own D cA ad A) (hF : ∀ a v, tb.1 a = some v → FldOK own a v) (hG : ∀ a k, tb.2.1 a = some k → StaOK own a k) (hC : ∀ a v, tb.2.2.1 a = some v → CalOK p l e R s m args below meth c Q nL D cA ad A cc Ψ a v)
    (hR : (∀ a k, tb.2.1 a = some k → 300 ≤ k → 1 ≤ R.frames ∧ 26 ≤ R.locals) ∧ tb.2.2.2.2.2.1 ≤ R.cells ∧ tb.2.2.2.2.2.2 ≤ R.slots) (rI : RetI p l e R s m args below meth c Q nL D cA ad A cc Φ tb.2.2.2.2.1 tb.2.2.2.2.2.1 tb.2.2.2.2.2.2) (rV : RetV p l e R s m args below meth c Q nL D cA ad A cc Φ tb.2.2.2.2.1 tb.2.2.2.2.2.1 tb.2.2.2.2.2.2) (rA : RetA p l e R s m args below meth c Q nL D cA ad A cc Φ tb.2.2.2.2.1 tb.2.2.2.2.2.1 tb.2.2.2.2.2.2)
    {pr : List Ent} {stops : List Nat} {Z : KK} (hpr : ∀ q ∈ pr, decode cc q.1 = .ok (dec tb.2.2.2.1 q) ∧ okE q = true) (hT : ∀ q ∈ pr, q.2.1 = 55 → ThrG p l e R s m args below meth c Q nL D cA ad A Ψ tb.2.2.2.2.2.1 tb.2.2.2.2.2.2 q) (hZ : ∀ pc L st σ nc ns, Z pc L st σ nc ns → GW p l e R s m args below meth c Q nL D cA ad A (pc) (L) (st) (σ) (nc) (ns)) : ∀ (f pc : Nat) (L : List (Option AV)) (st : List AV) (σ : Sg) (nc ns : Nat), wp tb Φ Ψ pr stops Z f pc L st σ nc ns → GW p l e R s m args below meth c Q nL D cA ad A (pc) (L) (st) (σ) (nc) (ns)
  | 0, _, _, _, _, _, _, h => (h : False).elim
  | f + 1, pc, L, st, σ, nc, ns, h => by
    obtain ⟨q, h1, h2, h3⟩ := lkK_sp pr pc h
    subst h2
    refine stp_sound C hF hG hC hR rI rV rA (K := fun pc L st σ nc ns => match elemN stops pc with
      | true => Z pc L st σ nc ns
      | false => wp tb Φ Ψ pr stops Z f pc L st σ nc ns) (fun pc L st σ nc ns hv => ?_) q (hT q h1) (hpr q h1).1 (hpr q h1).2 h3
    rcases hb : elemN stops pc with _ | _
    · simp only [hb] at hv
      exact wp_sound C hF hG hC hR rI rV rA hpr hT hZ f pc L st σ nc ns hv
    · simp only [hb] at hv
      exact hZ pc L st σ nc ns hv
end SND
