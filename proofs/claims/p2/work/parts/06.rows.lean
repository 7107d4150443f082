
/-! what holds all through a method's run -/
def Cx (p : Program) (s : State) (m : MethodId) (args : Array Value) (c : Code) (cc : ByteArray) (nL : Nat) (own : String) (D : va_G) (cA : Nat → ClassId) (ad : Pl → Nat) (A : Nat → Prop) : Prop :=
  p.tables.exec = Jvm.exec ∧ c.code = cc ∧ c.maxLocals = nL ∧ s.vm.findClass own = some m.cls ∧ (∀ w ∈ GWS, w.before args s = true) ∧ va_K D vwCl (TY cA) s ∧ (∀ σ, va_D A (wl ad cA σ)) ∧ (∀ q, s.heap.size ≤ q → A q) ∧ STt ad A s
/-- from an abstract state on, the machine comes to Q -/
def GW (p : Program) (l : Launch) (e : Env) (R : Room) (s : State) (m : MethodId) (args : Array Value) (below : List Frame) (meth : Method) (c : Code) (Q : State → Prop) (nL : Nat) (D : va_G) (cA : Nat → ClassId) (ad : Pl → Nat) (A : Nat → Prop) (pc : Nat) (L : List (Option AV)) (st : List AV) (σ : Sg) (nc ns : Nat) : Prop :=
  okL L → okS st → L.length = nL → ∀ (H : Heap) (locs : List Loc) (ls : Array Slot), va_P D vwCl (wl ad cA σ) H → va_S A s.heap H locs → lv_has ls nL (prs ad 0 L) → W p l e R s m args below meth c H locs nc ns Q (F0 m pc ls (st.map (cv ad)))
theorem okS_c {v : AV} {st : List AV} (h : okS (v :: st)) : okv v ∧ okS st := ⟨h v List.mem_cons_self, fun w hw => h w (List.mem_cons_of_mem _ hw)⟩
theorem okS_p {v : AV} {st : List AV} (hv : okv v) (h : okS st) : okS (v :: st) := fun w hw => by
  rcases List.mem_cons.mp hw with e | e
  · rw [e]; exact hv
  · exact h w e
theorem okS_i {x : Int} {st : List AV} (h : okS st) : okS (.inl x :: st) := okS_p trivial h
theorem okS_i2 {x y : Int} {st : List AV} (h : okS (.inl y :: .inl x :: st)) : okS st := (okS_c (okS_c h).2).2
/-- a valid place of the world: its cell -/
theorem wl_ok {ad : Pl → Nat} {cA : Nat → ClassId} {σ : Sg} {k e i : Nat} (h : okv (.inr (k, e, i))) (hn : isSt k = false) : ∃ n : Nat, PLs[n]? = some (k, e, i) ∧ (wl ad cA σ)[n]? = some (ad (k, e, i), cel ad cA (k, e, i) (σ k e i)) := by
  obtain ⟨n, hn⟩ := List.mem_iff_getElem?.mp (PL_mem k e i h.1 h.2 hn)
  exact ⟨n, hn, wl_at hn⟩
theorem cel_o {ad : Pl → Nat} {cA : Nat → ClassId} {k e i ci : Nat} {sl : List (Option (Nat × Nat))} {f : Nat → Int} (h : SH k = .inl (ci, sl)) : cel ad cA (k, e, i) f = .inr (ci, slv ad f e i sl) := by
  simp only [cel, h]
theorem cel_i {ad : Pl → Nat} {cA : Nat → ClassId} {k e i n : Nat} {r : Nat × Nat} {f : Nat → Int} (h : SH k = .inr (0, n, r)) : cel ad cA (k, e, i) f = .inl (cA 0, n, .inl (fun j => iI (f j))) := by
  simp only [cel, h]
theorem cel_r {ad : Pl → Nat} {cA : Nat → ClassId} {k e i n t : Nat} {r : Nat × Nat} {f : Nat → Int} (h : SH k = .inr (t + 2, n, r)) : cel ad cA (k, e, i) f = .inl (cA (t + 2), n, .inr (.inr (.inr (.inr (fun j => some (ad (tgt r e i j))))))) := by
  simp only [cel, h]
section GR
variable {p : Program} {l : Launch} {e : Env} {R : Room} {s : State} {m : MethodId} {args : Array Value} {below : List Frame} {meth : Method} {c : Code} {Q : State → Prop}
variable {cc : ByteArray} {nL : Nat} {own : String} {D : va_G} {cA : Nat → ClassId} {ad : Pl → Nat} {A : Nat → Prop} {pc : Nat} {L : List (Option AV)} {st : List AV} {σ : Sg} {nc ns : Nat}
theorem g_iconst (C : Cx p s m args c cc nL own D cA ad A) {b : Int} (hd : decode cc pc = .ok (.iconst b, 1)) (h : GW p l e R s m args below meth c Q nL D cA ad A (pc + 1) (L) (.inl b :: st) (σ) (nc) (ns)) : GW p l e R s m args below meth c Q nL D cA ad A (pc) (L) (st) (σ) (nc) (ns) :=
  fun o1 o2 o3 H locs ls hP hS hl => lv_iconst (v := iI b) C.1 C.2.1 hd rfl (h o1 (okS_i o2) o3 H locs ls hP hS hl)
theorem g_bipush (C : Cx p s m args c cc nL own D cA ad A) {b : Int} (hd : decode cc pc = .ok (.bipush b, 2)) (hv : (Int8.ofInt b).toInt32 = iI b) (h : GW p l e R s m args below meth c Q nL D cA ad A (pc + 2) (L) (.inl b :: st) (σ) (nc) (ns)) : GW p l e R s m args below meth c Q nL D cA ad A (pc) (L) (st) (σ) (nc) (ns) :=
  fun o1 o2 o3 H locs ls hP hS hl => lv_bipush (v := iI b) C.1 C.2.1 hd hv (h o1 (okS_i o2) o3 H locs ls hP hS hl)
theorem g_sipush (C : Cx p s m args c cc nL own D cA ad A) {b : Int} (hd : decode cc pc = .ok (.sipush b, 3)) (hv : (Int16.ofInt b).toInt32 = iI b) (h : GW p l e R s m args below meth c Q nL D cA ad A (pc + 3) (L) (.inl b :: st) (σ) (nc) (ns)) : GW p l e R s m args below meth c Q nL D cA ad A (pc) (L) (st) (σ) (nc) (ns) :=
  fun o1 o2 o3 H locs ls hP hS hl => lv_sipush (v := iI b) C.1 C.2.1 hd hv (h o1 (okS_i o2) o3 H locs ls hP hS hl)
theorem g_iload_n (C : Cx p s m args c cc nL own D cA ad A) {a : Nat} (ha : a < 4) (hd : decode cc pc = .ok (.iload_n (Fin.ofNat 4 a), 1)) (h : lgetK (fun v => match v with
      | .inl x => GW p l e R s m args below meth c Q nL D cA ad A (pc + 1) (L) (.inl x :: st) (σ) (nc) (ns)
      | .inr x => False) L a) : GW p l e R s m args below meth c Q nL D cA ad A (pc) (L) (st) (σ) (nc) (ns) := by
  intro o1 o2 o3 H locs ls hP hS hl
  obtain ⟨v, h1, h2, h3⟩ := lgetK_sp ad _ L a 0 h
  rw [Nat.zero_add] at h1
  rcases v with x | x
  · exact lv_iload_n C.1 C.2.1 hd (Nat.mod_eq_of_lt ha) (hl.2.2 _ h1) (h3 o1 (okS_i o2) o3 H locs ls hP hS hl)
  · exact h3.elim
theorem g_iload (C : Cx p s m args c cc nL own D cA ad A) {a : Nat} (hd : decode cc pc = .ok (.iload a, 2)) (h : lgetK (fun v => match v with
      | .inl x => GW p l e R s m args below meth c Q nL D cA ad A (pc + 2) (L) (.inl x :: st) (σ) (nc) (ns)
      | .inr x => False) L a) : GW p l e R s m args below meth c Q nL D cA ad A (pc) (L) (st) (σ) (nc) (ns) := by
  intro o1 o2 o3 H locs ls hP hS hl
  obtain ⟨v, h1, h2, h3⟩ := lgetK_sp ad _ L a 0 h
  rw [Nat.zero_add] at h1
  rcases v with x | x
  · exact lv_iload C.1 C.2.1 hd (hl.2.2 _ h1) (h3 o1 (okS_i o2) o3 H locs ls hP hS hl)
  · exact h3.elim
theorem g_aload_n (C : Cx p s m args c cc nL own D cA ad A) {a : Nat} (ha : a < 4) (hd : decode cc pc = .ok (.aload_n (Fin.ofNat 4 a), 1)) (h : lgetK (fun v => match v with
      | .inl x => False
      | .inr x => GW p l e R s m args below meth c Q nL D cA ad A (pc + 1) (L) (.inr x :: st) (σ) (nc) (ns)) L a) : GW p l e R s m args below meth c Q nL D cA ad A (pc) (L) (st) (σ) (nc) (ns) := by
  intro o1 o2 o3 H locs ls hP hS hl
  obtain ⟨v, h1, h2, h3⟩ := lgetK_sp ad _ L a 0 h
  rw [Nat.zero_add] at h1
  rcases v with x | x
  · exact h3.elim
  · exact lv_aload_n C.1 C.2.1 hd (Nat.mod_eq_of_lt ha) (hl.2.2 _ h1) (h3 o1 (okS_p (o1 _ h2) o2) o3 H locs ls hP hS hl)
theorem g_aload (C : Cx p s m args c cc nL own D cA ad A) {a : Nat} (hd : decode cc pc = .ok (.aload a, 2)) (h : lgetK (fun v => match v with
      | .inl x => False
      | .inr x => GW p l e R s m args below meth c Q nL D cA ad A (pc + 2) (L) (.inr x :: st) (σ) (nc) (ns)) L a) : GW p l e R s m args below meth c Q nL D cA ad A (pc) (L) (st) (σ) (nc) (ns) := by
  intro o1 o2 o3 H locs ls hP hS hl
  obtain ⟨v, h1, h2, h3⟩ := lgetK_sp ad _ L a 0 h
  rw [Nat.zero_add] at h1
  rcases v with x | x
  · exact h3.elim
  · exact lv_aload C.1 C.2.1 hd (hl.2.2 _ h1) (h3 o1 (okS_p (o1 _ h2) o2) o3 H locs ls hP hS hl)
theorem g_istore_n (C : Cx p s m args c cc nL own D cA ad A) {a : Nat} {x : Int} (ha : a < 4) (hd : decode cc pc = .ok (.istore_n (Fin.ofNat 4 a), 1)) (h : lsetK L a (.inl x) (fun L => GW p l e R s m args below meth c Q nL D cA ad A (pc + 1) (L) (st) (σ) (nc) (ns))) : GW p l e R s m args below meth c Q nL D cA ad A (pc) (L) (.inl x :: st) (σ) (nc) (ns) := by
  intro o1 o2 o3 H locs ls hP hS hl
  obtain ⟨L', h1, h2, h3, h4, h5⟩ := lsetK_sp ad _ L a 0 _ h
  refine lv_istore_n C.1 C.2.1 hd (Nat.mod_eq_of_lt ha) hl (by omega) rfl (fun ls' hl' => ?_)
  exact h1 (okL_set h5 o1 (okS_c o2).1) (okS_c o2).2 (h2.trans o3) H locs ls' hP hS (lv_of hl' (prs_store h4 rfl))
theorem g_istore (C : Cx p s m args c cc nL own D cA ad A) {a : Nat} {x : Int} (hd : decode cc pc = .ok (.istore a, 2)) (h : lsetK L a (.inl x) (fun L => GW p l e R s m args below meth c Q nL D cA ad A (pc + 2) (L) (st) (σ) (nc) (ns))) : GW p l e R s m args below meth c Q nL D cA ad A (pc) (L) (.inl x :: st) (σ) (nc) (ns) := by
  intro o1 o2 o3 H locs ls hP hS hl
  obtain ⟨L', h1, h2, h3, h4, h5⟩ := lsetK_sp ad _ L a 0 _ h
  refine lv_istore C.1 C.2.1 hd hl (by omega) rfl (fun ls' hl' => ?_)
  exact h1 (okL_set h5 o1 (okS_c o2).1) (okS_c o2).2 (h2.trans o3) H locs ls' hP hS (lv_of hl' (prs_store h4 rfl))
theorem g_astore_n (C : Cx p s m args c cc nL own D cA ad A) {a : Nat} {x : Pl} (ha : a < 4) (hd : decode cc pc = .ok (.astore_n (Fin.ofNat 4 a), 1)) (h : lsetK L a (.inr x) (fun L => GW p l e R s m args below meth c Q nL D cA ad A (pc + 1) (L) (st) (σ) (nc) (ns))) : GW p l e R s m args below meth c Q nL D cA ad A (pc) (L) (.inr x :: st) (σ) (nc) (ns) := by
  intro o1 o2 o3 H locs ls hP hS hl
  obtain ⟨L', h1, h2, h3, h4, h5⟩ := lsetK_sp ad _ L a 0 _ h
  refine lv_astore_n C.1 C.2.1 hd (Nat.mod_eq_of_lt ha) hl (by omega) rfl (fun ls' hl' => ?_)
  exact h1 (okL_set h5 o1 (okS_c o2).1) (okS_c o2).2 (h2.trans o3) H locs ls' hP hS (lv_of hl' (prs_store h4 rfl))
theorem g_astore (C : Cx p s m args c cc nL own D cA ad A) {a : Nat} {x : Pl} (hd : decode cc pc = .ok (.astore a, 2)) (h : lsetK L a (.inr x) (fun L => GW p l e R s m args below meth c Q nL D cA ad A (pc + 2) (L) (st) (σ) (nc) (ns))) : GW p l e R s m args below meth c Q nL D cA ad A (pc) (L) (.inr x :: st) (σ) (nc) (ns) := by
  intro o1 o2 o3 H locs ls hP hS hl
  obtain ⟨L', h1, h2, h3, h4, h5⟩ := lsetK_sp ad _ L a 0 _ h
  refine lv_astore C.1 C.2.1 hd hl (by omega) rfl (fun ls' hl' => ?_)
  exact h1 (okL_set h5 o1 (okS_c o2).1) (okS_c o2).2 (h2.trans o3) H locs ls' hP hS (lv_of hl' (prs_store h4 rfl))
theorem g_iinc (C : Cx p s m args c cc nL own D cA ad A) {a : Nat} {b : Int} (hd : decode cc pc = .ok (.iinc a b, 3)) (h : lgetK (fun v => match v with
      | .inl x => lsetK L a (.inl (x + b)) (fun L => GW p l e R s m args below meth c Q nL D cA ad A (pc + 3) (L) (st) (σ) (nc) (ns))
      | .inr _ => False) L a) : GW p l e R s m args below meth c Q nL D cA ad A (pc) (L) (st) (σ) (nc) (ns) := by
  intro o1 o2 o3 H locs ls hP hS hl
  obtain ⟨v, h1, h2, h3⟩ := lgetK_sp ad _ L a 0 h
  rw [Nat.zero_add] at h1
  rcases v with x | x
  · obtain ⟨L', g1, g2, g3, g4, g5⟩ := lsetK_sp ad _ L a 0 _ h3
    obtain ⟨k, hk⟩ := List.mem_iff_getElem?.mp h1
    refine lv_iinc (v := iI (x + b)) C.1 C.2.1 hd hl hk (iI_add x b) (by omega) rfl (fun ls' hl' => ?_)
    exact g1 (okL_set g5 o1 trivial) o2 (g2.trans o3) H locs ls' hP hS (lv_of hl' (prs_store g4 rfl))
  · exact h3.elim
theorem g_iadd (C : Cx p s m args c cc nL own D cA ad A) {x y : Int} (hd : decode cc pc = .ok (.iadd, 1)) (h : GW p l e R s m args below meth c Q nL D cA ad A (pc + 1) (L) (.inl (x + y) :: st) (σ) (nc) (ns)) : GW p l e R s m args below meth c Q nL D cA ad A (pc) (L) (.inl y :: .inl x :: st) (σ) (nc) (ns) := by
  intro o1 o2 o3 H locs ls hP hS hl
  refine lv_iadd (x := iI x) (y := iI y) C.1 C.2.1 hd ?_
  rw [iI_add x y]
  exact h o1 (okS_i (okS_i2 o2)) o3 H locs ls hP hS hl
theorem g_isub (C : Cx p s m args c cc nL own D cA ad A) {x y : Int} (hd : decode cc pc = .ok (.isub, 1)) (h : GW p l e R s m args below meth c Q nL D cA ad A (pc + 1) (L) (.inl (x - y) :: st) (σ) (nc) (ns)) : GW p l e R s m args below meth c Q nL D cA ad A (pc) (L) (.inl y :: .inl x :: st) (σ) (nc) (ns) := by
  intro o1 o2 o3 H locs ls hP hS hl
  refine lv_isub (x := iI x) (y := iI y) C.1 C.2.1 hd ?_
  rw [iI_sub x y]
  exact h o1 (okS_i (okS_i2 o2)) o3 H locs ls hP hS hl
theorem g_imul (C : Cx p s m args c cc nL own D cA ad A) {x y : Int} (hd : decode cc pc = .ok (.imul, 1)) (h : GW p l e R s m args below meth c Q nL D cA ad A (pc + 1) (L) (.inl (x * y) :: st) (σ) (nc) (ns)) : GW p l e R s m args below meth c Q nL D cA ad A (pc) (L) (.inl y :: .inl x :: st) (σ) (nc) (ns) := by
  intro o1 o2 o3 H locs ls hP hS hl
  refine lv_imul (x := iI x) (y := iI y) C.1 C.2.1 hd ?_
  rw [iI_mul x y]
  exact h o1 (okS_i (okS_i2 o2)) o3 H locs ls hP hS hl
theorem g_iand (C : Cx p s m args c cc nL own D cA ad A) {x y : Int} (hd : decode cc pc = .ok (.iand, 1)) (h : GW p l e R s m args below meth c Q nL D cA ad A (pc + 1) (L) (.inl (ian x y) :: st) (σ) (nc) (ns)) : GW p l e R s m args below meth c Q nL D cA ad A (pc) (L) (.inl y :: .inl x :: st) (σ) (nc) (ns) := by
  intro o1 o2 o3 H locs ls hP hS hl
  refine lv_iand (x := iI x) (y := iI y) C.1 C.2.1 hd ?_
  rw [(iI_ian x y).symm]
  exact h o1 (okS_i (okS_i2 o2)) o3 H locs ls hP hS hl
theorem g_ior (C : Cx p s m args c cc nL own D cA ad A) {x y : Int} (hd : decode cc pc = .ok (.ior, 1)) (h : GW p l e R s m args below meth c Q nL D cA ad A (pc + 1) (L) (.inl (ior x y) :: st) (σ) (nc) (ns)) : GW p l e R s m args below meth c Q nL D cA ad A (pc) (L) (.inl y :: .inl x :: st) (σ) (nc) (ns) := by
  intro o1 o2 o3 H locs ls hP hS hl
  refine lv_ior (x := iI x) (y := iI y) C.1 C.2.1 hd ?_
  rw [(iI_ior x y).symm]
  exact h o1 (okS_i (okS_i2 o2)) o3 H locs ls hP hS hl
theorem g_ixor (C : Cx p s m args c cc nL own D cA ad A) {x y : Int} (hd : decode cc pc = .ok (.ixor, 1)) (h : GW p l e R s m args below meth c Q nL D cA ad A (pc + 1) (L) (.inl (ixr x y) :: st) (σ) (nc) (ns)) : GW p l e R s m args below meth c Q nL D cA ad A (pc) (L) (.inl y :: .inl x :: st) (σ) (nc) (ns) := by
  intro o1 o2 o3 H locs ls hP hS hl
  refine lv_ixor (x := iI x) (y := iI y) C.1 C.2.1 hd ?_
  rw [(iI_ixr x y).symm]
  exact h o1 (okS_i (okS_i2 o2)) o3 H locs ls hP hS hl
theorem g_ishl (C : Cx p s m args c cc nL own D cA ad A) {x y : Int} (hd : decode cc pc = .ok (.ishl, 1)) (h : GW p l e R s m args below meth c Q nL D cA ad A (pc + 1) (L) (.inl (isl x y) :: st) (σ) (nc) (ns)) : GW p l e R s m args below meth c Q nL D cA ad A (pc) (L) (.inl y :: .inl x :: st) (σ) (nc) (ns) := by
  intro o1 o2 o3 H locs ls hP hS hl
  refine lv_ishl (x := iI x) (y := iI y) C.1 C.2.1 hd ?_
  rw [(iI_isl x y).symm]
  exact h o1 (okS_i (okS_i2 o2)) o3 H locs ls hP hS hl
theorem g_ishr (C : Cx p s m args c cc nL own D cA ad A) {x y : Int} (hd : decode cc pc = .ok (.ishr, 1)) (h : GW p l e R s m args below meth c Q nL D cA ad A (pc + 1) (L) (.inl (isr x y) :: st) (σ) (nc) (ns)) : GW p l e R s m args below meth c Q nL D cA ad A (pc) (L) (.inl y :: .inl x :: st) (σ) (nc) (ns) := by
  intro o1 o2 o3 H locs ls hP hS hl
  refine lv_ishr (x := iI x) (y := iI y) C.1 C.2.1 hd ?_
  rw [(iI_isr x y).symm]
  exact h o1 (okS_i (okS_i2 o2)) o3 H locs ls hP hS hl
theorem g_ineg (C : Cx p s m args c cc nL own D cA ad A) {x : Int} (hd : decode cc pc = .ok (.ineg, 1)) (h : GW p l e R s m args below meth c Q nL D cA ad A (pc + 1) (L) (.inl (-x) :: st) (σ) (nc) (ns)) : GW p l e R s m args below meth c Q nL D cA ad A (pc) (L) (.inl x :: st) (σ) (nc) (ns) := by
  intro o1 o2 o3 H locs ls hP hS hl
  refine lv_ineg (x := iI x) C.1 C.2.1 hd ?_
  rw [iI_neg x]
  exact h o1 (okS_i (okS_c o2).2) o3 H locs ls hP hS hl
theorem g_idiv (C : Cx p s m args c cc nL own D cA ad A) {x y : Int} (hd : decode cc pc = .ok (.idiv, 1)) (hh : 0 ≤ nrm x ∧ 0 < y ∧ y ≤ 2147483647) (h : GW p l e R s m args below meth c Q nL D cA ad A (pc + 1) (L) (.inl (nrm x / y) :: st) (σ) (nc) (ns)) : GW p l e R s m args below meth c Q nL D cA ad A (pc) (L) (.inl y :: .inl x :: st) (σ) (nc) (ns) := by
  intro o1 o2 o3 H locs ls hP hS hl
  refine lv_idiv (x := iI x) (y := iI y) C.1 C.2.1 hd (iI_ne0 hh.2.1 hh.2.2) ?_
  rw [iI_div hh.1 hh.2.1 hh.2.2]
  exact h o1 (okS_i (okS_i2 o2)) o3 H locs ls hP hS hl
theorem g_irem (C : Cx p s m args c cc nL own D cA ad A) {x y : Int} (hd : decode cc pc = .ok (.irem, 1)) (hh : 0 ≤ nrm x ∧ 0 < y ∧ y ≤ 2147483647) (h : GW p l e R s m args below meth c Q nL D cA ad A (pc + 1) (L) (.inl (nrm x % y) :: st) (σ) (nc) (ns)) : GW p l e R s m args below meth c Q nL D cA ad A (pc) (L) (.inl y :: .inl x :: st) (σ) (nc) (ns) := by
  intro o1 o2 o3 H locs ls hP hS hl
  refine lv_irem (x := iI x) (y := iI y) C.1 C.2.1 hd (iI_ne0 hh.2.1 hh.2.2) ?_
  rw [iI_rem hh.1 hh.2.1 hh.2.2]
  exact h o1 (okS_i (okS_i2 o2)) o3 H locs ls hP hS hl
theorem g_dup (C : Cx p s m args c cc nL own D cA ad A) {v : AV} (hd : decode cc pc = .ok (.dup, 1)) (h : GW p l e R s m args below meth c Q nL D cA ad A (pc + 1) (L) (v :: v :: st) (σ) (nc) (ns)) : GW p l e R s m args below meth c Q nL D cA ad A (pc) (L) (v :: st) (σ) (nc) (ns) :=
  fun o1 o2 o3 H locs ls hP hS hl => lv_dup C.1 C.2.1 hd (cv_cat ad v) (h o1 (okS_p (okS_c o2).1 o2) o3 H locs ls hP hS hl)
theorem g_pop (C : Cx p s m args c cc nL own D cA ad A) {v : AV} (hd : decode cc pc = .ok (.pop, 1)) (h : GW p l e R s m args below meth c Q nL D cA ad A (pc + 1) (L) (st) (σ) (nc) (ns)) : GW p l e R s m args below meth c Q nL D cA ad A (pc) (L) (v :: st) (σ) (nc) (ns) :=
  fun o1 o2 o3 H locs ls hP hS hl => lv_pop C.1 C.2.1 hd (cv_cat ad v) (h o1 (okS_c o2).2 o3 H locs ls hP hS hl)
theorem g_dup2 (C : Cx p s m args c cc nL own D cA ad A) {v w : AV} (hd : decode cc pc = .ok (.dup2, 1)) (h : GW p l e R s m args below meth c Q nL D cA ad A (pc + 1) (L) (v :: w :: v :: w :: st) (σ) (nc) (ns)) : GW p l e R s m args below meth c Q nL D cA ad A (pc) (L) (v :: w :: st) (σ) (nc) (ns) :=
  fun o1 o2 o3 H locs ls hP hS hl => lv_dup2_11 C.1 C.2.1 hd (cv_cat ad v) (cv_cat ad w) (h o1 (okS_p (okS_c o2).1 (okS_p (okS_c (okS_c o2).2).1 o2)) o3 H locs ls hP hS hl)
theorem g_if_eq (C : Cx p s m args c cc nL own D cA ad A) {x : Int} {off : Int} {tg : Nat} (hd : decode cc pc = .ok (.ifCond .eq off, 3)) (ht : (pc : Int) + off = (tg : Int)) (h : (nrm x = 0 → GW p l e R s m args below meth c Q nL D cA ad A (tg) (L) (st) (σ) (nc) (ns)) ∧ (¬ nrm x = 0 → GW p l e R s m args below meth c Q nL D cA ad A (pc + 3) (L) (st) (σ) (nc) (ns))) : GW p l e R s m args below meth c Q nL D cA ad A (pc) (L) (.inl x :: st) (σ) (nc) (ns) := by
  intro o1 o2 o3 H locs ls hP hS hl
  refine lv_if_eq (x := iI x) C.1 C.2.1 hd ht (fun hc => h.1 ?_ o1 (okS_c o2).2 o3 H locs ls hP hS hl) (fun hc => h.2 ?_ o1 (okS_c o2).2 o3 H locs ls hP hS hl)
  · rw [iI_0, iI_eq, nrm_0] at hc
    omega
  · rw [iI_0, iI_eq, nrm_0] at hc
    omega
theorem g_if_ne (C : Cx p s m args c cc nL own D cA ad A) {x : Int} {off : Int} {tg : Nat} (hd : decode cc pc = .ok (.ifCond .ne off, 3)) (ht : (pc : Int) + off = (tg : Int)) (h : (¬ nrm x = 0 → GW p l e R s m args below meth c Q nL D cA ad A (tg) (L) (st) (σ) (nc) (ns)) ∧ (nrm x = 0 → GW p l e R s m args below meth c Q nL D cA ad A (pc + 3) (L) (st) (σ) (nc) (ns))) : GW p l e R s m args below meth c Q nL D cA ad A (pc) (L) (.inl x :: st) (σ) (nc) (ns) := by
  intro o1 o2 o3 H locs ls hP hS hl
  refine lv_if_ne (x := iI x) C.1 C.2.1 hd ht (fun hc => h.1 ?_ o1 (okS_c o2).2 o3 H locs ls hP hS hl) (fun hc => h.2 ?_ o1 (okS_c o2).2 o3 H locs ls hP hS hl)
  · rw [iI_0, iI_eq, nrm_0] at hc
    omega
  · rw [iI_0, iI_eq, nrm_0] at hc
    omega
theorem g_if_lt (C : Cx p s m args c cc nL own D cA ad A) {x : Int} {off : Int} {tg : Nat} (hd : decode cc pc = .ok (.ifCond .lt off, 3)) (ht : (pc : Int) + off = (tg : Int)) (h : (nrm x < 0 → GW p l e R s m args below meth c Q nL D cA ad A (tg) (L) (st) (σ) (nc) (ns)) ∧ (0 ≤ nrm x → GW p l e R s m args below meth c Q nL D cA ad A (pc + 3) (L) (st) (σ) (nc) (ns))) : GW p l e R s m args below meth c Q nL D cA ad A (pc) (L) (.inl x :: st) (σ) (nc) (ns) := by
  intro o1 o2 o3 H locs ls hP hS hl
  refine lv_if_lt (x := iI x) C.1 C.2.1 hd ht (fun hc => h.1 ?_ o1 (okS_c o2).2 o3 H locs ls hP hS hl) (fun hc => h.2 ?_ o1 (okS_c o2).2 o3 H locs ls hP hS hl)
  · rw [iI_0, iI_lt, nrm_0] at hc
    omega
  · rw [iI_0, iI_lt, nrm_0] at hc
    omega
theorem g_if_ge (C : Cx p s m args c cc nL own D cA ad A) {x : Int} {off : Int} {tg : Nat} (hd : decode cc pc = .ok (.ifCond .ge off, 3)) (ht : (pc : Int) + off = (tg : Int)) (h : (0 ≤ nrm x → GW p l e R s m args below meth c Q nL D cA ad A (tg) (L) (st) (σ) (nc) (ns)) ∧ (nrm x < 0 → GW p l e R s m args below meth c Q nL D cA ad A (pc + 3) (L) (st) (σ) (nc) (ns))) : GW p l e R s m args below meth c Q nL D cA ad A (pc) (L) (.inl x :: st) (σ) (nc) (ns) := by
  intro o1 o2 o3 H locs ls hP hS hl
  refine lv_if_ge (x := iI x) C.1 C.2.1 hd ht (fun hc => h.1 ?_ o1 (okS_c o2).2 o3 H locs ls hP hS hl) (fun hc => h.2 ?_ o1 (okS_c o2).2 o3 H locs ls hP hS hl)
  · rw [iI_0, iI_le, nrm_0] at hc
    omega
  · rw [iI_0, iI_le, nrm_0] at hc
    omega
theorem g_if_gt (C : Cx p s m args c cc nL own D cA ad A) {x : Int} {off : Int} {tg : Nat} (hd : decode cc pc = .ok (.ifCond .gt off, 3)) (ht : (pc : Int) + off = (tg : Int)) (h : (0 < nrm x → GW p l e R s m args below meth c Q nL D cA ad A (tg) (L) (st) (σ) (nc) (ns)) ∧ (nrm x ≤ 0 → GW p l e R s m args below meth c Q nL D cA ad A (pc + 3) (L) (st) (σ) (nc) (ns))) : GW p l e R s m args below meth c Q nL D cA ad A (pc) (L) (.inl x :: st) (σ) (nc) (ns) := by
  intro o1 o2 o3 H locs ls hP hS hl
  refine lv_if_gt (x := iI x) C.1 C.2.1 hd ht (fun hc => h.1 ?_ o1 (okS_c o2).2 o3 H locs ls hP hS hl) (fun hc => h.2 ?_ o1 (okS_c o2).2 o3 H locs ls hP hS hl)
  · rw [iI_0, iI_lt, nrm_0] at hc
    omega
  · rw [iI_0, iI_lt, nrm_0] at hc
    omega
theorem g_if_le (C : Cx p s m args c cc nL own D cA ad A) {x : Int} {off : Int} {tg : Nat} (hd : decode cc pc = .ok (.ifCond .le off, 3)) (ht : (pc : Int) + off = (tg : Int)) (h : (nrm x ≤ 0 → GW p l e R s m args below meth c Q nL D cA ad A (tg) (L) (st) (σ) (nc) (ns)) ∧ (0 < nrm x → GW p l e R s m args below meth c Q nL D cA ad A (pc + 3) (L) (st) (σ) (nc) (ns))) : GW p l e R s m args below meth c Q nL D cA ad A (pc) (L) (.inl x :: st) (σ) (nc) (ns) := by
  intro o1 o2 o3 H locs ls hP hS hl
  refine lv_if_le (x := iI x) C.1 C.2.1 hd ht (fun hc => h.1 ?_ o1 (okS_c o2).2 o3 H locs ls hP hS hl) (fun hc => h.2 ?_ o1 (okS_c o2).2 o3 H locs ls hP hS hl)
  · rw [iI_0, iI_le, nrm_0] at hc
    omega
  · rw [iI_0, iI_le, nrm_0] at hc
    omega
theorem g_icmp_eq (C : Cx p s m args c cc nL own D cA ad A) {x y : Int} {off : Int} {tg : Nat} (hd : decode cc pc = .ok (.if_icmp .eq off, 3)) (ht : (pc : Int) + off = (tg : Int)) (h : (nrm x = nrm y → GW p l e R s m args below meth c Q nL D cA ad A (tg) (L) (st) (σ) (nc) (ns)) ∧ (¬ nrm x = nrm y → GW p l e R s m args below meth c Q nL D cA ad A (pc + 3) (L) (st) (σ) (nc) (ns))) : GW p l e R s m args below meth c Q nL D cA ad A (pc) (L) (.inl y :: .inl x :: st) (σ) (nc) (ns) := by
  intro o1 o2 o3 H locs ls hP hS hl
  refine lv_icmp_eq (x := iI x) (y := iI y) C.1 C.2.1 hd ht (fun hc => h.1 ?_ o1 (okS_i2 o2) o3 H locs ls hP hS hl) (fun hc => h.2 ?_ o1 (okS_i2 o2) o3 H locs ls hP hS hl)
  · rw [iI_eq] at hc
    omega
  · rw [iI_eq] at hc
    omega
theorem g_icmp_ne (C : Cx p s m args c cc nL own D cA ad A) {x y : Int} {off : Int} {tg : Nat} (hd : decode cc pc = .ok (.if_icmp .ne off, 3)) (ht : (pc : Int) + off = (tg : Int)) (h : (¬ nrm x = nrm y → GW p l e R s m args below meth c Q nL D cA ad A (tg) (L) (st) (σ) (nc) (ns)) ∧ (nrm x = nrm y → GW p l e R s m args below meth c Q nL D cA ad A (pc + 3) (L) (st) (σ) (nc) (ns))) : GW p l e R s m args below meth c Q nL D cA ad A (pc) (L) (.inl y :: .inl x :: st) (σ) (nc) (ns) := by
  intro o1 o2 o3 H locs ls hP hS hl
  refine lv_icmp_ne (x := iI x) (y := iI y) C.1 C.2.1 hd ht (fun hc => h.1 ?_ o1 (okS_i2 o2) o3 H locs ls hP hS hl) (fun hc => h.2 ?_ o1 (okS_i2 o2) o3 H locs ls hP hS hl)
  · rw [iI_eq] at hc
    omega
  · rw [iI_eq] at hc
    omega
theorem g_icmp_lt (C : Cx p s m args c cc nL own D cA ad A) {x y : Int} {off : Int} {tg : Nat} (hd : decode cc pc = .ok (.if_icmp .lt off, 3)) (ht : (pc : Int) + off = (tg : Int)) (h : (nrm x < nrm y → GW p l e R s m args below meth c Q nL D cA ad A (tg) (L) (st) (σ) (nc) (ns)) ∧ (nrm y ≤ nrm x → GW p l e R s m args below meth c Q nL D cA ad A (pc + 3) (L) (st) (σ) (nc) (ns))) : GW p l e R s m args below meth c Q nL D cA ad A (pc) (L) (.inl y :: .inl x :: st) (σ) (nc) (ns) := by
  intro o1 o2 o3 H locs ls hP hS hl
  refine lv_icmp_lt (x := iI x) (y := iI y) C.1 C.2.1 hd ht (fun hc => h.1 ?_ o1 (okS_i2 o2) o3 H locs ls hP hS hl) (fun hc => h.2 ?_ o1 (okS_i2 o2) o3 H locs ls hP hS hl)
  · rw [iI_lt] at hc
    omega
  · rw [iI_lt] at hc
    omega
theorem g_icmp_ge (C : Cx p s m args c cc nL own D cA ad A) {x y : Int} {off : Int} {tg : Nat} (hd : decode cc pc = .ok (.if_icmp .ge off, 3)) (ht : (pc : Int) + off = (tg : Int)) (h : (nrm y ≤ nrm x → GW p l e R s m args below meth c Q nL D cA ad A (tg) (L) (st) (σ) (nc) (ns)) ∧ (nrm x < nrm y → GW p l e R s m args below meth c Q nL D cA ad A (pc + 3) (L) (st) (σ) (nc) (ns))) : GW p l e R s m args below meth c Q nL D cA ad A (pc) (L) (.inl y :: .inl x :: st) (σ) (nc) (ns) := by
  intro o1 o2 o3 H locs ls hP hS hl
  refine lv_icmp_ge (x := iI x) (y := iI y) C.1 C.2.1 hd ht (fun hc => h.1 ?_ o1 (okS_i2 o2) o3 H locs ls hP hS hl) (fun hc => h.2 ?_ o1 (okS_i2 o2) o3 H locs ls hP hS hl)
  · rw [iI_le] at hc
    omega
  · rw [iI_le] at hc
    omega
theorem g_icmp_gt (C : Cx p s m args c cc nL own D cA ad A) {x y : Int} {off : Int} {tg : Nat} (hd : decode cc pc = .ok (.if_icmp .gt off, 3)) (ht : (pc : Int) + off = (tg : Int)) (h : (nrm y < nrm x → GW p l e R s m args below meth c Q nL D cA ad A (tg) (L) (st) (σ) (nc) (ns)) ∧ (nrm x ≤ nrm y → GW p l e R s m args below meth c Q nL D cA ad A (pc + 3) (L) (st) (σ) (nc) (ns))) : GW p l e R s m args below meth c Q nL D cA ad A (pc) (L) (.inl y :: .inl x :: st) (σ) (nc) (ns) := by
  intro o1 o2 o3 H locs ls hP hS hl
  refine lv_icmp_gt (x := iI x) (y := iI y) C.1 C.2.1 hd ht (fun hc => h.1 ?_ o1 (okS_i2 o2) o3 H locs ls hP hS hl) (fun hc => h.2 ?_ o1 (okS_i2 o2) o3 H locs ls hP hS hl)
  · rw [iI_lt] at hc
    omega
  · rw [iI_lt] at hc
    omega
theorem g_icmp_le (C : Cx p s m args c cc nL own D cA ad A) {x y : Int} {off : Int} {tg : Nat} (hd : decode cc pc = .ok (.if_icmp .le off, 3)) (ht : (pc : Int) + off = (tg : Int)) (h : (nrm x ≤ nrm y → GW p l e R s m args below meth c Q nL D cA ad A (tg) (L) (st) (σ) (nc) (ns)) ∧ (nrm y < nrm x → GW p l e R s m args below meth c Q nL D cA ad A (pc + 3) (L) (st) (σ) (nc) (ns))) : GW p l e R s m args below meth c Q nL D cA ad A (pc) (L) (.inl y :: .inl x :: st) (σ) (nc) (ns) := by
  intro o1 o2 o3 H locs ls hP hS hl
  refine lv_icmp_le (x := iI x) (y := iI y) C.1 C.2.1 hd ht (fun hc => h.1 ?_ o1 (okS_i2 o2) o3 H locs ls hP hS hl) (fun hc => h.2 ?_ o1 (okS_i2 o2) o3 H locs ls hP hS hl)
  · rw [iI_le] at hc
    omega
  · rw [iI_le] at hc
    omega
theorem g_goto (C : Cx p s m args c cc nL own D cA ad A) {off : Int} {tg : Nat} (hd : decode cc pc = .ok (.goto off, 3)) (ht : (pc : Int) + off = (tg : Int)) (h : GW p l e R s m args below meth c Q nL D cA ad A (tg) (L) (st) (σ) (nc) (ns)) : GW p l e R s m args below meth c Q nL D cA ad A (pc) (L) (st) (σ) (nc) (ns) :=
  fun o1 o2 o3 H locs ls hP hS hl => lv_goto C.1 C.2.1 hd ht (h o1 o2 o3 H locs ls hP hS hl)
theorem swc_at {x : Int} {K : Nat → Prop} : ∀ (ts : List Nat) (z : Int) (j : Nat) (t : Nat), swc x K ts z → ts[j]? = some t → x = z + j → K t
  | [], _, _, _, _, h, _ => by simp at h
  | t0 :: r, z, 0, t, h, h1, h2 => by
    simp at h1
    rw [← h1]
    exact h.1 (by omega)
  | t0 :: r, z, j + 1, t, h, h1, h2 => by
    simp at h1
    exact swc_at r (z + 1) j t h.2 h1 (by omega)
theorem g_switch (C : Cx p s m args c cc nL own D cA ad A) {x lo : Int} {ts : List Nat} {df len : Nat} (hd : decode cc pc = .ok (.tableswitch ((df : Int) - pc) lo (lo + ts.length - 1) (ts.map (fun (t : Nat) => (t : Int) - pc)).toArray, len)) (h : swc (nrm x) (fun t => GW p l e R s m args below meth c Q nL D cA ad A (t) (L) (st) (σ) (nc) (ns)) ts lo ∧ (nrm x < lo ∨ lo + ts.length - 1 < nrm x → GW p l e R s m args below meth c Q nL D cA ad A (df) (L) (st) (σ) (nc) (ns))) : GW p l e R s m args below meth c Q nL D cA ad A (pc) (L) (.inl x :: st) (σ) (nc) (ns) := by
  intro o1 o2 o3 H locs ls hP hS hl
  by_cases hc : nrm x < lo ∨ lo + ts.length - 1 < nrm x
  · exact lv_tableOut (x := iI x) (tgt := df) C.1 C.2.1 hd (by rw [iI_toInt]; exact hc) (by omega) (h.2 hc o1 (okS_c o2).2 o3 H locs ls hP hS hl)
  · have h1 : ¬ nrm x < lo := fun z => hc (Or.inl z)
    have h2 : ¬ lo + ts.length - 1 < nrm x := fun z => hc (Or.inr z)
    have hj : (nrm x - lo).toNat < ts.length := by omega
    have ht : ts[(nrm x - lo).toNat]? = some ts[(nrm x - lo).toNat] := List.getElem?_eq_getElem hj
    generalize ts[(nrm x - lo).toNat] = t at ht
    have hk := swc_at ts lo _ t h.1 ht (by omega)
    exact lv_tableIn (x := iI x) (tgt := t) (off := (t : Int) - pc) C.1 C.2.1 hd (by rw [iI_toInt]; exact h1) (by rw [iI_toInt]; exact h2) (by rw [iI_toInt]; simp [ht]) (by omega) (hk o1 (okS_c o2).2 o3 H locs ls hP hS hl)
/-- a field that the class 'own' links by its number a: slot j of the class number ci; ty 0 int, 1 boolean, 2 a reference -/
def FldOK (own : String) (a : Nat) (v : Nat × Nat × Nat) : Prop := ∃ (C : String) (T : u_T) (N : Nat) (ty0 : Nat → FieldType), vwCl[v.1]? = some (C, T, N) ∧ (∀ w ∈ u_ws C T N, w ∈ GWS) ∧ v.2.1 < N ∧ Cond.fieldLink own a (T v.2.1).1 (T v.2.1).2.1 (T v.2.1).2.2.1 ∈ GWS ∧ (∀ k, k < N → parseFieldDescriptor (T k).2.2.1 = some (ty0 k)) ∧ (∀ a, a < N → ∀ b, b < N → a ≠ b → (T a).2.1 ≠ (T b).2.1) ∧ (v.2.2 = 0 → (T v.2.1).2.2.2 = false ∧ ty0 v.2.1 = .int) ∧ (v.2.2 = 1 → (T v.2.1).2.2.2 = false ∧ ty0 v.2.1 = .boolean)
theorem g_get (C : Cx p s m args c cc nL own D cA ad A) {a ci j ty k e' i : Nat} {sl : List (Option (Nat × Nat))} (hF : FldOK own a (ci, j, ty)) (hd : decode cc pc = .ok (.getfield a, 3)) (hs : SH k = .inl (ci, sl)) {v : AV} (hv : (slv ad (σ k e' i) e' i sl)[j]? = some (cv ad v)) (hok : okv (.inr (k, e', i)) → okv v) (h : GW p l e R s m args below meth c Q nL D cA ad A (pc + 3) (L) (v :: st) (σ) (nc) (ns)) : GW p l e R s m args below meth c Q nL D cA ad A (pc) (L) (.inr (k, e', i) :: st) (σ) (nc) (ns) := by
  intro o1 o2 o3 H locs ls hP hS hl
  obtain ⟨C0, T, N, ty0, f1, f2, f3, f4, f5, f6, f7, f8⟩ := hF
  obtain ⟨n, n1, n2⟩ := wl_ok (ad := ad) (cA := cA) (σ := σ) (okS_c o2).1 (isSt_o hs)
  rw [cel_o hs] at n2
  exact va_get (D := D) (ci := ci) (v := cv ad v) C.1 C.2.1 C.2.2.2.2.1 f2 C.2.2.2.1 C.2.2.2.2.2.1 hP n n2 f1 j f3 (C.2.2.2.2.1 _ f4) (fun _ h9 => h9) hv hd (h o1 (okS_p (hok (okS_c o2).1) (okS_c o2).2) o3 H locs ls hP hS hl)
theorem narrow_b {x : Int} (h : x = 0 ∨ x = 1) : narrow .boolean (.int (iI x)) = .int (iI x) := by
  rcases h with h | h <;> subst h <;> decide
theorem g_put (C : Cx p s m args c cc nL own D cA ad A) {a ci j ty k e' i : Nat} {sl : List (Option (Nat × Nat))} {x : Int} (hF : FldOK own a (ci, j, ty)) (hd : decode cc pc = .ok (.putfield a, 3)) (hs : SH k = .inl (ci, sl)) (hv : sl[j]? = some none) (hty : ty = 0 ∨ (ty = 1 ∧ (x = 0 ∨ x = 1))) (h : GW p l e R s m args below meth c Q nL D cA ad A (pc + 3) (L) (st) (upd4 σ k e' i j x) (nc) (ns)) : GW p l e R s m args below meth c Q nL D cA ad A (pc) (L) (.inl x :: .inr (k, e', i) :: st) (σ) (nc) (ns) := by
  intro o1 o2 o3 H locs ls hP hS hl
  obtain ⟨C0, T, N, ty0, f1, f2, f3, f4, f5, f6, f7, f8⟩ := hF
  have ok1 := (okS_c (okS_c o2).2).1
  have ok2 := (okS_c (okS_c o2).2).2
  obtain ⟨n, n1, n2⟩ := wl_ok (ad := ad) (cA := cA) (σ := σ) ok1 (isSt_o hs)
  rw [cel_o hs] at n2
  have key : (T j).2.2.2 = false ∧ narrow (ty0 j) (.int (iI x)) = .int (iI x) ∧ fits (ty0 j) (.int (iI x)) = true := by
    rcases hty with h0 | ⟨h0, hx⟩
    · obtain ⟨z1, z2⟩ := f7 h0
      refine ⟨z1, ?_, ?_⟩ <;> rw [z2] <;> rfl
    · obtain ⟨z1, z2⟩ := f8 h0
      refine ⟨z1, ?_, ?_⟩ <;> rw [z2]
      · exact narrow_b hx
      · rcases hx with h | h <;> subst h <;> decide
  refine va_put (D := D) (ci := ci) (v := .int (iI x)) C.1 C.2.1 C.2.2.2.2.1 f2 ty0 f5 f6 C.2.2.2.1 C.2.2.2.2.2.1 hP (C.2.2.2.2.2.2.1 σ) hS n n2 f1 j f3 (C.2.2.2.2.1 _ f4) (fun _ h9 => h9) key.1 (f5 j f3) key.2.1 key.2.2 (by rw [slv_len]; exact (List.getElem?_eq_some_iff.mp hv).1) hd (fun H1 locs1 hP1 hD1 hS1 => ?_)
  have he : (wl ad cA σ).set n (ad (k, e', i), .inr (ci, (slv ad (σ k e' i) e' i sl).set j (.int (iI x)))) = wl ad cA (upd4 σ k e' i j x) := by
    refine wl_set n1 (fun k2 e2 i2 hne => upd4_o σ k e' i j x k2 e2 i2 hne) ?_
    rw [cel_o hs]
    show _ = Sum.inr (ci, slv ad (upd4 σ k e' i j x k e' i) e' i sl)
    rw [slv_set hv (upd4_at σ k e' i j x) (fun y hy => upd4_j σ k e' i j x y hy)]
  rw [he] at hP1
  exact h o1 ok2 o3 H1 locs1 ls hP1 hS1 hl
theorem g_iald (C : Cx p s m args c cc nL own D cA ad A) {k e' i n : Nat} {r : Nat × Nat} {x : Int} (hd : decode cc pc = .ok (.iaload, 1)) (hs : SH k = .inr (0, n, r)) (hx : 0 ≤ nrm x ∧ nrm x < n) (h : GW p l e R s m args below meth c Q nL D cA ad A (pc + 1) (L) (.inl (σ k e' i (nrm x).toNat) :: st) (σ) (nc) (ns)) : GW p l e R s m args below meth c Q nL D cA ad A (pc) (L) (.inl x :: .inr (k, e', i) :: st) (σ) (nc) (ns) := by
  intro o1 o2 o3 H locs ls hP hS hl
  have ok1 := (okS_c (okS_c o2).2).1
  have ok2 := (okS_c (okS_c o2).2).2
  obtain ⟨q, n1, n2⟩ := wl_ok (ad := ad) (cA := cA) (σ := σ) ok1 (isSt_i hs)
  rw [cel_i hs] at n2
  refine va_iald (i := iI x) C.1 C.2.1 C.2.2.2.2.2.1 hP q 0 n2 rfl (iI_in hx.1 hx.2) hd ?_
  rw [iI_cl]
  exact h o1 (okS_i ok2) o3 H locs ls hP hS hl
theorem g_iast (C : Cx p s m args c cc nL own D cA ad A) {k e' i n : Nat} {r : Nat × Nat} {x v : Int} (hd : decode cc pc = .ok (.iastore, 1)) (hs : SH k = .inr (0, n, r)) (hx : 0 ≤ nrm x ∧ nrm x < n) (h : GW p l e R s m args below meth c Q nL D cA ad A (pc + 1) (L) (st) (upd4 σ k e' i (nrm x).toNat v) (nc) (ns)) : GW p l e R s m args below meth c Q nL D cA ad A (pc) (L) (.inl v :: .inl x :: .inr (k, e', i) :: st) (σ) (nc) (ns) := by
  intro o1 o2 o3 H locs ls hP hS hl
  have ok1 := (okS_c (okS_i2 o2)).1
  have ok2 := (okS_c (okS_i2 o2)).2
  obtain ⟨q, n1, n2⟩ := wl_ok (ad := ad) (cA := cA) (σ := σ) ok1 (isSt_i hs)
  rw [cel_i hs] at n2
  refine va_iast (i := iI x) (x := iI v) C.1 C.2.1 C.2.2.2.2.2.1 hP (C.2.2.2.2.2.2.1 σ) hS q 0 n2 rfl (iI_in hx.1 hx.2) hd (fun H1 locs1 hP1 hD1 hS1 => ?_)
  have he : (wl ad cA σ).set q (ad (k, e', i), .inl (cA 0, n, .inl (upd (fun j => iI (σ k e' i j)) (iI x).toNatClampNeg (iI v)))) = wl ad cA (upd4 σ k e' i (nrm x).toNat v) := by
    refine wl_set n1 (fun k2 e2 i2 hne => upd4_o σ k e' i _ v k2 e2 i2 hne) ?_
    rw [cel_i hs]
    show _ = Sum.inl (cA 0, n, Sum.inl (fun j => iI (upd4 σ k e' i (nrm x).toNat v k e' i j)))
    congr 4
    funext j
    rw [iI_cl]
    by_cases hj : j = (nrm x).toNat
    · rw [hj, upd4_at]; simp [upd]
    · rw [upd4_j _ _ _ _ _ _ _ hj]; simp [upd, hj]
  rw [he] at hP1
  exact h o1 ok2 o3 H1 locs1 ls hP1 hS1 hl
theorem g_aald (C : Cx p s m args c cc nL own D cA ad A) {k e' i n t : Nat} {r : Nat × Nat} {x : Int} (hd : decode cc pc = .ok (.aaload, 1)) (hs : SH k = .inr (t + 2, n, r)) (ht9 : t ≤ 6) (hx : 0 ≤ nrm x ∧ nrm x < n) (h : GW p l e R s m args below meth c Q nL D cA ad A (pc + 1) (L) (.inr (tgt r e' i (nrm x).toNat) :: st) (σ) (nc) (ns)) : GW p l e R s m args below meth c Q nL D cA ad A (pc) (L) (.inl x :: .inr (k, e', i) :: st) (σ) (nc) (ns) := by
  intro o1 o2 o3 H locs ls hP hS hl
  have ok1 := (okS_c (okS_c o2).2).1
  have ok2 := (okS_c (okS_c o2).2).2
  obtain ⟨q, n1, n2⟩ := wl_ok (ad := ad) (cA := cA) (σ := σ) ok1 (isSt_r hs ht9)
  rw [cel_r hs] at n2
  obtain ⟨t0, C9, ht⟩ := TY_r cA hs ht9
  refine va_aldq (i := iI x) C.1 C.2.1 C.2.2.2.2.2.1 hP q t0 n2 ht (iI_in hx.1 hx.2) hd ?_
  rw [iI_cl]
  exact h o1 (okS_p (SH_r hs ht9 ok1 (by omega)) ok2) o3 H locs ls hP hS hl
theorem g_alen (C : Cx p s m args c cc nL own D cA ad A) {k e' i t n : Nat} {r : Nat × Nat} (hd : decode cc pc = .ok (.arraylength, 1)) (hs : SH k = .inr (t, n, r)) (h : GW p l e R s m args below meth c Q nL D cA ad A (pc + 1) (L) (.inl n :: st) (σ) (nc) (ns)) : GW p l e R s m args below meth c Q nL D cA ad A (pc) (L) (.inr (k, e', i) :: st) (σ) (nc) (ns) := by
  intro o1 o2 o3 H locs ls hP hS hl
  have ok1 := (okS_c o2).1
  have ok2 := (okS_c o2).2
  have hn : Int32.ofNat n = iI n := by
    unfold iI
    exact Int32.ofInt_eq_ofNat.symm
  rcases hq : isSt k with _ | _
  · obtain ⟨q, n1, n2⟩ := wl_ok (ad := ad) (cA := cA) (σ := σ) ok1 hq
    obtain ⟨t0, cA9, ty9, x9, z1, z2, z3⟩ := cel_a ad cA (e := e') (i := i) hs hq (σ k e' i)
    rw [z1] at n2
    exact va_alen (v := iI n) C.1 C.2.1 C.2.2.2.2.2.1 hP q t0 n2 z2 (by rw [z3]; exact hn) hd (h o1 (okS_i ok2) o3 H locs ls hP hS hl)
  · obtain ⟨e0, i0, hT⟩ := STt_t C.2.2.2.2.2.2.2.2 hs hq ok1
    subst e0; subst i0
    exact va_tlen (v := iI n) C.1 C.2.1 hT hS hn hd (h o1 (okS_i ok2) o3 H locs ls hP hS hl)
theorem g_sald (C : Cx p s m args c cc nL own D cA ad A) {k e' i n : Nat} {r : Nat × Nat} {x : Int} (hd : decode cc pc = .ok (.iaload, 1)) (hs : SH k = .inr (9, n, r)) (hx : 0 ≤ nrm x ∧ nrm x < n) (h : GW p l e R s m args below meth c Q nL D cA ad A (pc + 1) (L) (.inl (sv k (nrm x).toNat) :: st) (σ) (nc) (ns)) : GW p l e R s m args below meth c Q nL D cA ad A (pc) (L) (.inl x :: .inr (k, e', i) :: st) (σ) (nc) (ns) := by
  intro o1 o2 o3 H locs ls hP hS hl
  have ok1 := (okS_c (okS_c o2).2).1
  have ok2 := (okS_c (okS_c o2).2).2
  obtain ⟨e0, i0, hT⟩ := STt_t C.2.2.2.2.2.2.2.2 hs (isSt_s hs) ok1
  subst e0; subst i0
  exact va_ti (i := iI x) (v := .int (iI (sv k (nrm x).toNat))) C.1 C.2.1 hT hS (iI_in hx.1 hx.2) (by rw [iI_cl]) hd (h o1 (okS_i ok2) o3 H locs ls hP hS hl)
theorem g_mmin (C : Cx p s m args c cc nL own D cA ad A) {a : Nat} {x y : Int} (hw : Cond.methodLink own a Lib.Math.min.name ∈ GWS) (hr : 1 ≤ R.frames ∧ 26 ≤ R.locals ∧ nc ≤ R.cells ∧ ns ≤ R.slots) (hst : st.length ≤ 8) (hd : decode cc pc = .ok (.invokestatic a, 3)) (h : GW p l e R s m args below meth c Q nL D cA ad A (pc + 3) (L) (.inl (if nrm y < nrm x then y else x) :: st) (σ) (nc) (ns)) : GW p l e R s m args below meth c Q nL D cA ad A (pc) (L) (.inl y :: .inl x :: st) (σ) (nc) (ns) := by
  intro o1 o2 o3 H locs ls hP hS hl
  refine va_mmin (x := iI x) (y := iI y) C.1 C.2.1 (by rw [C.2.2.1, hl.1]) C.2.2.2.1 (C.2.2.2.2.1 _ hw) (C.2.2.2.2.1 _ wMath.2.1.1) (C.2.2.2.2.1 _ wMath.1) (C.2.2.2.2.1 _ wMath.2.2.1) hr.1 (by rw [cv_sum]; omega) hr.2.2.1 hr.2.2.2 hd ?_
  have he : (if iI y < iI x then iI y else iI x) = iI (if nrm y < nrm x then y else x) := by
    by_cases hc : nrm y < nrm x
    · rw [if_pos (iI_lt.mpr hc), if_pos hc]
    · rw [if_neg (fun z => hc (iI_lt.mp z)), if_neg hc]
  rw [he]
  exact h o1 (okS_i (okS_i2 o2)) o3 H locs ls hP hS hl
theorem g_mmax (C : Cx p s m args c cc nL own D cA ad A) {a : Nat} {x y : Int} (hw : Cond.methodLink own a Lib.Math.max.name ∈ GWS) (hr : 1 ≤ R.frames ∧ 26 ≤ R.locals ∧ nc ≤ R.cells ∧ ns ≤ R.slots) (hst : st.length ≤ 8) (hd : decode cc pc = .ok (.invokestatic a, 3)) (h : GW p l e R s m args below meth c Q nL D cA ad A (pc + 3) (L) (.inl (if nrm x < nrm y then y else x) :: st) (σ) (nc) (ns)) : GW p l e R s m args below meth c Q nL D cA ad A (pc) (L) (.inl y :: .inl x :: st) (σ) (nc) (ns) := by
  intro o1 o2 o3 H locs ls hP hS hl
  refine va_mmax (x := iI x) (y := iI y) C.1 C.2.1 (by rw [C.2.2.1, hl.1]) C.2.2.2.1 (C.2.2.2.2.1 _ hw) (C.2.2.2.2.1 _ wMath.2.1.2) (C.2.2.2.2.1 _ wMath.1) (C.2.2.2.2.1 _ wMath.2.2.2) hr.1 (by rw [cv_sum]; omega) hr.2.2.1 hr.2.2.2 hd ?_
  have he : (if iI x < iI y then iI y else iI x) = iI (if nrm x < nrm y then y else x) := by
    by_cases hc : nrm x < nrm y
    · rw [if_pos (iI_lt.mpr hc), if_pos hc]
    · rw [if_neg (fun z => hc (iI_lt.mp z)), if_neg hc]
  rw [he]
  exact h o1 (okS_i (okS_i2 o2)) o3 H locs ls hP hS hl
theorem g_copy (C : Cx p s m args c cc nL own D cA ad A) {a : Nat} {ks es is n0 kd ed id n1 : Nat} {r0 r1 : Nat × Nat} {sp dp n : Int} (hw : Cond.methodLink own a arraycopyName ∈ GWS) (hr : 1 ≤ R.frames ∧ 26 ≤ R.locals) (hst : st.length ≤ 8) (hs0 : SH ks = .inr (0, n0, r0)) (hs1 : SH kd = .inr (0, n1, r1)) (hh : 0 ≤ nrm sp ∧ 0 ≤ nrm dp ∧ 0 ≤ nrm n ∧ nrm sp + nrm n ≤ n0 ∧ nrm dp + nrm n ≤ n1) (hd : decode cc pc = .ok (.invokestatic a, 3)) (h : GW p l e R s m args below meth c Q nL D cA ad A (pc + 3) (L) (st) (cpy4 σ ks es is (nrm sp).toNat kd ed id (nrm dp).toNat (nrm n).toNat) (nc) (ns)) : GW p l e R s m args below meth c Q nL D cA ad A (pc) (L) (.inl n :: .inl dp :: .inr (kd, ed, id) :: .inl sp :: .inr (ks, es, is) :: st) (σ) (nc) (ns) := by
  intro o1 o2 o3 H locs ls hP hS hl
  have okd := (okS_c (okS_i2 o2)).1
  have oks := (okS_c (okS_c (okS_c (okS_i2 o2)).2).2).1
  have ok2 := (okS_c (okS_c (okS_c (okS_i2 o2)).2).2).2
  obtain ⟨q0, n01, n02⟩ := wl_ok (ad := ad) (cA := cA) (σ := σ) oks (isSt_i hs0)
  obtain ⟨q1, n11, n12⟩ := wl_ok (ad := ad) (cA := cA) (σ := σ) okd (isSt_i hs1)
  rw [cel_i hs0] at n02
  rw [cel_i hs1] at n12
  have hnw : nativeFrameWords "java/lang/System" "arraycopy" 5 = 7 := by decide
  have ng : ∀ z : Int, 0 ≤ nrm z → ¬ iI z < 0 := fun z hz hc => by
    rw [iI_0, iI_lt, nrm_0] at hc
    omega
  refine va_copyi (sp := iI sp) (dp := iI dp) (n := iI n) (ty := .int) C.1 C.2.1 (by rw [C.2.2.1, hl.1]) C.2.2.2.1 (C.2.2.2.2.1 _ hw) (C.2.2.2.2.1 _ wCopy.1) (C.2.2.2.2.1 _ wCopy.2.1) (C.2.2.2.2.1 _ wCopy.2.2) C.2.2.2.2.2.1 hP (C.2.2.2.2.2.2.1 σ) hS q0 q1 0 0 n02 n12 rfl rfl rfl (ng _ hh.1) (ng _ hh.2.1) (ng _ hh.2.2.1) (by rw [iI_cl, iI_cl]; omega) (by rw [iI_cl, iI_cl]; omega) (fun _ _ => rfl) hr.1 (by rw [cv_sum, hnw]; omega) hd (fun H1 locs1 hP1 hD1 hS1 => ?_)
  have he : (wl ad cA σ).set q1 (ad (kd, ed, id), .inl (cA 0, n1, .inl (va_cpy (fun j => iI (σ ks es is j)) (fun j => iI (σ kd ed id j)) (iI sp).toNatClampNeg (iI dp).toNatClampNeg (iI n).toNatClampNeg))) = wl ad cA (cpy4 σ ks es is (nrm sp).toNat kd ed id (nrm dp).toNat (nrm n).toNat) := by
    refine wl_set n11 (fun k2 e2 i2 hne => cpy4_o σ _ _ _ _ _ _ _ _ _ k2 e2 i2 hne) ?_
    rw [cel_i hs1]
    show _ = Sum.inl (cA 0, n1, Sum.inl (fun j => iI (cpy4 σ ks es is (nrm sp).toNat kd ed id (nrm dp).toNat (nrm n).toNat kd ed id j)))
    congr 4
    funext j
    rw [iI_cl, iI_cl, iI_cl]
    by_cases hj : (nrm dp).toNat ≤ j ∧ j < (nrm dp).toNat + (nrm n).toNat
    · unfold va_cpy cpy4
      rw [if_pos hj, if_pos ⟨⟨rfl, rfl, rfl⟩, hj⟩]
    · unfold va_cpy cpy4
      rw [if_neg hj, if_neg (fun z => hj z.2)]
  rw [he] at hP1
  exact h o1 ok2 o3 H1 locs1 ls hP1 hS1 hl
end GR
