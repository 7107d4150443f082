
/-! numbers: an int of the machine by an integer modulo 2^32 -/
def iI (z : Int) : Int32 := Int32.ofInt z
def nrm (x : Int) : Int := (x + 2147483648) % 4294967296 - 2147483648
theorem iI_toInt (x : Int) : (iI x).toInt = nrm x := by
  unfold iI nrm
  rw [Int32.toInt_ofInt, Int.bmod_def]
  have h : ((Int32.size : Nat) : Int) = 4294967296 := rfl
  rw [h]
  split <;> omega
theorem iI_of (x : Int32) : iI x.toInt = x := Int32.ofInt_toInt x
theorem iI_add (a b : Int) : iI a + iI b = iI (a + b) := (Int32.ofInt_add a b).symm
theorem iI_sub (a b : Int) : iI a - iI b = iI (a - b) := (Int32.ofInt_sub a b).symm
theorem iI_mul (a b : Int) : iI a * iI b = iI (a * b) := (Int32.ofInt_mul a b).symm
theorem iI_neg (a : Int) : -iI a = iI (-a) := (Int32.ofInt_neg a).symm
theorem iI_lt {a b : Int} : iI a < iI b ↔ nrm a < nrm b := by rw [Int32.lt_iff_toInt_lt, iI_toInt, iI_toInt]
theorem iI_le {a b : Int} : iI a ≤ iI b ↔ nrm a ≤ nrm b := by rw [Int32.le_iff_toInt_le, iI_toInt, iI_toInt]
theorem iI_eq {a b : Int} : iI a = iI b ↔ nrm a = nrm b := by rw [← Int32.toInt_inj, iI_toInt, iI_toInt]
theorem iI_0 : (0 : Int32) = iI 0 := rfl
theorem nrm_0 : nrm 0 = 0 := rfl
theorem nrm_id {x : Int} (h1 : -2147483648 ≤ x) (h2 : x ≤ 2147483647) : nrm x = x := by unfold nrm; omega
theorem nrm_ge (x : Int) : -2147483648 ≤ nrm x := by unfold nrm; omega
theorem nrm_le (x : Int) : nrm x ≤ 2147483647 := by unfold nrm; omega
theorem iI_nrm (x : Int) : iI (nrm x) = iI x := by
  rw [iI_eq, nrm_id (nrm_ge x) (nrm_le x)]
theorem iI_cl (i : Int) : (iI i).toNatClampNeg = (nrm i).toNat := by
  show (iI i).toInt.toNat = _
  rw [iI_toInt]
theorem iI_in {i : Int} {n : Nat} (h0 : 0 ≤ nrm i) (h1 : nrm i < n) : vp_in (iI i) n := by
  rw [vp_in_iff, iI_toInt]
  exact ⟨h0, h1⟩
theorem iI_div {a b : Int} (ha : 0 ≤ nrm a) (hb0 : 0 < b) (hb1 : b ≤ 2147483647) : iI a / iI b = iI (nrm a / b) := by
  have hb : nrm b = b := nrm_id (by omega) hb1
  have h1 : (nrm a).tdiv b = nrm a / b := Int.tdiv_eq_ediv_of_nonneg ha
  have h2 : (iI a / iI b).toInt = nrm a / b := by
    rw [Int32.toInt_div_of_ne_right _ _ (fun h => by
      have h9 := congrArg Int32.toInt h
      rw [iI_toInt, hb] at h9
      have h8 : (-1 : Int32).toInt = -1 := rfl
      omega), iI_toInt, iI_toInt, hb, h1]
  have h3 : 0 ≤ nrm a / b := Int.ediv_nonneg ha (by omega)
  have h4 : nrm a / b ≤ nrm a := Int.ediv_le_self b ha
  have h5 := nrm_le a
  have h6 : nrm (nrm a / b) = nrm a / b := nrm_id (by omega) (by omega)
  rw [← Int32.toInt_inj, h2, iI_toInt, h6]
theorem iI_rem {a b : Int} (ha : 0 ≤ nrm a) (hb0 : 0 < b) (hb1 : b ≤ 2147483647) : iI a - iI a / iI b * iI b = iI (nrm a % b) := by
  rw [iI_div ha hb0 hb1, ← iI_nrm a, iI_mul, iI_sub, Int.emod_def, Int.mul_comm (nrm a / b) b]
theorem iI_ne0 {b : Int} (hb0 : 0 < b) (hb1 : b ≤ 2147483647) : ¬ iI b = 0 := by
  rw [iI_0, iI_eq, nrm_id (by omega) hb1, nrm_0]
  omega
/-! bits: opaque numbers -/
def ian (a b : Int) : Int := (iI a &&& iI b).toInt
def ior (a b : Int) : Int := (iI a ||| iI b).toInt
def ixr (a b : Int) : Int := (iI a ^^^ iI b).toInt
def isl (a b : Int) : Int := (iI a <<< (iI b &&& 31)).toInt
def isr (a b : Int) : Int := (iI a >>> (iI b &&& 31)).toInt
theorem iI_ian (a b : Int) : iI (ian a b) = iI a &&& iI b := iI_of _
theorem iI_ior (a b : Int) : iI (ior a b) = iI a ||| iI b := iI_of _
theorem iI_ixr (a b : Int) : iI (ixr a b) = iI a ^^^ iI b := iI_of _
theorem iI_isl (a b : Int) : iI (isl a b) = iI a <<< (iI b &&& 31) := iI_of _
theorem iI_isr (a b : Int) : iI (isr a b) = iI a >>> (iI b &&& 31) := iI_of _
/-! places: (kind, end, number); values: a number or a place; a state: a number for each slot of each place -/
abbrev Pl : Type := Nat × Nat × Nat
abbrev AV : Type := Int ⊕ Pl
abbrev Sg : Type := Nat → Nat → Nat → Nat → Int
def upd4 (σ : Sg) (k e i j : Nat) (v : Int) : Sg := fun k' e' i' j' => if k' = k ∧ e' = e ∧ i' = i ∧ j' = j then v else σ k' e' i' j'
def cpy4 (σ : Sg) (ks es is sp kd ed id dp n : Nat) : Sg := fun k' e' i' j' => if (k' = kd ∧ e' = ed ∧ i' = id) ∧ dp ≤ j' ∧ j' < dp + n then σ ks es is (sp + (j' - dp)) else σ k' e' i' j'
/-- the place that a reference leads to: by its kind and its way -/
def tgt (t : Nat × Nat) (e i j : Nat) : Pl := match t.2 with
  | 0 => (t.1, e, i)
  | 1 => (t.1, 1 - e, 0)
  | 2 => (t.1, 0, 0)
  | 3 => (t.1, j, 0)
  | _ => (t.1, e, j)
def cv (ad : Pl → Nat) (v : AV) : Value := match v with
  | .inl x => .int (iI x)
  | .inr q => .ref (ad q)
def okv (v : AV) : Prop := match v with
  | .inl _ => True
  | .inr q => q.2.1 < EL q.1 ∧ q.2.2 < IL q.1
def okR (v : Option AV) : Prop := match v with
  | none => True
  | some v => okv v
def okS (st : List AV) : Prop := ∀ v ∈ st, okv v
def okL (L : List (Option AV)) : Prop := ∀ v, some v ∈ L → okv v
theorem cv_cat (ad : Pl → Nat) (v : AV) : (cv ad v).category = 1 := by cases v <;> rfl
theorem cv_sum (ad : Pl → Nat) : ∀ st : List AV, ((st.map (cv ad)).map fun v => v.category).sum = st.length
  | [] => rfl
  | v :: st => by
    simp only [List.map_cons, List.sum_cons, List.length_cons, cv_cat]
    rw [cv_sum ad st, Nat.add_comm]
def slv (ad : Pl → Nat) (f : Nat → Int) (e i : Nat) (sl : List (Option (Nat × Nat))) : List Value := sl.mapIdx (fun j o => match o with | none => .int (iI (f j)) | some t => .ref (ad (tgt t e i j)))
def cel (ad : Pl → Nat) (cA : Nat → ClassId) (q : Pl) (f : Nat → Int) : va_E := match SH q.1 with
  | .inl (ci, sl) => .inr (ci, slv ad f q.2.1 q.2.2 sl)
  | .inr (0, n, _) => .inl (cA 0, n, .inl (fun j => iI (f j)))
  | .inr (1, n, _) => .inl (cA 1, n, .inr (.inl (fun j => Int64.ofInt (f j))))
  | .inr (t + 2, n, r) => .inl (cA (t + 2), n, .inr (.inr (.inr (.inr (fun j => some (ad (tgt r q.2.1 q.2.2 j)))))))
def wl (ad : Pl → Nat) (cA : Nat → ClassId) (σ : Sg) : va_W := PLs.map (fun q => (ad q, cel ad cA q (σ q.1 q.2.1 q.2.2)))
theorem slv_int {ad : Pl → Nat} {f : Nat → Int} {e i : Nat} {sl : List (Option (Nat × Nat))} {j : Nat} (h : sl[j]? = some none) : (slv ad f e i sl)[j]? = some (.int (iI (f j))) := by
  simp [slv, List.getElem?_mapIdx, h]
theorem slv_ref {ad : Pl → Nat} {f : Nat → Int} {e i : Nat} {sl : List (Option (Nat × Nat))} {j : Nat} {t : Nat × Nat} (h : sl[j]? = some (some t)) : (slv ad f e i sl)[j]? = some (.ref (ad (tgt t e i j))) := by
  simp [slv, List.getElem?_mapIdx, h]
theorem slv_len {ad : Pl → Nat} {f : Nat → Int} {e i : Nat} {sl : List (Option (Nat × Nat))} : (slv ad f e i sl).length = sl.length := by simp [slv]
theorem wl_at {ad : Pl → Nat} {cA : Nat → ClassId} {σ : Sg} {n : Nat} {q : Pl} (h : PLs[n]? = some q) : (wl ad cA σ)[n]? = some (ad q, cel ad cA q (σ q.1 q.2.1 q.2.2)) := by
  simp [wl, h]
theorem wl_set {ad : Pl → Nat} {cA : Nat → ClassId} {σ σ' : Sg} {n : Nat} {q : Pl} (h : PLs[n]? = some q) (ho : ∀ k e i, (k, e, i) ≠ q → σ' k e i = σ k e i) {x : va_E} (he : x = cel ad cA q (σ' q.1 q.2.1 q.2.2)) : (wl ad cA σ).set n (ad q, x) = wl ad cA σ' := by
  subst he
  apply List.ext_getElem?
  intro i
  by_cases hi : i = n
  · subst hi
    have hl : i < (wl ad cA σ).length := (List.getElem?_eq_some_iff.mp (wl_at h)).1
    rw [List.getElem?_set_self hl, wl_at h]
  · rw [List.getElem?_set_ne (Ne.symm hi)]
    rcases hq : PLs[i]? with _ | r
    · simp [wl, hq]
    · have hr : r ≠ q := fun e => hi (PL_inj i n r hq (by rw [h, e]))
      rw [wl_at hq, wl_at hq, ho r.1 r.2.1 r.2.2 hr]
theorem slv_set {ad : Pl → Nat} {f g : Nat → Int} {e i j : Nat} {v : Int} {sl : List (Option (Nat × Nat))} (h : sl[j]? = some none) (hv : g j = v) (ho : ∀ y, y ≠ j → g y = f y) : (slv ad f e i sl).set j (.int (iI v)) = slv ad g e i sl := by
  apply List.ext_getElem?
  intro x
  by_cases hi : x = j
  · subst hi
    have hl : x < (slv ad f e i sl).length := by rw [slv_len]; exact (List.getElem?_eq_some_iff.mp h).1
    rw [List.getElem?_set_self hl, slv_int h, hv]
  · rw [List.getElem?_set_ne (Ne.symm hi)]
    simp only [slv, List.getElem?_mapIdx, ho x hi]
theorem upd4_at (σ : Sg) (k e i j : Nat) (v : Int) : upd4 σ k e i j v k e i j = v := by simp [upd4]
theorem upd4_o (σ : Sg) (k e i j : Nat) (v : Int) (k' e' i' : Nat) (h : (k', e', i') ≠ (k, e, i)) : upd4 σ k e i j v k' e' i' = σ k' e' i' := by
  funext y
  have h2 : ¬ (k' = k ∧ e' = e ∧ i' = i ∧ y = j) := fun ⟨a, b, c, _⟩ => h (by rw [a, b, c])
  simp only [upd4, h2, if_false]
theorem upd4_j (σ : Sg) (k e i j : Nat) (v : Int) (y : Nat) (h : y ≠ j) : upd4 σ k e i j v k e i y = σ k e i y := by simp [upd4, h]
theorem cpy4_o (σ : Sg) (ks es is sp kd ed id dp n k' e' i' : Nat) (h : (k', e', i') ≠ (kd, ed, id)) : cpy4 σ ks es is sp kd ed id dp n k' e' i' = σ k' e' i' := by
  funext y
  have h2 : ¬ ((k' = kd ∧ e' = ed ∧ i' = id) ∧ dp ≤ y ∧ y < dp + n) := fun ⟨⟨a, b, c⟩, _⟩ => h (by rw [a, b, c])
  simp only [cpy4, h2, if_false]
/-! locals -/
def prs (ad : Pl → Nat) : Nat → List (Option AV) → List (Nat × Value)
  | _, [] => []
  | n, none :: r => prs ad (n + 1) r
  | n, some v :: r => (n, cv ad v) :: prs ad (n + 1) r
def lgetK (K : AV → Prop) : List (Option AV) → Nat → Prop
  | [], _ => False
  | o :: _, 0 => match o with
    | none => False
    | some v => K v
  | _ :: r, k + 1 => lgetK K r k
def lsetK : List (Option AV) → Nat → AV → (List (Option AV) → Prop) → Prop
  | [], _, _, _ => False
  | _ :: r, 0, v, K => K (some v :: r)
  | o :: r, k + 1, v, K => lsetK r k v (fun r' => K (o :: r'))
theorem prs_ge (ad : Pl → Nat) : ∀ (L : List (Option AV)) (n : Nat) (q : Nat × Value), q ∈ prs ad n L → n ≤ q.1 ∧ q.2.category = 1
  | [], _, _, h => nomatch h
  | none :: r, n, q, h => by
    have := prs_ge ad r (n + 1) q h
    omega
  | some v :: r, n, q, h => by
    rcases List.mem_cons.mp h with h | h
    · subst h
      exact ⟨Nat.le_refl _, cv_cat ad v⟩
    · have := prs_ge ad r (n + 1) q h
      omega
theorem lgetK_sp (ad : Pl → Nat) (K : AV → Prop) : ∀ (L : List (Option AV)) (k n : Nat), lgetK K L k → ∃ v, (n + k, cv ad v) ∈ prs ad n L ∧ some v ∈ L ∧ K v
  | [], _, _, h => nomatch h
  | none :: _, 0, _, h => nomatch h
  | some v :: r, 0, n, h => ⟨v, List.mem_cons_self, List.mem_cons_self, h⟩
  | none :: r, k + 1, n, h => by
    obtain ⟨v, h1, h2, h3⟩ := lgetK_sp ad K r k (n + 1) h
    refine ⟨v, ?_, List.mem_cons_of_mem _ h2, h3⟩
    rw [show n + (k + 1) = n + 1 + k by omega]
    exact h1
  | some w :: r, k + 1, n, h => by
    obtain ⟨v, h1, h2, h3⟩ := lgetK_sp ad K r k (n + 1) h
    refine ⟨v, ?_, List.mem_cons_of_mem _ h2, h3⟩
    rw [show n + (k + 1) = n + 1 + k by omega]
    exact List.mem_cons_of_mem _ h1
theorem lsetK_sp (ad : Pl → Nat) (v : AV) : ∀ (L : List (Option AV)) (k n : Nat) (K : List (Option AV) → Prop), lsetK L k v K → ∃ L', K L' ∧ L'.length = L.length ∧ k < L.length ∧ (∀ q ∈ prs ad n L', q = (n + k, cv ad v) ∨ (q ∈ prs ad n L ∧ q.1 ≠ n + k)) ∧ ∀ w, some w ∈ L' → w = v ∨ some w ∈ L
  | [], _, _, _, h => nomatch h
  | o :: r, 0, n, K, h => by
    refine ⟨some v :: r, h, rfl, Nat.succ_pos _, ?_, ?_⟩
    · intro q hq
      rcases List.mem_cons.mp hq with hq | hq
      · exact Or.inl hq
      · right
        have h9 := prs_ge ad r (n + 1) q hq
        refine ⟨?_, by omega⟩
        cases o with
        | none => exact hq
        | some w => exact List.mem_cons_of_mem _ hq
    · intro w hw
      rcases List.mem_cons.mp hw with hw | hw
      · exact Or.inl (Option.some.inj hw)
      · exact Or.inr (List.mem_cons_of_mem _ hw)
  | o :: r, k + 1, n, K, h => by
    obtain ⟨r', h1, h2, h3, h4, h5⟩ := lsetK_sp ad v r k (n + 1) (fun r' => K (o :: r')) h
    refine ⟨o :: r', h1, by simp [h2], by simp; omega, ?_, ?_⟩
    · intro q hq
      have key : q ∈ prs ad (n + 1) r' → q = (n + (k + 1), cv ad v) ∨ (q ∈ prs ad (n + 1) r ∧ q.1 ≠ n + (k + 1)) := fun hq => by
        rcases h4 q hq with h | h
        · left; rw [h]; congr 1; omega
        · right; exact ⟨h.1, by have := h.2; omega⟩
      cases o with
      | none =>
        exact key hq
      | some w =>
        rcases List.mem_cons.mp hq with hq | hq
        · right
          exact ⟨by rw [hq]; exact List.mem_cons_self, by rw [hq]; show n ≠ n + (k + 1); omega⟩
        · rcases key hq with h | h
          · exact Or.inl h
          · exact Or.inr ⟨List.mem_cons_of_mem _ h.1, h.2⟩
    · intro w hw
      rcases List.mem_cons.mp hw with hw | hw
      · right; rw [hw]; exact List.mem_cons_self
      · rcases h5 w hw with h | h
        · exact Or.inl h
        · exact Or.inr (List.mem_cons_of_mem _ h)
theorem lv_of {ls : Array Slot} {nL : Nat} {l l' : List (Nat × Value)} (h : lv_has ls nL l) (hs : ∀ q ∈ l', q ∈ l) : lv_has ls nL l' := ⟨h.1, h.2.1, fun q hq => h.2.2 q (hs q hq)⟩
/-- the locals behind a store -/
theorem prs_store {ad : Pl → Nat} {L L' : List (Option AV)} {k : Nat} {v : AV} (h : ∀ q ∈ prs ad 0 L', q = (0 + k, cv ad v) ∨ (q ∈ prs ad 0 L ∧ q.1 ≠ 0 + k)) {w : Value} (hw : w = cv ad v) : ∀ q ∈ prs ad 0 L', q ∈ (k, w) :: (prs ad 0 L).filter (fun q => !(q.1 == k) && !(q.1 + 1 == k && q.2.category == 2)) := by
  intro q hq
  rcases h q hq with h | ⟨h1, h2⟩
  · rw [h, hw, Nat.zero_add]; exact List.mem_cons_self
  · refine List.mem_cons_of_mem _ (List.mem_filter.mpr ⟨h1, ?_⟩)
    have h3 := (prs_ge ad L 0 q h1).2
    rw [Nat.zero_add] at h2
    simp [h2, h3]
theorem okL_set {L L' : List (Option AV)} {v : AV} (h : ∀ w, some w ∈ L' → w = v ∨ some w ∈ L) (hL : okL L) (hv : okv v) : okL L' := fun w hw => by
  rcases h w hw with h | h
  · rw [h]; exact hv
  · exact hL w h
/-- the locals at a method's entry -/
def entL (av : List AV) (n : Nat) : List (Option AV) := av.map some ++ List.replicate (n - av.length) none
theorem prs_none (ad : Pl → Nat) : ∀ (k n : Nat), prs ad n (List.replicate k none) = []
  | 0, _ => rfl
  | k + 1, n => by
    show prs ad (n + 1) (List.replicate k none) = []
    exact prs_none ad k (n + 1)
theorem prs_ent (ad : Pl → Nat) (k : Nat) : ∀ (av : List AV) (n : Nat), prs ad n (av.map some ++ List.replicate k none) = lv_args n (av.map (cv ad))
  | [], n => by
    show prs ad n (List.replicate k none) = []
    exact prs_none ad k n
  | v :: av, n => by
    show (n, cv ad v) :: prs ad (n + 1) (av.map some ++ List.replicate k none) = (n, cv ad v) :: lv_args (if (cv ad v).category = 2 then n + 2 else n + 1) (av.map (cv ad))
    rw [prs_ent ad k av (n + 1), cv_cat]
    rfl
