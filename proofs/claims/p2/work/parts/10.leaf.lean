/-- how many letters a text has -/
def tlF (x : Int) : Nat → Int → Int
  | 0, l => l
  | n + 1, l => if nrm (isr x (5 * l)) = 0 then l else tlF x n (l + 1)
def tl (x : Int) : Int := tlF x 6 0
def strm (x : Int) : Prop := 1 ≤ nrm x ∧ nrm x ≤ 13 ∧ nrm x % 2 = 1
def by8 (x : Int) : Prop := 0 ≤ x ∧ x ≤ 255
def kF (k : Nat) : Prop := k = 10 ∨ k = 28 ∨ k = 35
def kT (k : Nat) : Prop := k = 14 ∨ k = 18 ∨ k = 24
abbrev xIAE : String := exn 1
abbrev xNSE : String := exn 2
abbrev xUOE : String := exn 3
abbrev xISE : String := exn 4
theorem bv_le {x : BitVec 32} {n : Nat} (h : x.toNat < 2 ^ n) (hn : n ≤ 31) : 0 ≤ x.toInt ∧ x.toInt < 2 ^ n := by
  have h1 : 2 ^ n ≤ 2 ^ 31 := Nat.pow_le_pow_right (by decide) hn
  have h2 : x.toInt = x.toNat := by
    rw [BitVec.toInt_eq_toNat_cond, if_pos (by omega)]
  rw [h2]
  refine ⟨by omega, ?_⟩
  exact_mod_cast h
theorem iI_bv {a : Int} (h0 : 0 ≤ a) (h1 : a ≤ 2147483647) : (iI a).toBitVec.toNat = a.toNat := by
  have h2 : (iI a).toInt = a := by rw [iI_toInt, nrm_id (by omega) h1]
  have h3 : (iI a).toBitVec.toInt = a := h2
  rw [BitVec.toInt_eq_toNat_cond] at h3
  split at h3 <;> omega
theorem ixr_by8 {a b : Int} (ha : by8 a) (hb : by8 b) : by8 (ixr a b) := by
  obtain ⟨a0, a1⟩ := ha
  obtain ⟨b0, b1⟩ := hb
  have h1 : (iI a).toBitVec.toNat < 2 ^ 8 := by rw [iI_bv a0 (by omega)]; omega
  have h2 : (iI b).toBitVec.toNat < 2 ^ 8 := by rw [iI_bv b0 (by omega)]; omega
  have h3 : ((iI a).toBitVec ^^^ (iI b).toBitVec).toNat < 2 ^ 8 := by
    rw [BitVec.toNat_xor]
    exact Nat.xor_lt_two_pow h1 h2
  have h4 := bv_le h3 (by decide)
  have h5 : ixr a b = ((iI a).toBitVec ^^^ (iI b).toBitVec).toInt := rfl
  unfold by8
  rw [h5]
  omega
theorem ian_31 (a : Int) : 0 ≤ ian a 31 ∧ ian a 31 ≤ 31 := by
  have h2 : (iI 31).toBitVec.toNat < 2 ^ 5 := by decide
  have h3 : ((iI a).toBitVec &&& (iI 31).toBitVec).toNat < 2 ^ 5 := by
    rw [BitVec.toNat_and]
    exact Nat.and_lt_two_pow _ h2
  have h4 := bv_le h3 (by decide)
  have h5 : ian a 31 = ((iI a).toBitVec &&& (iI 31).toBitVec).toInt := rfl
  rw [h5]
  omega
theorem wg_FrameStreams : ∀ w ∈ u_ws R_FrameStreams T_FrameStreams 2, w ∈ GWS := by decide +kernel
theorem fl_FrameStreams (own : String) (a j ty : Nat) (hj : j < 2) (hl : Cond.fieldLink own a (T_FrameStreams j).1 (T_FrameStreams j).2.1 (T_FrameStreams j).2.2.1 ∈ GWS) (ht : (ty = 0 → (T_FrameStreams j).2.2.2 = false ∧ ty_FrameStreams j = .int) ∧ (ty = 1 → (T_FrameStreams j).2.2.2 = false ∧ ty_FrameStreams j = .boolean)) : FldOK own a (0, j, ty) :=
  ⟨R_FrameStreams, T_FrameStreams, 2, ty_FrameStreams, rfl, wg_FrameStreams, hj, hl, tk_FrameStreams, nm_FrameStreams, ht.1, ht.2⟩
theorem wg_BlockReader : ∀ w ∈ u_ws R_BlockReader T_BlockReader 6, w ∈ GWS := by decide +kernel
theorem fl_BlockReader (own : String) (a j ty : Nat) (hj : j < 6) (hl : Cond.fieldLink own a (T_BlockReader j).1 (T_BlockReader j).2.1 (T_BlockReader j).2.2.1 ∈ GWS) (ht : (ty = 0 → (T_BlockReader j).2.2.2 = false ∧ ty_BlockReader j = .int) ∧ (ty = 1 → (T_BlockReader j).2.2.2 = false ∧ ty_BlockReader j = .boolean)) : FldOK own a (1, j, ty) :=
  ⟨R_BlockReader, T_BlockReader, 6, ty_BlockReader, rfl, wg_BlockReader, hj, hl, tk_BlockReader, nm_BlockReader, ht.1, ht.2⟩
theorem wg_BlockWriter : ∀ w ∈ u_ws R_BlockWriter T_BlockWriter 4, w ∈ GWS := by decide +kernel
theorem fl_BlockWriter (own : String) (a j ty : Nat) (hj : j < 4) (hl : Cond.fieldLink own a (T_BlockWriter j).1 (T_BlockWriter j).2.1 (T_BlockWriter j).2.2.1 ∈ GWS) (ht : (ty = 0 → (T_BlockWriter j).2.2.2 = false ∧ ty_BlockWriter j = .int) ∧ (ty = 1 → (T_BlockWriter j).2.2.2 = false ∧ ty_BlockWriter j = .boolean)) : FldOK own a (2, j, ty) :=
  ⟨R_BlockWriter, T_BlockWriter, 4, ty_BlockWriter, rfl, wg_BlockWriter, hj, hl, tk_BlockWriter, nm_BlockWriter, ht.1, ht.2⟩
theorem wg_End : ∀ w ∈ u_ws R_End T_End 15, w ∈ GWS := by decide +kernel
theorem fl_End (own : String) (a j ty : Nat) (hj : j < 15) (hl : Cond.fieldLink own a (T_End j).1 (T_End j).2.1 (T_End j).2.2.1 ∈ GWS) (ht : (ty = 0 → (T_End j).2.2.2 = false ∧ ty_End j = .int) ∧ (ty = 1 → (T_End j).2.2.2 = false ∧ ty_End j = .boolean)) : FldOK own a (3, j, ty) :=
  ⟨R_End, T_End, 15, ty_End, rfl, wg_End, hj, hl, tk_End, nm_End, ht.1, ht.2⟩
theorem wg_Fields : ∀ w ∈ u_ws R_Fields T_Fields 3, w ∈ GWS := by decide +kernel
theorem fl_Fields (own : String) (a j ty : Nat) (hj : j < 3) (hl : Cond.fieldLink own a (T_Fields j).1 (T_Fields j).2.1 (T_Fields j).2.2.1 ∈ GWS) (ht : (ty = 0 → (T_Fields j).2.2.2 = false ∧ ty_Fields j = .int) ∧ (ty = 1 → (T_Fields j).2.2.2 = false ∧ ty_Fields j = .boolean)) : FldOK own a (4, j, ty) :=
  ⟨R_Fields, T_Fields, 3, ty_Fields, rfl, wg_Fields, hj, hl, tk_Fields, nm_Fields, ht.1, ht.2⟩
theorem wg_Frame : ∀ w ∈ u_ws R_Frame T_Frame 2, w ∈ GWS := by decide +kernel
theorem fl_Frame (own : String) (a j ty : Nat) (hj : j < 2) (hl : Cond.fieldLink own a (T_Frame j).1 (T_Frame j).2.1 (T_Frame j).2.2.1 ∈ GWS) (ht : (ty = 0 → (T_Frame j).2.2.2 = false ∧ ty_Frame j = .int) ∧ (ty = 1 → (T_Frame j).2.2.2 = false ∧ ty_Frame j = .boolean)) : FldOK own a (5, j, ty) :=
  ⟨R_Frame, T_Frame, 2, ty_Frame, rfl, wg_Frame, hj, hl, tk_Frame, nm_Frame, ht.1, ht.2⟩
theorem wg_Stream : ∀ w ∈ u_ws R_Stream T_Stream 6, w ∈ GWS := by decide +kernel
theorem fl_Stream (own : String) (a j ty : Nat) (hj : j < 6) (hl : Cond.fieldLink own a (T_Stream j).1 (T_Stream j).2.1 (T_Stream j).2.2.1 ∈ GWS) (ht : (ty = 0 → (T_Stream j).2.2.2 = false ∧ ty_Stream j = .int) ∧ (ty = 1 → (T_Stream j).2.2.2 = false ∧ ty_Stream j = .boolean)) : FldOK own a (6, j, ty) :=
  ⟨R_Stream, T_Stream, 6, ty_Stream, rfl, wg_Stream, hj, hl, tk_Stream, nm_Stream, ht.1, ht.2⟩
theorem wg_Table : ∀ w ∈ u_ws R_Table T_Table 6, w ∈ GWS := by decide +kernel
theorem fl_Table (own : String) (a j ty : Nat) (hj : j < 6) (hl : Cond.fieldLink own a (T_Table j).1 (T_Table j).2.1 (T_Table j).2.2.1 ∈ GWS) (ht : (ty = 0 → (T_Table j).2.2.2 = false ∧ ty_Table j = .int) ∧ (ty = 1 → (T_Table j).2.2.2 = false ∧ ty_Table j = .boolean)) : FldOK own a (7, j, ty) :=
  ⟨R_Table, T_Table, 6, ty_Table, rfl, wg_Table, hj, hl, tk_Table, nm_Table, ht.1, ht.2⟩
theorem wg_Wire : ∀ w ∈ u_ws R_Wire T_Wire 3, w ∈ GWS := by decide +kernel
theorem fl_Wire (own : String) (a j ty : Nat) (hj : j < 3) (hl : Cond.fieldLink own a (T_Wire j).1 (T_Wire j).2.1 (T_Wire j).2.2.1 ∈ GWS) (ht : (ty = 0 → (T_Wire j).2.2.2 = false ∧ ty_Wire j = .int) ∧ (ty = 1 → (T_Wire j).2.2.2 = false ∧ ty_Wire j = .boolean)) : FldOK own a (8, j, ty) :=
  ⟨R_Wire, T_Wire, 3, ty_Wire, rfl, wg_Wire, hj, hl, tk_Wire, nm_Wire, ht.1, ht.2⟩
def ft_Letters (a : Nat) : Option (Nat × Nat × Nat) := match a with
  | _ => none
theorem fo_Letters : ∀ a v, ft_Letters a = some v → FldOK R_Letters a v := by
  intro a v h
  unfold ft_Letters at h
  cases h
def gt_Letters_length (a : Nat) : Option Nat := match a with
  | _ => none
theorem go_Letters_length : ∀ a v, gt_Letters_length a = some v → StaOK R_Letters a v := by
  intro a v h
  unfold gt_Letters_length at h
  cases h
def pr_Letters_length : List Ent := [(0, 0, 0, 0, 0), (1, 7, 1, 0, 0), (2, 3, 1, 0, 0), (3, 1, 0, 6, 0), (5, 35, 0, 0, 22), (8, 3, 0, 0, 0), (9, 0, 0, 5, 0), (10, 3, 1, 0, 0), (11, 14, 0, 0, 0), (12, 22, 0, 0, 0), (13, 26, 0, 0, 22), (16, 11, 1, 1, 0), (19, 38, 0, 0, 2), (22, 3, 1, 0, 0), (23, 48, 0, 0, 0)]
def sw_Letters_length : List Swt := []
theorem dk_Letters_length : ∀ q ∈ pr_Letters_length, decode b_Letters_length q.1 = .ok (dec sw_Letters_length q) ∧ okE q = true := by decide +kernel
theorem nt_Letters_length : ∀ q ∈ pr_Letters_length, ¬ q.2.1 = 55 := by decide +kernel
def ct_Letters_length (a : Nat) : Option (Nat × Nat × CSp × Nat × Nat) := match a with
  | _ => none
theorem co_Letters_length : ∀ a v, ct_Letters_length a = some v → StcOK R_Letters 0 0 a v := by
  intro a v h
  unfold ct_Letters_length at h
  cases h
/-- Letters_length -/
def sp_Letters_length : CSp := sI (fun x0 σ K _ => K (some (.inl (tl x0))) σ)
set_option maxHeartbeats 4000000 in
set_option maxRecDepth 100000 in
theorem c_Letters_length : Ctr y_Letters_length b_Letters_length 2 (some .int) 0 0 0 0 sp_Letters_length := by
  refine ctr_of (FT := ft_Letters) (GT := gt_Letters_length) (CT := ct_Letters_length) (sw := sw_Letters_length) (rt := 0) (pr := pr_Letters_length) (by decide) [2] (fun av σ _ _ n pc L st σ' nc ns => ∃ x l, av = [.inl x] ∧ pc = 2 ∧ L = [some (.inl x), some (.inl l)] ∧ st = [] ∧ σ' = σ ∧ nc = 0 ∧ ns = 0 ∧ 0 ≤ l ∧ l ≤ 6 ∧ n = (6 - l).toNat ∧ tl x = tlF x n l) 30 ⟨fun _ => rfl, fun h => absurd h (by decide), fun h => absurd h (by decide), fun h => absurd h (by decide)⟩ dk_Letters_length fo_Letters go_Letters_length co_Letters_length (fun a k h hk => by unfold gt_Letters_length at h; cases h) (fun q hq h => absurd h (nt_Letters_length q hq)) (fun av σ K kx h => by rw [sI_len h]; decide) ?_ ?_
  · intro av σ K kx hok hSp
    obtain ⟨x0, rfl, hp⟩ := sI_inv hSp
    exact ⟨6, x0, 0, rfl, rfl, rfl, rfl, rfl, rfl, rfl, by omega, by omega, rfl, rfl⟩
  · intro av σ K kx n pc L st σ' nc ns hok hSp hJ
    obtain ⟨x, l, rfl, rfl, rfl, rfl, rfl, rfl, rfl, h0, h6, hn, ht⟩ := hJ
    have hp : K (some (.inl (tl x))) σ' := hSp
    have hl : nrm l = l := nrm_id (by omega) (by omega)
    refine And.intro (fun h => ?_) (fun h => And.intro (fun h2 => ?_) (fun h2 => ?_))
    · have h9 : (6 : Int) ≤ nrm l := h
      have h8 : n = 0 := by omega
      subst h8
      rw [ht] at hp
      exact hp
    · have h9 : nrm l < 6 := h
      obtain ⟨m, rfl⟩ : ∃ m, n = m + 1 := ⟨n - 1, by omega⟩
      have h8 : tlF x (m + 1) l = l := by
        show (if nrm (isr x (5 * l)) = 0 then l else tlF x m (l + 1)) = l
        rw [if_pos h2]
      rw [ht, h8] at hp
      exact hp
    · have h9 : nrm l < 6 := h
      obtain ⟨m, rfl⟩ : ∃ m, n = m + 1 := ⟨n - 1, by omega⟩
      refine ⟨m, Nat.lt_succ_self m, x, l + 1, rfl, rfl, rfl, rfl, rfl, rfl, rfl, by omega, by omega, by omega, ?_⟩
      rw [ht]
      show (if nrm (isr x (5 * l)) = 0 then l else tlF x m (l + 1)) = _
      rw [if_neg h2]
def gt_Letters_append (a : Nat) : Option Nat := match a with
  | _ => none
theorem go_Letters_append : ∀ a v, gt_Letters_append a = some v → StaOK R_Letters a v := by
  intro a v h
  unfold gt_Letters_append at h
  cases h
def pr_Letters_append : List Ent := [(0, 3, 0, 0, 0), (1, 3, 1, 0, 0), (2, 1, 0, 97, 0), (4, 13, 0, 0, 0), (5, 0, 0, 1, 0), (6, 12, 0, 0, 0), (7, 0, 0, 5, 0), (8, 3, 0, 0, 0), (9, 47, 11, 0, 0), (12, 14, 0, 0, 0), (13, 21, 0, 0, 0), (14, 19, 0, 0, 0), (15, 48, 0, 0, 0)]
def sw_Letters_append : List Swt := []
theorem dk_Letters_append : ∀ q ∈ pr_Letters_append, decode b_Letters_append q.1 = .ok (dec sw_Letters_append q) ∧ okE q = true := by decide +kernel
theorem nt_Letters_append : ∀ q ∈ pr_Letters_append, ¬ q.2.1 = 55 := by decide +kernel
def ct_Letters_append (a : Nat) : Option (Nat × Nat × CSp × Nat × Nat) := match a with
  | 11 => some (1, 1000, sp_Letters_length, 0, 0)
  | _ => none
theorem co_Letters_append : ∀ a v, ct_Letters_append a = some v → StcOK R_Letters 1 21 a v := by
  intro a v h
  unfold ct_Letters_append at h
  split at h
  · cases h; exact ⟨y_Letters_length, b_Letters_length, 2, (some .int), 0, 0, 1, c_Letters_length, by decide, by decide +kernel, by decide +kernel, by decide +kernel, (by first | exact Or.inr (Or.inl ⟨rfl, rfl, by decide +kernel, by decide +kernel⟩) | exact Or.inr (Or.inr ⟨rfl, rfl, ⟨"FrameStreams", by decide +kernel⟩, by decide +kernel⟩))⟩
  · cases h
/-- Letters_append -/
def sp_Letters_append : CSp := sII (fun x0 x1 σ K _ => K (some (.inl (ior x0 (isl (x1 - 97 + 1) (5 * tl x0))))) σ)
set_option maxHeartbeats 4000000 in
set_option maxRecDepth 100000 in
theorem c_Letters_append : Ctr y_Letters_append b_Letters_append 2 (some .int) 1 21 0 0 sp_Letters_append := by
  refine ctr_of (FT := ft_Letters) (GT := gt_Letters_append) (CT := ct_Letters_append) (sw := sw_Letters_append) (rt := 0) (pr := pr_Letters_append) (by decide) [] (fun _ _ _ _ _ _ _ _ _ _ _ => False) 30 ⟨fun _ => rfl, fun h => absurd h (by decide), fun h => absurd h (by decide), fun h => absurd h (by decide)⟩ dk_Letters_append fo_Letters go_Letters_append co_Letters_append (fun a k h hk => by unfold gt_Letters_append at h; cases h) (fun q hq h => absurd h (nt_Letters_append q hq)) (fun av σ K kx h => by rw [sII_len h]; decide) ?_ ?_
  · intro av σ K kx hok hSp
    obtain ⟨x0, x1, rfl, hp⟩ := sII_inv hSp
    have h0 := hp
    all_goals (repeat' (first | (with_reducible assumption) | (with_reducible refine IV_upd ?_ ?_) | (with_reducible refine IV_cpy ?_ (fun _ _ _ _ => trivial)) | (refine And.intro ?_ ?_) | (intro _)))
    all_goals first | (first | rfl | decide | (simp only [nrm, strm, by8] at * <;> omega) | (simp [upd4, cpy4, nrm, strm, by8] at * <;> omega)) | (exact h0 (by first | assumption | (first | rfl | decide | (simp only [nrm, strm, by8] at * <;> omega) | (simp [upd4, cpy4, nrm, strm, by8] at * <;> omega)))) | (exact h0) | (refine h0 _ ?_ ?_ <;> (repeat' (first | assumption | exact trivial | exact Un_rf | exact hI 4 _ _ _ | exact hI 9 _ _ _ | exact hI 22 _ _ _ | (refine ixr_by8 ?_ ?_) | (refine IV_upd ?_ ?_) | (refine Un_upd rfl ?_) | (refine IV_cpy ?_ (fun _ _ _ _ => trivial)) | (refine Un_cpy rfl ?_) | (apply Un_tr; rotate_left; assumption; rfl) | (refine And.intro ?_ ?_))) <;> (first | rfl | decide | (simp only [nrm, strm, by8] at * <;> omega) | (simp [upd4, cpy4, nrm, strm, by8] at * <;> omega))) | (apply h0 <;> (repeat' (first | assumption | exact trivial | exact Un_rf | exact hI 4 _ _ _ | exact hI 9 _ _ _ | exact hI 22 _ _ _ | (refine ixr_by8 ?_ ?_) | (refine IV_upd ?_ ?_) | (refine Un_upd rfl ?_) | (refine IV_cpy ?_ (fun _ _ _ _ => trivial)) | (refine Un_cpy rfl ?_) | (apply Un_tr; rotate_left; assumption; rfl) | (refine And.intro ?_ ?_))) <;> (first | rfl | decide | (simp only [nrm, strm, by8] at * <;> omega) | (simp [upd4, cpy4, nrm, strm, by8] at * <;> omega))) | ((repeat' (first | assumption | exact trivial | exact Un_rf | exact hI 4 _ _ _ | exact hI 9 _ _ _ | exact hI 22 _ _ _ | (refine ixr_by8 ?_ ?_) | (refine IV_upd ?_ ?_) | (refine Un_upd rfl ?_) | (refine IV_cpy ?_ (fun _ _ _ _ => trivial)) | (refine Un_cpy rfl ?_) | (apply Un_tr; rotate_left; assumption; rfl) | (refine And.intro ?_ ?_))) <;> (first | rfl | decide | (simp only [nrm, strm, by8] at * <;> omega) | (simp [upd4, cpy4, nrm, strm, by8] at * <;> omega)))
  · intro av σ K kx n pc L st σ' nc ns _ _ h
    exact (h : False).elim
def gt_Letters_letterAt (a : Nat) : Option Nat := match a with
  | _ => none
theorem go_Letters_letterAt : ∀ a v, gt_Letters_letterAt a = some v → StaOK R_Letters a v := by
  intro a v h
  unfold gt_Letters_letterAt at h
  cases h
def pr_Letters_letterAt : List Ent := [(0, 3, 0, 0, 0), (1, 0, 0, 5, 0), (2, 3, 1, 0, 0), (3, 14, 0, 0, 0), (4, 22, 0, 0, 0), (5, 1, 0, 31, 0), (7, 18, 0, 0, 0), (8, 1, 0, 97, 0), (10, 12, 0, 0, 0), (11, 0, 0, 1, 0), (12, 13, 0, 0, 0), (13, 48, 0, 0, 0)]
def sw_Letters_letterAt : List Swt := []
theorem dk_Letters_letterAt : ∀ q ∈ pr_Letters_letterAt, decode b_Letters_letterAt q.1 = .ok (dec sw_Letters_letterAt q) ∧ okE q = true := by decide +kernel
theorem nt_Letters_letterAt : ∀ q ∈ pr_Letters_letterAt, ¬ q.2.1 = 55 := by decide +kernel
def ct_Letters_letterAt (a : Nat) : Option (Nat × Nat × CSp × Nat × Nat) := match a with
  | _ => none
theorem co_Letters_letterAt : ∀ a v, ct_Letters_letterAt a = some v → StcOK R_Letters 0 0 a v := by
  intro a v h
  unfold ct_Letters_letterAt at h
  cases h
/-- Letters_letterAt -/
def sp_Letters_letterAt : CSp := sII (fun x0 x1 σ K _ => K (some (.inl (ian (isr x0 (5 * x1)) 31 + 97 - 1))) σ)
set_option maxHeartbeats 4000000 in
set_option maxRecDepth 100000 in
theorem c_Letters_letterAt : Ctr y_Letters_letterAt b_Letters_letterAt 2 (some .int) 0 0 0 0 sp_Letters_letterAt := by
  refine ctr_of (FT := ft_Letters) (GT := gt_Letters_letterAt) (CT := ct_Letters_letterAt) (sw := sw_Letters_letterAt) (rt := 0) (pr := pr_Letters_letterAt) (by decide) [] (fun _ _ _ _ _ _ _ _ _ _ _ => False) 30 ⟨fun _ => rfl, fun h => absurd h (by decide), fun h => absurd h (by decide), fun h => absurd h (by decide)⟩ dk_Letters_letterAt fo_Letters go_Letters_letterAt co_Letters_letterAt (fun a k h hk => by unfold gt_Letters_letterAt at h; cases h) (fun q hq h => absurd h (nt_Letters_letterAt q hq)) (fun av σ K kx h => by rw [sII_len h]; decide) ?_ ?_
  · intro av σ K kx hok hSp
    obtain ⟨x0, x1, rfl, hp⟩ := sII_inv hSp
    have h0 := hp
    all_goals (repeat' (first | (with_reducible assumption) | (with_reducible refine IV_upd ?_ ?_) | (with_reducible refine IV_cpy ?_ (fun _ _ _ _ => trivial)) | (refine And.intro ?_ ?_) | (intro _)))
    all_goals first | (first | rfl | decide | (simp only [nrm, strm, by8] at * <;> omega) | (simp [upd4, cpy4, nrm, strm, by8] at * <;> omega)) | (exact h0 (by first | assumption | (first | rfl | decide | (simp only [nrm, strm, by8] at * <;> omega) | (simp [upd4, cpy4, nrm, strm, by8] at * <;> omega)))) | (exact h0) | (refine h0 _ ?_ ?_ <;> (repeat' (first | assumption | exact trivial | exact Un_rf | exact hI 4 _ _ _ | exact hI 9 _ _ _ | exact hI 22 _ _ _ | (refine ixr_by8 ?_ ?_) | (refine IV_upd ?_ ?_) | (refine Un_upd rfl ?_) | (refine IV_cpy ?_ (fun _ _ _ _ => trivial)) | (refine Un_cpy rfl ?_) | (apply Un_tr; rotate_left; assumption; rfl) | (refine And.intro ?_ ?_))) <;> (first | rfl | decide | (simp only [nrm, strm, by8] at * <;> omega) | (simp [upd4, cpy4, nrm, strm, by8] at * <;> omega))) | (apply h0 <;> (repeat' (first | assumption | exact trivial | exact Un_rf | exact hI 4 _ _ _ | exact hI 9 _ _ _ | exact hI 22 _ _ _ | (refine ixr_by8 ?_ ?_) | (refine IV_upd ?_ ?_) | (refine Un_upd rfl ?_) | (refine IV_cpy ?_ (fun _ _ _ _ => trivial)) | (refine Un_cpy rfl ?_) | (apply Un_tr; rotate_left; assumption; rfl) | (refine And.intro ?_ ?_))) <;> (first | rfl | decide | (simp only [nrm, strm, by8] at * <;> omega) | (simp [upd4, cpy4, nrm, strm, by8] at * <;> omega))) | ((repeat' (first | assumption | exact trivial | exact Un_rf | exact hI 4 _ _ _ | exact hI 9 _ _ _ | exact hI 22 _ _ _ | (refine ixr_by8 ?_ ?_) | (refine IV_upd ?_ ?_) | (refine Un_upd rfl ?_) | (refine IV_cpy ?_ (fun _ _ _ _ => trivial)) | (refine Un_cpy rfl ?_) | (apply Un_tr; rotate_left; assumption; rfl) | (refine And.intro ?_ ?_))) <;> (first | rfl | decide | (simp only [nrm, strm, by8] at * <;> omega) | (simp [upd4, cpy4, nrm, strm, by8] at * <;> omega)))
  · intro av σ K kx n pc L st σ' nc ns _ _ h
    exact (h : False).elim
def gt_Letters_isLetter (a : Nat) : Option Nat := match a with
  | _ => none
theorem go_Letters_isLetter : ∀ a v, gt_Letters_isLetter a = some v → StaOK R_Letters a v := by
  intro a v h
  unfold gt_Letters_isLetter at h
  cases h
def pr_Letters_isLetter : List Ent := [(0, 3, 0, 0, 0), (1, 1, 0, 97, 0), (3, 34, 0, 0, 16), (6, 3, 0, 0, 0), (7, 1, 0, 122, 0), (9, 36, 0, 0, 16), (12, 0, 0, 1, 0), (13, 38, 0, 0, 17), (16, 0, 0, 0, 0), (17, 48, 0, 0, 0)]
def sw_Letters_isLetter : List Swt := []
theorem dk_Letters_isLetter : ∀ q ∈ pr_Letters_isLetter, decode b_Letters_isLetter q.1 = .ok (dec sw_Letters_isLetter q) ∧ okE q = true := by decide +kernel
theorem nt_Letters_isLetter : ∀ q ∈ pr_Letters_isLetter, ¬ q.2.1 = 55 := by decide +kernel
def ct_Letters_isLetter (a : Nat) : Option (Nat × Nat × CSp × Nat × Nat) := match a with
  | _ => none
theorem co_Letters_isLetter : ∀ a v, ct_Letters_isLetter a = some v → StcOK R_Letters 0 0 a v := by
  intro a v h
  unfold ct_Letters_isLetter at h
  cases h
/-- Letters_isLetter -/
def sp_Letters_isLetter : CSp := sI (fun x0 σ K _ => (97 ≤ nrm x0 ∧ nrm x0 ≤ 122 → K (some (.inl 1)) σ) ∧ (¬ (97 ≤ nrm x0 ∧ nrm x0 ≤ 122) → K (some (.inl 0)) σ))
set_option maxHeartbeats 4000000 in
set_option maxRecDepth 100000 in
theorem c_Letters_isLetter : Ctr y_Letters_isLetter b_Letters_isLetter 1 (some .boolean) 0 0 0 0 sp_Letters_isLetter := by
  refine ctr_of (FT := ft_Letters) (GT := gt_Letters_isLetter) (CT := ct_Letters_isLetter) (sw := sw_Letters_isLetter) (rt := 1) (pr := pr_Letters_isLetter) (by decide) [] (fun _ _ _ _ _ _ _ _ _ _ _ => False) 30 ⟨fun h => absurd h (by decide), fun _ => rfl, fun h => absurd h (by decide), fun h => absurd h (by decide)⟩ dk_Letters_isLetter fo_Letters go_Letters_isLetter co_Letters_isLetter (fun a k h hk => by unfold gt_Letters_isLetter at h; cases h) (fun q hq h => absurd h (nt_Letters_isLetter q hq)) (fun av σ K kx h => by rw [sI_len h]; decide) ?_ ?_
  · intro av σ K kx hok hSp
    obtain ⟨x0, rfl, hp⟩ := sI_inv hSp
    obtain ⟨h0, h1⟩ := hp
    all_goals (repeat' (first | (with_reducible assumption) | (with_reducible refine IV_upd ?_ ?_) | (with_reducible refine IV_cpy ?_ (fun _ _ _ _ => trivial)) | (refine And.intro ?_ ?_) | (intro _)))
    all_goals first | (first | rfl | decide | (simp only [nrm, strm, by8] at * <;> omega) | (simp [upd4, cpy4, nrm, strm, by8] at * <;> omega)) | (exact h0 (by first | assumption | (first | rfl | decide | (simp only [nrm, strm, by8] at * <;> omega) | (simp [upd4, cpy4, nrm, strm, by8] at * <;> omega)))) | (exact h1 (by first | assumption | (first | rfl | decide | (simp only [nrm, strm, by8] at * <;> omega) | (simp [upd4, cpy4, nrm, strm, by8] at * <;> omega)))) | (exact h0) | (exact h1) | (refine h0 _ ?_ ?_ <;> (repeat' (first | assumption | exact trivial | exact Un_rf | exact hI 4 _ _ _ | exact hI 9 _ _ _ | exact hI 22 _ _ _ | (refine ixr_by8 ?_ ?_) | (refine IV_upd ?_ ?_) | (refine Un_upd rfl ?_) | (refine IV_cpy ?_ (fun _ _ _ _ => trivial)) | (refine Un_cpy rfl ?_) | (apply Un_tr; rotate_left; assumption; rfl) | (refine And.intro ?_ ?_))) <;> (first | rfl | decide | (simp only [nrm, strm, by8] at * <;> omega) | (simp [upd4, cpy4, nrm, strm, by8] at * <;> omega))) | (refine h1 _ ?_ ?_ <;> (repeat' (first | assumption | exact trivial | exact Un_rf | exact hI 4 _ _ _ | exact hI 9 _ _ _ | exact hI 22 _ _ _ | (refine ixr_by8 ?_ ?_) | (refine IV_upd ?_ ?_) | (refine Un_upd rfl ?_) | (refine IV_cpy ?_ (fun _ _ _ _ => trivial)) | (refine Un_cpy rfl ?_) | (apply Un_tr; rotate_left; assumption; rfl) | (refine And.intro ?_ ?_))) <;> (first | rfl | decide | (simp only [nrm, strm, by8] at * <;> omega) | (simp [upd4, cpy4, nrm, strm, by8] at * <;> omega))) | (apply h0 <;> (repeat' (first | assumption | exact trivial | exact Un_rf | exact hI 4 _ _ _ | exact hI 9 _ _ _ | exact hI 22 _ _ _ | (refine ixr_by8 ?_ ?_) | (refine IV_upd ?_ ?_) | (refine Un_upd rfl ?_) | (refine IV_cpy ?_ (fun _ _ _ _ => trivial)) | (refine Un_cpy rfl ?_) | (apply Un_tr; rotate_left; assumption; rfl) | (refine And.intro ?_ ?_))) <;> (first | rfl | decide | (simp only [nrm, strm, by8] at * <;> omega) | (simp [upd4, cpy4, nrm, strm, by8] at * <;> omega))) | (apply h1 <;> (repeat' (first | assumption | exact trivial | exact Un_rf | exact hI 4 _ _ _ | exact hI 9 _ _ _ | exact hI 22 _ _ _ | (refine ixr_by8 ?_ ?_) | (refine IV_upd ?_ ?_) | (refine Un_upd rfl ?_) | (refine IV_cpy ?_ (fun _ _ _ _ => trivial)) | (refine Un_cpy rfl ?_) | (apply Un_tr; rotate_left; assumption; rfl) | (refine And.intro ?_ ?_))) <;> (first | rfl | decide | (simp only [nrm, strm, by8] at * <;> omega) | (simp [upd4, cpy4, nrm, strm, by8] at * <;> omega))) | ((repeat' (first | assumption | exact trivial | exact Un_rf | exact hI 4 _ _ _ | exact hI 9 _ _ _ | exact hI 22 _ _ _ | (refine ixr_by8 ?_ ?_) | (refine IV_upd ?_ ?_) | (refine Un_upd rfl ?_) | (refine IV_cpy ?_ (fun _ _ _ _ => trivial)) | (refine Un_cpy rfl ?_) | (apply Un_tr; rotate_left; assumption; rfl) | (refine And.intro ?_ ?_))) <;> (first | rfl | decide | (simp only [nrm, strm, by8] at * <;> omega) | (simp [upd4, cpy4, nrm, strm, by8] at * <;> omega)))
  · intro av σ K kx n pc L st σ' nc ns _ _ h
    exact (h : False).elim
def ft_FrameStreams (a : Nat) : Option (Nat × Nat × Nat) := match a with
  | 9 => some (0, 0, 2)
  | 15 => some (0, 1, 2)
  | _ => none
theorem fo_FrameStreams : ∀ a v, ft_FrameStreams a = some v → FldOK R_FrameStreams a v := by
  intro a v h
  unfold ft_FrameStreams at h
  split at h
  · cases h; exact fl_FrameStreams _ _ _ _ (by decide) (by decide +kernel) (by decide)
  · cases h; exact fl_FrameStreams _ _ _ _ (by decide) (by decide +kernel) (by decide)
  · cases h
def gt_FrameStreams_isStream (a : Nat) : Option Nat := match a with
  | _ => none
theorem go_FrameStreams_isStream : ∀ a v, gt_FrameStreams_isStream a = some v → StaOK R_FrameStreams a v := by
  intro a v h
  unfold gt_FrameStreams_isStream at h
  cases h
def pr_FrameStreams_isStream : List Ent := [(0, 3, 0, 0, 0), (1, 0, 0, 1, 0), (2, 34, 0, 0, 22), (5, 3, 0, 0, 0), (6, 1, 0, 13, 0), (8, 36, 0, 0, 22), (11, 3, 0, 0, 0), (12, 0, 0, 2, 0), (13, 17, 0, 0, 0), (14, 0, 0, 1, 0), (15, 33, 0, 0, 22), (18, 0, 0, 1, 0), (19, 38, 0, 0, 23), (22, 0, 0, 0, 0), (23, 48, 0, 0, 0)]
def sw_FrameStreams_isStream : List Swt := []
theorem dk_FrameStreams_isStream : ∀ q ∈ pr_FrameStreams_isStream, decode b_FrameStreams_isStream q.1 = .ok (dec sw_FrameStreams_isStream q) ∧ okE q = true := by decide +kernel
theorem nt_FrameStreams_isStream : ∀ q ∈ pr_FrameStreams_isStream, ¬ q.2.1 = 55 := by decide +kernel
def ct_FrameStreams_isStream (a : Nat) : Option (Nat × Nat × CSp × Nat × Nat) := match a with
  | _ => none
theorem co_FrameStreams_isStream : ∀ a v, ct_FrameStreams_isStream a = some v → StcOK R_FrameStreams 0 0 a v := by
  intro a v h
  unfold ct_FrameStreams_isStream at h
  cases h
/-- FrameStreams_isStream -/
def sp_FrameStreams_isStream : CSp := sI (fun x0 σ K _ => (strm x0 → K (some (.inl 1)) σ) ∧ (¬ strm x0 → K (some (.inl 0)) σ))
set_option maxHeartbeats 4000000 in
set_option maxRecDepth 100000 in
theorem c_FrameStreams_isStream : Ctr y_FrameStreams_isStream b_FrameStreams_isStream 1 (some .boolean) 0 0 0 0 sp_FrameStreams_isStream := by
  refine ctr_of (FT := ft_FrameStreams) (GT := gt_FrameStreams_isStream) (CT := ct_FrameStreams_isStream) (sw := sw_FrameStreams_isStream) (rt := 1) (pr := pr_FrameStreams_isStream) (by decide) [] (fun _ _ _ _ _ _ _ _ _ _ _ => False) 30 ⟨fun h => absurd h (by decide), fun _ => rfl, fun h => absurd h (by decide), fun h => absurd h (by decide)⟩ dk_FrameStreams_isStream fo_FrameStreams go_FrameStreams_isStream co_FrameStreams_isStream (fun a k h hk => by unfold gt_FrameStreams_isStream at h; cases h) (fun q hq h => absurd h (nt_FrameStreams_isStream q hq)) (fun av σ K kx h => by rw [sI_len h]; decide) ?_ ?_
  · intro av σ K kx hok hSp
    obtain ⟨x0, rfl, hp⟩ := sI_inv hSp
    obtain ⟨h0, h1⟩ := hp
    all_goals (repeat' (first | (with_reducible assumption) | (with_reducible refine IV_upd ?_ ?_) | (with_reducible refine IV_cpy ?_ (fun _ _ _ _ => trivial)) | (refine And.intro ?_ ?_) | (intro _)))
    all_goals first | (first | rfl | decide | (simp only [nrm, strm, by8] at * <;> omega) | (simp [upd4, cpy4, nrm, strm, by8] at * <;> omega)) | (exact h0 (by first | assumption | (first | rfl | decide | (simp only [nrm, strm, by8] at * <;> omega) | (simp [upd4, cpy4, nrm, strm, by8] at * <;> omega)))) | (exact h1 (by first | assumption | (first | rfl | decide | (simp only [nrm, strm, by8] at * <;> omega) | (simp [upd4, cpy4, nrm, strm, by8] at * <;> omega)))) | (exact h0) | (exact h1) | (refine h0 _ ?_ ?_ <;> (repeat' (first | assumption | exact trivial | exact Un_rf | exact hI 4 _ _ _ | exact hI 9 _ _ _ | exact hI 22 _ _ _ | (refine ixr_by8 ?_ ?_) | (refine IV_upd ?_ ?_) | (refine Un_upd rfl ?_) | (refine IV_cpy ?_ (fun _ _ _ _ => trivial)) | (refine Un_cpy rfl ?_) | (apply Un_tr; rotate_left; assumption; rfl) | (refine And.intro ?_ ?_))) <;> (first | rfl | decide | (simp only [nrm, strm, by8] at * <;> omega) | (simp [upd4, cpy4, nrm, strm, by8] at * <;> omega))) | (refine h1 _ ?_ ?_ <;> (repeat' (first | assumption | exact trivial | exact Un_rf | exact hI 4 _ _ _ | exact hI 9 _ _ _ | exact hI 22 _ _ _ | (refine ixr_by8 ?_ ?_) | (refine IV_upd ?_ ?_) | (refine Un_upd rfl ?_) | (refine IV_cpy ?_ (fun _ _ _ _ => trivial)) | (refine Un_cpy rfl ?_) | (apply Un_tr; rotate_left; assumption; rfl) | (refine And.intro ?_ ?_))) <;> (first | rfl | decide | (simp only [nrm, strm, by8] at * <;> omega) | (simp [upd4, cpy4, nrm, strm, by8] at * <;> omega))) | (apply h0 <;> (repeat' (first | assumption | exact trivial | exact Un_rf | exact hI 4 _ _ _ | exact hI 9 _ _ _ | exact hI 22 _ _ _ | (refine ixr_by8 ?_ ?_) | (refine IV_upd ?_ ?_) | (refine Un_upd rfl ?_) | (refine IV_cpy ?_ (fun _ _ _ _ => trivial)) | (refine Un_cpy rfl ?_) | (apply Un_tr; rotate_left; assumption; rfl) | (refine And.intro ?_ ?_))) <;> (first | rfl | decide | (simp only [nrm, strm, by8] at * <;> omega) | (simp [upd4, cpy4, nrm, strm, by8] at * <;> omega))) | (apply h1 <;> (repeat' (first | assumption | exact trivial | exact Un_rf | exact hI 4 _ _ _ | exact hI 9 _ _ _ | exact hI 22 _ _ _ | (refine ixr_by8 ?_ ?_) | (refine IV_upd ?_ ?_) | (refine Un_upd rfl ?_) | (refine IV_cpy ?_ (fun _ _ _ _ => trivial)) | (refine Un_cpy rfl ?_) | (apply Un_tr; rotate_left; assumption; rfl) | (refine And.intro ?_ ?_))) <;> (first | rfl | decide | (simp only [nrm, strm, by8] at * <;> omega) | (simp [upd4, cpy4, nrm, strm, by8] at * <;> omega))) | ((repeat' (first | assumption | exact trivial | exact Un_rf | exact hI 4 _ _ _ | exact hI 9 _ _ _ | exact hI 22 _ _ _ | (refine ixr_by8 ?_ ?_) | (refine IV_upd ?_ ?_) | (refine Un_upd rfl ?_) | (refine IV_cpy ?_ (fun _ _ _ _ => trivial)) | (refine Un_cpy rfl ?_) | (apply Un_tr; rotate_left; assumption; rfl) | (refine And.intro ?_ ?_))) <;> (first | rfl | decide | (simp only [nrm, strm, by8] at * <;> omega) | (simp [upd4, cpy4, nrm, strm, by8] at * <;> omega)))
  · intro av σ K kx n pc L st σ' nc ns _ _ h
    exact (h : False).elim
def gt_FrameStreams_requireArgument (a : Nat) : Option Nat := match a with
  | _ => none
theorem go_FrameStreams_requireArgument : ∀ a v, gt_FrameStreams_requireArgument a = some v → StaOK R_FrameStreams a v := by
  intro a v h
  unfold gt_FrameStreams_requireArgument at h
  cases h
def pr_FrameStreams_requireArgument : List Ent := [(0, 3, 0, 0, 0), (1, 27, 0, 0, 12), (4, 55, 172, 174, 1), (12, 49, 0, 0, 0)]
def sw_FrameStreams_requireArgument : List Swt := []
theorem dk_FrameStreams_requireArgument : ∀ q ∈ pr_FrameStreams_requireArgument, decode b_FrameStreams_requireArgument q.1 = .ok (dec sw_FrameStreams_requireArgument q) ∧ okE q = true := by decide +kernel
theorem th_FrameStreams_requireArgument : ∀ q ∈ pr_FrameStreams_requireArgument, q.2.1 = 55 → ThrOK R_FrameStreams b_FrameStreams_requireArgument q ∧ 6 ≤ 6 ∧ 89 ≤ 89 := by
  intro q hq h
  have hm : q = (4, 55, 172, 174, 1) := by
    have h2 : ∀ q ∈ pr_FrameStreams_requireArgument, q.2.1 = 55 → q = (4, 55, 172, 174, 1) := by decide +kernel
    exact h2 q hq h
  subst hm
  exact ⟨⟨["java/lang/RuntimeException", "java/lang/Exception"], by decide +kernel, by decide +kernel, by decide +kernel, by decide +kernel, by decide +kernel, by decide, by decide +kernel, by decide +kernel, by decide +kernel⟩, by decide, by decide⟩
def ct_FrameStreams_requireArgument (a : Nat) : Option (Nat × Nat × CSp × Nat × Nat) := match a with
  | _ => none
theorem co_FrameStreams_requireArgument : ∀ a v, ct_FrameStreams_requireArgument a = some v → StcOK R_FrameStreams 6 89 a v := by
  intro a v h
  unfold ct_FrameStreams_requireArgument at h
  cases h
/-- FrameStreams_requireArgument -/
def sp_FrameStreams_requireArgument : CSp := sI (fun x0 σ K kx => (¬ nrm x0 = 0 → K none σ) ∧ (nrm x0 = 0 → kx xIAE σ))
set_option maxHeartbeats 4000000 in
set_option maxRecDepth 100000 in
theorem c_FrameStreams_requireArgument : Ctr y_FrameStreams_requireArgument b_FrameStreams_requireArgument 1 none 6 89 1 6 sp_FrameStreams_requireArgument := by
  refine ctr_of (FT := ft_FrameStreams) (GT := gt_FrameStreams_requireArgument) (CT := ct_FrameStreams_requireArgument) (sw := sw_FrameStreams_requireArgument) (rt := 2) (pr := pr_FrameStreams_requireArgument) (by decide) [] (fun _ _ _ _ _ _ _ _ _ _ _ => False) 20 ⟨fun h => absurd h (by decide), fun h => absurd h (by decide), fun _ => rfl, fun h => absurd h (by decide)⟩ dk_FrameStreams_requireArgument fo_FrameStreams go_FrameStreams_requireArgument co_FrameStreams_requireArgument (fun a k h hk => by unfold gt_FrameStreams_requireArgument at h; cases h) th_FrameStreams_requireArgument (fun av σ K kx h => by rw [sI_len h]; decide) ?_ ?_
  · intro av σ K kx hok hSp
    obtain ⟨x0, rfl, hp⟩ := sI_inv hSp
    obtain ⟨h0, h1⟩ := hp
    all_goals (repeat' (first | (with_reducible assumption) | (with_reducible refine IV_upd ?_ ?_) | (with_reducible refine IV_cpy ?_ (fun _ _ _ _ => trivial)) | (refine And.intro ?_ ?_) | (intro _)))
    all_goals first | (first | rfl | decide | (simp only [nrm, strm, by8] at * <;> omega) | (simp [upd4, cpy4, nrm, strm, by8] at * <;> omega)) | (exact h0 (by first | assumption | (first | rfl | decide | (simp only [nrm, strm, by8] at * <;> omega) | (simp [upd4, cpy4, nrm, strm, by8] at * <;> omega)))) | (exact h1 (by first | assumption | (first | rfl | decide | (simp only [nrm, strm, by8] at * <;> omega) | (simp [upd4, cpy4, nrm, strm, by8] at * <;> omega)))) | (exact h0) | (exact h1) | (refine h0 _ ?_ ?_ <;> (repeat' (first | assumption | exact trivial | exact Un_rf | exact hI 4 _ _ _ | exact hI 9 _ _ _ | exact hI 22 _ _ _ | (refine ixr_by8 ?_ ?_) | (refine IV_upd ?_ ?_) | (refine Un_upd rfl ?_) | (refine IV_cpy ?_ (fun _ _ _ _ => trivial)) | (refine Un_cpy rfl ?_) | (apply Un_tr; rotate_left; assumption; rfl) | (refine And.intro ?_ ?_))) <;> (first | rfl | decide | (simp only [nrm, strm, by8] at * <;> omega) | (simp [upd4, cpy4, nrm, strm, by8] at * <;> omega))) | (refine h1 _ ?_ ?_ <;> (repeat' (first | assumption | exact trivial | exact Un_rf | exact hI 4 _ _ _ | exact hI 9 _ _ _ | exact hI 22 _ _ _ | (refine ixr_by8 ?_ ?_) | (refine IV_upd ?_ ?_) | (refine Un_upd rfl ?_) | (refine IV_cpy ?_ (fun _ _ _ _ => trivial)) | (refine Un_cpy rfl ?_) | (apply Un_tr; rotate_left; assumption; rfl) | (refine And.intro ?_ ?_))) <;> (first | rfl | decide | (simp only [nrm, strm, by8] at * <;> omega) | (simp [upd4, cpy4, nrm, strm, by8] at * <;> omega))) | (apply h0 <;> (repeat' (first | assumption | exact trivial | exact Un_rf | exact hI 4 _ _ _ | exact hI 9 _ _ _ | exact hI 22 _ _ _ | (refine ixr_by8 ?_ ?_) | (refine IV_upd ?_ ?_) | (refine Un_upd rfl ?_) | (refine IV_cpy ?_ (fun _ _ _ _ => trivial)) | (refine Un_cpy rfl ?_) | (apply Un_tr; rotate_left; assumption; rfl) | (refine And.intro ?_ ?_))) <;> (first | rfl | decide | (simp only [nrm, strm, by8] at * <;> omega) | (simp [upd4, cpy4, nrm, strm, by8] at * <;> omega))) | (apply h1 <;> (repeat' (first | assumption | exact trivial | exact Un_rf | exact hI 4 _ _ _ | exact hI 9 _ _ _ | exact hI 22 _ _ _ | (refine ixr_by8 ?_ ?_) | (refine IV_upd ?_ ?_) | (refine Un_upd rfl ?_) | (refine IV_cpy ?_ (fun _ _ _ _ => trivial)) | (refine Un_cpy rfl ?_) | (apply Un_tr; rotate_left; assumption; rfl) | (refine And.intro ?_ ?_))) <;> (first | rfl | decide | (simp only [nrm, strm, by8] at * <;> omega) | (simp [upd4, cpy4, nrm, strm, by8] at * <;> omega))) | ((repeat' (first | assumption | exact trivial | exact Un_rf | exact hI 4 _ _ _ | exact hI 9 _ _ _ | exact hI 22 _ _ _ | (refine ixr_by8 ?_ ?_) | (refine IV_upd ?_ ?_) | (refine Un_upd rfl ?_) | (refine IV_cpy ?_ (fun _ _ _ _ => trivial)) | (refine Un_cpy rfl ?_) | (apply Un_tr; rotate_left; assumption; rfl) | (refine And.intro ?_ ?_))) <;> (first | rfl | decide | (simp only [nrm, strm, by8] at * <;> omega) | (simp [upd4, cpy4, nrm, strm, by8] at * <;> omega)))
  · intro av σ K kx n pc L st σ' nc ns _ _ h
    exact (h : False).elim
def gt_FrameStreams_requireState (a : Nat) : Option Nat := match a with
  | _ => none
theorem go_FrameStreams_requireState : ∀ a v, gt_FrameStreams_requireState a = some v → StaOK R_FrameStreams a v := by
  intro a v h
  unfold gt_FrameStreams_requireState at h
  cases h
def pr_FrameStreams_requireState : List Ent := [(0, 3, 0, 0, 0), (1, 27, 0, 0, 12), (4, 55, 175, 177, 4), (12, 49, 0, 0, 0)]
def sw_FrameStreams_requireState : List Swt := []
theorem dk_FrameStreams_requireState : ∀ q ∈ pr_FrameStreams_requireState, decode b_FrameStreams_requireState q.1 = .ok (dec sw_FrameStreams_requireState q) ∧ okE q = true := by decide +kernel
theorem th_FrameStreams_requireState : ∀ q ∈ pr_FrameStreams_requireState, q.2.1 = 55 → ThrOK R_FrameStreams b_FrameStreams_requireState q ∧ 6 ≤ 6 ∧ 89 ≤ 89 := by
  intro q hq h
  have hm : q = (4, 55, 175, 177, 4) := by
    have h2 : ∀ q ∈ pr_FrameStreams_requireState, q.2.1 = 55 → q = (4, 55, 175, 177, 4) := by decide +kernel
    exact h2 q hq h
  subst hm
  exact ⟨⟨["java/lang/RuntimeException", "java/lang/Exception"], by decide +kernel, by decide +kernel, by decide +kernel, by decide +kernel, by decide +kernel, by decide, by decide +kernel, by decide +kernel, by decide +kernel⟩, by decide, by decide⟩
def ct_FrameStreams_requireState (a : Nat) : Option (Nat × Nat × CSp × Nat × Nat) := match a with
  | _ => none
theorem co_FrameStreams_requireState : ∀ a v, ct_FrameStreams_requireState a = some v → StcOK R_FrameStreams 6 89 a v := by
  intro a v h
  unfold ct_FrameStreams_requireState at h
  cases h
/-- FrameStreams_requireState -/
def sp_FrameStreams_requireState : CSp := sI (fun x0 σ K kx => (¬ nrm x0 = 0 → K none σ) ∧ (nrm x0 = 0 → kx xISE σ))
set_option maxHeartbeats 4000000 in
set_option maxRecDepth 100000 in
theorem c_FrameStreams_requireState : Ctr y_FrameStreams_requireState b_FrameStreams_requireState 1 none 6 89 1 6 sp_FrameStreams_requireState := by
  refine ctr_of (FT := ft_FrameStreams) (GT := gt_FrameStreams_requireState) (CT := ct_FrameStreams_requireState) (sw := sw_FrameStreams_requireState) (rt := 2) (pr := pr_FrameStreams_requireState) (by decide) [] (fun _ _ _ _ _ _ _ _ _ _ _ => False) 20 ⟨fun h => absurd h (by decide), fun h => absurd h (by decide), fun _ => rfl, fun h => absurd h (by decide)⟩ dk_FrameStreams_requireState fo_FrameStreams go_FrameStreams_requireState co_FrameStreams_requireState (fun a k h hk => by unfold gt_FrameStreams_requireState at h; cases h) th_FrameStreams_requireState (fun av σ K kx h => by rw [sI_len h]; decide) ?_ ?_
  · intro av σ K kx hok hSp
    obtain ⟨x0, rfl, hp⟩ := sI_inv hSp
    obtain ⟨h0, h1⟩ := hp
    all_goals (repeat' (first | (with_reducible assumption) | (with_reducible refine IV_upd ?_ ?_) | (with_reducible refine IV_cpy ?_ (fun _ _ _ _ => trivial)) | (refine And.intro ?_ ?_) | (intro _)))
    all_goals first | (first | rfl | decide | (simp only [nrm, strm, by8] at * <;> omega) | (simp [upd4, cpy4, nrm, strm, by8] at * <;> omega)) | (exact h0 (by first | assumption | (first | rfl | decide | (simp only [nrm, strm, by8] at * <;> omega) | (simp [upd4, cpy4, nrm, strm, by8] at * <;> omega)))) | (exact h1 (by first | assumption | (first | rfl | decide | (simp only [nrm, strm, by8] at * <;> omega) | (simp [upd4, cpy4, nrm, strm, by8] at * <;> omega)))) | (exact h0) | (exact h1) | (refine h0 _ ?_ ?_ <;> (repeat' (first | assumption | exact trivial | exact Un_rf | exact hI 4 _ _ _ | exact hI 9 _ _ _ | exact hI 22 _ _ _ | (refine ixr_by8 ?_ ?_) | (refine IV_upd ?_ ?_) | (refine Un_upd rfl ?_) | (refine IV_cpy ?_ (fun _ _ _ _ => trivial)) | (refine Un_cpy rfl ?_) | (apply Un_tr; rotate_left; assumption; rfl) | (refine And.intro ?_ ?_))) <;> (first | rfl | decide | (simp only [nrm, strm, by8] at * <;> omega) | (simp [upd4, cpy4, nrm, strm, by8] at * <;> omega))) | (refine h1 _ ?_ ?_ <;> (repeat' (first | assumption | exact trivial | exact Un_rf | exact hI 4 _ _ _ | exact hI 9 _ _ _ | exact hI 22 _ _ _ | (refine ixr_by8 ?_ ?_) | (refine IV_upd ?_ ?_) | (refine Un_upd rfl ?_) | (refine IV_cpy ?_ (fun _ _ _ _ => trivial)) | (refine Un_cpy rfl ?_) | (apply Un_tr; rotate_left; assumption; rfl) | (refine And.intro ?_ ?_))) <;> (first | rfl | decide | (simp only [nrm, strm, by8] at * <;> omega) | (simp [upd4, cpy4, nrm, strm, by8] at * <;> omega))) | (apply h0 <;> (repeat' (first | assumption | exact trivial | exact Un_rf | exact hI 4 _ _ _ | exact hI 9 _ _ _ | exact hI 22 _ _ _ | (refine ixr_by8 ?_ ?_) | (refine IV_upd ?_ ?_) | (refine Un_upd rfl ?_) | (refine IV_cpy ?_ (fun _ _ _ _ => trivial)) | (refine Un_cpy rfl ?_) | (apply Un_tr; rotate_left; assumption; rfl) | (refine And.intro ?_ ?_))) <;> (first | rfl | decide | (simp only [nrm, strm, by8] at * <;> omega) | (simp [upd4, cpy4, nrm, strm, by8] at * <;> omega))) | (apply h1 <;> (repeat' (first | assumption | exact trivial | exact Un_rf | exact hI 4 _ _ _ | exact hI 9 _ _ _ | exact hI 22 _ _ _ | (refine ixr_by8 ?_ ?_) | (refine IV_upd ?_ ?_) | (refine Un_upd rfl ?_) | (refine IV_cpy ?_ (fun _ _ _ _ => trivial)) | (refine Un_cpy rfl ?_) | (apply Un_tr; rotate_left; assumption; rfl) | (refine And.intro ?_ ?_))) <;> (first | rfl | decide | (simp only [nrm, strm, by8] at * <;> omega) | (simp [upd4, cpy4, nrm, strm, by8] at * <;> omega))) | ((repeat' (first | assumption | exact trivial | exact Un_rf | exact hI 4 _ _ _ | exact hI 9 _ _ _ | exact hI 22 _ _ _ | (refine ixr_by8 ?_ ?_) | (refine IV_upd ?_ ?_) | (refine Un_upd rfl ?_) | (refine IV_cpy ?_ (fun _ _ _ _ => trivial)) | (refine Un_cpy rfl ?_) | (apply Un_tr; rotate_left; assumption; rfl) | (refine And.intro ?_ ?_))) <;> (first | rfl | decide | (simp only [nrm, strm, by8] at * <;> omega) | (simp [upd4, cpy4, nrm, strm, by8] at * <;> omega)))
  · intro av σ K kx n pc L st σ' nc ns _ _ h
    exact (h : False).elim
def gt_FrameStreams_requireThere (a : Nat) : Option Nat := match a with
  | _ => none
theorem go_FrameStreams_requireThere : ∀ a v, gt_FrameStreams_requireThere a = some v → StaOK R_FrameStreams a v := by
  intro a v h
  unfold gt_FrameStreams_requireThere at h
  cases h
def pr_FrameStreams_requireThere : List Ent := [(0, 3, 0, 0, 0), (1, 27, 0, 0, 12), (4, 55, 178, 180, 2), (12, 49, 0, 0, 0)]
def sw_FrameStreams_requireThere : List Swt := []
theorem dk_FrameStreams_requireThere : ∀ q ∈ pr_FrameStreams_requireThere, decode b_FrameStreams_requireThere q.1 = .ok (dec sw_FrameStreams_requireThere q) ∧ okE q = true := by decide +kernel
theorem th_FrameStreams_requireThere : ∀ q ∈ pr_FrameStreams_requireThere, q.2.1 = 55 → ThrOK R_FrameStreams b_FrameStreams_requireThere q ∧ 6 ≤ 6 ∧ 89 ≤ 89 := by
  intro q hq h
  have hm : q = (4, 55, 178, 180, 2) := by
    have h2 : ∀ q ∈ pr_FrameStreams_requireThere, q.2.1 = 55 → q = (4, 55, 178, 180, 2) := by decide +kernel
    exact h2 q hq h
  subst hm
  exact ⟨⟨["java/lang/RuntimeException", "java/lang/Exception"], by decide +kernel, by decide +kernel, by decide +kernel, by decide +kernel, by decide +kernel, by decide, by decide +kernel, by decide +kernel, by decide +kernel⟩, by decide, by decide⟩
def ct_FrameStreams_requireThere (a : Nat) : Option (Nat × Nat × CSp × Nat × Nat) := match a with
  | _ => none
theorem co_FrameStreams_requireThere : ∀ a v, ct_FrameStreams_requireThere a = some v → StcOK R_FrameStreams 6 89 a v := by
  intro a v h
  unfold ct_FrameStreams_requireThere at h
  cases h
/-- FrameStreams_requireThere -/
def sp_FrameStreams_requireThere : CSp := sI (fun x0 σ K kx => (¬ nrm x0 = 0 → K none σ) ∧ (nrm x0 = 0 → kx xNSE σ))
set_option maxHeartbeats 4000000 in
set_option maxRecDepth 100000 in
theorem c_FrameStreams_requireThere : Ctr y_FrameStreams_requireThere b_FrameStreams_requireThere 1 none 6 89 1 6 sp_FrameStreams_requireThere := by
  refine ctr_of (FT := ft_FrameStreams) (GT := gt_FrameStreams_requireThere) (CT := ct_FrameStreams_requireThere) (sw := sw_FrameStreams_requireThere) (rt := 2) (pr := pr_FrameStreams_requireThere) (by decide) [] (fun _ _ _ _ _ _ _ _ _ _ _ => False) 20 ⟨fun h => absurd h (by decide), fun h => absurd h (by decide), fun _ => rfl, fun h => absurd h (by decide)⟩ dk_FrameStreams_requireThere fo_FrameStreams go_FrameStreams_requireThere co_FrameStreams_requireThere (fun a k h hk => by unfold gt_FrameStreams_requireThere at h; cases h) th_FrameStreams_requireThere (fun av σ K kx h => by rw [sI_len h]; decide) ?_ ?_
  · intro av σ K kx hok hSp
    obtain ⟨x0, rfl, hp⟩ := sI_inv hSp
    obtain ⟨h0, h1⟩ := hp
    all_goals (repeat' (first | (with_reducible assumption) | (with_reducible refine IV_upd ?_ ?_) | (with_reducible refine IV_cpy ?_ (fun _ _ _ _ => trivial)) | (refine And.intro ?_ ?_) | (intro _)))
    all_goals first | (first | rfl | decide | (simp only [nrm, strm, by8] at * <;> omega) | (simp [upd4, cpy4, nrm, strm, by8] at * <;> omega)) | (exact h0 (by first | assumption | (first | rfl | decide | (simp only [nrm, strm, by8] at * <;> omega) | (simp [upd4, cpy4, nrm, strm, by8] at * <;> omega)))) | (exact h1 (by first | assumption | (first | rfl | decide | (simp only [nrm, strm, by8] at * <;> omega) | (simp [upd4, cpy4, nrm, strm, by8] at * <;> omega)))) | (exact h0) | (exact h1) | (refine h0 _ ?_ ?_ <;> (repeat' (first | assumption | exact trivial | exact Un_rf | exact hI 4 _ _ _ | exact hI 9 _ _ _ | exact hI 22 _ _ _ | (refine ixr_by8 ?_ ?_) | (refine IV_upd ?_ ?_) | (refine Un_upd rfl ?_) | (refine IV_cpy ?_ (fun _ _ _ _ => trivial)) | (refine Un_cpy rfl ?_) | (apply Un_tr; rotate_left; assumption; rfl) | (refine And.intro ?_ ?_))) <;> (first | rfl | decide | (simp only [nrm, strm, by8] at * <;> omega) | (simp [upd4, cpy4, nrm, strm, by8] at * <;> omega))) | (refine h1 _ ?_ ?_ <;> (repeat' (first | assumption | exact trivial | exact Un_rf | exact hI 4 _ _ _ | exact hI 9 _ _ _ | exact hI 22 _ _ _ | (refine ixr_by8 ?_ ?_) | (refine IV_upd ?_ ?_) | (refine Un_upd rfl ?_) | (refine IV_cpy ?_ (fun _ _ _ _ => trivial)) | (refine Un_cpy rfl ?_) | (apply Un_tr; rotate_left; assumption; rfl) | (refine And.intro ?_ ?_))) <;> (first | rfl | decide | (simp only [nrm, strm, by8] at * <;> omega) | (simp [upd4, cpy4, nrm, strm, by8] at * <;> omega))) | (apply h0 <;> (repeat' (first | assumption | exact trivial | exact Un_rf | exact hI 4 _ _ _ | exact hI 9 _ _ _ | exact hI 22 _ _ _ | (refine ixr_by8 ?_ ?_) | (refine IV_upd ?_ ?_) | (refine Un_upd rfl ?_) | (refine IV_cpy ?_ (fun _ _ _ _ => trivial)) | (refine Un_cpy rfl ?_) | (apply Un_tr; rotate_left; assumption; rfl) | (refine And.intro ?_ ?_))) <;> (first | rfl | decide | (simp only [nrm, strm, by8] at * <;> omega) | (simp [upd4, cpy4, nrm, strm, by8] at * <;> omega))) | (apply h1 <;> (repeat' (first | assumption | exact trivial | exact Un_rf | exact hI 4 _ _ _ | exact hI 9 _ _ _ | exact hI 22 _ _ _ | (refine ixr_by8 ?_ ?_) | (refine IV_upd ?_ ?_) | (refine Un_upd rfl ?_) | (refine IV_cpy ?_ (fun _ _ _ _ => trivial)) | (refine Un_cpy rfl ?_) | (apply Un_tr; rotate_left; assumption; rfl) | (refine And.intro ?_ ?_))) <;> (first | rfl | decide | (simp only [nrm, strm, by8] at * <;> omega) | (simp [upd4, cpy4, nrm, strm, by8] at * <;> omega))) | ((repeat' (first | assumption | exact trivial | exact Un_rf | exact hI 4 _ _ _ | exact hI 9 _ _ _ | exact hI 22 _ _ _ | (refine ixr_by8 ?_ ?_) | (refine IV_upd ?_ ?_) | (refine Un_upd rfl ?_) | (refine IV_cpy ?_ (fun _ _ _ _ => trivial)) | (refine Un_cpy rfl ?_) | (apply Un_tr; rotate_left; assumption; rfl) | (refine And.intro ?_ ?_))) <;> (first | rfl | decide | (simp only [nrm, strm, by8] at * <;> omega) | (simp [upd4, cpy4, nrm, strm, by8] at * <;> omega)))
  · intro av σ K kx n pc L st σ' nc ns _ _ h
    exact (h : False).elim
def gt_FrameStreams_requireWithin (a : Nat) : Option Nat := match a with
  | _ => none
theorem go_FrameStreams_requireWithin : ∀ a v, gt_FrameStreams_requireWithin a = some v → StaOK R_FrameStreams a v := by
  intro a v h
  unfold gt_FrameStreams_requireWithin at h
  cases h
def pr_FrameStreams_requireWithin : List Ent := [(0, 3, 0, 0, 0), (1, 3, 1, 0, 0), (2, 34, 0, 0, 14), (5, 3, 0, 0, 0), (6, 3, 2, 0, 0), (7, 36, 0, 0, 14), (10, 0, 0, 1, 0), (11, 38, 0, 0, 15), (14, 0, 0, 0, 0), (15, 47, 147, 0, 0), (18, 49, 0, 0, 0)]
def sw_FrameStreams_requireWithin : List Swt := []
theorem dk_FrameStreams_requireWithin : ∀ q ∈ pr_FrameStreams_requireWithin, decode b_FrameStreams_requireWithin q.1 = .ok (dec sw_FrameStreams_requireWithin q) ∧ okE q = true := by decide +kernel
theorem nt_FrameStreams_requireWithin : ∀ q ∈ pr_FrameStreams_requireWithin, ¬ q.2.1 = 55 := by decide +kernel
def ct_FrameStreams_requireWithin (a : Nat) : Option (Nat × Nat × CSp × Nat × Nat) := match a with
  | 147 => some (1, 1000, sp_FrameStreams_requireArgument, 1, 6)
  | _ => none
theorem co_FrameStreams_requireWithin : ∀ a v, ct_FrameStreams_requireWithin a = some v → StcOK R_FrameStreams 7 109 a v := by
  intro a v h
  unfold ct_FrameStreams_requireWithin at h
  split at h
  · cases h; exact ⟨y_FrameStreams_requireArgument, b_FrameStreams_requireArgument, 1, none, 6, 89, 1, c_FrameStreams_requireArgument, by decide, by decide +kernel, by decide +kernel, by decide +kernel, (by first | exact Or.inr (Or.inl ⟨rfl, rfl, by decide +kernel, by decide +kernel⟩) | exact Or.inr (Or.inr ⟨rfl, rfl, ⟨"FrameStreams", by decide +kernel⟩, by decide +kernel⟩))⟩
  · cases h
/-- FrameStreams_requireWithin -/
def sp_FrameStreams_requireWithin : CSp := sIII (fun x0 x1 x2 σ K kx => (nrm x1 ≤ nrm x0 ∧ nrm x0 ≤ nrm x2 → K none σ) ∧ (¬ (nrm x1 ≤ nrm x0 ∧ nrm x0 ≤ nrm x2) → kx xIAE σ))
set_option maxHeartbeats 4000000 in
set_option maxRecDepth 100000 in
theorem c_FrameStreams_requireWithin : Ctr y_FrameStreams_requireWithin b_FrameStreams_requireWithin 3 none 7 109 1 6 sp_FrameStreams_requireWithin := by
  refine ctr_of (FT := ft_FrameStreams) (GT := gt_FrameStreams_requireWithin) (CT := ct_FrameStreams_requireWithin) (sw := sw_FrameStreams_requireWithin) (rt := 2) (pr := pr_FrameStreams_requireWithin) (by decide) [] (fun _ _ _ _ _ _ _ _ _ _ _ => False) 30 ⟨fun h => absurd h (by decide), fun h => absurd h (by decide), fun _ => rfl, fun h => absurd h (by decide)⟩ dk_FrameStreams_requireWithin fo_FrameStreams go_FrameStreams_requireWithin co_FrameStreams_requireWithin (fun a k h hk => by unfold gt_FrameStreams_requireWithin at h; cases h) (fun q hq h => absurd h (nt_FrameStreams_requireWithin q hq)) (fun av σ K kx h => by rw [sIII_len h]; decide) ?_ ?_
  · intro av σ K kx hok hSp
    obtain ⟨x0, x1, x2, rfl, hp⟩ := sIII_inv hSp
    obtain ⟨h0, h1⟩ := hp
    all_goals (repeat' (first | (with_reducible assumption) | (with_reducible refine IV_upd ?_ ?_) | (with_reducible refine IV_cpy ?_ (fun _ _ _ _ => trivial)) | (refine And.intro ?_ ?_) | (intro _)))
    all_goals first | (first | rfl | decide | (simp only [nrm, strm, by8] at * <;> omega) | (simp [upd4, cpy4, nrm, strm, by8] at * <;> omega)) | (exact h0 (by first | assumption | (first | rfl | decide | (simp only [nrm, strm, by8] at * <;> omega) | (simp [upd4, cpy4, nrm, strm, by8] at * <;> omega)))) | (exact h1 (by first | assumption | (first | rfl | decide | (simp only [nrm, strm, by8] at * <;> omega) | (simp [upd4, cpy4, nrm, strm, by8] at * <;> omega)))) | (exact h0) | (exact h1) | (refine h0 _ ?_ ?_ <;> (repeat' (first | assumption | exact trivial | exact Un_rf | exact hI 4 _ _ _ | exact hI 9 _ _ _ | exact hI 22 _ _ _ | (refine ixr_by8 ?_ ?_) | (refine IV_upd ?_ ?_) | (refine Un_upd rfl ?_) | (refine IV_cpy ?_ (fun _ _ _ _ => trivial)) | (refine Un_cpy rfl ?_) | (apply Un_tr; rotate_left; assumption; rfl) | (refine And.intro ?_ ?_))) <;> (first | rfl | decide | (simp only [nrm, strm, by8] at * <;> omega) | (simp [upd4, cpy4, nrm, strm, by8] at * <;> omega))) | (refine h1 _ ?_ ?_ <;> (repeat' (first | assumption | exact trivial | exact Un_rf | exact hI 4 _ _ _ | exact hI 9 _ _ _ | exact hI 22 _ _ _ | (refine ixr_by8 ?_ ?_) | (refine IV_upd ?_ ?_) | (refine Un_upd rfl ?_) | (refine IV_cpy ?_ (fun _ _ _ _ => trivial)) | (refine Un_cpy rfl ?_) | (apply Un_tr; rotate_left; assumption; rfl) | (refine And.intro ?_ ?_))) <;> (first | rfl | decide | (simp only [nrm, strm, by8] at * <;> omega) | (simp [upd4, cpy4, nrm, strm, by8] at * <;> omega))) | (apply h0 <;> (repeat' (first | assumption | exact trivial | exact Un_rf | exact hI 4 _ _ _ | exact hI 9 _ _ _ | exact hI 22 _ _ _ | (refine ixr_by8 ?_ ?_) | (refine IV_upd ?_ ?_) | (refine Un_upd rfl ?_) | (refine IV_cpy ?_ (fun _ _ _ _ => trivial)) | (refine Un_cpy rfl ?_) | (apply Un_tr; rotate_left; assumption; rfl) | (refine And.intro ?_ ?_))) <;> (first | rfl | decide | (simp only [nrm, strm, by8] at * <;> omega) | (simp [upd4, cpy4, nrm, strm, by8] at * <;> omega))) | (apply h1 <;> (repeat' (first | assumption | exact trivial | exact Un_rf | exact hI 4 _ _ _ | exact hI 9 _ _ _ | exact hI 22 _ _ _ | (refine ixr_by8 ?_ ?_) | (refine IV_upd ?_ ?_) | (refine Un_upd rfl ?_) | (refine IV_cpy ?_ (fun _ _ _ _ => trivial)) | (refine Un_cpy rfl ?_) | (apply Un_tr; rotate_left; assumption; rfl) | (refine And.intro ?_ ?_))) <;> (first | rfl | decide | (simp only [nrm, strm, by8] at * <;> omega) | (simp [upd4, cpy4, nrm, strm, by8] at * <;> omega))) | ((repeat' (first | assumption | exact trivial | exact Un_rf | exact hI 4 _ _ _ | exact hI 9 _ _ _ | exact hI 22 _ _ _ | (refine ixr_by8 ?_ ?_) | (refine IV_upd ?_ ?_) | (refine Un_upd rfl ?_) | (refine IV_cpy ?_ (fun _ _ _ _ => trivial)) | (refine Un_cpy rfl ?_) | (apply Un_tr; rotate_left; assumption; rfl) | (refine And.intro ?_ ?_))) <;> (first | rfl | decide | (simp only [nrm, strm, by8] at * <;> omega) | (simp [upd4, cpy4, nrm, strm, by8] at * <;> omega)))
  · intro av σ K kx n pc L st σ' nc ns _ _ h
    exact (h : False).elim
def gt_FrameStreams_requireStream (a : Nat) : Option Nat := match a with
  | _ => none
theorem go_FrameStreams_requireStream : ∀ a v, gt_FrameStreams_requireStream a = some v → StaOK R_FrameStreams a v := by
  intro a v h
  unfold gt_FrameStreams_requireStream at h
  cases h
def pr_FrameStreams_requireStream : List Ent := [(0, 3, 0, 0, 0), (1, 47, 169, 0, 0), (4, 47, 147, 0, 0), (7, 49, 0, 0, 0)]
def sw_FrameStreams_requireStream : List Swt := []
theorem dk_FrameStreams_requireStream : ∀ q ∈ pr_FrameStreams_requireStream, decode b_FrameStreams_requireStream q.1 = .ok (dec sw_FrameStreams_requireStream q) ∧ okE q = true := by decide +kernel
theorem nt_FrameStreams_requireStream : ∀ q ∈ pr_FrameStreams_requireStream, ¬ q.2.1 = 55 := by decide +kernel
def ct_FrameStreams_requireStream (a : Nat) : Option (Nat × Nat × CSp × Nat × Nat) := match a with
  | 147 => some (1, 1000, sp_FrameStreams_requireArgument, 1, 6)
  | 169 => some (1, 1000, sp_FrameStreams_isStream, 0, 0)
  | _ => none
theorem co_FrameStreams_requireStream : ∀ a v, ct_FrameStreams_requireStream a = some v → StcOK R_FrameStreams 7 109 a v := by
  intro a v h
  unfold ct_FrameStreams_requireStream at h
  split at h
  · cases h; exact ⟨y_FrameStreams_requireArgument, b_FrameStreams_requireArgument, 1, none, 6, 89, 1, c_FrameStreams_requireArgument, by decide, by decide +kernel, by decide +kernel, by decide +kernel, (by first | exact Or.inr (Or.inl ⟨rfl, rfl, by decide +kernel, by decide +kernel⟩) | exact Or.inr (Or.inr ⟨rfl, rfl, ⟨"FrameStreams", by decide +kernel⟩, by decide +kernel⟩))⟩
  · cases h; exact ⟨y_FrameStreams_isStream, b_FrameStreams_isStream, 1, (some .boolean), 0, 0, 1, c_FrameStreams_isStream, by decide, by decide +kernel, by decide +kernel, by decide +kernel, (by first | exact Or.inr (Or.inl ⟨rfl, rfl, by decide +kernel, by decide +kernel⟩) | exact Or.inr (Or.inr ⟨rfl, rfl, ⟨"FrameStreams", by decide +kernel⟩, by decide +kernel⟩))⟩
  · cases h
/-- FrameStreams_requireStream -/
def sp_FrameStreams_requireStream : CSp := sI (fun x0 σ K kx => (strm x0 → K none σ) ∧ (¬ strm x0 → kx xIAE σ))
set_option maxHeartbeats 4000000 in
set_option maxRecDepth 100000 in
theorem c_FrameStreams_requireStream : Ctr y_FrameStreams_requireStream b_FrameStreams_requireStream 1 none 7 109 1 6 sp_FrameStreams_requireStream := by
  refine ctr_of (FT := ft_FrameStreams) (GT := gt_FrameStreams_requireStream) (CT := ct_FrameStreams_requireStream) (sw := sw_FrameStreams_requireStream) (rt := 2) (pr := pr_FrameStreams_requireStream) (by decide) [] (fun _ _ _ _ _ _ _ _ _ _ _ => False) 20 ⟨fun h => absurd h (by decide), fun h => absurd h (by decide), fun _ => rfl, fun h => absurd h (by decide)⟩ dk_FrameStreams_requireStream fo_FrameStreams go_FrameStreams_requireStream co_FrameStreams_requireStream (fun a k h hk => by unfold gt_FrameStreams_requireStream at h; cases h) (fun q hq h => absurd h (nt_FrameStreams_requireStream q hq)) (fun av σ K kx h => by rw [sI_len h]; decide) ?_ ?_
  · intro av σ K kx hok hSp
    obtain ⟨x0, rfl, hp⟩ := sI_inv hSp
    obtain ⟨h0, h1⟩ := hp
    all_goals (repeat' (first | (with_reducible assumption) | (with_reducible refine IV_upd ?_ ?_) | (with_reducible refine IV_cpy ?_ (fun _ _ _ _ => trivial)) | (refine And.intro ?_ ?_) | (intro _)))
    all_goals first | (first | rfl | decide | (simp only [nrm, strm, by8] at * <;> omega) | (simp [upd4, cpy4, nrm, strm, by8] at * <;> omega)) | (exact h0 (by first | assumption | (first | rfl | decide | (simp only [nrm, strm, by8] at * <;> omega) | (simp [upd4, cpy4, nrm, strm, by8] at * <;> omega)))) | (exact h1 (by first | assumption | (first | rfl | decide | (simp only [nrm, strm, by8] at * <;> omega) | (simp [upd4, cpy4, nrm, strm, by8] at * <;> omega)))) | (exact h0) | (exact h1) | (refine h0 _ ?_ ?_ <;> (repeat' (first | assumption | exact trivial | exact Un_rf | exact hI 4 _ _ _ | exact hI 9 _ _ _ | exact hI 22 _ _ _ | (refine ixr_by8 ?_ ?_) | (refine IV_upd ?_ ?_) | (refine Un_upd rfl ?_) | (refine IV_cpy ?_ (fun _ _ _ _ => trivial)) | (refine Un_cpy rfl ?_) | (apply Un_tr; rotate_left; assumption; rfl) | (refine And.intro ?_ ?_))) <;> (first | rfl | decide | (simp only [nrm, strm, by8] at * <;> omega) | (simp [upd4, cpy4, nrm, strm, by8] at * <;> omega))) | (refine h1 _ ?_ ?_ <;> (repeat' (first | assumption | exact trivial | exact Un_rf | exact hI 4 _ _ _ | exact hI 9 _ _ _ | exact hI 22 _ _ _ | (refine ixr_by8 ?_ ?_) | (refine IV_upd ?_ ?_) | (refine Un_upd rfl ?_) | (refine IV_cpy ?_ (fun _ _ _ _ => trivial)) | (refine Un_cpy rfl ?_) | (apply Un_tr; rotate_left; assumption; rfl) | (refine And.intro ?_ ?_))) <;> (first | rfl | decide | (simp only [nrm, strm, by8] at * <;> omega) | (simp [upd4, cpy4, nrm, strm, by8] at * <;> omega))) | (apply h0 <;> (repeat' (first | assumption | exact trivial | exact Un_rf | exact hI 4 _ _ _ | exact hI 9 _ _ _ | exact hI 22 _ _ _ | (refine ixr_by8 ?_ ?_) | (refine IV_upd ?_ ?_) | (refine Un_upd rfl ?_) | (refine IV_cpy ?_ (fun _ _ _ _ => trivial)) | (refine Un_cpy rfl ?_) | (apply Un_tr; rotate_left; assumption; rfl) | (refine And.intro ?_ ?_))) <;> (first | rfl | decide | (simp only [nrm, strm, by8] at * <;> omega) | (simp [upd4, cpy4, nrm, strm, by8] at * <;> omega))) | (apply h1 <;> (repeat' (first | assumption | exact trivial | exact Un_rf | exact hI 4 _ _ _ | exact hI 9 _ _ _ | exact hI 22 _ _ _ | (refine ixr_by8 ?_ ?_) | (refine IV_upd ?_ ?_) | (refine Un_upd rfl ?_) | (refine IV_cpy ?_ (fun _ _ _ _ => trivial)) | (refine Un_cpy rfl ?_) | (apply Un_tr; rotate_left; assumption; rfl) | (refine And.intro ?_ ?_))) <;> (first | rfl | decide | (simp only [nrm, strm, by8] at * <;> omega) | (simp [upd4, cpy4, nrm, strm, by8] at * <;> omega))) | ((repeat' (first | assumption | exact trivial | exact Un_rf | exact hI 4 _ _ _ | exact hI 9 _ _ _ | exact hI 22 _ _ _ | (refine ixr_by8 ?_ ?_) | (refine IV_upd ?_ ?_) | (refine Un_upd rfl ?_) | (refine IV_cpy ?_ (fun _ _ _ _ => trivial)) | (refine Un_cpy rfl ?_) | (apply Un_tr; rotate_left; assumption; rfl) | (refine And.intro ?_ ?_))) <;> (first | rfl | decide | (simp only [nrm, strm, by8] at * <;> omega) | (simp [upd4, cpy4, nrm, strm, by8] at * <;> omega)))
  · intro av σ K kx n pc L st σ' nc ns _ _ h
    exact (h : False).elim
def gt_FrameStreams_requireStreamOrConnection (a : Nat) : Option Nat := match a with
  | _ => none
theorem go_FrameStreams_requireStreamOrConnection : ∀ a v, gt_FrameStreams_requireStreamOrConnection a = some v → StaOK R_FrameStreams a v := by
  intro a v h
  unfold gt_FrameStreams_requireStreamOrConnection at h
  cases h
def pr_FrameStreams_requireStreamOrConnection : List Ent := [(0, 3, 0, 0, 0), (1, 26, 0, 0, 11), (4, 3, 0, 0, 0), (5, 47, 169, 0, 0), (8, 26, 0, 0, 15), (11, 0, 0, 1, 0), (12, 38, 0, 0, 16), (15, 0, 0, 0, 0), (16, 47, 147, 0, 0), (19, 49, 0, 0, 0)]
def sw_FrameStreams_requireStreamOrConnection : List Swt := []
theorem dk_FrameStreams_requireStreamOrConnection : ∀ q ∈ pr_FrameStreams_requireStreamOrConnection, decode b_FrameStreams_requireStreamOrConnection q.1 = .ok (dec sw_FrameStreams_requireStreamOrConnection q) ∧ okE q = true := by decide +kernel
theorem nt_FrameStreams_requireStreamOrConnection : ∀ q ∈ pr_FrameStreams_requireStreamOrConnection, ¬ q.2.1 = 55 := by decide +kernel
def ct_FrameStreams_requireStreamOrConnection (a : Nat) : Option (Nat × Nat × CSp × Nat × Nat) := match a with
  | 147 => some (1, 1000, sp_FrameStreams_requireArgument, 1, 6)
  | 169 => some (1, 1000, sp_FrameStreams_isStream, 0, 0)
  | _ => none
theorem co_FrameStreams_requireStreamOrConnection : ∀ a v, ct_FrameStreams_requireStreamOrConnection a = some v → StcOK R_FrameStreams 7 109 a v := by
  intro a v h
  unfold ct_FrameStreams_requireStreamOrConnection at h
  split at h
  · cases h; exact ⟨y_FrameStreams_requireArgument, b_FrameStreams_requireArgument, 1, none, 6, 89, 1, c_FrameStreams_requireArgument, by decide, by decide +kernel, by decide +kernel, by decide +kernel, (by first | exact Or.inr (Or.inl ⟨rfl, rfl, by decide +kernel, by decide +kernel⟩) | exact Or.inr (Or.inr ⟨rfl, rfl, ⟨"FrameStreams", by decide +kernel⟩, by decide +kernel⟩))⟩
  · cases h; exact ⟨y_FrameStreams_isStream, b_FrameStreams_isStream, 1, (some .boolean), 0, 0, 1, c_FrameStreams_isStream, by decide, by decide +kernel, by decide +kernel, by decide +kernel, (by first | exact Or.inr (Or.inl ⟨rfl, rfl, by decide +kernel, by decide +kernel⟩) | exact Or.inr (Or.inr ⟨rfl, rfl, ⟨"FrameStreams", by decide +kernel⟩, by decide +kernel⟩))⟩
  · cases h
/-- FrameStreams_requireStreamOrConnection -/
def sp_FrameStreams_requireStreamOrConnection : CSp := sI (fun x0 σ K kx => (nrm x0 = 0 ∨ strm x0 → K none σ) ∧ (¬ (nrm x0 = 0 ∨ strm x0) → kx xIAE σ))
set_option maxHeartbeats 4000000 in
set_option maxRecDepth 100000 in
theorem c_FrameStreams_requireStreamOrConnection : Ctr y_FrameStreams_requireStreamOrConnection b_FrameStreams_requireStreamOrConnection 1 none 7 109 1 6 sp_FrameStreams_requireStreamOrConnection := by
  refine ctr_of (FT := ft_FrameStreams) (GT := gt_FrameStreams_requireStreamOrConnection) (CT := ct_FrameStreams_requireStreamOrConnection) (sw := sw_FrameStreams_requireStreamOrConnection) (rt := 2) (pr := pr_FrameStreams_requireStreamOrConnection) (by decide) [] (fun _ _ _ _ _ _ _ _ _ _ _ => False) 30 ⟨fun h => absurd h (by decide), fun h => absurd h (by decide), fun _ => rfl, fun h => absurd h (by decide)⟩ dk_FrameStreams_requireStreamOrConnection fo_FrameStreams go_FrameStreams_requireStreamOrConnection co_FrameStreams_requireStreamOrConnection (fun a k h hk => by unfold gt_FrameStreams_requireStreamOrConnection at h; cases h) (fun q hq h => absurd h (nt_FrameStreams_requireStreamOrConnection q hq)) (fun av σ K kx h => by rw [sI_len h]; decide) ?_ ?_
  · intro av σ K kx hok hSp
    obtain ⟨x0, rfl, hp⟩ := sI_inv hSp
    obtain ⟨h0, h1⟩ := hp
    all_goals (repeat' (first | (with_reducible assumption) | (with_reducible refine IV_upd ?_ ?_) | (with_reducible refine IV_cpy ?_ (fun _ _ _ _ => trivial)) | (refine And.intro ?_ ?_) | (intro _)))
    all_goals first | (first | rfl | decide | (simp only [nrm, strm, by8] at * <;> omega) | (simp [upd4, cpy4, nrm, strm, by8] at * <;> omega)) | (exact h0 (by first | assumption | (first | rfl | decide | (simp only [nrm, strm, by8] at * <;> omega) | (simp [upd4, cpy4, nrm, strm, by8] at * <;> omega)))) | (exact h1 (by first | assumption | (first | rfl | decide | (simp only [nrm, strm, by8] at * <;> omega) | (simp [upd4, cpy4, nrm, strm, by8] at * <;> omega)))) | (exact h0) | (exact h1) | (refine h0 _ ?_ ?_ <;> (repeat' (first | assumption | exact trivial | exact Un_rf | exact hI 4 _ _ _ | exact hI 9 _ _ _ | exact hI 22 _ _ _ | (refine ixr_by8 ?_ ?_) | (refine IV_upd ?_ ?_) | (refine Un_upd rfl ?_) | (refine IV_cpy ?_ (fun _ _ _ _ => trivial)) | (refine Un_cpy rfl ?_) | (apply Un_tr; rotate_left; assumption; rfl) | (refine And.intro ?_ ?_))) <;> (first | rfl | decide | (simp only [nrm, strm, by8] at * <;> omega) | (simp [upd4, cpy4, nrm, strm, by8] at * <;> omega))) | (refine h1 _ ?_ ?_ <;> (repeat' (first | assumption | exact trivial | exact Un_rf | exact hI 4 _ _ _ | exact hI 9 _ _ _ | exact hI 22 _ _ _ | (refine ixr_by8 ?_ ?_) | (refine IV_upd ?_ ?_) | (refine Un_upd rfl ?_) | (refine IV_cpy ?_ (fun _ _ _ _ => trivial)) | (refine Un_cpy rfl ?_) | (apply Un_tr; rotate_left; assumption; rfl) | (refine And.intro ?_ ?_))) <;> (first | rfl | decide | (simp only [nrm, strm, by8] at * <;> omega) | (simp [upd4, cpy4, nrm, strm, by8] at * <;> omega))) | (apply h0 <;> (repeat' (first | assumption | exact trivial | exact Un_rf | exact hI 4 _ _ _ | exact hI 9 _ _ _ | exact hI 22 _ _ _ | (refine ixr_by8 ?_ ?_) | (refine IV_upd ?_ ?_) | (refine Un_upd rfl ?_) | (refine IV_cpy ?_ (fun _ _ _ _ => trivial)) | (refine Un_cpy rfl ?_) | (apply Un_tr; rotate_left; assumption; rfl) | (refine And.intro ?_ ?_))) <;> (first | rfl | decide | (simp only [nrm, strm, by8] at * <;> omega) | (simp [upd4, cpy4, nrm, strm, by8] at * <;> omega))) | (apply h1 <;> (repeat' (first | assumption | exact trivial | exact Un_rf | exact hI 4 _ _ _ | exact hI 9 _ _ _ | exact hI 22 _ _ _ | (refine ixr_by8 ?_ ?_) | (refine IV_upd ?_ ?_) | (refine Un_upd rfl ?_) | (refine IV_cpy ?_ (fun _ _ _ _ => trivial)) | (refine Un_cpy rfl ?_) | (apply Un_tr; rotate_left; assumption; rfl) | (refine And.intro ?_ ?_))) <;> (first | rfl | decide | (simp only [nrm, strm, by8] at * <;> omega) | (simp [upd4, cpy4, nrm, strm, by8] at * <;> omega))) | ((repeat' (first | assumption | exact trivial | exact Un_rf | exact hI 4 _ _ _ | exact hI 9 _ _ _ | exact hI 22 _ _ _ | (refine ixr_by8 ?_ ?_) | (refine IV_upd ?_ ?_) | (refine Un_upd rfl ?_) | (refine IV_cpy ?_ (fun _ _ _ _ => trivial)) | (refine Un_cpy rfl ?_) | (apply Un_tr; rotate_left; assumption; rfl) | (refine And.intro ?_ ?_))) <;> (first | rfl | decide | (simp only [nrm, strm, by8] at * <;> omega) | (simp [upd4, cpy4, nrm, strm, by8] at * <;> omega)))
  · intro av σ K kx n pc L st σ' nc ns _ _ h
    exact (h : False).elim
def ft_Wire (a : Nat) : Option (Nat × Nat × Nat) := match a with
  | 9 => some (8, 0, 2)
  | 15 => some (8, 1, 0)
  | 19 => some (8, 2, 0)
  | _ => none
theorem fo_Wire : ∀ a v, ft_Wire a = some v → FldOK R_Wire a v := by
  intro a v h
  unfold ft_Wire at h
  split at h
  · cases h; exact fl_Wire _ _ _ _ (by decide) (by decide +kernel) (by decide)
  · cases h; exact fl_Wire _ _ _ _ (by decide) (by decide +kernel) (by decide)
  · cases h; exact fl_Wire _ _ _ _ (by decide) (by decide +kernel) (by decide)
  · cases h
def gt_Wire_count (a : Nat) : Option Nat := match a with
  | _ => none
theorem go_Wire_count : ∀ a v, gt_Wire_count a = some v → StaOK R_Wire a v := by
  intro a v h
  unfold gt_Wire_count at h
  cases h
def pr_Wire_count : List Ent := [(0, 5, 0, 0, 0), (1, 39, 19, 0, 0), (4, 48, 0, 0, 0)]
def sw_Wire_count : List Swt := []
theorem dk_Wire_count : ∀ q ∈ pr_Wire_count, decode b_Wire_count q.1 = .ok (dec sw_Wire_count q) ∧ okE q = true := by decide +kernel
theorem nt_Wire_count : ∀ q ∈ pr_Wire_count, ¬ q.2.1 = 55 := by decide +kernel
def ct_Wire_count (a : Nat) : Option (Nat × Nat × CSp × Nat × Nat) := match a with
  | _ => none
theorem co_Wire_count : ∀ a v, ct_Wire_count a = some v → StcOK R_Wire 0 0 a v := by
  intro a v h
  unfold ct_Wire_count at h
  cases h
/-- Wire_count -/
def sp_Wire_count : CSp := sR (fun q σ K _ => q.1 = 3 ∧ K (some (.inl (σ q.1 q.2.1 q.2.2 2))) σ)
set_option maxHeartbeats 4000000 in
set_option maxRecDepth 100000 in
theorem c_Wire_count : Ctr y_Wire_count b_Wire_count 1 (some .int) 0 0 0 0 sp_Wire_count := by
  refine ctr_of (FT := ft_Wire) (GT := gt_Wire_count) (CT := ct_Wire_count) (sw := sw_Wire_count) (rt := 0) (pr := pr_Wire_count) (by decide) [] (fun _ _ _ _ _ _ _ _ _ _ _ => False) 20 ⟨fun _ => rfl, fun h => absurd h (by decide), fun h => absurd h (by decide), fun h => absurd h (by decide)⟩ dk_Wire_count fo_Wire go_Wire_count co_Wire_count (fun a k h hk => by unfold gt_Wire_count at h; cases h) (fun q hq h => absurd h (nt_Wire_count q hq)) (fun av σ K kx h => by rw [sR_len h]; decide) ?_ ?_
  · intro av σ K kx hok hSp
    obtain ⟨q0, rfl, hp⟩ := sR_inv hSp
    obtain ⟨k0, e0, i0⟩ := q0
    obtain ⟨h0, h1⟩ := hp
    dsimp only at h0; subst h0
    all_goals (repeat' (first | (with_reducible assumption) | (with_reducible refine IV_upd ?_ ?_) | (with_reducible refine IV_cpy ?_ (fun _ _ _ _ => trivial)) | (refine And.intro ?_ ?_) | (intro _)))
    all_goals first | (first | rfl | decide | (simp only [nrm, strm, by8] at * <;> omega) | (simp [upd4, cpy4, nrm, strm, by8] at * <;> omega)) | (exact h1 (by first | assumption | (first | rfl | decide | (simp only [nrm, strm, by8] at * <;> omega) | (simp [upd4, cpy4, nrm, strm, by8] at * <;> omega)))) | (exact h1) | (refine h1 _ ?_ ?_ <;> (repeat' (first | assumption | exact trivial | exact Un_rf | exact hI 4 _ _ _ | exact hI 9 _ _ _ | exact hI 22 _ _ _ | (refine ixr_by8 ?_ ?_) | (refine IV_upd ?_ ?_) | (refine Un_upd rfl ?_) | (refine IV_cpy ?_ (fun _ _ _ _ => trivial)) | (refine Un_cpy rfl ?_) | (apply Un_tr; rotate_left; assumption; rfl) | (refine And.intro ?_ ?_))) <;> (first | rfl | decide | (simp only [nrm, strm, by8] at * <;> omega) | (simp [upd4, cpy4, nrm, strm, by8] at * <;> omega))) | (apply h1 <;> (repeat' (first | assumption | exact trivial | exact Un_rf | exact hI 4 _ _ _ | exact hI 9 _ _ _ | exact hI 22 _ _ _ | (refine ixr_by8 ?_ ?_) | (refine IV_upd ?_ ?_) | (refine Un_upd rfl ?_) | (refine IV_cpy ?_ (fun _ _ _ _ => trivial)) | (refine Un_cpy rfl ?_) | (apply Un_tr; rotate_left; assumption; rfl) | (refine And.intro ?_ ?_))) <;> (first | rfl | decide | (simp only [nrm, strm, by8] at * <;> omega) | (simp [upd4, cpy4, nrm, strm, by8] at * <;> omega))) | ((repeat' (first | assumption | exact trivial | exact Un_rf | exact hI 4 _ _ _ | exact hI 9 _ _ _ | exact hI 22 _ _ _ | (refine ixr_by8 ?_ ?_) | (refine IV_upd ?_ ?_) | (refine Un_upd rfl ?_) | (refine IV_cpy ?_ (fun _ _ _ _ => trivial)) | (refine Un_cpy rfl ?_) | (apply Un_tr; rotate_left; assumption; rfl) | (refine And.intro ?_ ?_))) <;> (first | rfl | decide | (simp only [nrm, strm, by8] at * <;> omega) | (simp [upd4, cpy4, nrm, strm, by8] at * <;> omega)))
  · intro av σ K kx n pc L st σ' nc ns _ _ h
    exact (h : False).elim
def gt_Wire_hasRoom (a : Nat) : Option Nat := match a with
  | _ => none
theorem go_Wire_hasRoom : ∀ a v, gt_Wire_hasRoom a = some v → StaOK R_Wire a v := by
  intro a v h
  unfold gt_Wire_hasRoom at h
  cases h
def pr_Wire_hasRoom : List Ent := [(0, 5, 0, 0, 0), (1, 39, 19, 0, 0), (4, 3, 1, 0, 0), (5, 12, 0, 0, 0), (6, 2, 0, 240, 0), (9, 36, 0, 0, 16), (12, 0, 0, 1, 0), (13, 38, 0, 0, 17), (16, 0, 0, 0, 0), (17, 48, 0, 0, 0)]
def sw_Wire_hasRoom : List Swt := []
theorem dk_Wire_hasRoom : ∀ q ∈ pr_Wire_hasRoom, decode b_Wire_hasRoom q.1 = .ok (dec sw_Wire_hasRoom q) ∧ okE q = true := by decide +kernel
theorem nt_Wire_hasRoom : ∀ q ∈ pr_Wire_hasRoom, ¬ q.2.1 = 55 := by decide +kernel
def ct_Wire_hasRoom (a : Nat) : Option (Nat × Nat × CSp × Nat × Nat) := match a with
  | _ => none
theorem co_Wire_hasRoom : ∀ a v, ct_Wire_hasRoom a = some v → StcOK R_Wire 0 0 a v := by
  intro a v h
  unfold ct_Wire_hasRoom at h
  cases h
/-- Wire_hasRoom -/
def sp_Wire_hasRoom : CSp := sRI (fun q x σ K _ => q.1 = 3 ∧ (nrm (σ q.1 q.2.1 q.2.2 2 + x) ≤ 240 → K (some (.inl 1)) σ) ∧ (240 < nrm (σ q.1 q.2.1 q.2.2 2 + x) → K (some (.inl 0)) σ))
set_option maxHeartbeats 4000000 in
set_option maxRecDepth 100000 in
theorem c_Wire_hasRoom : Ctr y_Wire_hasRoom b_Wire_hasRoom 2 (some .boolean) 0 0 0 0 sp_Wire_hasRoom := by
  refine ctr_of (FT := ft_Wire) (GT := gt_Wire_hasRoom) (CT := ct_Wire_hasRoom) (sw := sw_Wire_hasRoom) (rt := 1) (pr := pr_Wire_hasRoom) (by decide) [] (fun _ _ _ _ _ _ _ _ _ _ _ => False) 30 ⟨fun h => absurd h (by decide), fun _ => rfl, fun h => absurd h (by decide), fun h => absurd h (by decide)⟩ dk_Wire_hasRoom fo_Wire go_Wire_hasRoom co_Wire_hasRoom (fun a k h hk => by unfold gt_Wire_hasRoom at h; cases h) (fun q hq h => absurd h (nt_Wire_hasRoom q hq)) (fun av σ K kx h => by rw [sRI_len h]; decide) ?_ ?_
  · intro av σ K kx hok hSp
    obtain ⟨q0, x0, rfl, hp⟩ := sRI_inv hSp
    obtain ⟨k0, e0, i0⟩ := q0
    obtain ⟨h0, h1, h2⟩ := hp
    dsimp only at h0; subst h0
    all_goals (repeat' (first | (with_reducible assumption) | (with_reducible refine IV_upd ?_ ?_) | (with_reducible refine IV_cpy ?_ (fun _ _ _ _ => trivial)) | (refine And.intro ?_ ?_) | (intro _)))
    all_goals first | (first | rfl | decide | (simp only [nrm, strm, by8] at * <;> omega) | (simp [upd4, cpy4, nrm, strm, by8] at * <;> omega)) | (exact h1 (by first | assumption | (first | rfl | decide | (simp only [nrm, strm, by8] at * <;> omega) | (simp [upd4, cpy4, nrm, strm, by8] at * <;> omega)))) | (exact h2 (by first | assumption | (first | rfl | decide | (simp only [nrm, strm, by8] at * <;> omega) | (simp [upd4, cpy4, nrm, strm, by8] at * <;> omega)))) | (exact h1) | (exact h2) | (refine h1 _ ?_ ?_ <;> (repeat' (first | assumption | exact trivial | exact Un_rf | exact hI 4 _ _ _ | exact hI 9 _ _ _ | exact hI 22 _ _ _ | (refine ixr_by8 ?_ ?_) | (refine IV_upd ?_ ?_) | (refine Un_upd rfl ?_) | (refine IV_cpy ?_ (fun _ _ _ _ => trivial)) | (refine Un_cpy rfl ?_) | (apply Un_tr; rotate_left; assumption; rfl) | (refine And.intro ?_ ?_))) <;> (first | rfl | decide | (simp only [nrm, strm, by8] at * <;> omega) | (simp [upd4, cpy4, nrm, strm, by8] at * <;> omega))) | (refine h2 _ ?_ ?_ <;> (repeat' (first | assumption | exact trivial | exact Un_rf | exact hI 4 _ _ _ | exact hI 9 _ _ _ | exact hI 22 _ _ _ | (refine ixr_by8 ?_ ?_) | (refine IV_upd ?_ ?_) | (refine Un_upd rfl ?_) | (refine IV_cpy ?_ (fun _ _ _ _ => trivial)) | (refine Un_cpy rfl ?_) | (apply Un_tr; rotate_left; assumption; rfl) | (refine And.intro ?_ ?_))) <;> (first | rfl | decide | (simp only [nrm, strm, by8] at * <;> omega) | (simp [upd4, cpy4, nrm, strm, by8] at * <;> omega))) | (apply h1 <;> (repeat' (first | assumption | exact trivial | exact Un_rf | exact hI 4 _ _ _ | exact hI 9 _ _ _ | exact hI 22 _ _ _ | (refine ixr_by8 ?_ ?_) | (refine IV_upd ?_ ?_) | (refine Un_upd rfl ?_) | (refine IV_cpy ?_ (fun _ _ _ _ => trivial)) | (refine Un_cpy rfl ?_) | (apply Un_tr; rotate_left; assumption; rfl) | (refine And.intro ?_ ?_))) <;> (first | rfl | decide | (simp only [nrm, strm, by8] at * <;> omega) | (simp [upd4, cpy4, nrm, strm, by8] at * <;> omega))) | (apply h2 <;> (repeat' (first | assumption | exact trivial | exact Un_rf | exact hI 4 _ _ _ | exact hI 9 _ _ _ | exact hI 22 _ _ _ | (refine ixr_by8 ?_ ?_) | (refine IV_upd ?_ ?_) | (refine Un_upd rfl ?_) | (refine IV_cpy ?_ (fun _ _ _ _ => trivial)) | (refine Un_cpy rfl ?_) | (apply Un_tr; rotate_left; assumption; rfl) | (refine And.intro ?_ ?_))) <;> (first | rfl | decide | (simp only [nrm, strm, by8] at * <;> omega) | (simp [upd4, cpy4, nrm, strm, by8] at * <;> omega))) | ((repeat' (first | assumption | exact trivial | exact Un_rf | exact hI 4 _ _ _ | exact hI 9 _ _ _ | exact hI 22 _ _ _ | (refine ixr_by8 ?_ ?_) | (refine IV_upd ?_ ?_) | (refine Un_upd rfl ?_) | (refine IV_cpy ?_ (fun _ _ _ _ => trivial)) | (refine Un_cpy rfl ?_) | (apply Un_tr; rotate_left; assumption; rfl) | (refine And.intro ?_ ?_))) <;> (first | rfl | decide | (simp only [nrm, strm, by8] at * <;> omega) | (simp [upd4, cpy4, nrm, strm, by8] at * <;> omega)))
  · intro av σ K kx n pc L st σ' nc ns _ _ h
    exact (h : False).elim
def gt_Wire_put (a : Nat) : Option Nat := match a with
  | _ => none
theorem go_Wire_put : ∀ a v, gt_Wire_put a = some v → StaOK R_Wire a v := by
  intro a v h
  unfold gt_Wire_put at h
  cases h
def pr_Wire_put : List Ent := [(0, 5, 0, 0, 0), (1, 39, 19, 0, 0), (4, 2, 0, 240, 0), (7, 35, 0, 0, 39), (10, 5, 0, 0, 0), (11, 39, 9, 0, 0), (14, 5, 0, 0, 0), (15, 39, 15, 0, 0), (18, 5, 0, 0, 0), (19, 39, 19, 0, 0), (22, 12, 0, 0, 0), (23, 2, 0, 240, 0), (26, 17, 0, 0, 0), (27, 3, 1, 0, 0), (28, 42, 0, 0, 0), (29, 5, 0, 0, 0), (30, 23, 0, 0, 0), (31, 39, 19, 0, 0), (34, 0, 0, 1, 0), (35, 12, 0, 0, 0), (36, 40, 19, 0, 0), (39, 49, 0, 0, 0)]
def sw_Wire_put : List Swt := []
theorem dk_Wire_put : ∀ q ∈ pr_Wire_put, decode b_Wire_put q.1 = .ok (dec sw_Wire_put q) ∧ okE q = true := by decide +kernel
theorem nt_Wire_put : ∀ q ∈ pr_Wire_put, ¬ q.2.1 = 55 := by decide +kernel
def ct_Wire_put (a : Nat) : Option (Nat × Nat × CSp × Nat × Nat) := match a with
  | _ => none
theorem co_Wire_put : ∀ a v, ct_Wire_put a = some v → StcOK R_Wire 0 0 a v := by
  intro a v h
  unfold ct_Wire_put at h
  cases h
/-- Wire_put -/
def sp_Wire_put : CSp := sRI (fun q x σ K _ => q.1 = 3 ∧ IV σ ∧ by8 x ∧ ∀ σ', IV σ' → Un [3, 4] σ σ' → K none σ')
set_option maxHeartbeats 4000000 in
set_option maxRecDepth 100000 in
theorem c_Wire_put : Ctr y_Wire_put b_Wire_put 2 none 0 0 0 0 sp_Wire_put := by
  refine ctr_of (FT := ft_Wire) (GT := gt_Wire_put) (CT := ct_Wire_put) (sw := sw_Wire_put) (rt := 2) (pr := pr_Wire_put) (by decide) [] (fun _ _ _ _ _ _ _ _ _ _ _ => False) 40 ⟨fun h => absurd h (by decide), fun h => absurd h (by decide), fun _ => rfl, fun h => absurd h (by decide)⟩ dk_Wire_put fo_Wire go_Wire_put co_Wire_put (fun a k h hk => by unfold gt_Wire_put at h; cases h) (fun q hq h => absurd h (nt_Wire_put q hq)) (fun av σ K kx h => by rw [sRI_len h]; decide) ?_ ?_
  · intro av σ K kx hok hSp
    obtain ⟨q0, x0, rfl, hp⟩ := sRI_inv hSp
    obtain ⟨k0, e0, i0⟩ := q0
    obtain ⟨h0, hI, h2, h3⟩ := hp
    dsimp only at h0; subst h0
    have i1 : 0 ≤ σ 3 e0 i0 1 ∧ σ 3 e0 i0 1 ≤ 239 := hI 3 e0 i0 1
    have i2 : 0 ≤ σ 3 e0 i0 2 ∧ σ 3 e0 i0 2 ≤ 240 := hI 3 e0 i0 2
    all_goals (repeat' (first | (with_reducible assumption) | (with_reducible refine IV_upd ?_ ?_) | (with_reducible refine IV_cpy ?_ (fun _ _ _ _ => trivial)) | (refine And.intro ?_ ?_) | (intro _)))
    all_goals first | (first | rfl | decide | (simp only [nrm, strm, by8] at * <;> omega) | (simp [upd4, cpy4, nrm, strm, by8] at * <;> omega)) | (exact h3) | (refine h3 _ ?_ ?_ <;> (repeat' (first | assumption | exact trivial | exact Un_rf | exact hI 4 _ _ _ | exact hI 9 _ _ _ | exact hI 22 _ _ _ | (refine ixr_by8 ?_ ?_) | (refine IV_upd ?_ ?_) | (refine Un_upd rfl ?_) | (refine IV_cpy ?_ (fun _ _ _ _ => trivial)) | (refine Un_cpy rfl ?_) | (apply Un_tr; rotate_left; assumption; rfl) | (refine And.intro ?_ ?_))) <;> (first | rfl | decide | (simp only [nrm, strm, by8] at * <;> omega) | (simp [upd4, cpy4, nrm, strm, by8] at * <;> omega))) | (apply h3 <;> (repeat' (first | assumption | exact trivial | exact Un_rf | exact hI 4 _ _ _ | exact hI 9 _ _ _ | exact hI 22 _ _ _ | (refine ixr_by8 ?_ ?_) | (refine IV_upd ?_ ?_) | (refine Un_upd rfl ?_) | (refine IV_cpy ?_ (fun _ _ _ _ => trivial)) | (refine Un_cpy rfl ?_) | (apply Un_tr; rotate_left; assumption; rfl) | (refine And.intro ?_ ?_))) <;> (first | rfl | decide | (simp only [nrm, strm, by8] at * <;> omega) | (simp [upd4, cpy4, nrm, strm, by8] at * <;> omega))) | ((repeat' (first | assumption | exact trivial | exact Un_rf | exact hI 4 _ _ _ | exact hI 9 _ _ _ | exact hI 22 _ _ _ | (refine ixr_by8 ?_ ?_) | (refine IV_upd ?_ ?_) | (refine Un_upd rfl ?_) | (refine IV_cpy ?_ (fun _ _ _ _ => trivial)) | (refine Un_cpy rfl ?_) | (apply Un_tr; rotate_left; assumption; rfl) | (refine And.intro ?_ ?_))) <;> (first | rfl | decide | (simp only [nrm, strm, by8] at * <;> omega) | (simp [upd4, cpy4, nrm, strm, by8] at * <;> omega)))
  · intro av σ K kx n pc L st σ' nc ns _ _ h
    exact (h : False).elim
def gt_Wire_putHead (a : Nat) : Option Nat := match a with
  | _ => none
theorem go_Wire_putHead : ∀ a v, gt_Wire_putHead a = some v → StaOK R_Wire a v := by
  intro a v h
  unfold gt_Wire_putHead at h
  cases h
def pr_Wire_putHead : List Ent := [(0, 5, 0, 0, 0), (1, 3, 1, 0, 0), (2, 46, 22, 0, 0), (5, 5, 0, 0, 0), (6, 3, 2, 0, 0), (7, 46, 22, 0, 0), (10, 5, 0, 0, 0), (11, 3, 3, 0, 0), (12, 46, 22, 0, 0), (15, 5, 0, 0, 0), (16, 4, 4, 0, 0), (18, 46, 22, 0, 0), (21, 49, 0, 0, 0)]
def sw_Wire_putHead : List Swt := []
theorem dk_Wire_putHead : ∀ q ∈ pr_Wire_putHead, decode b_Wire_putHead q.1 = .ok (dec sw_Wire_putHead q) ∧ okE q = true := by decide +kernel
theorem nt_Wire_putHead : ∀ q ∈ pr_Wire_putHead, ¬ q.2.1 = 55 := by decide +kernel
def ct_Wire_putHead (a : Nat) : Option (Nat × Nat × CSp × Nat × Nat) := match a with
  | 22 => some (2, 8, sp_Wire_put, 0, 0)
  | _ => none
theorem co_Wire_putHead : ∀ a v, ct_Wire_putHead a = some v → StcOK R_Wire 1 21 a v := by
  intro a v h
  unfold ct_Wire_putHead at h
  split at h
  · cases h; exact ⟨y_Wire_put, b_Wire_put, 2, none, 0, 0, 1, c_Wire_put, by decide, by decide +kernel, by decide +kernel, by decide +kernel, Or.inl ⟨rfl, by decide, by decide +kernel, by decide +kernel, _, _, rfl, by decide +kernel⟩⟩
  · cases h
/-- Wire_putHead -/
def sp_Wire_putHead : CSp := sRIIII (fun q x0 x1 x2 x3 σ K _ => q.1 = 3 ∧ IV σ ∧ by8 x0 ∧ by8 x1 ∧ by8 x2 ∧ by8 x3 ∧ ∀ σ', IV σ' → Un [3, 4] σ σ' → K none σ')
set_option maxHeartbeats 4000000 in
set_option maxRecDepth 100000 in
theorem c_Wire_putHead : Ctr y_Wire_putHead b_Wire_putHead 5 none 1 21 0 0 sp_Wire_putHead := by
  refine ctr_of (FT := ft_Wire) (GT := gt_Wire_putHead) (CT := ct_Wire_putHead) (sw := sw_Wire_putHead) (rt := 2) (pr := pr_Wire_putHead) (by decide) [] (fun _ _ _ _ _ _ _ _ _ _ _ => False) 30 ⟨fun h => absurd h (by decide), fun h => absurd h (by decide), fun _ => rfl, fun h => absurd h (by decide)⟩ dk_Wire_putHead fo_Wire go_Wire_putHead co_Wire_putHead (fun a k h hk => by unfold gt_Wire_putHead at h; cases h) (fun q hq h => absurd h (nt_Wire_putHead q hq)) (fun av σ K kx h => by rw [sRIIII_len h]; decide) ?_ ?_
  · intro av σ K kx hok hSp
    obtain ⟨q0, x0, x1, x2, x3, rfl, hp⟩ := sRIIII_inv hSp
    obtain ⟨k0, e0, i0⟩ := q0
    obtain ⟨h0, hI, h2, h3, h4, h5, h6⟩ := hp
    dsimp only at h0; subst h0
    all_goals (repeat' (first | (with_reducible assumption) | (with_reducible refine IV_upd ?_ ?_) | (with_reducible refine IV_cpy ?_ (fun _ _ _ _ => trivial)) | (refine And.intro ?_ ?_) | (intro _)))
    all_goals first | (first | rfl | decide | (simp only [nrm, strm, by8] at * <;> omega) | (simp [upd4, cpy4, nrm, strm, by8] at * <;> omega)) | (exact h6) | (refine h6 _ ?_ ?_ <;> (repeat' (first | assumption | exact trivial | exact Un_rf | exact hI 4 _ _ _ | exact hI 9 _ _ _ | exact hI 22 _ _ _ | (refine ixr_by8 ?_ ?_) | (refine IV_upd ?_ ?_) | (refine Un_upd rfl ?_) | (refine IV_cpy ?_ (fun _ _ _ _ => trivial)) | (refine Un_cpy rfl ?_) | (apply Un_tr; rotate_left; assumption; rfl) | (refine And.intro ?_ ?_))) <;> (first | rfl | decide | (simp only [nrm, strm, by8] at * <;> omega) | (simp [upd4, cpy4, nrm, strm, by8] at * <;> omega))) | (apply h6 <;> (repeat' (first | assumption | exact trivial | exact Un_rf | exact hI 4 _ _ _ | exact hI 9 _ _ _ | exact hI 22 _ _ _ | (refine ixr_by8 ?_ ?_) | (refine IV_upd ?_ ?_) | (refine Un_upd rfl ?_) | (refine IV_cpy ?_ (fun _ _ _ _ => trivial)) | (refine Un_cpy rfl ?_) | (apply Un_tr; rotate_left; assumption; rfl) | (refine And.intro ?_ ?_))) <;> (first | rfl | decide | (simp only [nrm, strm, by8] at * <;> omega) | (simp [upd4, cpy4, nrm, strm, by8] at * <;> omega))) | ((repeat' (first | assumption | exact trivial | exact Un_rf | exact hI 4 _ _ _ | exact hI 9 _ _ _ | exact hI 22 _ _ _ | (refine ixr_by8 ?_ ?_) | (refine IV_upd ?_ ?_) | (refine Un_upd rfl ?_) | (refine IV_cpy ?_ (fun _ _ _ _ => trivial)) | (refine Un_cpy rfl ?_) | (apply Un_tr; rotate_left; assumption; rfl) | (refine And.intro ?_ ?_))) <;> (first | rfl | decide | (simp only [nrm, strm, by8] at * <;> omega) | (simp [upd4, cpy4, nrm, strm, by8] at * <;> omega)))
  · intro av σ K kx n pc L st σ' nc ns _ _ h
    exact (h : False).elim
def gt_Wire_take (a : Nat) : Option Nat := match a with
  | _ => none
theorem go_Wire_take : ∀ a v, gt_Wire_take a = some v → StaOK R_Wire a v := by
  intro a v h
  unfold gt_Wire_take at h
  cases h
def pr_Wire_take : List Ent := [(0, 5, 0, 0, 0), (1, 39, 19, 0, 0), (4, 27, 0, 0, 9), (7, 0, 0, 0, 0), (8, 48, 0, 0, 0), (9, 5, 0, 0, 0), (10, 39, 9, 0, 0), (13, 5, 0, 0, 0), (14, 39, 15, 0, 0), (17, 41, 0, 0, 0), (18, 7, 1, 0, 0), (19, 5, 0, 0, 0), (20, 5, 0, 0, 0), (21, 39, 15, 0, 0), (24, 0, 0, 1, 0), (25, 12, 0, 0, 0), (26, 2, 0, 240, 0), (29, 17, 0, 0, 0), (30, 40, 15, 0, 0), (33, 5, 0, 0, 0), (34, 23, 0, 0, 0), (35, 39, 19, 0, 0), (38, 0, 0, 1, 0), (39, 13, 0, 0, 0), (40, 40, 19, 0, 0), (43, 3, 1, 0, 0), (44, 48, 0, 0, 0)]
def sw_Wire_take : List Swt := []
theorem dk_Wire_take : ∀ q ∈ pr_Wire_take, decode b_Wire_take q.1 = .ok (dec sw_Wire_take q) ∧ okE q = true := by decide +kernel
theorem nt_Wire_take : ∀ q ∈ pr_Wire_take, ¬ q.2.1 = 55 := by decide +kernel
def ct_Wire_take (a : Nat) : Option (Nat × Nat × CSp × Nat × Nat) := match a with
  | _ => none
theorem co_Wire_take : ∀ a v, ct_Wire_take a = some v → StcOK R_Wire 0 0 a v := by
  intro a v h
  unfold ct_Wire_take at h
  cases h
/-- Wire_take -/
def sp_Wire_take : CSp := sR (fun q σ K _ => q.1 = 3 ∧ IV σ ∧ ∀ r σ', by8 r → IV σ' → Un [3, 4] σ σ' → K (some (.inl r)) σ')
set_option maxHeartbeats 4000000 in
set_option maxRecDepth 100000 in
theorem c_Wire_take : Ctr y_Wire_take b_Wire_take 2 (some .int) 0 0 0 0 sp_Wire_take := by
  refine ctr_of (FT := ft_Wire) (GT := gt_Wire_take) (CT := ct_Wire_take) (sw := sw_Wire_take) (rt := 0) (pr := pr_Wire_take) (by decide) [] (fun _ _ _ _ _ _ _ _ _ _ _ => False) 40 ⟨fun _ => rfl, fun h => absurd h (by decide), fun h => absurd h (by decide), fun h => absurd h (by decide)⟩ dk_Wire_take fo_Wire go_Wire_take co_Wire_take (fun a k h hk => by unfold gt_Wire_take at h; cases h) (fun q hq h => absurd h (nt_Wire_take q hq)) (fun av σ K kx h => by rw [sR_len h]; decide) ?_ ?_
  · intro av σ K kx hok hSp
    obtain ⟨q0, rfl, hp⟩ := sR_inv hSp
    obtain ⟨k0, e0, i0⟩ := q0
    obtain ⟨h0, hI, h2⟩ := hp
    dsimp only at h0; subst h0
    have i1 : 0 ≤ σ 3 e0 i0 1 ∧ σ 3 e0 i0 1 ≤ 239 := hI 3 e0 i0 1
    have i2 : 0 ≤ σ 3 e0 i0 2 ∧ σ 3 e0 i0 2 ≤ 240 := hI 3 e0 i0 2
    all_goals (repeat' (first | (with_reducible assumption) | (with_reducible refine IV_upd ?_ ?_) | (with_reducible refine IV_cpy ?_ (fun _ _ _ _ => trivial)) | (refine And.intro ?_ ?_) | (intro _)))
    all_goals first | (first | rfl | decide | (simp only [nrm, strm, by8] at * <;> omega) | (simp [upd4, cpy4, nrm, strm, by8] at * <;> omega)) | (exact h2) | (refine h2 _ ?_ ?_ <;> (repeat' (first | assumption | exact trivial | exact Un_rf | exact hI 4 _ _ _ | exact hI 9 _ _ _ | exact hI 22 _ _ _ | (refine ixr_by8 ?_ ?_) | (refine IV_upd ?_ ?_) | (refine Un_upd rfl ?_) | (refine IV_cpy ?_ (fun _ _ _ _ => trivial)) | (refine Un_cpy rfl ?_) | (apply Un_tr; rotate_left; assumption; rfl) | (refine And.intro ?_ ?_))) <;> (first | rfl | decide | (simp only [nrm, strm, by8] at * <;> omega) | (simp [upd4, cpy4, nrm, strm, by8] at * <;> omega))) | (apply h2 <;> (repeat' (first | assumption | exact trivial | exact Un_rf | exact hI 4 _ _ _ | exact hI 9 _ _ _ | exact hI 22 _ _ _ | (refine ixr_by8 ?_ ?_) | (refine IV_upd ?_ ?_) | (refine Un_upd rfl ?_) | (refine IV_cpy ?_ (fun _ _ _ _ => trivial)) | (refine Un_cpy rfl ?_) | (apply Un_tr; rotate_left; assumption; rfl) | (refine And.intro ?_ ?_))) <;> (first | rfl | decide | (simp only [nrm, strm, by8] at * <;> omega) | (simp [upd4, cpy4, nrm, strm, by8] at * <;> omega))) | ((repeat' (first | assumption | exact trivial | exact Un_rf | exact hI 4 _ _ _ | exact hI 9 _ _ _ | exact hI 22 _ _ _ | (refine ixr_by8 ?_ ?_) | (refine IV_upd ?_ ?_) | (refine Un_upd rfl ?_) | (refine IV_cpy ?_ (fun _ _ _ _ => trivial)) | (refine Un_cpy rfl ?_) | (apply Un_tr; rotate_left; assumption; rfl) | (refine And.intro ?_ ?_))) <;> (first | rfl | decide | (simp only [nrm, strm, by8] at * <;> omega) | (simp [upd4, cpy4, nrm, strm, by8] at * <;> omega)))
  · intro av σ K kx n pc L st σ' nc ns _ _ h
    exact (h : False).elim
def gt_Wire_flip (a : Nat) : Option Nat := match a with
  | _ => none
theorem go_Wire_flip : ∀ a v, gt_Wire_flip a = some v → StaOK R_Wire a v := by
  intro a v h
  unfold gt_Wire_flip at h
  cases h
def pr_Wire_flip : List Ent := [(0, 3, 1, 0, 0), (1, 28, 0, 0, 12), (4, 3, 1, 0, 0), (5, 5, 0, 0, 0), (6, 39, 19, 0, 0), (9, 34, 0, 0, 14), (12, 0, 0, 0, 0), (13, 48, 0, 0, 0), (14, 5, 0, 0, 0), (15, 39, 15, 0, 0), (18, 3, 1, 0, 0), (19, 12, 0, 0, 0), (20, 2, 0, 240, 0), (23, 17, 0, 0, 0), (24, 7, 3, 0, 0), (25, 5, 0, 0, 0), (26, 39, 9, 0, 0), (29, 3, 3, 0, 0), (30, 25, 0, 0, 0), (31, 41, 0, 0, 0), (32, 3, 2, 0, 0), (33, 20, 0, 0, 0), (34, 42, 0, 0, 0), (35, 5, 0, 0, 0), (36, 39, 9, 0, 0), (39, 3, 3, 0, 0), (40, 41, 0, 0, 0), (41, 48, 0, 0, 0)]
def sw_Wire_flip : List Swt := []
theorem dk_Wire_flip : ∀ q ∈ pr_Wire_flip, decode b_Wire_flip q.1 = .ok (dec sw_Wire_flip q) ∧ okE q = true := by decide +kernel
theorem nt_Wire_flip : ∀ q ∈ pr_Wire_flip, ¬ q.2.1 = 55 := by decide +kernel
def ct_Wire_flip (a : Nat) : Option (Nat × Nat × CSp × Nat × Nat) := match a with
  | _ => none
theorem co_Wire_flip : ∀ a v, ct_Wire_flip a = some v → StcOK R_Wire 0 0 a v := by
  intro a v h
  unfold ct_Wire_flip at h
  cases h
/-- Wire_flip -/
def sp_Wire_flip : CSp := sRII (fun q x0 x1 σ K _ => q.1 = 3 ∧ IV σ ∧ by8 x1 ∧ ∀ r σ', IV σ' → Un [3, 4] σ σ' → K (some (.inl r)) σ')
set_option maxHeartbeats 4000000 in
set_option maxRecDepth 100000 in
theorem c_Wire_flip : Ctr y_Wire_flip b_Wire_flip 4 (some .int) 0 0 0 0 sp_Wire_flip := by
  refine ctr_of (FT := ft_Wire) (GT := gt_Wire_flip) (CT := ct_Wire_flip) (sw := sw_Wire_flip) (rt := 0) (pr := pr_Wire_flip) (by decide) [] (fun _ _ _ _ _ _ _ _ _ _ _ => False) 40 ⟨fun _ => rfl, fun h => absurd h (by decide), fun h => absurd h (by decide), fun h => absurd h (by decide)⟩ dk_Wire_flip fo_Wire go_Wire_flip co_Wire_flip (fun a k h hk => by unfold gt_Wire_flip at h; cases h) (fun q hq h => absurd h (nt_Wire_flip q hq)) (fun av σ K kx h => by rw [sRII_len h]; decide) ?_ ?_
  · intro av σ K kx hok hSp
    obtain ⟨q0, x0, x1, rfl, hp⟩ := sRII_inv hSp
    obtain ⟨k0, e0, i0⟩ := q0
    obtain ⟨h0, hI, h2, h3⟩ := hp
    dsimp only at h0; subst h0
    have i1 : 0 ≤ σ 3 e0 i0 1 ∧ σ 3 e0 i0 1 ≤ 239 := hI 3 e0 i0 1
    have i2 : 0 ≤ σ 3 e0 i0 2 ∧ σ 3 e0 i0 2 ≤ 240 := hI 3 e0 i0 2
    all_goals (repeat' (first | (with_reducible assumption) | (with_reducible refine IV_upd ?_ ?_) | (with_reducible refine IV_cpy ?_ (fun _ _ _ _ => trivial)) | (refine And.intro ?_ ?_) | (intro _)))
    all_goals first | (first | rfl | decide | (simp only [nrm, strm, by8] at * <;> omega) | (simp [upd4, cpy4, nrm, strm, by8] at * <;> omega)) | (exact h3) | (refine h3 _ ?_ ?_ <;> (repeat' (first | assumption | exact trivial | exact Un_rf | exact hI 4 _ _ _ | exact hI 9 _ _ _ | exact hI 22 _ _ _ | (refine ixr_by8 ?_ ?_) | (refine IV_upd ?_ ?_) | (refine Un_upd rfl ?_) | (refine IV_cpy ?_ (fun _ _ _ _ => trivial)) | (refine Un_cpy rfl ?_) | (apply Un_tr; rotate_left; assumption; rfl) | (refine And.intro ?_ ?_))) <;> (first | rfl | decide | (simp only [nrm, strm, by8] at * <;> omega) | (simp [upd4, cpy4, nrm, strm, by8] at * <;> omega))) | (apply h3 <;> (repeat' (first | assumption | exact trivial | exact Un_rf | exact hI 4 _ _ _ | exact hI 9 _ _ _ | exact hI 22 _ _ _ | (refine ixr_by8 ?_ ?_) | (refine IV_upd ?_ ?_) | (refine Un_upd rfl ?_) | (refine IV_cpy ?_ (fun _ _ _ _ => trivial)) | (refine Un_cpy rfl ?_) | (apply Un_tr; rotate_left; assumption; rfl) | (refine And.intro ?_ ?_))) <;> (first | rfl | decide | (simp only [nrm, strm, by8] at * <;> omega) | (simp [upd4, cpy4, nrm, strm, by8] at * <;> omega))) | ((repeat' (first | assumption | exact trivial | exact Un_rf | exact hI 4 _ _ _ | exact hI 9 _ _ _ | exact hI 22 _ _ _ | (refine ixr_by8 ?_ ?_) | (refine IV_upd ?_ ?_) | (refine Un_upd rfl ?_) | (refine IV_cpy ?_ (fun _ _ _ _ => trivial)) | (refine Un_cpy rfl ?_) | (apply Un_tr; rotate_left; assumption; rfl) | (refine And.intro ?_ ?_))) <;> (first | rfl | decide | (simp only [nrm, strm, by8] at * <;> omega) | (simp [upd4, cpy4, nrm, strm, by8] at * <;> omega)))
  · intro av σ K kx n pc L st σ' nc ns _ _ h
    exact (h : False).elim
