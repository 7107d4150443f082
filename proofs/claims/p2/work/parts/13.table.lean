def ft_Table (a : Nat) : Option (Nat × Nat × Nat) := match a with
  | 9 => some (7, 0, 2)
  | 13 => some (7, 1, 2)
  | 16 => some (7, 2, 2)
  | 19 => some (7, 3, 0)
  | 23 => some (7, 4, 0)
  | 26 => some (7, 5, 0)
  | _ => none
theorem fo_Table : ∀ a v, ft_Table a = some v → FldOK R_Table a v := by
  intro a v h
  unfold ft_Table at h
  split at h
  · cases h; exact fl_Table _ _ _ _ (by decide) (by decide +kernel) (by decide)
  · cases h; exact fl_Table _ _ _ _ (by decide) (by decide +kernel) (by decide)
  · cases h; exact fl_Table _ _ _ _ (by decide) (by decide +kernel) (by decide)
  · cases h; exact fl_Table _ _ _ _ (by decide) (by decide +kernel) (by decide)
  · cases h; exact fl_Table _ _ _ _ (by decide) (by decide +kernel) (by decide)
  · cases h; exact fl_Table _ _ _ _ (by decide) (by decide +kernel) (by decide)
  · cases h
def gt_Table_count (a : Nat) : Option Nat := match a with
  | _ => none
theorem go_Table_count : ∀ a v, gt_Table_count a = some v → StaOK R_Table a v := by
  intro a v h
  unfold gt_Table_count at h
  cases h
def pr_Table_count : List Ent := [(0, 5, 0, 0, 0), (1, 39, 19, 0, 0), (4, 48, 0, 0, 0)]
def sw_Table_count : List Swt := []
theorem dk_Table_count : ∀ q ∈ pr_Table_count, decode b_Table_count q.1 = .ok (dec sw_Table_count q) ∧ okE q = true := by decide +kernel
theorem nt_Table_count : ∀ q ∈ pr_Table_count, ¬ q.2.1 = 55 := by decide +kernel
def ct_Table_count (a : Nat) : Option (Nat × Nat × CSp × Nat × Nat) := match a with
  | _ => none
theorem co_Table_count : ∀ a v, ct_Table_count a = some v → StcOK R_Table 0 0 a v := by
  intro a v h
  unfold ct_Table_count at h
  cases h
/-- Table_count -/
def sp_Table_count : CSp := sR (fun q σ K _ => kT q.1 ∧ K (some (.inl (σ q.1 q.2.1 q.2.2 3))) σ)
set_option maxHeartbeats 4000000 in
set_option maxRecDepth 100000 in
theorem c_Table_count : Ctr y_Table_count b_Table_count 1 (some .int) 0 0 0 0 sp_Table_count := by
  refine ctr_of (FT := ft_Table) (GT := gt_Table_count) (CT := ct_Table_count) (sw := sw_Table_count) (rt := 0) (pr := pr_Table_count) (by decide) [] (fun _ _ _ _ _ _ _ _ _ _ _ => False) 20 ⟨fun _ => rfl, fun h => absurd h (by decide), fun h => absurd h (by decide), fun h => absurd h (by decide)⟩ dk_Table_count fo_Table go_Table_count co_Table_count (fun a k h hk => by unfold gt_Table_count at h; cases h) (fun q hq h => absurd h (nt_Table_count q hq)) (fun av σ K kx h => by rw [sR_len h]; decide) ?_ ?_
  · intro av σ K kx hok hSp
    obtain ⟨q0, rfl, hp⟩ := sR_inv hSp
    obtain ⟨k0, e0, i0⟩ := q0
    obtain ⟨h0, h1⟩ := hp
    all_goals (rcases h0 with h0 | h0 | h0)
    all_goals (dsimp only at h0; subst h0)
    all_goals (repeat' (first | (with_reducible assumption) | (with_reducible refine IV_upd ?_ ?_) | (with_reducible refine IV_cpy ?_ (fun _ _ _ _ => trivial)) | (refine And.intro ?_ ?_) | (intro _)))
    all_goals first | (first | rfl | decide | exact Or.inl rfl | exact Or.inr (Or.inl rfl) | exact Or.inr (Or.inr rfl) | (simp only [nrm, strm, by8] at * <;> omega) | (simp [upd4, cpy4, nrm, strm, by8] at * <;> omega)) | (exact h1 (by first | assumption | (first | rfl | decide | exact Or.inl rfl | exact Or.inr (Or.inl rfl) | exact Or.inr (Or.inr rfl) | (simp only [nrm, strm, by8] at * <;> omega) | (simp [upd4, cpy4, nrm, strm, by8] at * <;> omega)))) | (exact h1) | (refine h1 _ ?_ ?_ <;> (repeat' (first | assumption | exact trivial | exact Un_rf | exact hI 4 _ _ _ | exact hI 9 _ _ _ | exact hI 22 _ _ _ | (refine ixr_by8 ?_ ?_) | (refine IV_upd ?_ ?_) | (refine Un_upd rfl ?_) | (refine IV_cpy ?_ (fun _ _ _ _ => trivial)) | (refine Un_cpy rfl ?_) | (apply Un_tr; rotate_left; assumption; rfl) | (refine And.intro ?_ ?_))) <;> (first | rfl | decide | exact Or.inl rfl | exact Or.inr (Or.inl rfl) | exact Or.inr (Or.inr rfl) | (simp only [nrm, strm, by8] at * <;> omega) | (simp [upd4, cpy4, nrm, strm, by8] at * <;> omega))) | (apply h1 <;> (repeat' (first | assumption | exact trivial | exact Un_rf | exact hI 4 _ _ _ | exact hI 9 _ _ _ | exact hI 22 _ _ _ | (refine ixr_by8 ?_ ?_) | (refine IV_upd ?_ ?_) | (refine Un_upd rfl ?_) | (refine IV_cpy ?_ (fun _ _ _ _ => trivial)) | (refine Un_cpy rfl ?_) | (apply Un_tr; rotate_left; assumption; rfl) | (refine And.intro ?_ ?_))) <;> (first | rfl | decide | exact Or.inl rfl | exact Or.inr (Or.inl rfl) | exact Or.inr (Or.inr rfl) | (simp only [nrm, strm, by8] at * <;> omega) | (simp [upd4, cpy4, nrm, strm, by8] at * <;> omega))) | ((repeat' (first | assumption | exact trivial | exact Un_rf | exact hI 4 _ _ _ | exact hI 9 _ _ _ | exact hI 22 _ _ _ | (refine ixr_by8 ?_ ?_) | (refine IV_upd ?_ ?_) | (refine Un_upd rfl ?_) | (refine IV_cpy ?_ (fun _ _ _ _ => trivial)) | (refine Un_cpy rfl ?_) | (apply Un_tr; rotate_left; assumption; rfl) | (refine And.intro ?_ ?_))) <;> (first | rfl | decide | exact Or.inl rfl | exact Or.inr (Or.inl rfl) | exact Or.inr (Or.inr rfl) | (simp only [nrm, strm, by8] at * <;> omega) | (simp [upd4, cpy4, nrm, strm, by8] at * <;> omega)))
  · intro av σ K kx n pc L st σ' nc ns _ _ h
    exact (h : False).elim
def gt_Table_limit (a : Nat) : Option Nat := match a with
  | _ => none
theorem go_Table_limit : ∀ a v, gt_Table_limit a = some v → StaOK R_Table a v := by
  intro a v h
  unfold gt_Table_limit at h
  cases h
def pr_Table_limit : List Ent := [(0, 5, 0, 0, 0), (1, 39, 26, 0, 0), (4, 48, 0, 0, 0)]
def sw_Table_limit : List Swt := []
theorem dk_Table_limit : ∀ q ∈ pr_Table_limit, decode b_Table_limit q.1 = .ok (dec sw_Table_limit q) ∧ okE q = true := by decide +kernel
theorem nt_Table_limit : ∀ q ∈ pr_Table_limit, ¬ q.2.1 = 55 := by decide +kernel
def ct_Table_limit (a : Nat) : Option (Nat × Nat × CSp × Nat × Nat) := match a with
  | _ => none
theorem co_Table_limit : ∀ a v, ct_Table_limit a = some v → StcOK R_Table 0 0 a v := by
  intro a v h
  unfold ct_Table_limit at h
  cases h
/-- Table_limit -/
def sp_Table_limit : CSp := sR (fun q σ K _ => kT q.1 ∧ K (some (.inl (σ q.1 q.2.1 q.2.2 5))) σ)
set_option maxHeartbeats 4000000 in
set_option maxRecDepth 100000 in
theorem c_Table_limit : Ctr y_Table_limit b_Table_limit 1 (some .int) 0 0 0 0 sp_Table_limit := by
  refine ctr_of (FT := ft_Table) (GT := gt_Table_limit) (CT := ct_Table_limit) (sw := sw_Table_limit) (rt := 0) (pr := pr_Table_limit) (by decide) [] (fun _ _ _ _ _ _ _ _ _ _ _ => False) 20 ⟨fun _ => rfl, fun h => absurd h (by decide), fun h => absurd h (by decide), fun h => absurd h (by decide)⟩ dk_Table_limit fo_Table go_Table_limit co_Table_limit (fun a k h hk => by unfold gt_Table_limit at h; cases h) (fun q hq h => absurd h (nt_Table_limit q hq)) (fun av σ K kx h => by rw [sR_len h]; decide) ?_ ?_
  · intro av σ K kx hok hSp
    obtain ⟨q0, rfl, hp⟩ := sR_inv hSp
    obtain ⟨k0, e0, i0⟩ := q0
    obtain ⟨h0, h1⟩ := hp
    all_goals (rcases h0 with h0 | h0 | h0)
    all_goals (dsimp only at h0; subst h0)
    all_goals (repeat' (first | (with_reducible assumption) | (with_reducible refine IV_upd ?_ ?_) | (with_reducible refine IV_cpy ?_ (fun _ _ _ _ => trivial)) | (refine And.intro ?_ ?_) | (intro _)))
    all_goals first | (first | rfl | decide | exact Or.inl rfl | exact Or.inr (Or.inl rfl) | exact Or.inr (Or.inr rfl) | (simp only [nrm, strm, by8] at * <;> omega) | (simp [upd4, cpy4, nrm, strm, by8] at * <;> omega)) | (exact h1 (by first | assumption | (first | rfl | decide | exact Or.inl rfl | exact Or.inr (Or.inl rfl) | exact Or.inr (Or.inr rfl) | (simp only [nrm, strm, by8] at * <;> omega) | (simp [upd4, cpy4, nrm, strm, by8] at * <;> omega)))) | (exact h1) | (refine h1 _ ?_ ?_ <;> (repeat' (first | assumption | exact trivial | exact Un_rf | exact hI 4 _ _ _ | exact hI 9 _ _ _ | exact hI 22 _ _ _ | (refine ixr_by8 ?_ ?_) | (refine IV_upd ?_ ?_) | (refine Un_upd rfl ?_) | (refine IV_cpy ?_ (fun _ _ _ _ => trivial)) | (refine Un_cpy rfl ?_) | (apply Un_tr; rotate_left; assumption; rfl) | (refine And.intro ?_ ?_))) <;> (first | rfl | decide | exact Or.inl rfl | exact Or.inr (Or.inl rfl) | exact Or.inr (Or.inr rfl) | (simp only [nrm, strm, by8] at * <;> omega) | (simp [upd4, cpy4, nrm, strm, by8] at * <;> omega))) | (apply h1 <;> (repeat' (first | assumption | exact trivial | exact Un_rf | exact hI 4 _ _ _ | exact hI 9 _ _ _ | exact hI 22 _ _ _ | (refine ixr_by8 ?_ ?_) | (refine IV_upd ?_ ?_) | (refine Un_upd rfl ?_) | (refine IV_cpy ?_ (fun _ _ _ _ => trivial)) | (refine Un_cpy rfl ?_) | (apply Un_tr; rotate_left; assumption; rfl) | (refine And.intro ?_ ?_))) <;> (first | rfl | decide | exact Or.inl rfl | exact Or.inr (Or.inl rfl) | exact Or.inr (Or.inr rfl) | (simp only [nrm, strm, by8] at * <;> omega) | (simp [upd4, cpy4, nrm, strm, by8] at * <;> omega))) | ((repeat' (first | assumption | exact trivial | exact Un_rf | exact hI 4 _ _ _ | exact hI 9 _ _ _ | exact hI 22 _ _ _ | (refine ixr_by8 ?_ ?_) | (refine IV_upd ?_ ?_) | (refine Un_upd rfl ?_) | (refine IV_cpy ?_ (fun _ _ _ _ => trivial)) | (refine Un_cpy rfl ?_) | (apply Un_tr; rotate_left; assumption; rfl) | (refine And.intro ?_ ?_))) <;> (first | rfl | decide | exact Or.inl rfl | exact Or.inr (Or.inl rfl) | exact Or.inr (Or.inr rfl) | (simp only [nrm, strm, by8] at * <;> omega) | (simp [upd4, cpy4, nrm, strm, by8] at * <;> omega)))
  · intro av σ K kx n pc L st σ' nc ns _ _ h
    exact (h : False).elim
def gt_Table_takeOffDownTo (a : Nat) : Option Nat := match a with
  | 39 => some 303
  | _ => none
theorem go_Table_takeOffDownTo : ∀ a v, gt_Table_takeOffDownTo a = some v → StaOK R_Table a v := by
  intro a v h
  unfold gt_Table_takeOffDownTo at h
  split at h
  · cases h; exact ⟨fun h => absurd h (by decide), fun h => absurd h (by decide), fun _ => by decide +kernel, fun h => absurd h (by decide)⟩
  · cases h
def pr_Table_takeOffDownTo : List Ent := [(0, 0, 0, 0, 0), (1, 7, 2, 0, 0), (2, 3, 2, 0, 0), (3, 5, 0, 0, 0), (4, 39, 19, 0, 0), (7, 35, 0, 0, 39), (10, 5, 0, 0, 0), (11, 39, 23, 0, 0), (14, 3, 1, 0, 0), (15, 37, 0, 0, 39), (18, 5, 0, 0, 0), (19, 23, 0, 0, 0), (20, 39, 23, 0, 0), (23, 5, 0, 0, 0), (24, 39, 16, 0, 0), (27, 3, 2, 0, 0), (28, 41, 0, 0, 0), (29, 13, 0, 0, 0), (30, 40, 23, 0, 0), (33, 11, 2, 1, 0), (36, 38, 0, 0, 2), (39, 5, 0, 0, 0), (40, 23, 0, 0, 0), (41, 39, 19, 0, 0), (44, 3, 2, 0, 0), (45, 13, 0, 0, 0), (46, 40, 19, 0, 0), (49, 5, 0, 0, 0), (50, 39, 9, 0, 0), (53, 3, 2, 0, 0), (54, 5, 0, 0, 0), (55, 39, 9, 0, 0), (58, 0, 0, 0, 0), (59, 5, 0, 0, 0), (60, 39, 19, 0, 0), (63, 54, 39, 0, 0), (66, 5, 0, 0, 0), (67, 39, 13, 0, 0), (70, 3, 2, 0, 0), (71, 5, 0, 0, 0), (72, 39, 13, 0, 0), (75, 0, 0, 0, 0), (76, 5, 0, 0, 0), (77, 39, 19, 0, 0), (80, 54, 39, 0, 0), (83, 5, 0, 0, 0), (84, 39, 16, 0, 0), (87, 3, 2, 0, 0), (88, 5, 0, 0, 0), (89, 39, 16, 0, 0), (92, 0, 0, 0, 0), (93, 5, 0, 0, 0), (94, 39, 19, 0, 0), (97, 54, 39, 0, 0), (100, 49, 0, 0, 0)]
def sw_Table_takeOffDownTo : List Swt := []
theorem dk_Table_takeOffDownTo : ∀ q ∈ pr_Table_takeOffDownTo, decode b_Table_takeOffDownTo q.1 = .ok (dec sw_Table_takeOffDownTo q) ∧ okE q = true := by decide +kernel
theorem nt_Table_takeOffDownTo : ∀ q ∈ pr_Table_takeOffDownTo, ¬ q.2.1 = 55 := by decide +kernel
def ct_Table_takeOffDownTo (a : Nat) : Option (Nat × Nat × CSp × Nat × Nat) := match a with
  | _ => none
theorem co_Table_takeOffDownTo : ∀ a v, ct_Table_takeOffDownTo a = some v → StcOK R_Table 1 26 a v := by
  intro a v h
  unfold ct_Table_takeOffDownTo at h
  cases h
/-- Table_takeOffDownTo -/
def sp_Table_takeOffDownTo : CSp := sRI (fun q x σ K _ => kT q.1 ∧ IV σ ∧ ∀ σ', IV σ' → Un [q.1, q.1 + 1, q.1 + 2, q.1 + 3] σ σ' → (0 ≤ σ' q.1 q.2.1 q.2.2 3 ∧ σ' q.1 q.2.1 q.2.2 3 ≤ 8) → K none σ')
set_option maxHeartbeats 4000000 in
set_option maxRecDepth 100000 in
theorem c_Table_takeOffDownTo : Ctr y_Table_takeOffDownTo b_Table_takeOffDownTo 3 none 1 26 0 0 sp_Table_takeOffDownTo := by
  refine ctr_of (FT := ft_Table) (GT := gt_Table_takeOffDownTo) (CT := ct_Table_takeOffDownTo) (sw := sw_Table_takeOffDownTo) (rt := 2) (pr := pr_Table_takeOffDownTo) (by decide) [2] (fun av σ _ _ n pc L st σ' nc ns => ∃ k e i x f, av = [.inr (k, e, i), .inl x] ∧ pc = 2 ∧ L = [some (.inr (k, e, i)), some (.inl x), some (.inl f)] ∧ st = [] ∧ nc = 0 ∧ ns = 0 ∧ 0 ≤ f ∧ f ≤ σ' k e i 3 ∧ n = (8 - f).toNat ∧ IV σ' ∧ Un [k, k + 1, k + 2, k + 3] σ σ') 70 ⟨fun h => absurd h (by decide), fun h => absurd h (by decide), fun _ => rfl, fun h => absurd h (by decide)⟩ dk_Table_takeOffDownTo fo_Table go_Table_takeOffDownTo co_Table_takeOffDownTo (fun a k h hk => by unfold gt_Table_takeOffDownTo at h; split at h <;> first | exact ⟨by decide, by decide⟩ | (cases h; done) | (cases h; exact absurd hk (by decide))) (fun q hq h => absurd h (nt_Table_takeOffDownTo q hq)) (fun av σ K kx h => by rw [sRI_len h]; decide) ?_ ?_
  · intro av σ K kx hok hSp
    obtain ⟨q0, x0, rfl, hp⟩ := sRI_inv hSp
    obtain ⟨k0, e0, i0⟩ := q0
    obtain ⟨h0, hI, h2⟩ := hp
    have i1 := IV_T hI h0 e0 i0
    rcases h0 with h0 | h0 | h0
    all_goals (dsimp only at h0; subst h0)
    all_goals exact ⟨8, _, e0, i0, x0, 0, rfl, rfl, rfl, rfl, rfl, rfl, by omega, i1.1, rfl, hI, Un_rf⟩
  · intro av σ K kx n pc L st σ' nc ns hok hSp hJ
    obtain ⟨k, e, i, x, f, rfl, rfl, rfl, rfl, rfl, rfl, h0, h6, hn, hI, hU⟩ := hJ
    obtain ⟨hk, -, hf⟩ : kT k ∧ IV σ ∧ ∀ σ', IV σ' → Un [k, k + 1, k + 2, k + 3] σ σ' → (0 ≤ σ' k e i 3 ∧ σ' k e i 3 ≤ 8) → K none σ' := hSp
    have i1 := IV_T hI hk e i
    rcases hk with hk | hk | hk
    all_goals subst hk
    all_goals (repeat' (first | (with_reducible assumption) | (refine And.intro ?_ ?_) | (intro _)))
    all_goals first | (first | rfl | decide | exact Or.inl rfl | exact Or.inr (Or.inl rfl) | exact Or.inr (Or.inr rfl) | (simp only [nrm] at * <;> omega) | (simp [upd4, cpy4, nrm] at * <;> omega)) | (apply hf <;> (repeat' (first | assumption | exact trivial | (refine IV_upd ?_ ?_) | (refine Un_upd rfl ?_) | (refine IV_cpy ?_ (fun _ _ _ _ => trivial)) | (refine Un_cpy rfl ?_) | (refine And.intro ?_ ?_))) <;> (first | rfl | decide | exact Or.inl rfl | exact Or.inr (Or.inl rfl) | exact Or.inr (Or.inr rfl) | (simp only [nrm] at * <;> omega) | (simp [upd4, cpy4, nrm] at * <;> omega))) | (refine ⟨(8 - (f + 1)).toNat, ?_, _, e, i, x, f + 1, rfl, rfl, rfl, rfl, rfl, rfl, ?_, ?_, rfl, IV_upd hI trivial, Un_upd rfl hU⟩ <;> (first | (simp only [nrm] at * <;> omega) | (simp [upd4, nrm] at * <;> omega)))
def gt_Table_changeLimit (a : Nat) : Option Nat := match a with
  | _ => none
theorem go_Table_changeLimit : ∀ a v, gt_Table_changeLimit a = some v → StaOK R_Table a v := by
  intro a v h
  unfold gt_Table_changeLimit at h
  cases h
def pr_Table_changeLimit : List Ent := [(0, 5, 0, 0, 0), (1, 3, 1, 0, 0), (2, 40, 26, 0, 0), (5, 5, 0, 0, 0), (6, 5, 0, 0, 0), (7, 39, 26, 0, 0), (10, 46, 29, 0, 0), (13, 49, 0, 0, 0)]
def sw_Table_changeLimit : List Swt := []
theorem dk_Table_changeLimit : ∀ q ∈ pr_Table_changeLimit, decode b_Table_changeLimit q.1 = .ok (dec sw_Table_changeLimit q) ∧ okE q = true := by decide +kernel
theorem nt_Table_changeLimit : ∀ q ∈ pr_Table_changeLimit, ¬ q.2.1 = 55 := by decide +kernel
def ct_Table_changeLimit (a : Nat) : Option (Nat × Nat × CSp × Nat × Nat) := match a with
  | 29 => some (2, 7, sp_Table_takeOffDownTo, 0, 0)
  | _ => none
theorem co_Table_changeLimit : ∀ a v, ct_Table_changeLimit a = some v → StcOK R_Table 2 48 a v := by
  intro a v h
  unfold ct_Table_changeLimit at h
  split at h
  · cases h; exact ⟨y_Table_takeOffDownTo, b_Table_takeOffDownTo, 3, none, 1, 26, 1, c_Table_takeOffDownTo, by decide, by decide +kernel, by decide +kernel, by decide +kernel, Or.inl ⟨rfl, by decide, by decide +kernel, by decide +kernel, _, _, rfl, by decide +kernel⟩⟩
  · cases h
/-- Table_changeLimit -/
def sp_Table_changeLimit : CSp := sRI (fun q x σ K _ => kT q.1 ∧ IV σ ∧ ∀ σ', IV σ' → Un [q.1, q.1 + 1, q.1 + 2, q.1 + 3] σ σ' → K none σ')
set_option maxHeartbeats 4000000 in
set_option maxRecDepth 100000 in
theorem c_Table_changeLimit : Ctr y_Table_changeLimit b_Table_changeLimit 2 none 2 48 0 0 sp_Table_changeLimit := by
  refine ctr_of (FT := ft_Table) (GT := gt_Table_changeLimit) (CT := ct_Table_changeLimit) (sw := sw_Table_changeLimit) (rt := 2) (pr := pr_Table_changeLimit) (by decide) [] (fun _ _ _ _ _ _ _ _ _ _ _ => False) 20 ⟨fun h => absurd h (by decide), fun h => absurd h (by decide), fun _ => rfl, fun h => absurd h (by decide)⟩ dk_Table_changeLimit fo_Table go_Table_changeLimit co_Table_changeLimit (fun a k h hk => by unfold gt_Table_changeLimit at h; cases h) (fun q hq h => absurd h (nt_Table_changeLimit q hq)) (fun av σ K kx h => by rw [sRI_len h]; decide) ?_ ?_
  · intro av σ K kx hok hSp
    obtain ⟨q0, x0, rfl, hp⟩ := sRI_inv hSp
    obtain ⟨k0, e0, i0⟩ := q0
    obtain ⟨h0, hI, h2⟩ := hp
    all_goals (rcases h0 with h0 | h0 | h0)
    all_goals (dsimp only at h0; subst h0)
    all_goals (repeat' (first | (with_reducible assumption) | (with_reducible refine IV_upd ?_ ?_) | (with_reducible refine IV_cpy ?_ (fun _ _ _ _ => trivial)) | (refine And.intro ?_ ?_) | (intro _)))
    all_goals first | (first | rfl | decide | exact Or.inl rfl | exact Or.inr (Or.inl rfl) | exact Or.inr (Or.inr rfl) | (simp only [nrm, strm, by8] at * <;> omega) | (simp [upd4, cpy4, nrm, strm, by8] at * <;> omega)) | (exact h2) | (refine h2 _ ?_ ?_ <;> (repeat' (first | assumption | exact trivial | exact Un_rf | exact hI 4 _ _ _ | exact hI 9 _ _ _ | exact hI 22 _ _ _ | (refine ixr_by8 ?_ ?_) | (refine IV_upd ?_ ?_) | (refine Un_upd rfl ?_) | (refine IV_cpy ?_ (fun _ _ _ _ => trivial)) | (refine Un_cpy rfl ?_) | (apply Un_tr; rotate_left; assumption; rfl) | (refine And.intro ?_ ?_))) <;> (first | rfl | decide | exact Or.inl rfl | exact Or.inr (Or.inl rfl) | exact Or.inr (Or.inr rfl) | (simp only [nrm, strm, by8] at * <;> omega) | (simp [upd4, cpy4, nrm, strm, by8] at * <;> omega))) | (apply h2 <;> (repeat' (first | assumption | exact trivial | exact Un_rf | exact hI 4 _ _ _ | exact hI 9 _ _ _ | exact hI 22 _ _ _ | (refine ixr_by8 ?_ ?_) | (refine IV_upd ?_ ?_) | (refine Un_upd rfl ?_) | (refine IV_cpy ?_ (fun _ _ _ _ => trivial)) | (refine Un_cpy rfl ?_) | (apply Un_tr; rotate_left; assumption; rfl) | (refine And.intro ?_ ?_))) <;> (first | rfl | decide | exact Or.inl rfl | exact Or.inr (Or.inl rfl) | exact Or.inr (Or.inr rfl) | (simp only [nrm, strm, by8] at * <;> omega) | (simp [upd4, cpy4, nrm, strm, by8] at * <;> omega))) | ((repeat' (first | assumption | exact trivial | exact Un_rf | exact hI 4 _ _ _ | exact hI 9 _ _ _ | exact hI 22 _ _ _ | (refine ixr_by8 ?_ ?_) | (refine IV_upd ?_ ?_) | (refine Un_upd rfl ?_) | (refine IV_cpy ?_ (fun _ _ _ _ => trivial)) | (refine Un_cpy rfl ?_) | (apply Un_tr; rotate_left; assumption; rfl) | (refine And.intro ?_ ?_))) <;> (first | rfl | decide | exact Or.inl rfl | exact Or.inr (Or.inl rfl) | exact Or.inr (Or.inr rfl) | (simp only [nrm, strm, by8] at * <;> omega) | (simp [upd4, cpy4, nrm, strm, by8] at * <;> omega)))
  · intro av σ K kx n pc L st σ' nc ns _ _ h
    exact (h : False).elim
def gt_Table_add (a : Nat) : Option Nat := match a with
  | _ => none
theorem go_Table_add : ∀ a v, gt_Table_add a = some v → StaOK R_Table a v := by
  intro a v h
  unfold gt_Table_add at h
  cases h
def pr_Table_add : List Ent := [(0, 1, 0, 6, 0), (2, 3, 1, 0, 0), (3, 47, 33, 0, 0), (6, 12, 0, 0, 0), (7, 3, 2, 0, 0), (8, 47, 33, 0, 0), (11, 12, 0, 0, 0), (12, 7, 3, 0, 0), (13, 5, 0, 0, 0), (14, 5, 0, 0, 0), (15, 39, 26, 0, 0), (18, 3, 3, 0, 0), (19, 13, 0, 0, 0), (20, 46, 29, 0, 0), (23, 3, 3, 0, 0), (24, 5, 0, 0, 0), (25, 39, 26, 0, 0), (28, 36, 0, 0, 90), (31, 5, 0, 0, 0), (32, 39, 19, 0, 0), (35, 1, 0, 8, 0), (37, 35, 0, 0, 90), (40, 5, 0, 0, 0), (41, 39, 9, 0, 0), (44, 5, 0, 0, 0), (45, 39, 19, 0, 0), (48, 3, 1, 0, 0), (49, 42, 0, 0, 0), (50, 5, 0, 0, 0), (51, 39, 13, 0, 0), (54, 5, 0, 0, 0), (55, 39, 19, 0, 0), (58, 3, 2, 0, 0), (59, 42, 0, 0, 0), (60, 5, 0, 0, 0), (61, 39, 16, 0, 0), (64, 5, 0, 0, 0), (65, 39, 19, 0, 0), (68, 3, 3, 0, 0), (69, 42, 0, 0, 0), (70, 5, 0, 0, 0), (71, 23, 0, 0, 0), (72, 39, 19, 0, 0), (75, 0, 0, 1, 0), (76, 12, 0, 0, 0), (77, 40, 19, 0, 0), (80, 5, 0, 0, 0), (81, 23, 0, 0, 0), (82, 39, 23, 0, 0), (85, 3, 3, 0, 0), (86, 12, 0, 0, 0), (87, 40, 23, 0, 0), (90, 49, 0, 0, 0)]
def sw_Table_add : List Swt := []
theorem dk_Table_add : ∀ q ∈ pr_Table_add, decode b_Table_add q.1 = .ok (dec sw_Table_add q) ∧ okE q = true := by decide +kernel
theorem nt_Table_add : ∀ q ∈ pr_Table_add, ¬ q.2.1 = 55 := by decide +kernel
def ct_Table_add (a : Nat) : Option (Nat × Nat × CSp × Nat × Nat) := match a with
  | 29 => some (2, 7, sp_Table_takeOffDownTo, 0, 0)
  | 33 => some (1, 1000, sp_Letters_length, 0, 0)
  | _ => none
theorem co_Table_add : ∀ a v, ct_Table_add a = some v → StcOK R_Table 2 48 a v := by
  intro a v h
  unfold ct_Table_add at h
  split at h
  · cases h; exact ⟨y_Table_takeOffDownTo, b_Table_takeOffDownTo, 3, none, 1, 26, 1, c_Table_takeOffDownTo, by decide, by decide +kernel, by decide +kernel, by decide +kernel, Or.inl ⟨rfl, by decide, by decide +kernel, by decide +kernel, _, _, rfl, by decide +kernel⟩⟩
  · cases h; exact ⟨y_Letters_length, b_Letters_length, 2, (some .int), 0, 0, 1, c_Letters_length, by decide, by decide +kernel, by decide +kernel, by decide +kernel, (by first | exact Or.inr (Or.inl ⟨rfl, rfl, by decide +kernel, by decide +kernel⟩) | exact Or.inr (Or.inr ⟨rfl, rfl, ⟨"FrameStreams", by decide +kernel⟩, by decide +kernel⟩))⟩
  · cases h
/-- Table_add -/
def sp_Table_add : CSp := sRII (fun q x0 x1 σ K _ => kT q.1 ∧ IV σ ∧ ∀ σ', IV σ' → Un [q.1, q.1 + 1, q.1 + 2, q.1 + 3] σ σ' → K none σ')
set_option maxHeartbeats 4000000 in
set_option maxRecDepth 100000 in
theorem c_Table_add : Ctr y_Table_add b_Table_add 4 none 2 48 0 0 sp_Table_add := by
  refine ctr_of (FT := ft_Table) (GT := gt_Table_add) (CT := ct_Table_add) (sw := sw_Table_add) (rt := 2) (pr := pr_Table_add) (by decide) [] (fun _ _ _ _ _ _ _ _ _ _ _ => False) 70 ⟨fun h => absurd h (by decide), fun h => absurd h (by decide), fun _ => rfl, fun h => absurd h (by decide)⟩ dk_Table_add fo_Table go_Table_add co_Table_add (fun a k h hk => by unfold gt_Table_add at h; cases h) (fun q hq h => absurd h (nt_Table_add q hq)) (fun av σ K kx h => by rw [sRII_len h]; decide) ?_ ?_
  · intro av σ K kx hok hSp
    obtain ⟨q0, x0, x1, rfl, hp⟩ := sRII_inv hSp
    obtain ⟨k0, e0, i0⟩ := q0
    obtain ⟨h0, hI, h2⟩ := hp
    have i1 := IV_T hI h0 e0 i0
    all_goals (rcases h0 with h0 | h0 | h0)
    all_goals (dsimp only at h0; subst h0)
    all_goals (repeat' (first | (with_reducible assumption) | (with_reducible refine IV_upd ?_ ?_) | (with_reducible refine IV_cpy ?_ (fun _ _ _ _ => trivial)) | (refine And.intro ?_ ?_) | (intro _)))
    all_goals first | (first | rfl | decide | exact Or.inl rfl | exact Or.inr (Or.inl rfl) | exact Or.inr (Or.inr rfl) | (simp only [nrm, strm, by8] at * <;> omega) | (simp [upd4, cpy4, nrm, strm, by8] at * <;> omega)) | (exact h2) | (refine h2 _ ?_ ?_ <;> (repeat' (first | assumption | exact trivial | exact Un_rf | exact hI 4 _ _ _ | exact hI 9 _ _ _ | exact hI 22 _ _ _ | (refine ixr_by8 ?_ ?_) | (refine IV_upd ?_ ?_) | (refine Un_upd rfl ?_) | (refine IV_cpy ?_ (fun _ _ _ _ => trivial)) | (refine Un_cpy rfl ?_) | (apply Un_tr; rotate_left; assumption; rfl) | (refine And.intro ?_ ?_))) <;> (first | rfl | decide | exact Or.inl rfl | exact Or.inr (Or.inl rfl) | exact Or.inr (Or.inr rfl) | (simp only [nrm, strm, by8] at * <;> omega) | (simp [upd4, cpy4, nrm, strm, by8] at * <;> omega))) | (apply h2 <;> (repeat' (first | assumption | exact trivial | exact Un_rf | exact hI 4 _ _ _ | exact hI 9 _ _ _ | exact hI 22 _ _ _ | (refine ixr_by8 ?_ ?_) | (refine IV_upd ?_ ?_) | (refine Un_upd rfl ?_) | (refine IV_cpy ?_ (fun _ _ _ _ => trivial)) | (refine Un_cpy rfl ?_) | (apply Un_tr; rotate_left; assumption; rfl) | (refine And.intro ?_ ?_))) <;> (first | rfl | decide | exact Or.inl rfl | exact Or.inr (Or.inl rfl) | exact Or.inr (Or.inr rfl) | (simp only [nrm, strm, by8] at * <;> omega) | (simp [upd4, cpy4, nrm, strm, by8] at * <;> omega))) | ((repeat' (first | assumption | exact trivial | exact Un_rf | exact hI 4 _ _ _ | exact hI 9 _ _ _ | exact hI 22 _ _ _ | (refine ixr_by8 ?_ ?_) | (refine IV_upd ?_ ?_) | (refine Un_upd rfl ?_) | (refine IV_cpy ?_ (fun _ _ _ _ => trivial)) | (refine Un_cpy rfl ?_) | (apply Un_tr; rotate_left; assumption; rfl) | (refine And.intro ?_ ?_))) <;> (first | rfl | decide | exact Or.inl rfl | exact Or.inr (Or.inl rfl) | exact Or.inr (Or.inr rfl) | (simp only [nrm, strm, by8] at * <;> omega) | (simp [upd4, cpy4, nrm, strm, by8] at * <;> omega)))
  · intro av σ K kx n pc L st σ' nc ns _ _ h
    exact (h : False).elim
def gt_Table_has (a : Nat) : Option Nat := match a with
  | _ => none
theorem go_Table_has : ∀ a v, gt_Table_has a = some v → StaOK R_Table a v := by
  intro a v h
  unfold gt_Table_has at h
  cases h
def pr_Table_has : List Ent := [(0, 3, 1, 0, 0), (1, 0, 0, 1, 0), (2, 34, 0, 0, 19), (5, 3, 1, 0, 0), (6, 0, 0, 5, 0), (7, 5, 0, 0, 0), (8, 39, 19, 0, 0), (11, 12, 0, 0, 0), (12, 36, 0, 0, 19), (15, 0, 0, 1, 0), (16, 38, 0, 0, 20), (19, 0, 0, 0, 0), (20, 48, 0, 0, 0)]
def sw_Table_has : List Swt := []
theorem dk_Table_has : ∀ q ∈ pr_Table_has, decode b_Table_has q.1 = .ok (dec sw_Table_has q) ∧ okE q = true := by decide +kernel
theorem nt_Table_has : ∀ q ∈ pr_Table_has, ¬ q.2.1 = 55 := by decide +kernel
def ct_Table_has (a : Nat) : Option (Nat × Nat × CSp × Nat × Nat) := match a with
  | _ => none
theorem co_Table_has : ∀ a v, ct_Table_has a = some v → StcOK R_Table 0 0 a v := by
  intro a v h
  unfold ct_Table_has at h
  cases h
/-- Table_has -/
def sp_Table_has : CSp := sRI (fun q x σ K _ => kT q.1 ∧ IV σ ∧ (1 ≤ nrm x ∧ nrm x ≤ 5 + σ q.1 q.2.1 q.2.2 3 → K (some (.inl 1)) σ) ∧ (¬ (1 ≤ nrm x ∧ nrm x ≤ 5 + σ q.1 q.2.1 q.2.2 3) → K (some (.inl 0)) σ))
set_option maxHeartbeats 4000000 in
set_option maxRecDepth 100000 in
theorem c_Table_has : Ctr y_Table_has b_Table_has 2 (some .boolean) 0 0 0 0 sp_Table_has := by
  refine ctr_of (FT := ft_Table) (GT := gt_Table_has) (CT := ct_Table_has) (sw := sw_Table_has) (rt := 1) (pr := pr_Table_has) (by decide) [] (fun _ _ _ _ _ _ _ _ _ _ _ => False) 30 ⟨fun h => absurd h (by decide), fun _ => rfl, fun h => absurd h (by decide), fun h => absurd h (by decide)⟩ dk_Table_has fo_Table go_Table_has co_Table_has (fun a k h hk => by unfold gt_Table_has at h; cases h) (fun q hq h => absurd h (nt_Table_has q hq)) (fun av σ K kx h => by rw [sRI_len h]; decide) ?_ ?_
  · intro av σ K kx hok hSp
    obtain ⟨q0, x0, rfl, hp⟩ := sRI_inv hSp
    obtain ⟨k0, e0, i0⟩ := q0
    obtain ⟨h0, hI, h2, h3⟩ := hp
    have i1 := IV_T hI h0 e0 i0
    all_goals (rcases h0 with h0 | h0 | h0)
    all_goals (dsimp only at h0; subst h0)
    all_goals (repeat' (first | (with_reducible assumption) | (with_reducible refine IV_upd ?_ ?_) | (with_reducible refine IV_cpy ?_ (fun _ _ _ _ => trivial)) | (refine And.intro ?_ ?_) | (intro _)))
    all_goals first | (first | rfl | decide | exact Or.inl rfl | exact Or.inr (Or.inl rfl) | exact Or.inr (Or.inr rfl) | (simp only [nrm, strm, by8] at * <;> omega) | (simp [upd4, cpy4, nrm, strm, by8] at * <;> omega)) | (exact h2 (by first | assumption | (first | rfl | decide | exact Or.inl rfl | exact Or.inr (Or.inl rfl) | exact Or.inr (Or.inr rfl) | (simp only [nrm, strm, by8] at * <;> omega) | (simp [upd4, cpy4, nrm, strm, by8] at * <;> omega)))) | (exact h3 (by first | assumption | (first | rfl | decide | exact Or.inl rfl | exact Or.inr (Or.inl rfl) | exact Or.inr (Or.inr rfl) | (simp only [nrm, strm, by8] at * <;> omega) | (simp [upd4, cpy4, nrm, strm, by8] at * <;> omega)))) | (exact h2) | (exact h3) | (refine h2 _ ?_ ?_ <;> (repeat' (first | assumption | exact trivial | exact Un_rf | exact hI 4 _ _ _ | exact hI 9 _ _ _ | exact hI 22 _ _ _ | (refine ixr_by8 ?_ ?_) | (refine IV_upd ?_ ?_) | (refine Un_upd rfl ?_) | (refine IV_cpy ?_ (fun _ _ _ _ => trivial)) | (refine Un_cpy rfl ?_) | (apply Un_tr; rotate_left; assumption; rfl) | (refine And.intro ?_ ?_))) <;> (first | rfl | decide | exact Or.inl rfl | exact Or.inr (Or.inl rfl) | exact Or.inr (Or.inr rfl) | (simp only [nrm, strm, by8] at * <;> omega) | (simp [upd4, cpy4, nrm, strm, by8] at * <;> omega))) | (refine h3 _ ?_ ?_ <;> (repeat' (first | assumption | exact trivial | exact Un_rf | exact hI 4 _ _ _ | exact hI 9 _ _ _ | exact hI 22 _ _ _ | (refine ixr_by8 ?_ ?_) | (refine IV_upd ?_ ?_) | (refine Un_upd rfl ?_) | (refine IV_cpy ?_ (fun _ _ _ _ => trivial)) | (refine Un_cpy rfl ?_) | (apply Un_tr; rotate_left; assumption; rfl) | (refine And.intro ?_ ?_))) <;> (first | rfl | decide | exact Or.inl rfl | exact Or.inr (Or.inl rfl) | exact Or.inr (Or.inr rfl) | (simp only [nrm, strm, by8] at * <;> omega) | (simp [upd4, cpy4, nrm, strm, by8] at * <;> omega))) | (apply h2 <;> (repeat' (first | assumption | exact trivial | exact Un_rf | exact hI 4 _ _ _ | exact hI 9 _ _ _ | exact hI 22 _ _ _ | (refine ixr_by8 ?_ ?_) | (refine IV_upd ?_ ?_) | (refine Un_upd rfl ?_) | (refine IV_cpy ?_ (fun _ _ _ _ => trivial)) | (refine Un_cpy rfl ?_) | (apply Un_tr; rotate_left; assumption; rfl) | (refine And.intro ?_ ?_))) <;> (first | rfl | decide | exact Or.inl rfl | exact Or.inr (Or.inl rfl) | exact Or.inr (Or.inr rfl) | (simp only [nrm, strm, by8] at * <;> omega) | (simp [upd4, cpy4, nrm, strm, by8] at * <;> omega))) | (apply h3 <;> (repeat' (first | assumption | exact trivial | exact Un_rf | exact hI 4 _ _ _ | exact hI 9 _ _ _ | exact hI 22 _ _ _ | (refine ixr_by8 ?_ ?_) | (refine IV_upd ?_ ?_) | (refine Un_upd rfl ?_) | (refine IV_cpy ?_ (fun _ _ _ _ => trivial)) | (refine Un_cpy rfl ?_) | (apply Un_tr; rotate_left; assumption; rfl) | (refine And.intro ?_ ?_))) <;> (first | rfl | decide | exact Or.inl rfl | exact Or.inr (Or.inl rfl) | exact Or.inr (Or.inr rfl) | (simp only [nrm, strm, by8] at * <;> omega) | (simp [upd4, cpy4, nrm, strm, by8] at * <;> omega))) | ((repeat' (first | assumption | exact trivial | exact Un_rf | exact hI 4 _ _ _ | exact hI 9 _ _ _ | exact hI 22 _ _ _ | (refine ixr_by8 ?_ ?_) | (refine IV_upd ?_ ?_) | (refine Un_upd rfl ?_) | (refine IV_cpy ?_ (fun _ _ _ _ => trivial)) | (refine Un_cpy rfl ?_) | (apply Un_tr; rotate_left; assumption; rfl) | (refine And.intro ?_ ?_))) <;> (first | rfl | decide | exact Or.inl rfl | exact Or.inr (Or.inl rfl) | exact Or.inr (Or.inr rfl) | (simp only [nrm, strm, by8] at * <;> omega) | (simp [upd4, cpy4, nrm, strm, by8] at * <;> omega)))
  · intro av σ K kx n pc L st σ' nc ns _ _ h
    exact (h : False).elim
def gt_Table_nameAt (a : Nat) : Option Nat := match a with
  | 49 => some 202
  | _ => none
theorem go_Table_nameAt : ∀ a v, gt_Table_nameAt a = some v → StaOK R_Table a v := by
  intro a v h
  unfold gt_Table_nameAt at h
  split at h
  · cases h; exact ⟨fun h => absurd h (by decide), fun h => absurd h (by decide), fun h => absurd h (by decide), fun _ => ⟨_, _, List.mem_of_getElem? (i := 2) rfl, by first | exact Or.inl (by decide +kernel) | exact Or.inr ⟨"FrameStreams", by decide +kernel⟩⟩⟩
  · cases h
def pr_Table_nameAt : List Ent := [(0, 5, 0, 0, 0), (1, 3, 1, 0, 0), (2, 46, 45, 0, 0), (5, 27, 0, 0, 10), (8, 0, 0, 0, 0), (9, 48, 0, 0, 0), (10, 3, 1, 0, 0), (11, 0, 0, 5, 0), (12, 36, 0, 0, 25), (15, 45, 49, 0, 0), (18, 3, 1, 0, 0), (19, 0, 0, 1, 0), (20, 13, 0, 0, 0), (21, 41, 0, 0, 0), (22, 38, 0, 0, 38), (25, 5, 0, 0, 0), (26, 39, 9, 0, 0), (29, 0, 0, 5, 0), (30, 5, 0, 0, 0), (31, 39, 19, 0, 0), (34, 12, 0, 0, 0), (35, 3, 1, 0, 0), (36, 13, 0, 0, 0), (37, 41, 0, 0, 0), (38, 48, 0, 0, 0)]
def sw_Table_nameAt : List Swt := []
theorem dk_Table_nameAt : ∀ q ∈ pr_Table_nameAt, decode b_Table_nameAt q.1 = .ok (dec sw_Table_nameAt q) ∧ okE q = true := by decide +kernel
theorem nt_Table_nameAt : ∀ q ∈ pr_Table_nameAt, ¬ q.2.1 = 55 := by decide +kernel
def ct_Table_nameAt (a : Nat) : Option (Nat × Nat × CSp × Nat × Nat) := match a with
  | 45 => some (2, 7, sp_Table_has, 0, 0)
  | _ => none
theorem co_Table_nameAt : ∀ a v, ct_Table_nameAt a = some v → StcOK R_Table 1 21 a v := by
  intro a v h
  unfold ct_Table_nameAt at h
  split at h
  · cases h; exact ⟨y_Table_has, b_Table_has, 2, (some .boolean), 0, 0, 1, c_Table_has, by decide, by decide +kernel, by decide +kernel, by decide +kernel, Or.inl ⟨rfl, by decide, by decide +kernel, by decide +kernel, _, _, rfl, by decide +kernel⟩⟩
  · cases h
/-- Table_nameAt -/
def sp_Table_nameAt : CSp := sRI (fun q x σ K _ => kT q.1 ∧ IV σ ∧ ∀ r, K (some (.inl r)) σ)
set_option maxHeartbeats 4000000 in
set_option maxRecDepth 100000 in
theorem c_Table_nameAt : Ctr y_Table_nameAt b_Table_nameAt 2 (some .int) 1 21 0 0 sp_Table_nameAt := by
  refine ctr_of (FT := ft_Table) (GT := gt_Table_nameAt) (CT := ct_Table_nameAt) (sw := sw_Table_nameAt) (rt := 0) (pr := pr_Table_nameAt) (by decide) [] (fun _ _ _ _ _ _ _ _ _ _ _ => False) 40 ⟨fun _ => rfl, fun h => absurd h (by decide), fun h => absurd h (by decide), fun h => absurd h (by decide)⟩ dk_Table_nameAt fo_Table go_Table_nameAt co_Table_nameAt (fun a k h hk => by unfold gt_Table_nameAt at h; split at h <;> first | exact ⟨by decide, by decide⟩ | (cases h; done) | (cases h; exact absurd hk (by decide))) (fun q hq h => absurd h (nt_Table_nameAt q hq)) (fun av σ K kx h => by rw [sRI_len h]; decide) ?_ ?_
  · intro av σ K kx hok hSp
    obtain ⟨q0, x0, rfl, hp⟩ := sRI_inv hSp
    obtain ⟨k0, e0, i0⟩ := q0
    obtain ⟨h0, hI, h2⟩ := hp
    have i1 := IV_T hI h0 e0 i0
    all_goals (rcases h0 with h0 | h0 | h0)
    all_goals (dsimp only at h0; subst h0)
    all_goals (repeat' (first | (with_reducible assumption) | (with_reducible refine IV_upd ?_ ?_) | (with_reducible refine IV_cpy ?_ (fun _ _ _ _ => trivial)) | (refine And.intro ?_ ?_) | (intro _)))
    all_goals first | (first | rfl | decide | exact Or.inl rfl | exact Or.inr (Or.inl rfl) | exact Or.inr (Or.inr rfl) | (simp only [nrm, strm, by8] at * <;> omega) | (simp [upd4, cpy4, nrm, strm, by8] at * <;> omega)) | (exact h2) | (refine h2 _ ?_ ?_ <;> (repeat' (first | assumption | exact trivial | exact Un_rf | exact hI 4 _ _ _ | exact hI 9 _ _ _ | exact hI 22 _ _ _ | (refine ixr_by8 ?_ ?_) | (refine IV_upd ?_ ?_) | (refine Un_upd rfl ?_) | (refine IV_cpy ?_ (fun _ _ _ _ => trivial)) | (refine Un_cpy rfl ?_) | (apply Un_tr; rotate_left; assumption; rfl) | (refine And.intro ?_ ?_))) <;> (first | rfl | decide | exact Or.inl rfl | exact Or.inr (Or.inl rfl) | exact Or.inr (Or.inr rfl) | (simp only [nrm, strm, by8] at * <;> omega) | (simp [upd4, cpy4, nrm, strm, by8] at * <;> omega))) | (apply h2 <;> (repeat' (first | assumption | exact trivial | exact Un_rf | exact hI 4 _ _ _ | exact hI 9 _ _ _ | exact hI 22 _ _ _ | (refine ixr_by8 ?_ ?_) | (refine IV_upd ?_ ?_) | (refine Un_upd rfl ?_) | (refine IV_cpy ?_ (fun _ _ _ _ => trivial)) | (refine Un_cpy rfl ?_) | (apply Un_tr; rotate_left; assumption; rfl) | (refine And.intro ?_ ?_))) <;> (first | rfl | decide | exact Or.inl rfl | exact Or.inr (Or.inl rfl) | exact Or.inr (Or.inr rfl) | (simp only [nrm, strm, by8] at * <;> omega) | (simp [upd4, cpy4, nrm, strm, by8] at * <;> omega))) | ((repeat' (first | assumption | exact trivial | exact Un_rf | exact hI 4 _ _ _ | exact hI 9 _ _ _ | exact hI 22 _ _ _ | (refine ixr_by8 ?_ ?_) | (refine IV_upd ?_ ?_) | (refine Un_upd rfl ?_) | (refine IV_cpy ?_ (fun _ _ _ _ => trivial)) | (refine Un_cpy rfl ?_) | (apply Un_tr; rotate_left; assumption; rfl) | (refine And.intro ?_ ?_))) <;> (first | rfl | decide | exact Or.inl rfl | exact Or.inr (Or.inl rfl) | exact Or.inr (Or.inr rfl) | (simp only [nrm, strm, by8] at * <;> omega) | (simp [upd4, cpy4, nrm, strm, by8] at * <;> omega)))
  · intro av σ K kx n pc L st σ' nc ns _ _ h
    exact (h : False).elim
def gt_Table_valueAt (a : Nat) : Option Nat := match a with
  | 52 => some 203
  | _ => none
theorem go_Table_valueAt : ∀ a v, gt_Table_valueAt a = some v → StaOK R_Table a v := by
  intro a v h
  unfold gt_Table_valueAt at h
  split at h
  · cases h; exact ⟨fun h => absurd h (by decide), fun h => absurd h (by decide), fun h => absurd h (by decide), fun _ => ⟨_, _, List.mem_of_getElem? (i := 3) rfl, by first | exact Or.inl (by decide +kernel) | exact Or.inr ⟨"FrameStreams", by decide +kernel⟩⟩⟩
  · cases h
def pr_Table_valueAt : List Ent := [(0, 5, 0, 0, 0), (1, 3, 1, 0, 0), (2, 46, 45, 0, 0), (5, 27, 0, 0, 10), (8, 0, 0, 0, 0), (9, 48, 0, 0, 0), (10, 3, 1, 0, 0), (11, 0, 0, 5, 0), (12, 36, 0, 0, 25), (15, 45, 52, 0, 0), (18, 3, 1, 0, 0), (19, 0, 0, 1, 0), (20, 13, 0, 0, 0), (21, 41, 0, 0, 0), (22, 38, 0, 0, 38), (25, 5, 0, 0, 0), (26, 39, 13, 0, 0), (29, 0, 0, 5, 0), (30, 5, 0, 0, 0), (31, 39, 19, 0, 0), (34, 12, 0, 0, 0), (35, 3, 1, 0, 0), (36, 13, 0, 0, 0), (37, 41, 0, 0, 0), (38, 48, 0, 0, 0)]
def sw_Table_valueAt : List Swt := []
theorem dk_Table_valueAt : ∀ q ∈ pr_Table_valueAt, decode b_Table_valueAt q.1 = .ok (dec sw_Table_valueAt q) ∧ okE q = true := by decide +kernel
theorem nt_Table_valueAt : ∀ q ∈ pr_Table_valueAt, ¬ q.2.1 = 55 := by decide +kernel
def ct_Table_valueAt (a : Nat) : Option (Nat × Nat × CSp × Nat × Nat) := match a with
  | 45 => some (2, 7, sp_Table_has, 0, 0)
  | _ => none
theorem co_Table_valueAt : ∀ a v, ct_Table_valueAt a = some v → StcOK R_Table 1 21 a v := by
  intro a v h
  unfold ct_Table_valueAt at h
  split at h
  · cases h; exact ⟨y_Table_has, b_Table_has, 2, (some .boolean), 0, 0, 1, c_Table_has, by decide, by decide +kernel, by decide +kernel, by decide +kernel, Or.inl ⟨rfl, by decide, by decide +kernel, by decide +kernel, _, _, rfl, by decide +kernel⟩⟩
  · cases h
/-- Table_valueAt -/
def sp_Table_valueAt : CSp := sRI (fun q x σ K _ => kT q.1 ∧ IV σ ∧ ∀ r, K (some (.inl r)) σ)
set_option maxHeartbeats 4000000 in
set_option maxRecDepth 100000 in
theorem c_Table_valueAt : Ctr y_Table_valueAt b_Table_valueAt 2 (some .int) 1 21 0 0 sp_Table_valueAt := by
  refine ctr_of (FT := ft_Table) (GT := gt_Table_valueAt) (CT := ct_Table_valueAt) (sw := sw_Table_valueAt) (rt := 0) (pr := pr_Table_valueAt) (by decide) [] (fun _ _ _ _ _ _ _ _ _ _ _ => False) 40 ⟨fun _ => rfl, fun h => absurd h (by decide), fun h => absurd h (by decide), fun h => absurd h (by decide)⟩ dk_Table_valueAt fo_Table go_Table_valueAt co_Table_valueAt (fun a k h hk => by unfold gt_Table_valueAt at h; split at h <;> first | exact ⟨by decide, by decide⟩ | (cases h; done) | (cases h; exact absurd hk (by decide))) (fun q hq h => absurd h (nt_Table_valueAt q hq)) (fun av σ K kx h => by rw [sRI_len h]; decide) ?_ ?_
  · intro av σ K kx hok hSp
    obtain ⟨q0, x0, rfl, hp⟩ := sRI_inv hSp
    obtain ⟨k0, e0, i0⟩ := q0
    obtain ⟨h0, hI, h2⟩ := hp
    have i1 := IV_T hI h0 e0 i0
    all_goals (rcases h0 with h0 | h0 | h0)
    all_goals (dsimp only at h0; subst h0)
    all_goals (repeat' (first | (with_reducible assumption) | (with_reducible refine IV_upd ?_ ?_) | (with_reducible refine IV_cpy ?_ (fun _ _ _ _ => trivial)) | (refine And.intro ?_ ?_) | (intro _)))
    all_goals first | (first | rfl | decide | exact Or.inl rfl | exact Or.inr (Or.inl rfl) | exact Or.inr (Or.inr rfl) | (simp only [nrm, strm, by8] at * <;> omega) | (simp [upd4, cpy4, nrm, strm, by8] at * <;> omega)) | (exact h2) | (refine h2 _ ?_ ?_ <;> (repeat' (first | assumption | exact trivial | exact Un_rf | exact hI 4 _ _ _ | exact hI 9 _ _ _ | exact hI 22 _ _ _ | (refine ixr_by8 ?_ ?_) | (refine IV_upd ?_ ?_) | (refine Un_upd rfl ?_) | (refine IV_cpy ?_ (fun _ _ _ _ => trivial)) | (refine Un_cpy rfl ?_) | (apply Un_tr; rotate_left; assumption; rfl) | (refine And.intro ?_ ?_))) <;> (first | rfl | decide | exact Or.inl rfl | exact Or.inr (Or.inl rfl) | exact Or.inr (Or.inr rfl) | (simp only [nrm, strm, by8] at * <;> omega) | (simp [upd4, cpy4, nrm, strm, by8] at * <;> omega))) | (apply h2 <;> (repeat' (first | assumption | exact trivial | exact Un_rf | exact hI 4 _ _ _ | exact hI 9 _ _ _ | exact hI 22 _ _ _ | (refine ixr_by8 ?_ ?_) | (refine IV_upd ?_ ?_) | (refine Un_upd rfl ?_) | (refine IV_cpy ?_ (fun _ _ _ _ => trivial)) | (refine Un_cpy rfl ?_) | (apply Un_tr; rotate_left; assumption; rfl) | (refine And.intro ?_ ?_))) <;> (first | rfl | decide | exact Or.inl rfl | exact Or.inr (Or.inl rfl) | exact Or.inr (Or.inr rfl) | (simp only [nrm, strm, by8] at * <;> omega) | (simp [upd4, cpy4, nrm, strm, by8] at * <;> omega))) | ((repeat' (first | assumption | exact trivial | exact Un_rf | exact hI 4 _ _ _ | exact hI 9 _ _ _ | exact hI 22 _ _ _ | (refine ixr_by8 ?_ ?_) | (refine IV_upd ?_ ?_) | (refine Un_upd rfl ?_) | (refine IV_cpy ?_ (fun _ _ _ _ => trivial)) | (refine Un_cpy rfl ?_) | (apply Un_tr; rotate_left; assumption; rfl) | (refine And.intro ?_ ?_))) <;> (first | rfl | decide | exact Or.inl rfl | exact Or.inr (Or.inl rfl) | exact Or.inr (Or.inr rfl) | (simp only [nrm, strm, by8] at * <;> omega) | (simp [upd4, cpy4, nrm, strm, by8] at * <;> omega)))
  · intro av σ K kx n pc L st σ' nc ns _ _ h
    exact (h : False).elim
def gt_Table_indexOf (a : Nat) : Option Nat := match a with
  | _ => none
theorem go_Table_indexOf : ∀ a v, gt_Table_indexOf a = some v → StaOK R_Table a v := by
  intro a v h
  unfold gt_Table_indexOf at h
  cases h
def pr_Table_indexOf : List Ent := [(0, 0, 0, 1, 0), (1, 7, 3, 0, 0), (2, 3, 3, 0, 0), (3, 0, 0, 5, 0), (4, 5, 0, 0, 0), (5, 39, 19, 0, 0), (8, 12, 0, 0, 0), (9, 36, 0, 0, 38), (12, 5, 0, 0, 0), (13, 3, 3, 0, 0), (14, 46, 55, 0, 0), (17, 3, 1, 0, 0), (18, 33, 0, 0, 32), (21, 5, 0, 0, 0), (22, 3, 3, 0, 0), (23, 46, 58, 0, 0), (26, 3, 2, 0, 0), (27, 33, 0, 0, 32), (30, 3, 3, 0, 0), (31, 48, 0, 0, 0), (32, 11, 3, 1, 0), (35, 38, 0, 0, 2), (38, 0, 0, 0, 0), (39, 48, 0, 0, 0)]
def sw_Table_indexOf : List Swt := []
theorem dk_Table_indexOf : ∀ q ∈ pr_Table_indexOf, decode b_Table_indexOf q.1 = .ok (dec sw_Table_indexOf q) ∧ okE q = true := by decide +kernel
theorem nt_Table_indexOf : ∀ q ∈ pr_Table_indexOf, ¬ q.2.1 = 55 := by decide +kernel
def ct_Table_indexOf (a : Nat) : Option (Nat × Nat × CSp × Nat × Nat) := match a with
  | 55 => some (2, 7, sp_Table_nameAt, 0, 0)
  | 58 => some (2, 7, sp_Table_valueAt, 0, 0)
  | _ => none
theorem co_Table_indexOf : ∀ a v, ct_Table_indexOf a = some v → StcOK R_Table 2 42 a v := by
  intro a v h
  unfold ct_Table_indexOf at h
  split at h
  · cases h; exact ⟨y_Table_nameAt, b_Table_nameAt, 2, (some .int), 1, 21, 1, c_Table_nameAt, by decide, by decide +kernel, by decide +kernel, by decide +kernel, Or.inl ⟨rfl, by decide, by decide +kernel, by decide +kernel, _, _, rfl, by decide +kernel⟩⟩
  · cases h; exact ⟨y_Table_valueAt, b_Table_valueAt, 2, (some .int), 1, 21, 1, c_Table_valueAt, by decide, by decide +kernel, by decide +kernel, by decide +kernel, Or.inl ⟨rfl, by decide, by decide +kernel, by decide +kernel, _, _, rfl, by decide +kernel⟩⟩
  · cases h
/-- Table_indexOf -/
def sp_Table_indexOf : CSp := sRII (fun q x0 x1 σ K _ => kT q.1 ∧ IV σ ∧ ∀ r, 0 ≤ r ∧ r ≤ 13 → K (some (.inl r)) σ)
set_option maxHeartbeats 4000000 in
set_option maxRecDepth 100000 in
theorem c_Table_indexOf : Ctr y_Table_indexOf b_Table_indexOf 4 (some .int) 2 42 0 0 sp_Table_indexOf := by
  refine ctr_of (FT := ft_Table) (GT := gt_Table_indexOf) (CT := ct_Table_indexOf) (sw := sw_Table_indexOf) (rt := 0) (pr := pr_Table_indexOf) (by decide) [2] (fun av σ _ _ n pc L st σ' nc ns => ∃ k e i x y j, av = [.inr (k, e, i), .inl x, .inl y] ∧ pc = 2 ∧ L = [some (.inr (k, e, i)), some (.inl x), some (.inl y), some (.inl j)] ∧ st = [] ∧ σ' = σ ∧ nc = 0 ∧ ns = 0 ∧ 1 ≤ j ∧ j ≤ 14 ∧ n = (14 - j).toNat) 40 ⟨fun _ => rfl, fun h => absurd h (by decide), fun h => absurd h (by decide), fun h => absurd h (by decide)⟩ dk_Table_indexOf fo_Table go_Table_indexOf co_Table_indexOf (fun a k h hk => by unfold gt_Table_indexOf at h; cases h) (fun q hq h => absurd h (nt_Table_indexOf q hq)) (fun av σ K kx h => by rw [sRII_len h]; decide) ?_ ?_
  · intro av σ K kx hok hSp
    obtain ⟨q0, x0, x1, rfl, hp⟩ := sRII_inv hSp
    obtain ⟨k0, e0, i0⟩ := q0
    obtain ⟨h0, hI, h2⟩ := hp
    rcases h0 with h0 | h0 | h0
    all_goals (dsimp only at h0; subst h0)
    all_goals exact ⟨13, _, e0, i0, x0, x1, 1, rfl, rfl, rfl, rfl, rfl, rfl, rfl, by omega, by omega, rfl⟩
  · intro av σ K kx n pc L st σ' nc ns hok hSp hJ
    obtain ⟨k, e, i, x, y, j, rfl, rfl, rfl, rfl, rfl, rfl, rfl, h0, h6, hn⟩ := hJ
    obtain ⟨hk, hI, hf⟩ : kT k ∧ IV σ' ∧ ∀ r, 0 ≤ r ∧ r ≤ 13 → K (some (.inl r)) σ' := hSp
    have i1 := IV_T hI hk e i
    have hk2 := hk
    rcases hk with hk | hk | hk
    all_goals subst hk
    all_goals (repeat' (first | (with_reducible assumption) | (refine And.intro ?_ ?_) | (intro _)))
    all_goals first | (first | rfl | decide | exact Or.inl rfl | exact Or.inr (Or.inl rfl) | exact Or.inr (Or.inr rfl) | (simp only [nrm] at * <;> omega)) | exact hk2 | (refine hf _ ?_ <;> (simp only [nrm] at * <;> omega)) | (refine ⟨(14 - (j + 1)).toNat, ?_, _, e, i, x, y, j + 1, rfl, rfl, rfl, rfl, rfl, rfl, rfl, ?_, ?_, rfl⟩ <;> (simp only [nrm] at * <;> omega)) | skip
def gt_Table_indexOfName (a : Nat) : Option Nat := match a with
  | _ => none
theorem go_Table_indexOfName : ∀ a v, gt_Table_indexOfName a = some v → StaOK R_Table a v := by
  intro a v h
  unfold gt_Table_indexOfName at h
  cases h
def pr_Table_indexOfName : List Ent := [(0, 0, 0, 1, 0), (1, 7, 2, 0, 0), (2, 3, 2, 0, 0), (3, 0, 0, 5, 0), (4, 5, 0, 0, 0), (5, 39, 19, 0, 0), (8, 12, 0, 0, 0), (9, 36, 0, 0, 29), (12, 5, 0, 0, 0), (13, 3, 2, 0, 0), (14, 46, 55, 0, 0), (17, 3, 1, 0, 0), (18, 33, 0, 0, 23), (21, 3, 2, 0, 0), (22, 48, 0, 0, 0), (23, 11, 2, 1, 0), (26, 38, 0, 0, 2), (29, 0, 0, 0, 0), (30, 48, 0, 0, 0)]
def sw_Table_indexOfName : List Swt := []
theorem dk_Table_indexOfName : ∀ q ∈ pr_Table_indexOfName, decode b_Table_indexOfName q.1 = .ok (dec sw_Table_indexOfName q) ∧ okE q = true := by decide +kernel
theorem nt_Table_indexOfName : ∀ q ∈ pr_Table_indexOfName, ¬ q.2.1 = 55 := by decide +kernel
def ct_Table_indexOfName (a : Nat) : Option (Nat × Nat × CSp × Nat × Nat) := match a with
  | 55 => some (2, 7, sp_Table_nameAt, 0, 0)
  | _ => none
theorem co_Table_indexOfName : ∀ a v, ct_Table_indexOfName a = some v → StcOK R_Table 2 42 a v := by
  intro a v h
  unfold ct_Table_indexOfName at h
  split at h
  · cases h; exact ⟨y_Table_nameAt, b_Table_nameAt, 2, (some .int), 1, 21, 1, c_Table_nameAt, by decide, by decide +kernel, by decide +kernel, by decide +kernel, Or.inl ⟨rfl, by decide, by decide +kernel, by decide +kernel, _, _, rfl, by decide +kernel⟩⟩
  · cases h
/-- Table_indexOfName -/
def sp_Table_indexOfName : CSp := sRI (fun q x0 σ K _ => kT q.1 ∧ IV σ ∧ ∀ r, 0 ≤ r ∧ r ≤ 13 → K (some (.inl r)) σ)
set_option maxHeartbeats 4000000 in
set_option maxRecDepth 100000 in
theorem c_Table_indexOfName : Ctr y_Table_indexOfName b_Table_indexOfName 3 (some .int) 2 42 0 0 sp_Table_indexOfName := by
  refine ctr_of (FT := ft_Table) (GT := gt_Table_indexOfName) (CT := ct_Table_indexOfName) (sw := sw_Table_indexOfName) (rt := 0) (pr := pr_Table_indexOfName) (by decide) [2] (fun av σ _ _ n pc L st σ' nc ns => ∃ k e i x j, av = [.inr (k, e, i), .inl x] ∧ pc = 2 ∧ L = [some (.inr (k, e, i)), some (.inl x), some (.inl j)] ∧ st = [] ∧ σ' = σ ∧ nc = 0 ∧ ns = 0 ∧ 1 ≤ j ∧ j ≤ 14 ∧ n = (14 - j).toNat) 30 ⟨fun _ => rfl, fun h => absurd h (by decide), fun h => absurd h (by decide), fun h => absurd h (by decide)⟩ dk_Table_indexOfName fo_Table go_Table_indexOfName co_Table_indexOfName (fun a k h hk => by unfold gt_Table_indexOfName at h; cases h) (fun q hq h => absurd h (nt_Table_indexOfName q hq)) (fun av σ K kx h => by rw [sRI_len h]; decide) ?_ ?_
  · intro av σ K kx hok hSp
    obtain ⟨q0, x0, rfl, hp⟩ := sRI_inv hSp
    obtain ⟨k0, e0, i0⟩ := q0
    obtain ⟨h0, hI, h2⟩ := hp
    rcases h0 with h0 | h0 | h0
    all_goals (dsimp only at h0; subst h0)
    all_goals exact ⟨13, _, e0, i0, x0, 1, rfl, rfl, rfl, rfl, rfl, rfl, rfl, by omega, by omega, rfl⟩
  · intro av σ K kx n pc L st σ' nc ns hok hSp hJ
    obtain ⟨k, e, i, x, j, rfl, rfl, rfl, rfl, rfl, rfl, rfl, h0, h6, hn⟩ := hJ
    obtain ⟨hk, hI, hf⟩ : kT k ∧ IV σ' ∧ ∀ r, 0 ≤ r ∧ r ≤ 13 → K (some (.inl r)) σ' := hSp
    have i1 := IV_T hI hk e i
    have hk2 := hk
    rcases hk with hk | hk | hk
    all_goals subst hk
    all_goals (repeat' (first | (with_reducible assumption) | (refine And.intro ?_ ?_) | (intro _)))
    all_goals first | (first | rfl | decide | exact Or.inl rfl | exact Or.inr (Or.inl rfl) | exact Or.inr (Or.inr rfl) | (simp only [nrm] at * <;> omega)) | exact hk2 | (refine hf _ ?_ <;> (simp only [nrm] at * <;> omega)) | (refine ⟨(14 - (j + 1)).toNat, ?_, _, e, i, x, j + 1, rfl, rfl, rfl, rfl, rfl, rfl, rfl, ?_, ?_, rfl⟩ <;> (simp only [nrm] at * <;> omega)) | skip
def gt_Table_copyFrom (a : Nat) : Option Nat := match a with
  | 39 => some 303
  | _ => none
theorem go_Table_copyFrom : ∀ a v, gt_Table_copyFrom a = some v → StaOK R_Table a v := by
  intro a v h
  unfold gt_Table_copyFrom at h
  split at h
  · cases h; exact ⟨fun h => absurd h (by decide), fun h => absurd h (by decide), fun _ => by decide +kernel, fun h => absurd h (by decide)⟩
  · cases h
def pr_Table_copyFrom : List Ent := [(0, 5, 0, 0, 0), (1, 5, 1, 0, 0), (2, 39, 19, 0, 0), (5, 40, 19, 0, 0), (8, 5, 0, 0, 0), (9, 5, 1, 0, 0), (10, 39, 23, 0, 0), (13, 40, 23, 0, 0), (16, 5, 0, 0, 0), (17, 5, 1, 0, 0), (18, 39, 26, 0, 0), (21, 40, 26, 0, 0), (24, 5, 1, 0, 0), (25, 39, 9, 0, 0), (28, 0, 0, 0, 0), (29, 5, 0, 0, 0), (30, 39, 9, 0, 0), (33, 0, 0, 0, 0), (34, 5, 0, 0, 0), (35, 39, 19, 0, 0), (38, 54, 39, 0, 0), (41, 5, 1, 0, 0), (42, 39, 13, 0, 0), (45, 0, 0, 0, 0), (46, 5, 0, 0, 0), (47, 39, 13, 0, 0), (50, 0, 0, 0, 0), (51, 5, 0, 0, 0), (52, 39, 19, 0, 0), (55, 54, 39, 0, 0), (58, 5, 1, 0, 0), (59, 39, 16, 0, 0), (62, 0, 0, 0, 0), (63, 5, 0, 0, 0), (64, 39, 16, 0, 0), (67, 0, 0, 0, 0), (68, 5, 0, 0, 0), (69, 39, 19, 0, 0), (72, 54, 39, 0, 0), (75, 49, 0, 0, 0)]
def sw_Table_copyFrom : List Swt := []
theorem dk_Table_copyFrom : ∀ q ∈ pr_Table_copyFrom, decode b_Table_copyFrom q.1 = .ok (dec sw_Table_copyFrom q) ∧ okE q = true := by decide +kernel
theorem nt_Table_copyFrom : ∀ q ∈ pr_Table_copyFrom, ¬ q.2.1 = 55 := by decide +kernel
def ct_Table_copyFrom (a : Nat) : Option (Nat × Nat × CSp × Nat × Nat) := match a with
  | _ => none
theorem co_Table_copyFrom : ∀ a v, ct_Table_copyFrom a = some v → StcOK R_Table 1 26 a v := by
  intro a v h
  unfold ct_Table_copyFrom at h
  cases h
/-- Table_copyFrom -/
def sp_Table_copyFrom : CSp := sRR (fun q q1 σ K _ => kT q.1 ∧ kT q1.1 ∧ IV σ ∧ ∀ σ', IV σ' → Un [q.1, q.1 + 1, q.1 + 2, q.1 + 3] σ σ' → K none σ')
set_option maxHeartbeats 4000000 in
set_option maxRecDepth 100000 in
theorem c_Table_copyFrom : Ctr y_Table_copyFrom b_Table_copyFrom 2 none 1 26 0 0 sp_Table_copyFrom := by
  refine ctr_of (FT := ft_Table) (GT := gt_Table_copyFrom) (CT := ct_Table_copyFrom) (sw := sw_Table_copyFrom) (rt := 2) (pr := pr_Table_copyFrom) (by decide) [] (fun _ _ _ _ _ _ _ _ _ _ _ => False) 60 ⟨fun h => absurd h (by decide), fun h => absurd h (by decide), fun _ => rfl, fun h => absurd h (by decide)⟩ dk_Table_copyFrom fo_Table go_Table_copyFrom co_Table_copyFrom (fun a k h hk => by unfold gt_Table_copyFrom at h; split at h <;> first | exact ⟨by decide, by decide⟩ | (cases h; done) | (cases h; exact absurd hk (by decide))) (fun q hq h => absurd h (nt_Table_copyFrom q hq)) (fun av σ K kx h => by rw [sRR_len h]; decide) ?_ ?_
  · intro av σ K kx hok hSp
    obtain ⟨q0, q1, rfl, hp⟩ := sRR_inv hSp
    obtain ⟨k0, e0, i0⟩ := q0
    obtain ⟨k1, e1, i1⟩ := q1
    obtain ⟨h0, h1, hI, h3⟩ := hp
    have j1 := IV_T hI h0 e0 i0
    have j2 := IV_T hI h1 e1 i1
    all_goals (rcases h0 with h0 | h0 | h0)
    all_goals (dsimp only at h0; subst h0)
    all_goals (rcases h1 with h1 | h1 | h1)
    all_goals (dsimp only at h1; subst h1)
    all_goals (repeat' (first | (with_reducible assumption) | (with_reducible refine IV_upd ?_ ?_) | (with_reducible refine IV_cpy ?_ (fun _ _ _ _ => trivial)) | (refine And.intro ?_ ?_) | (intro _)))
    all_goals first | (first | rfl | decide | exact Or.inl rfl | exact Or.inr (Or.inl rfl) | exact Or.inr (Or.inr rfl) | (simp only [nrm, strm, by8] at * <;> omega) | (simp [upd4, cpy4, nrm, strm, by8] at * <;> omega)) | (exact h3) | (refine h3 _ ?_ ?_ <;> (repeat' (first | assumption | exact trivial | exact Un_rf | exact hI 4 _ _ _ | exact hI 9 _ _ _ | exact hI 22 _ _ _ | (refine ixr_by8 ?_ ?_) | (refine IV_upd ?_ ?_) | (refine Un_upd rfl ?_) | (refine IV_cpy ?_ (fun _ _ _ _ => trivial)) | (refine Un_cpy rfl ?_) | (apply Un_tr; rotate_left; assumption; rfl) | (refine And.intro ?_ ?_))) <;> (first | rfl | decide | exact Or.inl rfl | exact Or.inr (Or.inl rfl) | exact Or.inr (Or.inr rfl) | (simp only [nrm, strm, by8] at * <;> omega) | (simp [upd4, cpy4, nrm, strm, by8] at * <;> omega))) | (apply h3 <;> (repeat' (first | assumption | exact trivial | exact Un_rf | exact hI 4 _ _ _ | exact hI 9 _ _ _ | exact hI 22 _ _ _ | (refine ixr_by8 ?_ ?_) | (refine IV_upd ?_ ?_) | (refine Un_upd rfl ?_) | (refine IV_cpy ?_ (fun _ _ _ _ => trivial)) | (refine Un_cpy rfl ?_) | (apply Un_tr; rotate_left; assumption; rfl) | (refine And.intro ?_ ?_))) <;> (first | rfl | decide | exact Or.inl rfl | exact Or.inr (Or.inl rfl) | exact Or.inr (Or.inr rfl) | (simp only [nrm, strm, by8] at * <;> omega) | (simp [upd4, cpy4, nrm, strm, by8] at * <;> omega))) | ((repeat' (first | assumption | exact trivial | exact Un_rf | exact hI 4 _ _ _ | exact hI 9 _ _ _ | exact hI 22 _ _ _ | (refine ixr_by8 ?_ ?_) | (refine IV_upd ?_ ?_) | (refine Un_upd rfl ?_) | (refine IV_cpy ?_ (fun _ _ _ _ => trivial)) | (refine Un_cpy rfl ?_) | (apply Un_tr; rotate_left; assumption; rfl) | (refine And.intro ?_ ?_))) <;> (first | rfl | decide | exact Or.inl rfl | exact Or.inr (Or.inl rfl) | exact Or.inr (Or.inr rfl) | (simp only [nrm, strm, by8] at * <;> omega) | (simp [upd4, cpy4, nrm, strm, by8] at * <;> omega)))
  · intro av σ K kx n pc L st σ' nc ns _ _ h
    exact (h : False).elim
