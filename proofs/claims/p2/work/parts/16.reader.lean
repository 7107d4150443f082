def ft_BlockReader (a : Nat) : Option (Nat × Nat × Nat) := match a with
  | 12 => some (1, 1, 2)
  | 21 => some (1, 2, 2)
  | 25 => some (1, 3, 0)
  | 29 => some (1, 4, 0)
  | 32 => some (1, 5, 1)
  | 36 => some (1, 0, 2)
  | _ => none
theorem fo_BlockReader : ∀ a v, ft_BlockReader a = some v → FldOK R_BlockReader a v := by
  intro a v h
  unfold ft_BlockReader at h
  split at h
  · cases h; exact fl_BlockReader _ _ _ _ (by decide) (by decide +kernel) (by decide)
  · cases h; exact fl_BlockReader _ _ _ _ (by decide) (by decide +kernel) (by decide)
  · cases h; exact fl_BlockReader _ _ _ _ (by decide) (by decide +kernel) (by decide)
  · cases h; exact fl_BlockReader _ _ _ _ (by decide) (by decide +kernel) (by decide)
  · cases h; exact fl_BlockReader _ _ _ _ (by decide) (by decide +kernel) (by decide)
  · cases h; exact fl_BlockReader _ _ _ _ (by decide) (by decide +kernel) (by decide)
  · cases h
def gt_BlockReader_table (a : Nat) : Option Nat := match a with
  | _ => none
theorem go_BlockReader_table : ∀ a v, gt_BlockReader_table a = some v → StaOK R_BlockReader a v := by
  intro a v h
  unfold gt_BlockReader_table at h
  cases h
def pr_BlockReader_table : List Ent := [(0, 5, 0, 0, 0), (1, 39, 12, 0, 0), (4, 50, 0, 0, 0)]
def sw_BlockReader_table : List Swt := []
theorem dk_BlockReader_table : ∀ q ∈ pr_BlockReader_table, decode b_BlockReader_table q.1 = .ok (dec sw_BlockReader_table q) ∧ okE q = true := by decide +kernel
theorem nt_BlockReader_table : ∀ q ∈ pr_BlockReader_table, ¬ q.2.1 = 55 := by decide +kernel
def ct_BlockReader_table (a : Nat) : Option (Nat × Nat × CSp × Nat × Nat) := match a with
  | _ => none
theorem co_BlockReader_table : ∀ a v, ct_BlockReader_table a = some v → StcOK R_BlockReader 0 0 a v := by
  intro a v h
  unfold ct_BlockReader_table at h
  cases h
/-- BlockReader_table -/
def sp_BlockReader_table : CSp := sR (fun q σ K _ => q.1 = 23 ∧ K (some (.inr (24, q.2.1, q.2.2))) σ)
set_option maxHeartbeats 4000000 in
set_option maxRecDepth 100000 in
theorem c_BlockReader_table : Ctr y_BlockReader_table b_BlockReader_table 1 (some (.object "FrameStreams$Table")) 0 0 0 0 sp_BlockReader_table := by
  refine ctr_of (FT := ft_BlockReader) (GT := gt_BlockReader_table) (CT := ct_BlockReader_table) (sw := sw_BlockReader_table) (rt := 3) (pr := pr_BlockReader_table) (by decide) [] (fun _ _ _ _ _ _ _ _ _ _ _ => False) 20 ⟨fun h => absurd h (by decide), fun h => absurd h (by decide), fun h => absurd h (by decide), fun _ => ⟨_, rfl⟩⟩ dk_BlockReader_table fo_BlockReader go_BlockReader_table co_BlockReader_table (fun a k h hk => by unfold gt_BlockReader_table at h; cases h) (fun q hq h => absurd h (nt_BlockReader_table q hq)) (fun av σ K kx h => by rw [sR_len h]; decide) ?_ ?_
  · intro av σ K kx hok hSp
    obtain ⟨q0, rfl, hp⟩ := sR_inv hSp
    obtain ⟨k0, e0, i0⟩ := q0
    obtain ⟨h0, h1⟩ := hp
    dsimp only at h0; subst h0
    all_goals (repeat' (first | (with_reducible assumption) | (with_reducible refine IV_upd ?_ ?_) | (with_reducible refine IV_cpy ?_ (fun _ _ _ _ => trivial)) | (refine And.intro ?_ ?_) | (intro _)))
    all_goals first | (first | rfl | decide | exact Or.inl rfl | exact Or.inr (Or.inl rfl) | exact Or.inr (Or.inr rfl) | (simp only [nrm, strm, by8] at * <;> omega) | (simp [upd4, cpy4, nrm, strm, by8] at * <;> omega)) | (exact h1 (by first | assumption | (first | rfl | decide | exact Or.inl rfl | exact Or.inr (Or.inl rfl) | exact Or.inr (Or.inr rfl) | (simp only [nrm, strm, by8] at * <;> omega) | (simp [upd4, cpy4, nrm, strm, by8] at * <;> omega)))) | (exact h1) | (refine h1 _ ?_ ?_ <;> (repeat' (first | assumption | exact trivial | exact Un_rf | (apply by8_4; assumption) | (apply by8_9; assumption) | (apply by8_22; assumption) | (apply by8_g; assumption) | (refine by8_13 ?_) | (apply rg_34; assumption) | (refine ixr_by8 ?_ ?_) | (refine IV_upd ?_ ?_) | (refine Un_upd rfl ?_) | (refine IV_cpy ?_ (fun _ _ _ _ => trivial)) | (refine Un_cpy rfl ?_) | (apply Un_tr; rotate_left; assumption; rfl) | (refine And.intro ?_ ?_))) <;> (first | rfl | decide | exact Or.inl rfl | exact Or.inr (Or.inl rfl) | exact Or.inr (Or.inr rfl) | (simp only [nrm, strm, by8] at * <;> omega) | (simp [upd4, cpy4, nrm, strm, by8] at * <;> omega))) | (apply h1 <;> (repeat' (first | assumption | exact trivial | exact Un_rf | (apply by8_4; assumption) | (apply by8_9; assumption) | (apply by8_22; assumption) | (apply by8_g; assumption) | (refine by8_13 ?_) | (apply rg_34; assumption) | (refine ixr_by8 ?_ ?_) | (refine IV_upd ?_ ?_) | (refine Un_upd rfl ?_) | (refine IV_cpy ?_ (fun _ _ _ _ => trivial)) | (refine Un_cpy rfl ?_) | (apply Un_tr; rotate_left; assumption; rfl) | (refine And.intro ?_ ?_))) <;> (first | rfl | decide | exact Or.inl rfl | exact Or.inr (Or.inl rfl) | exact Or.inr (Or.inr rfl) | (simp only [nrm, strm, by8] at * <;> omega) | (simp [upd4, cpy4, nrm, strm, by8] at * <;> omega))) | ((repeat' (first | assumption | exact trivial | exact Un_rf | (apply by8_4; assumption) | (apply by8_9; assumption) | (apply by8_22; assumption) | (apply by8_g; assumption) | (refine by8_13 ?_) | (apply rg_34; assumption) | (refine ixr_by8 ?_ ?_) | (refine IV_upd ?_ ?_) | (refine Un_upd rfl ?_) | (refine IV_cpy ?_ (fun _ _ _ _ => trivial)) | (refine Un_cpy rfl ?_) | (apply Un_tr; rotate_left; assumption; rfl) | (refine And.intro ?_ ?_))) <;> (first | rfl | decide | exact Or.inl rfl | exact Or.inr (Or.inl rfl) | exact Or.inr (Or.inr rfl) | (simp only [nrm, strm, by8] at * <;> omega) | (simp [upd4, cpy4, nrm, strm, by8] at * <;> omega)))
  · intro av σ K kx n pc L st σ' nc ns _ _ h
    exact (h : False).elim
def gt_BlockReader_fields (a : Nat) : Option Nat := match a with
  | _ => none
theorem go_BlockReader_fields : ∀ a v, gt_BlockReader_fields a = some v → StaOK R_BlockReader a v := by
  intro a v h
  unfold gt_BlockReader_fields at h
  cases h
def pr_BlockReader_fields : List Ent := [(0, 5, 0, 0, 0), (1, 39, 21, 0, 0), (4, 50, 0, 0, 0)]
def sw_BlockReader_fields : List Swt := []
theorem dk_BlockReader_fields : ∀ q ∈ pr_BlockReader_fields, decode b_BlockReader_fields q.1 = .ok (dec sw_BlockReader_fields q) ∧ okE q = true := by decide +kernel
theorem nt_BlockReader_fields : ∀ q ∈ pr_BlockReader_fields, ¬ q.2.1 = 55 := by decide +kernel
def ct_BlockReader_fields (a : Nat) : Option (Nat × Nat × CSp × Nat × Nat) := match a with
  | _ => none
theorem co_BlockReader_fields : ∀ a v, ct_BlockReader_fields a = some v → StcOK R_BlockReader 0 0 a v := by
  intro a v h
  unfold ct_BlockReader_fields at h
  cases h
/-- BlockReader_fields -/
def sp_BlockReader_fields : CSp := sR (fun q σ K _ => q.1 = 23 ∧ K (some (.inr (28, q.2.1, q.2.2))) σ)
set_option maxHeartbeats 4000000 in
set_option maxRecDepth 100000 in
theorem c_BlockReader_fields : Ctr y_BlockReader_fields b_BlockReader_fields 1 (some (.object "FrameStreams$Fields")) 0 0 0 0 sp_BlockReader_fields := by
  refine ctr_of (FT := ft_BlockReader) (GT := gt_BlockReader_fields) (CT := ct_BlockReader_fields) (sw := sw_BlockReader_fields) (rt := 3) (pr := pr_BlockReader_fields) (by decide) [] (fun _ _ _ _ _ _ _ _ _ _ _ => False) 20 ⟨fun h => absurd h (by decide), fun h => absurd h (by decide), fun h => absurd h (by decide), fun _ => ⟨_, rfl⟩⟩ dk_BlockReader_fields fo_BlockReader go_BlockReader_fields co_BlockReader_fields (fun a k h hk => by unfold gt_BlockReader_fields at h; cases h) (fun q hq h => absurd h (nt_BlockReader_fields q hq)) (fun av σ K kx h => by rw [sR_len h]; decide) ?_ ?_
  · intro av σ K kx hok hSp
    obtain ⟨q0, rfl, hp⟩ := sR_inv hSp
    obtain ⟨k0, e0, i0⟩ := q0
    obtain ⟨h0, h1⟩ := hp
    dsimp only at h0; subst h0
    all_goals (repeat' (first | (with_reducible assumption) | (with_reducible refine IV_upd ?_ ?_) | (with_reducible refine IV_cpy ?_ (fun _ _ _ _ => trivial)) | (refine And.intro ?_ ?_) | (intro _)))
    all_goals first | (first | rfl | decide | exact Or.inl rfl | exact Or.inr (Or.inl rfl) | exact Or.inr (Or.inr rfl) | (simp only [nrm, strm, by8] at * <;> omega) | (simp [upd4, cpy4, nrm, strm, by8] at * <;> omega)) | (exact h1 (by first | assumption | (first | rfl | decide | exact Or.inl rfl | exact Or.inr (Or.inl rfl) | exact Or.inr (Or.inr rfl) | (simp only [nrm, strm, by8] at * <;> omega) | (simp [upd4, cpy4, nrm, strm, by8] at * <;> omega)))) | (exact h1) | (refine h1 _ ?_ ?_ <;> (repeat' (first | assumption | exact trivial | exact Un_rf | (apply by8_4; assumption) | (apply by8_9; assumption) | (apply by8_22; assumption) | (apply by8_g; assumption) | (refine by8_13 ?_) | (apply rg_34; assumption) | (refine ixr_by8 ?_ ?_) | (refine IV_upd ?_ ?_) | (refine Un_upd rfl ?_) | (refine IV_cpy ?_ (fun _ _ _ _ => trivial)) | (refine Un_cpy rfl ?_) | (apply Un_tr; rotate_left; assumption; rfl) | (refine And.intro ?_ ?_))) <;> (first | rfl | decide | exact Or.inl rfl | exact Or.inr (Or.inl rfl) | exact Or.inr (Or.inr rfl) | (simp only [nrm, strm, by8] at * <;> omega) | (simp [upd4, cpy4, nrm, strm, by8] at * <;> omega))) | (apply h1 <;> (repeat' (first | assumption | exact trivial | exact Un_rf | (apply by8_4; assumption) | (apply by8_9; assumption) | (apply by8_22; assumption) | (apply by8_g; assumption) | (refine by8_13 ?_) | (apply rg_34; assumption) | (refine ixr_by8 ?_ ?_) | (refine IV_upd ?_ ?_) | (refine Un_upd rfl ?_) | (refine IV_cpy ?_ (fun _ _ _ _ => trivial)) | (refine Un_cpy rfl ?_) | (apply Un_tr; rotate_left; assumption; rfl) | (refine And.intro ?_ ?_))) <;> (first | rfl | decide | exact Or.inl rfl | exact Or.inr (Or.inl rfl) | exact Or.inr (Or.inr rfl) | (simp only [nrm, strm, by8] at * <;> omega) | (simp [upd4, cpy4, nrm, strm, by8] at * <;> omega))) | ((repeat' (first | assumption | exact trivial | exact Un_rf | (apply by8_4; assumption) | (apply by8_9; assumption) | (apply by8_22; assumption) | (apply by8_g; assumption) | (refine by8_13 ?_) | (apply rg_34; assumption) | (refine ixr_by8 ?_ ?_) | (refine IV_upd ?_ ?_) | (refine Un_upd rfl ?_) | (refine IV_cpy ?_ (fun _ _ _ _ => trivial)) | (refine Un_cpy rfl ?_) | (apply Un_tr; rotate_left; assumption; rfl) | (refine And.intro ?_ ?_))) <;> (first | rfl | decide | exact Or.inl rfl | exact Or.inr (Or.inl rfl) | exact Or.inr (Or.inr rfl) | (simp only [nrm, strm, by8] at * <;> omega) | (simp [upd4, cpy4, nrm, strm, by8] at * <;> omega)))
  · intro av σ K kx n pc L st σ' nc ns _ _ h
    exact (h : False).elim
def gt_BlockReader_hasMore (a : Nat) : Option Nat := match a with
  | _ => none
theorem go_BlockReader_hasMore : ∀ a v, gt_BlockReader_hasMore a = some v → StaOK R_BlockReader a v := by
  intro a v h
  unfold gt_BlockReader_hasMore at h
  cases h
def pr_BlockReader_hasMore : List Ent := [(0, 5, 0, 0, 0), (1, 39, 32, 0, 0), (4, 27, 0, 0, 22), (7, 5, 0, 0, 0), (8, 39, 25, 0, 0), (11, 5, 0, 0, 0), (12, 39, 29, 0, 0), (15, 35, 0, 0, 22), (18, 0, 0, 1, 0), (19, 38, 0, 0, 23), (22, 0, 0, 0, 0), (23, 48, 0, 0, 0)]
def sw_BlockReader_hasMore : List Swt := []
theorem dk_BlockReader_hasMore : ∀ q ∈ pr_BlockReader_hasMore, decode b_BlockReader_hasMore q.1 = .ok (dec sw_BlockReader_hasMore q) ∧ okE q = true := by decide +kernel
theorem nt_BlockReader_hasMore : ∀ q ∈ pr_BlockReader_hasMore, ¬ q.2.1 = 55 := by decide +kernel
def ct_BlockReader_hasMore (a : Nat) : Option (Nat × Nat × CSp × Nat × Nat) := match a with
  | _ => none
theorem co_BlockReader_hasMore : ∀ a v, ct_BlockReader_hasMore a = some v → StcOK R_BlockReader 0 0 a v := by
  intro a v h
  unfold ct_BlockReader_hasMore at h
  cases h
/-- BlockReader_hasMore -/
def sp_BlockReader_hasMore : CSp := sR (fun q σ K _ => q.1 = 23 ∧ K (some (.inl 0)) σ ∧ K (some (.inl 1)) σ)
set_option maxHeartbeats 4000000 in
set_option maxRecDepth 100000 in
theorem c_BlockReader_hasMore : Ctr y_BlockReader_hasMore b_BlockReader_hasMore 1 (some .boolean) 0 0 0 0 sp_BlockReader_hasMore := by
  refine ctr_of (FT := ft_BlockReader) (GT := gt_BlockReader_hasMore) (CT := ct_BlockReader_hasMore) (sw := sw_BlockReader_hasMore) (rt := 1) (pr := pr_BlockReader_hasMore) (by decide) [] (fun _ _ _ _ _ _ _ _ _ _ _ => False) 30 ⟨fun h => absurd h (by decide), fun _ => rfl, fun h => absurd h (by decide), fun h => absurd h (by decide)⟩ dk_BlockReader_hasMore fo_BlockReader go_BlockReader_hasMore co_BlockReader_hasMore (fun a k h hk => by unfold gt_BlockReader_hasMore at h; cases h) (fun q hq h => absurd h (nt_BlockReader_hasMore q hq)) (fun av σ K kx h => by rw [sR_len h]; decide) ?_ ?_
  · intro av σ K kx hok hSp
    obtain ⟨q0, rfl, hp⟩ := sR_inv hSp
    obtain ⟨k0, e0, i0⟩ := q0
    obtain ⟨h0, h1, h2⟩ := hp
    dsimp only at h0; subst h0
    all_goals (repeat' (first | (with_reducible assumption) | (with_reducible refine IV_upd ?_ ?_) | (with_reducible refine IV_cpy ?_ (fun _ _ _ _ => trivial)) | (refine And.intro ?_ ?_) | (intro _)))
    all_goals first | (first | rfl | decide | exact Or.inl rfl | exact Or.inr (Or.inl rfl) | exact Or.inr (Or.inr rfl) | (simp only [nrm, strm, by8] at * <;> omega) | (simp [upd4, cpy4, nrm, strm, by8] at * <;> omega)) | (exact h1 (by first | assumption | (first | rfl | decide | exact Or.inl rfl | exact Or.inr (Or.inl rfl) | exact Or.inr (Or.inr rfl) | (simp only [nrm, strm, by8] at * <;> omega) | (simp [upd4, cpy4, nrm, strm, by8] at * <;> omega)))) | (exact h2 (by first | assumption | (first | rfl | decide | exact Or.inl rfl | exact Or.inr (Or.inl rfl) | exact Or.inr (Or.inr rfl) | (simp only [nrm, strm, by8] at * <;> omega) | (simp [upd4, cpy4, nrm, strm, by8] at * <;> omega)))) | (exact h1) | (exact h2) | (refine h1 _ ?_ ?_ <;> (repeat' (first | assumption | exact trivial | exact Un_rf | (apply by8_4; assumption) | (apply by8_9; assumption) | (apply by8_22; assumption) | (apply by8_g; assumption) | (refine by8_13 ?_) | (apply rg_34; assumption) | (refine ixr_by8 ?_ ?_) | (refine IV_upd ?_ ?_) | (refine Un_upd rfl ?_) | (refine IV_cpy ?_ (fun _ _ _ _ => trivial)) | (refine Un_cpy rfl ?_) | (apply Un_tr; rotate_left; assumption; rfl) | (refine And.intro ?_ ?_))) <;> (first | rfl | decide | exact Or.inl rfl | exact Or.inr (Or.inl rfl) | exact Or.inr (Or.inr rfl) | (simp only [nrm, strm, by8] at * <;> omega) | (simp [upd4, cpy4, nrm, strm, by8] at * <;> omega))) | (refine h2 _ ?_ ?_ <;> (repeat' (first | assumption | exact trivial | exact Un_rf | (apply by8_4; assumption) | (apply by8_9; assumption) | (apply by8_22; assumption) | (apply by8_g; assumption) | (refine by8_13 ?_) | (apply rg_34; assumption) | (refine ixr_by8 ?_ ?_) | (refine IV_upd ?_ ?_) | (refine Un_upd rfl ?_) | (refine IV_cpy ?_ (fun _ _ _ _ => trivial)) | (refine Un_cpy rfl ?_) | (apply Un_tr; rotate_left; assumption; rfl) | (refine And.intro ?_ ?_))) <;> (first | rfl | decide | exact Or.inl rfl | exact Or.inr (Or.inl rfl) | exact Or.inr (Or.inr rfl) | (simp only [nrm, strm, by8] at * <;> omega) | (simp [upd4, cpy4, nrm, strm, by8] at * <;> omega))) | (apply h1 <;> (repeat' (first | assumption | exact trivial | exact Un_rf | (apply by8_4; assumption) | (apply by8_9; assumption) | (apply by8_22; assumption) | (apply by8_g; assumption) | (refine by8_13 ?_) | (apply rg_34; assumption) | (refine ixr_by8 ?_ ?_) | (refine IV_upd ?_ ?_) | (refine Un_upd rfl ?_) | (refine IV_cpy ?_ (fun _ _ _ _ => trivial)) | (refine Un_cpy rfl ?_) | (apply Un_tr; rotate_left; assumption; rfl) | (refine And.intro ?_ ?_))) <;> (first | rfl | decide | exact Or.inl rfl | exact Or.inr (Or.inl rfl) | exact Or.inr (Or.inr rfl) | (simp only [nrm, strm, by8] at * <;> omega) | (simp [upd4, cpy4, nrm, strm, by8] at * <;> omega))) | (apply h2 <;> (repeat' (first | assumption | exact trivial | exact Un_rf | (apply by8_4; assumption) | (apply by8_9; assumption) | (apply by8_22; assumption) | (apply by8_g; assumption) | (refine by8_13 ?_) | (apply rg_34; assumption) | (refine ixr_by8 ?_ ?_) | (refine IV_upd ?_ ?_) | (refine Un_upd rfl ?_) | (refine IV_cpy ?_ (fun _ _ _ _ => trivial)) | (refine Un_cpy rfl ?_) | (apply Un_tr; rotate_left; assumption; rfl) | (refine And.intro ?_ ?_))) <;> (first | rfl | decide | exact Or.inl rfl | exact Or.inr (Or.inl rfl) | exact Or.inr (Or.inr rfl) | (simp only [nrm, strm, by8] at * <;> omega) | (simp [upd4, cpy4, nrm, strm, by8] at * <;> omega))) | ((repeat' (first | assumption | exact trivial | exact Un_rf | (apply by8_4; assumption) | (apply by8_9; assumption) | (apply by8_22; assumption) | (apply by8_g; assumption) | (refine by8_13 ?_) | (apply rg_34; assumption) | (refine ixr_by8 ?_ ?_) | (refine IV_upd ?_ ?_) | (refine Un_upd rfl ?_) | (refine IV_cpy ?_ (fun _ _ _ _ => trivial)) | (refine Un_cpy rfl ?_) | (apply Un_tr; rotate_left; assumption; rfl) | (refine And.intro ?_ ?_))) <;> (first | rfl | decide | exact Or.inl rfl | exact Or.inr (Or.inl rfl) | exact Or.inr (Or.inr rfl) | (simp only [nrm, strm, by8] at * <;> omega) | (simp [upd4, cpy4, nrm, strm, by8] at * <;> omega)))
  · intro av σ K kx n pc L st σ' nc ns _ _ h
    exact (h : False).elim
def gt_BlockReader_nextByte (a : Nat) : Option Nat := match a with
  | _ => none
theorem go_BlockReader_nextByte : ∀ a v, gt_BlockReader_nextByte a = some v → StaOK R_BlockReader a v := by
  intro a v h
  unfold gt_BlockReader_nextByte at h
  cases h
def pr_BlockReader_nextByte : List Ent := [(0, 5, 0, 0, 0), (1, 39, 25, 0, 0), (4, 5, 0, 0, 0), (5, 39, 29, 0, 0), (8, 34, 0, 0, 18), (11, 5, 0, 0, 0), (12, 0, 0, 1, 0), (13, 40, 32, 0, 0), (16, 0, 0, 0, 0), (17, 48, 0, 0, 0), (18, 5, 0, 0, 0), (19, 39, 36, 0, 0), (22, 5, 0, 0, 0), (23, 39, 25, 0, 0), (26, 46, 59, 0, 0), (29, 7, 1, 0, 0), (30, 5, 0, 0, 0), (31, 23, 0, 0, 0), (32, 39, 25, 0, 0), (35, 0, 0, 1, 0), (36, 12, 0, 0, 0), (37, 40, 25, 0, 0), (40, 3, 1, 0, 0), (41, 48, 0, 0, 0)]
def sw_BlockReader_nextByte : List Swt := []
theorem dk_BlockReader_nextByte : ∀ q ∈ pr_BlockReader_nextByte, decode b_BlockReader_nextByte q.1 = .ok (dec sw_BlockReader_nextByte q) ∧ okE q = true := by decide +kernel
theorem nt_BlockReader_nextByte : ∀ q ∈ pr_BlockReader_nextByte, ¬ q.2.1 = 55 := by decide +kernel
def ct_BlockReader_nextByte (a : Nat) : Option (Nat × Nat × CSp × Nat × Nat) := match a with
  | 59 => some (2, 5, sp_Frame_at, 0, 0)
  | _ => none
theorem co_BlockReader_nextByte : ∀ a v, ct_BlockReader_nextByte a = some v → StcOK R_BlockReader 1 21 a v := by
  intro a v h
  unfold ct_BlockReader_nextByte at h
  split at h
  · cases h; exact ⟨y_Frame_at, b_Frame_at, 2, (some .int), 0, 0, 1, c_Frame_at, by decide, by decide +kernel, by decide +kernel, by decide +kernel, Or.inl ⟨rfl, by decide, by decide +kernel, by decide +kernel, _, _, rfl, by decide +kernel⟩⟩
  · cases h
/-- BlockReader_nextByte -/
def sp_BlockReader_nextByte : CSp := sR (fun q σ K _ => q.1 = 23 ∧ IV σ ∧ ∀ r σ', by8 r → IV σ' → Un [23] σ σ' → K (some (.inl r)) σ')
set_option maxHeartbeats 4000000 in
set_option maxRecDepth 100000 in
theorem c_BlockReader_nextByte : Ctr y_BlockReader_nextByte b_BlockReader_nextByte 2 (some .int) 1 21 0 0 sp_BlockReader_nextByte := by
  refine ctr_of (FT := ft_BlockReader) (GT := gt_BlockReader_nextByte) (CT := ct_BlockReader_nextByte) (sw := sw_BlockReader_nextByte) (rt := 0) (pr := pr_BlockReader_nextByte) (by decide) [] (fun _ _ _ _ _ _ _ _ _ _ _ => False) 40 ⟨fun _ => rfl, fun h => absurd h (by decide), fun h => absurd h (by decide), fun h => absurd h (by decide)⟩ dk_BlockReader_nextByte fo_BlockReader go_BlockReader_nextByte co_BlockReader_nextByte (fun a k h hk => by unfold gt_BlockReader_nextByte at h; cases h) (fun q hq h => absurd h (nt_BlockReader_nextByte q hq)) (fun av σ K kx h => by rw [sR_len h]; decide) ?_ ?_
  · intro av σ K kx hok hSp
    obtain ⟨q0, rfl, hp⟩ := sR_inv hSp
    obtain ⟨k0, e0, i0⟩ := q0
    obtain ⟨h0, hI, h2⟩ := hp
    dsimp only at h0; subst h0
    all_goals (repeat' (first | (with_reducible assumption) | (with_reducible refine IV_upd ?_ ?_) | (with_reducible refine IV_cpy ?_ (fun _ _ _ _ => trivial)) | (refine And.intro ?_ ?_) | (intro _)))
    all_goals first | (first | rfl | decide | exact Or.inl rfl | exact Or.inr (Or.inl rfl) | exact Or.inr (Or.inr rfl) | (simp only [nrm, strm, by8] at * <;> omega) | (simp [upd4, cpy4, nrm, strm, by8] at * <;> omega)) | (exact h2) | (refine h2 _ ?_ ?_ <;> (repeat' (first | assumption | exact trivial | exact Un_rf | (apply by8_4; assumption) | (apply by8_9; assumption) | (apply by8_22; assumption) | (apply by8_g; assumption) | (refine by8_13 ?_) | (apply rg_34; assumption) | (refine ixr_by8 ?_ ?_) | (refine IV_upd ?_ ?_) | (refine Un_upd rfl ?_) | (refine IV_cpy ?_ (fun _ _ _ _ => trivial)) | (refine Un_cpy rfl ?_) | (apply Un_tr; rotate_left; assumption; rfl) | (refine And.intro ?_ ?_))) <;> (first | rfl | decide | exact Or.inl rfl | exact Or.inr (Or.inl rfl) | exact Or.inr (Or.inr rfl) | (simp only [nrm, strm, by8] at * <;> omega) | (simp [upd4, cpy4, nrm, strm, by8] at * <;> omega))) | (apply h2 <;> (repeat' (first | assumption | exact trivial | exact Un_rf | (apply by8_4; assumption) | (apply by8_9; assumption) | (apply by8_22; assumption) | (apply by8_g; assumption) | (refine by8_13 ?_) | (apply rg_34; assumption) | (refine ixr_by8 ?_ ?_) | (refine IV_upd ?_ ?_) | (refine Un_upd rfl ?_) | (refine IV_cpy ?_ (fun _ _ _ _ => trivial)) | (refine Un_cpy rfl ?_) | (apply Un_tr; rotate_left; assumption; rfl) | (refine And.intro ?_ ?_))) <;> (first | rfl | decide | exact Or.inl rfl | exact Or.inr (Or.inl rfl) | exact Or.inr (Or.inr rfl) | (simp only [nrm, strm, by8] at * <;> omega) | (simp [upd4, cpy4, nrm, strm, by8] at * <;> omega))) | ((repeat' (first | assumption | exact trivial | exact Un_rf | (apply by8_4; assumption) | (apply by8_9; assumption) | (apply by8_22; assumption) | (apply by8_g; assumption) | (refine by8_13 ?_) | (apply rg_34; assumption) | (refine ixr_by8 ?_ ?_) | (refine IV_upd ?_ ?_) | (refine Un_upd rfl ?_) | (refine IV_cpy ?_ (fun _ _ _ _ => trivial)) | (refine Un_cpy rfl ?_) | (apply Un_tr; rotate_left; assumption; rfl) | (refine And.intro ?_ ?_))) <;> (first | rfl | decide | exact Or.inl rfl | exact Or.inr (Or.inl rfl) | exact Or.inr (Or.inr rfl) | (simp only [nrm, strm, by8] at * <;> omega) | (simp [upd4, cpy4, nrm, strm, by8] at * <;> omega)))
  · intro av σ K kx n pc L st σ' nc ns _ _ h
    exact (h : False).elim
def gt_BlockReader_readText (a : Nat) : Option Nat := match a with
  | _ => none
theorem go_BlockReader_readText : ∀ a v, gt_BlockReader_readText a = some v → StaOK R_BlockReader a v := by
  intro a v h
  unfold gt_BlockReader_readText at h
  cases h
def pr_BlockReader_readText : List Ent := [(0, 5, 0, 0, 0), (1, 46, 68, 0, 0), (4, 7, 1, 0, 0), (5, 3, 1, 0, 0), (6, 1, 0, 6, 0), (8, 37, 0, 0, 16), (11, 5, 0, 0, 0), (12, 0, 0, 1, 0), (13, 40, 32, 0, 0), (16, 0, 0, 0, 0), (17, 7, 2, 0, 0), (18, 0, 0, 0, 0), (19, 7, 3, 0, 0), (20, 3, 3, 0, 0), (21, 3, 1, 0, 0), (22, 35, 0, 0, 67), (25, 5, 0, 0, 0), (26, 39, 32, 0, 0), (29, 27, 0, 0, 67), (32, 5, 0, 0, 0), (33, 46, 68, 0, 0), (36, 8, 4, 0, 0), (38, 4, 4, 0, 0), (40, 47, 94, 0, 0), (43, 26, 0, 0, 56), (46, 3, 2, 0, 0), (47, 4, 4, 0, 0), (49, 47, 97, 0, 0), (52, 7, 2, 0, 0), (53, 38, 0, 0, 61), (56, 5, 0, 0, 0), (57, 0, 0, 1, 0), (58, 40, 32, 0, 0), (61, 11, 3, 1, 0), (64, 38, 0, 0, 20), (67, 3, 2, 0, 0), (68, 48, 0, 0, 0)]
def sw_BlockReader_readText : List Swt := []
theorem dk_BlockReader_readText : ∀ q ∈ pr_BlockReader_readText, decode b_BlockReader_readText q.1 = .ok (dec sw_BlockReader_readText q) ∧ okE q = true := by decide +kernel
theorem nt_BlockReader_readText : ∀ q ∈ pr_BlockReader_readText, ¬ q.2.1 = 55 := by decide +kernel
def ct_BlockReader_readText (a : Nat) : Option (Nat × Nat × CSp × Nat × Nat) := match a with
  | 68 => some (1, 1, sp_BlockReader_nextByte, 0, 0)
  | 94 => some (1, 1000, sp_Letters_isLetter, 0, 0)
  | 97 => some (2, 1000, sp_Letters_append, 0, 0)
  | _ => none
theorem co_BlockReader_readText : ∀ a v, ct_BlockReader_readText a = some v → StcOK R_BlockReader 2 42 a v := by
  intro a v h
  unfold ct_BlockReader_readText at h
  split at h
  · cases h; exact ⟨y_BlockReader_nextByte, b_BlockReader_nextByte, 2, (some .int), 1, 21, 0, c_BlockReader_nextByte, by decide, by decide +kernel, by decide +kernel, by decide +kernel, Or.inl ⟨rfl, by decide, by decide +kernel, by decide +kernel, _, _, rfl, by decide +kernel⟩⟩
  · cases h; exact ⟨y_Letters_isLetter, b_Letters_isLetter, 1, (some .boolean), 0, 0, 1, c_Letters_isLetter, by decide, by decide +kernel, by decide +kernel, by decide +kernel, (by first | exact Or.inr (Or.inl ⟨rfl, rfl, by decide +kernel, by decide +kernel⟩) | exact Or.inr (Or.inr ⟨rfl, rfl, ⟨"FrameStreams", by decide +kernel⟩, by decide +kernel⟩))⟩
  · cases h; exact ⟨y_Letters_append, b_Letters_append, 2, (some .int), 1, 21, 2, c_Letters_append, by decide, by decide +kernel, by decide +kernel, by decide +kernel, (by first | exact Or.inr (Or.inl ⟨rfl, rfl, by decide +kernel, by decide +kernel⟩) | exact Or.inr (Or.inr ⟨rfl, rfl, ⟨"FrameStreams", by decide +kernel⟩, by decide +kernel⟩))⟩
  · cases h
/-- BlockReader_readText -/
def sp_BlockReader_readText : CSp := sR (fun q σ K _ => q.1 = 23 ∧ IV σ ∧ ∀ r σ', IV σ' → Un [23] σ σ' → K (some (.inl r)) σ')
set_option maxHeartbeats 4000000 in
set_option maxRecDepth 100000 in
theorem c_BlockReader_readText : Ctr y_BlockReader_readText b_BlockReader_readText 5 (some .int) 2 42 0 0 sp_BlockReader_readText := by
  refine ctr_of (FT := ft_BlockReader) (GT := gt_BlockReader_readText) (CT := ct_BlockReader_readText) (sw := sw_BlockReader_readText) (rt := 0) (pr := pr_BlockReader_readText) (by decide) [20] (fun av σ _ _ n pc L st σ' nc ns => ∃ e i l t k o, av = [.inr (23, e, i)] ∧ pc = 20 ∧ L = [some (.inr (23, e, i)), some (.inl l), some (.inl t), some (.inl k), o] ∧ st = [] ∧ nc = 0 ∧ ns = 0 ∧ by8 l ∧ 0 ≤ k ∧ k ≤ 255 ∧ n = (255 - k).toNat ∧ IV σ' ∧ Un [23] σ σ') 50 ⟨fun _ => rfl, fun h => absurd h (by decide), fun h => absurd h (by decide), fun h => absurd h (by decide)⟩ dk_BlockReader_readText fo_BlockReader go_BlockReader_readText co_BlockReader_readText (fun a k h hk => by unfold gt_BlockReader_readText at h; cases h) (fun q hq h => absurd h (nt_BlockReader_readText q hq)) (fun av σ K kx h => by rw [sR_len h]; decide) ?_ ?_
  · intro av σ K kx hok hSp
    obtain ⟨q0, rfl, hp⟩ := sR_inv hSp
    obtain ⟨k0, e0, i0⟩ := q0
    obtain ⟨h0, hI, hf⟩ := hp
    dsimp only at h0; subst h0
    all_goals (repeat' (first | (with_reducible assumption) | (with_reducible refine IV_upd ?_ ?_) | (with_reducible refine IV_cpy ?_ (fun _ _ _ _ => trivial)) | (refine And.intro ?_ ?_) | (intro _)))
    all_goals first | (first | rfl | decide | exact Or.inl rfl | exact Or.inr (Or.inl rfl) | exact Or.inr (Or.inr rfl) | (simp only [nrm, strm, by8] at * <;> omega) | (simp [upd4, cpy4, nrm, strm, by8] at * <;> omega)) | (apply hf <;> (repeat' (first | assumption | exact trivial | exact Un_rf | (apply by8_4; assumption) | (apply by8_9; assumption) | (apply by8_22; assumption) | (apply by8_g; assumption) | (refine by8_13 ?_) | (apply rg_34; assumption) | (refine ixr_by8 ?_ ?_) | (refine IV_upd ?_ ?_) | (refine Un_upd rfl ?_) | (refine IV_cpy ?_ (fun _ _ _ _ => trivial)) | (refine Un_cpy rfl ?_) | (apply Un_tr; rotate_left; assumption; rfl) | (refine And.intro ?_ ?_))) <;> (first | rfl | decide | exact Or.inl rfl | exact Or.inr (Or.inl rfl) | exact Or.inr (Or.inr rfl) | (simp only [nrm, strm, by8] at * <;> omega) | (simp [upd4, cpy4, nrm, strm, by8] at * <;> omega))) | (refine ⟨((255 : Int) - (0)).toNat, e0, i0, _, _, 0, _, rfl, rfl, rfl, rfl, rfl, rfl, ?_, ?_, ?_, rfl, ?_, ?_⟩ <;> (repeat' (first | assumption | exact trivial | exact Un_rf | (apply by8_4; assumption) | (apply by8_9; assumption) | (apply by8_22; assumption) | (apply by8_g; assumption) | (refine by8_13 ?_) | (apply rg_34; assumption) | (refine ixr_by8 ?_ ?_) | (refine IV_upd ?_ ?_) | (refine Un_upd rfl ?_) | (refine IV_cpy ?_ (fun _ _ _ _ => trivial)) | (refine Un_cpy rfl ?_) | (apply Un_tr; rotate_left; assumption; rfl) | (refine And.intro ?_ ?_))) <;> (first | rfl | decide | exact Or.inl rfl | exact Or.inr (Or.inl rfl) | exact Or.inr (Or.inr rfl) | (simp only [nrm, strm, by8] at * <;> omega) | (simp [upd4, cpy4, nrm, strm, by8] at * <;> omega))) | ((repeat' (first | assumption | exact trivial | exact Un_rf | (apply by8_4; assumption) | (apply by8_9; assumption) | (apply by8_22; assumption) | (apply by8_g; assumption) | (refine by8_13 ?_) | (apply rg_34; assumption) | (refine ixr_by8 ?_ ?_) | (refine IV_upd ?_ ?_) | (refine Un_upd rfl ?_) | (refine IV_cpy ?_ (fun _ _ _ _ => trivial)) | (refine Un_cpy rfl ?_) | (apply Un_tr; rotate_left; assumption; rfl) | (refine And.intro ?_ ?_))) <;> (first | rfl | decide | exact Or.inl rfl | exact Or.inr (Or.inl rfl) | exact Or.inr (Or.inr rfl) | (simp only [nrm, strm, by8] at * <;> omega) | (simp [upd4, cpy4, nrm, strm, by8] at * <;> omega)))
  · intro av σ K kx n pc L st σ' nc ns hok hSp hJ
    obtain ⟨e, i, l, t, k, o, rfl, rfl, rfl, rfl, rfl, rfl, c0, c1, c2, hn, hI, hU⟩ := hJ
    obtain ⟨-, -, hf⟩ : (23 : Nat) = 23 ∧ IV σ ∧ ∀ r σ', IV σ' → Un [23] σ σ' → K (some (.inl r)) σ' := hSp
    all_goals (repeat' (first | (with_reducible assumption) | (with_reducible refine IV_upd ?_ ?_) | (with_reducible refine IV_cpy ?_ (fun _ _ _ _ => trivial)) | (refine And.intro ?_ ?_) | (intro _)))
    all_goals first | (first | rfl | decide | exact Or.inl rfl | exact Or.inr (Or.inl rfl) | exact Or.inr (Or.inr rfl) | (simp only [nrm, strm, by8] at * <;> omega) | (simp [upd4, cpy4, nrm, strm, by8] at * <;> omega)) | (apply hf <;> (repeat' (first | assumption | exact trivial | exact Un_rf | (apply by8_4; assumption) | (apply by8_9; assumption) | (apply by8_22; assumption) | (apply by8_g; assumption) | (refine by8_13 ?_) | (apply rg_34; assumption) | (refine ixr_by8 ?_ ?_) | (refine IV_upd ?_ ?_) | (refine Un_upd rfl ?_) | (refine IV_cpy ?_ (fun _ _ _ _ => trivial)) | (refine Un_cpy rfl ?_) | (apply Un_tr; rotate_left; assumption; rfl) | (refine And.intro ?_ ?_))) <;> (first | rfl | decide | exact Or.inl rfl | exact Or.inr (Or.inl rfl) | exact Or.inr (Or.inr rfl) | (simp only [nrm, strm, by8] at * <;> omega) | (simp [upd4, cpy4, nrm, strm, by8] at * <;> omega))) | (refine ⟨((255 : Int) - (k + 1)).toNat, ?_, e, i, l, _, k + 1, _, rfl, rfl, rfl, rfl, rfl, rfl, ?_, ?_, ?_, rfl, ?_, ?_⟩ <;> (repeat' (first | assumption | exact trivial | exact Un_rf | (apply by8_4; assumption) | (apply by8_9; assumption) | (apply by8_22; assumption) | (apply by8_g; assumption) | (refine by8_13 ?_) | (apply rg_34; assumption) | (refine ixr_by8 ?_ ?_) | (refine IV_upd ?_ ?_) | (refine Un_upd rfl ?_) | (refine IV_cpy ?_ (fun _ _ _ _ => trivial)) | (refine Un_cpy rfl ?_) | (apply Un_tr; rotate_left; assumption; rfl) | (refine And.intro ?_ ?_))) <;> (first | rfl | decide | exact Or.inl rfl | exact Or.inr (Or.inl rfl) | exact Or.inr (Or.inr rfl) | (simp only [nrm, strm, by8] at * <;> omega) | (simp [upd4, cpy4, nrm, strm, by8] at * <;> omega))) | ((repeat' (first | assumption | exact trivial | exact Un_rf | (apply by8_4; assumption) | (apply by8_9; assumption) | (apply by8_22; assumption) | (apply by8_g; assumption) | (refine by8_13 ?_) | (apply rg_34; assumption) | (refine ixr_by8 ?_ ?_) | (refine IV_upd ?_ ?_) | (refine Un_upd rfl ?_) | (refine IV_cpy ?_ (fun _ _ _ _ => trivial)) | (refine Un_cpy rfl ?_) | (apply Un_tr; rotate_left; assumption; rfl) | (refine And.intro ?_ ?_))) <;> (first | rfl | decide | exact Or.inl rfl | exact Or.inr (Or.inl rfl) | exact Or.inr (Or.inr rfl) | (simp only [nrm, strm, by8] at * <;> omega) | (simp [upd4, cpy4, nrm, strm, by8] at * <;> omega)))
def gt_BlockReader_readIndexed (a : Nat) : Option Nat := match a with
  | _ => none
theorem go_BlockReader_readIndexed : ∀ a v, gt_BlockReader_readIndexed a = some v → StaOK R_BlockReader a v := by
  intro a v h
  unfold gt_BlockReader_readIndexed at h
  cases h
def pr_BlockReader_readIndexed : List Ent := [(0, 5, 0, 0, 0), (1, 39, 12, 0, 0), (4, 3, 1, 0, 0), (5, 46, 85, 0, 0), (8, 27, 0, 0, 17), (11, 5, 0, 0, 0), (12, 0, 0, 1, 0), (13, 40, 32, 0, 0), (16, 49, 0, 0, 0), (17, 5, 0, 0, 0), (18, 39, 21, 0, 0), (21, 5, 0, 0, 0), (22, 39, 12, 0, 0), (25, 3, 1, 0, 0), (26, 46, 77, 0, 0), (29, 5, 0, 0, 0), (30, 39, 12, 0, 0), (33, 3, 1, 0, 0), (34, 46, 89, 0, 0), (37, 46, 80, 0, 0), (40, 49, 0, 0, 0)]
def sw_BlockReader_readIndexed : List Swt := []
theorem dk_BlockReader_readIndexed : ∀ q ∈ pr_BlockReader_readIndexed, decode b_BlockReader_readIndexed q.1 = .ok (dec sw_BlockReader_readIndexed q) ∧ okE q = true := by decide +kernel
theorem nt_BlockReader_readIndexed : ∀ q ∈ pr_BlockReader_readIndexed, ¬ q.2.1 = 55 := by decide +kernel
def ct_BlockReader_readIndexed (a : Nat) : Option (Nat × Nat × CSp × Nat × Nat) := match a with
  | 77 => some (2, 7, sp_Table_nameAt, 0, 0)
  | 80 => some (3, 4, sp_Fields_add, 0, 0)
  | 85 => some (2, 7, sp_Table_has, 0, 0)
  | 89 => some (2, 7, sp_Table_valueAt, 0, 0)
  | _ => none
theorem co_BlockReader_readIndexed : ∀ a v, ct_BlockReader_readIndexed a = some v → StcOK R_BlockReader 2 42 a v := by
  intro a v h
  unfold ct_BlockReader_readIndexed at h
  split at h
  · cases h; exact ⟨y_Table_nameAt, b_Table_nameAt, 2, (some .int), 1, 21, 1, c_Table_nameAt, by decide, by decide +kernel, by decide +kernel, by decide +kernel, Or.inl ⟨rfl, by decide, by decide +kernel, by decide +kernel, _, _, rfl, by decide +kernel⟩⟩
  · cases h; exact ⟨y_Fields_add, b_Fields_add, 3, none, 0, 0, 2, c_Fields_add, by decide, by decide +kernel, by decide +kernel, by decide +kernel, Or.inl ⟨rfl, by decide, by decide +kernel, by decide +kernel, _, _, rfl, by decide +kernel⟩⟩
  · cases h; exact ⟨y_Table_has, b_Table_has, 2, (some .boolean), 0, 0, 1, c_Table_has, by decide, by decide +kernel, by decide +kernel, by decide +kernel, Or.inl ⟨rfl, by decide, by decide +kernel, by decide +kernel, _, _, rfl, by decide +kernel⟩⟩
  · cases h; exact ⟨y_Table_valueAt, b_Table_valueAt, 2, (some .int), 1, 21, 1, c_Table_valueAt, by decide, by decide +kernel, by decide +kernel, by decide +kernel, Or.inl ⟨rfl, by decide, by decide +kernel, by decide +kernel, _, _, rfl, by decide +kernel⟩⟩
  · cases h
/-- BlockReader_readIndexed -/
def sp_BlockReader_readIndexed : CSp := sRI (fun q x σ K _ => q.1 = 23 ∧ IV σ ∧ ∀ σ', IV σ' → Un [23, 28, 29, 30] σ σ' → K none σ')
set_option maxHeartbeats 4000000 in
set_option maxRecDepth 100000 in
theorem c_BlockReader_readIndexed : Ctr y_BlockReader_readIndexed b_BlockReader_readIndexed 2 none 2 42 0 0 sp_BlockReader_readIndexed := by
  refine ctr_of (FT := ft_BlockReader) (GT := gt_BlockReader_readIndexed) (CT := ct_BlockReader_readIndexed) (sw := sw_BlockReader_readIndexed) (rt := 2) (pr := pr_BlockReader_readIndexed) (by decide) [] (fun _ _ _ _ _ _ _ _ _ _ _ => False) 40 ⟨fun h => absurd h (by decide), fun h => absurd h (by decide), fun _ => rfl, fun h => absurd h (by decide)⟩ dk_BlockReader_readIndexed fo_BlockReader go_BlockReader_readIndexed co_BlockReader_readIndexed (fun a k h hk => by unfold gt_BlockReader_readIndexed at h; cases h) (fun q hq h => absurd h (nt_BlockReader_readIndexed q hq)) (fun av σ K kx h => by rw [sRI_len h]; decide) ?_ ?_
  · intro av σ K kx hok hSp
    obtain ⟨q0, x0, rfl, hp⟩ := sRI_inv hSp
    obtain ⟨k0, e0, i0⟩ := q0
    obtain ⟨h0, hI, h2⟩ := hp
    dsimp only at h0; subst h0
    all_goals (repeat' (first | (with_reducible assumption) | (with_reducible refine IV_upd ?_ ?_) | (with_reducible refine IV_cpy ?_ (fun _ _ _ _ => trivial)) | (refine And.intro ?_ ?_) | (intro _)))
    all_goals first | (first | rfl | decide | exact Or.inl rfl | exact Or.inr (Or.inl rfl) | exact Or.inr (Or.inr rfl) | (simp only [nrm, strm, by8] at * <;> omega) | (simp [upd4, cpy4, nrm, strm, by8] at * <;> omega)) | (exact h2) | (refine h2 _ ?_ ?_ <;> (repeat' (first | assumption | exact trivial | exact Un_rf | (apply by8_4; assumption) | (apply by8_9; assumption) | (apply by8_22; assumption) | (apply by8_g; assumption) | (refine by8_13 ?_) | (apply rg_34; assumption) | (refine ixr_by8 ?_ ?_) | (refine IV_upd ?_ ?_) | (refine Un_upd rfl ?_) | (refine IV_cpy ?_ (fun _ _ _ _ => trivial)) | (refine Un_cpy rfl ?_) | (apply Un_tr; rotate_left; assumption; rfl) | (refine And.intro ?_ ?_))) <;> (first | rfl | decide | exact Or.inl rfl | exact Or.inr (Or.inl rfl) | exact Or.inr (Or.inr rfl) | (simp only [nrm, strm, by8] at * <;> omega) | (simp [upd4, cpy4, nrm, strm, by8] at * <;> omega))) | (apply h2 <;> (repeat' (first | assumption | exact trivial | exact Un_rf | (apply by8_4; assumption) | (apply by8_9; assumption) | (apply by8_22; assumption) | (apply by8_g; assumption) | (refine by8_13 ?_) | (apply rg_34; assumption) | (refine ixr_by8 ?_ ?_) | (refine IV_upd ?_ ?_) | (refine Un_upd rfl ?_) | (refine IV_cpy ?_ (fun _ _ _ _ => trivial)) | (refine Un_cpy rfl ?_) | (apply Un_tr; rotate_left; assumption; rfl) | (refine And.intro ?_ ?_))) <;> (first | rfl | decide | exact Or.inl rfl | exact Or.inr (Or.inl rfl) | exact Or.inr (Or.inr rfl) | (simp only [nrm, strm, by8] at * <;> omega) | (simp [upd4, cpy4, nrm, strm, by8] at * <;> omega))) | ((repeat' (first | assumption | exact trivial | exact Un_rf | (apply by8_4; assumption) | (apply by8_9; assumption) | (apply by8_22; assumption) | (apply by8_g; assumption) | (refine by8_13 ?_) | (apply rg_34; assumption) | (refine ixr_by8 ?_ ?_) | (refine IV_upd ?_ ?_) | (refine Un_upd rfl ?_) | (refine IV_cpy ?_ (fun _ _ _ _ => trivial)) | (refine Un_cpy rfl ?_) | (apply Un_tr; rotate_left; assumption; rfl) | (refine And.intro ?_ ?_))) <;> (first | rfl | decide | exact Or.inl rfl | exact Or.inr (Or.inl rfl) | exact Or.inr (Or.inr rfl) | (simp only [nrm, strm, by8] at * <;> omega) | (simp [upd4, cpy4, nrm, strm, by8] at * <;> omega)))
  · intro av σ K kx n pc L st σ' nc ns _ _ h
    exact (h : False).elim
def gt_BlockReader_readField (a : Nat) : Option Nat := match a with
  | _ => none
theorem go_BlockReader_readField : ∀ a v, gt_BlockReader_readField a = some v → StaOK R_BlockReader a v := by
  intro a v h
  unfold gt_BlockReader_readField at h
  cases h
def pr_BlockReader_readField : List Ent := [(0, 5, 0, 0, 0), (1, 46, 68, 0, 0), (4, 7, 1, 0, 0), (5, 3, 1, 0, 0), (6, 2, 0, 128, 0), (9, 34, 0, 0, 22), (12, 5, 0, 0, 0), (13, 3, 1, 0, 0), (14, 2, 0, 128, 0), (17, 13, 0, 0, 0), (18, 46, 71, 0, 0), (21, 49, 0, 0, 0), (22, 3, 1, 0, 0), (23, 1, 0, 64, 0), (25, 34, 0, 0, 32), (28, 0, 0, 1, 0), (29, 38, 0, 0, 33), (32, 0, 0, 0, 0), (33, 7, 2, 0, 0), (34, 3, 2, 0, 0), (35, 27, 0, 0, 50), (38, 3, 1, 0, 0), (39, 1, 0, 16, 0), (41, 34, 0, 0, 50), (44, 5, 0, 0, 0), (45, 0, 0, 1, 0), (46, 40, 32, 0, 0), (49, 49, 0, 0, 0), (50, 3, 2, 0, 0), (51, 26, 0, 0, 61), (54, 3, 1, 0, 0), (55, 1, 0, 64, 0), (57, 13, 0, 0, 0), (58, 38, 0, 0, 62), (61, 3, 1, 0, 0), (62, 7, 3, 0, 0), (63, 3, 3, 0, 0), (64, 27, 0, 0, 74), (67, 5, 0, 0, 0), (68, 46, 74, 0, 0), (71, 38, 0, 0, 82), (74, 5, 0, 0, 0), (75, 39, 12, 0, 0), (78, 3, 3, 0, 0), (79, 46, 77, 0, 0), (82, 8, 4, 0, 0), (84, 5, 0, 0, 0), (85, 39, 32, 0, 0), (88, 27, 0, 0, 96), (91, 4, 4, 0, 0), (93, 27, 0, 0, 102), (96, 5, 0, 0, 0), (97, 0, 0, 1, 0), (98, 40, 32, 0, 0), (101, 49, 0, 0, 0), (102, 5, 0, 0, 0), (103, 46, 74, 0, 0), (106, 8, 5, 0, 0), (108, 5, 0, 0, 0), (109, 39, 32, 0, 0), (112, 26, 0, 0, 116), (115, 49, 0, 0, 0), (116, 5, 0, 0, 0), (117, 39, 21, 0, 0), (120, 4, 4, 0, 0), (122, 4, 5, 0, 0), (124, 46, 80, 0, 0), (127, 3, 2, 0, 0), (128, 26, 0, 0, 142), (131, 5, 0, 0, 0), (132, 39, 12, 0, 0), (135, 4, 4, 0, 0), (137, 4, 5, 0, 0), (139, 46, 84, 0, 0), (142, 49, 0, 0, 0)]
def sw_BlockReader_readField : List Swt := []
theorem dk_BlockReader_readField : ∀ q ∈ pr_BlockReader_readField, decode b_BlockReader_readField q.1 = .ok (dec sw_BlockReader_readField q) ∧ okE q = true := by decide +kernel
theorem nt_BlockReader_readField : ∀ q ∈ pr_BlockReader_readField, ¬ q.2.1 = 55 := by decide +kernel
def ct_BlockReader_readField (a : Nat) : Option (Nat × Nat × CSp × Nat × Nat) := match a with
  | 68 => some (1, 1, sp_BlockReader_nextByte, 0, 0)
  | 71 => some (2, 1, sp_BlockReader_readIndexed, 0, 0)
  | 74 => some (1, 1, sp_BlockReader_readText, 0, 0)
  | 77 => some (2, 7, sp_Table_nameAt, 0, 0)
  | 80 => some (3, 4, sp_Fields_add, 0, 0)
  | 84 => some (3, 7, sp_Table_add, 0, 0)
  | _ => none
theorem co_BlockReader_readField : ∀ a v, ct_BlockReader_readField a = some v → StcOK R_BlockReader 3 71 a v := by
  intro a v h
  unfold ct_BlockReader_readField at h
  split at h
  · cases h; exact ⟨y_BlockReader_nextByte, b_BlockReader_nextByte, 2, (some .int), 1, 21, 0, c_BlockReader_nextByte, by decide, by decide +kernel, by decide +kernel, by decide +kernel, Or.inl ⟨rfl, by decide, by decide +kernel, by decide +kernel, _, _, rfl, by decide +kernel⟩⟩
  · cases h; exact ⟨y_BlockReader_readIndexed, b_BlockReader_readIndexed, 2, none, 2, 42, 1, c_BlockReader_readIndexed, by decide, by decide +kernel, by decide +kernel, by decide +kernel, Or.inl ⟨rfl, by decide, by decide +kernel, by decide +kernel, _, _, rfl, by decide +kernel⟩⟩
  · cases h; exact ⟨y_BlockReader_readText, b_BlockReader_readText, 5, (some .int), 2, 42, 0, c_BlockReader_readText, by decide, by decide +kernel, by decide +kernel, by decide +kernel, Or.inl ⟨rfl, by decide, by decide +kernel, by decide +kernel, _, _, rfl, by decide +kernel⟩⟩
  · cases h; exact ⟨y_Table_nameAt, b_Table_nameAt, 2, (some .int), 1, 21, 1, c_Table_nameAt, by decide, by decide +kernel, by decide +kernel, by decide +kernel, Or.inl ⟨rfl, by decide, by decide +kernel, by decide +kernel, _, _, rfl, by decide +kernel⟩⟩
  · cases h; exact ⟨y_Fields_add, b_Fields_add, 3, none, 0, 0, 2, c_Fields_add, by decide, by decide +kernel, by decide +kernel, by decide +kernel, Or.inl ⟨rfl, by decide, by decide +kernel, by decide +kernel, _, _, rfl, by decide +kernel⟩⟩
  · cases h; exact ⟨y_Table_add, b_Table_add, 4, none, 2, 48, 2, c_Table_add, by decide, by decide +kernel, by decide +kernel, by decide +kernel, Or.inl ⟨rfl, by decide, by decide +kernel, by decide +kernel, _, _, rfl, by decide +kernel⟩⟩
  · cases h
/-- BlockReader_readField -/
def sp_BlockReader_readField : CSp := sR (fun q σ K _ => q.1 = 23 ∧ IV σ ∧ ∀ σ', IV σ' → Un [23, 24, 25, 26, 27, 28, 29, 30] σ σ' → K none σ')
set_option maxHeartbeats 4000000 in
set_option maxRecDepth 100000 in
theorem c_BlockReader_readField : Ctr y_BlockReader_readField b_BlockReader_readField 6 none 3 71 0 0 sp_BlockReader_readField := by
  refine ctr_of (FT := ft_BlockReader) (GT := gt_BlockReader_readField) (CT := ct_BlockReader_readField) (sw := sw_BlockReader_readField) (rt := 2) (pr := pr_BlockReader_readField) (by decide) [] (fun _ _ _ _ _ _ _ _ _ _ _ => False) 90 ⟨fun h => absurd h (by decide), fun h => absurd h (by decide), fun _ => rfl, fun h => absurd h (by decide)⟩ dk_BlockReader_readField fo_BlockReader go_BlockReader_readField co_BlockReader_readField (fun a k h hk => by unfold gt_BlockReader_readField at h; cases h) (fun q hq h => absurd h (nt_BlockReader_readField q hq)) (fun av σ K kx h => by rw [sR_len h]; decide) ?_ ?_
  · intro av σ K kx hok hSp
    obtain ⟨q0, rfl, hp⟩ := sR_inv hSp
    obtain ⟨k0, e0, i0⟩ := q0
    obtain ⟨h0, hI, h2⟩ := hp
    dsimp only at h0; subst h0
    all_goals (repeat' (first | (with_reducible assumption) | (with_reducible refine IV_upd ?_ ?_) | (with_reducible refine IV_cpy ?_ (fun _ _ _ _ => trivial)) | (refine And.intro ?_ ?_) | (intro _)))
    all_goals first | (first | rfl | decide | exact Or.inl rfl | exact Or.inr (Or.inl rfl) | exact Or.inr (Or.inr rfl) | (simp only [nrm, strm, by8] at * <;> omega) | (simp [upd4, cpy4, nrm, strm, by8] at * <;> omega)) | (exact h2) | (refine h2 _ ?_ ?_ <;> (repeat' (first | assumption | exact trivial | exact Un_rf | (apply by8_4; assumption) | (apply by8_9; assumption) | (apply by8_22; assumption) | (apply by8_g; assumption) | (refine by8_13 ?_) | (apply rg_34; assumption) | (refine ixr_by8 ?_ ?_) | (refine IV_upd ?_ ?_) | (refine Un_upd rfl ?_) | (refine IV_cpy ?_ (fun _ _ _ _ => trivial)) | (refine Un_cpy rfl ?_) | (apply Un_tr; rotate_left; assumption; rfl) | (refine And.intro ?_ ?_))) <;> (first | rfl | decide | exact Or.inl rfl | exact Or.inr (Or.inl rfl) | exact Or.inr (Or.inr rfl) | (simp only [nrm, strm, by8] at * <;> omega) | (simp [upd4, cpy4, nrm, strm, by8] at * <;> omega))) | (apply h2 <;> (repeat' (first | assumption | exact trivial | exact Un_rf | (apply by8_4; assumption) | (apply by8_9; assumption) | (apply by8_22; assumption) | (apply by8_g; assumption) | (refine by8_13 ?_) | (apply rg_34; assumption) | (refine ixr_by8 ?_ ?_) | (refine IV_upd ?_ ?_) | (refine Un_upd rfl ?_) | (refine IV_cpy ?_ (fun _ _ _ _ => trivial)) | (refine Un_cpy rfl ?_) | (apply Un_tr; rotate_left; assumption; rfl) | (refine And.intro ?_ ?_))) <;> (first | rfl | decide | exact Or.inl rfl | exact Or.inr (Or.inl rfl) | exact Or.inr (Or.inr rfl) | (simp only [nrm, strm, by8] at * <;> omega) | (simp [upd4, cpy4, nrm, strm, by8] at * <;> omega))) | ((repeat' (first | assumption | exact trivial | exact Un_rf | (apply by8_4; assumption) | (apply by8_9; assumption) | (apply by8_22; assumption) | (apply by8_g; assumption) | (refine by8_13 ?_) | (apply rg_34; assumption) | (refine ixr_by8 ?_ ?_) | (refine IV_upd ?_ ?_) | (refine Un_upd rfl ?_) | (refine IV_cpy ?_ (fun _ _ _ _ => trivial)) | (refine Un_cpy rfl ?_) | (apply Un_tr; rotate_left; assumption; rfl) | (refine And.intro ?_ ?_))) <;> (first | rfl | decide | exact Or.inl rfl | exact Or.inr (Or.inl rfl) | exact Or.inr (Or.inr rfl) | (simp only [nrm, strm, by8] at * <;> omega) | (simp [upd4, cpy4, nrm, strm, by8] at * <;> omega)))
  · intro av σ K kx n pc L st σ' nc ns _ _ h
    exact (h : False).elim
def gt_BlockReader_readLimits (a : Nat) : Option Nat := match a with
  | _ => none
theorem go_BlockReader_readLimits : ∀ a v, gt_BlockReader_readLimits a = some v → StaOK R_BlockReader a v := by
  intro a v h
  unfold gt_BlockReader_readLimits at h
  cases h
def pr_BlockReader_readLimits : List Ent := [(0, 0, 0, 0, 0), (1, 7, 2, 0, 0), (2, 3, 2, 0, 0), (3, 1, 0, 40, 0), (5, 35, 0, 0, 86), (8, 5, 0, 0, 0), (9, 46, 52, 0, 0), (12, 26, 0, 0, 86), (15, 5, 0, 0, 0), (16, 39, 36, 0, 0), (19, 5, 0, 0, 0), (20, 39, 25, 0, 0), (23, 46, 59, 0, 0), (26, 7, 3, 0, 0), (27, 3, 3, 0, 0), (28, 1, 0, 32, 0), (30, 34, 0, 0, 39), (33, 3, 3, 0, 0), (34, 1, 0, 38, 0), (36, 37, 0, 0, 40), (39, 49, 0, 0, 0), (40, 3, 3, 0, 0), (41, 1, 0, 32, 0), (43, 13, 0, 0, 0), (44, 8, 4, 0, 0), (46, 4, 4, 0, 0), (48, 3, 1, 0, 0), (49, 37, 0, 0, 58), (52, 5, 0, 0, 0), (53, 0, 0, 1, 0), (54, 40, 32, 0, 0), (57, 49, 0, 0, 0), (58, 5, 0, 0, 0), (59, 39, 12, 0, 0), (62, 4, 4, 0, 0), (64, 1, 0, 10, 0), (66, 14, 0, 0, 0), (67, 46, 65, 0, 0), (70, 5, 0, 0, 0), (71, 23, 0, 0, 0), (72, 39, 25, 0, 0), (75, 0, 0, 1, 0), (76, 12, 0, 0, 0), (77, 40, 25, 0, 0), (80, 11, 2, 1, 0), (83, 38, 0, 0, 2), (86, 49, 0, 0, 0)]
def sw_BlockReader_readLimits : List Swt := []
theorem dk_BlockReader_readLimits : ∀ q ∈ pr_BlockReader_readLimits, decode b_BlockReader_readLimits q.1 = .ok (dec sw_BlockReader_readLimits q) ∧ okE q = true := by decide +kernel
theorem nt_BlockReader_readLimits : ∀ q ∈ pr_BlockReader_readLimits, ¬ q.2.1 = 55 := by decide +kernel
def ct_BlockReader_readLimits (a : Nat) : Option (Nat × Nat × CSp × Nat × Nat) := match a with
  | 52 => some (1, 1, sp_BlockReader_hasMore, 0, 0)
  | 59 => some (2, 5, sp_Frame_at, 0, 0)
  | 65 => some (2, 7, sp_Table_changeLimit, 0, 0)
  | _ => none
theorem co_BlockReader_readLimits : ∀ a v, ct_BlockReader_readLimits a = some v → StcOK R_BlockReader 3 69 a v := by
  intro a v h
  unfold ct_BlockReader_readLimits at h
  split at h
  · cases h; exact ⟨y_BlockReader_hasMore, b_BlockReader_hasMore, 1, (some .boolean), 0, 0, 0, c_BlockReader_hasMore, by decide, by decide +kernel, by decide +kernel, by decide +kernel, Or.inl ⟨rfl, by decide, by decide +kernel, by decide +kernel, _, _, rfl, by decide +kernel⟩⟩
  · cases h; exact ⟨y_Frame_at, b_Frame_at, 2, (some .int), 0, 0, 1, c_Frame_at, by decide, by decide +kernel, by decide +kernel, by decide +kernel, Or.inl ⟨rfl, by decide, by decide +kernel, by decide +kernel, _, _, rfl, by decide +kernel⟩⟩
  · cases h; exact ⟨y_Table_changeLimit, b_Table_changeLimit, 2, none, 2, 48, 1, c_Table_changeLimit, by decide, by decide +kernel, by decide +kernel, by decide +kernel, Or.inl ⟨rfl, by decide, by decide +kernel, by decide +kernel, _, _, rfl, by decide +kernel⟩⟩
  · cases h
/-- BlockReader_readLimits -/
def sp_BlockReader_readLimits : CSp := sRI (fun q x σ K _ => q.1 = 23 ∧ IV σ ∧ ∀ σ', IV σ' → Un [23, 24, 25, 26, 27] σ σ' → K none σ')
set_option maxHeartbeats 4000000 in
set_option maxRecDepth 100000 in
theorem c_BlockReader_readLimits : Ctr y_BlockReader_readLimits b_BlockReader_readLimits 5 none 3 69 0 0 sp_BlockReader_readLimits := by
  refine ctr_of (FT := ft_BlockReader) (GT := gt_BlockReader_readLimits) (CT := ct_BlockReader_readLimits) (sw := sw_BlockReader_readLimits) (rt := 2) (pr := pr_BlockReader_readLimits) (by decide) [2] (fun av σ _ _ n pc L st σ' nc ns => ∃ e i x j o1 o2, av = [.inr (23, e, i), .inl x] ∧ pc = 2 ∧ L = [some (.inr (23, e, i)), some (.inl x), some (.inl j), o1, o2] ∧ st = [] ∧ nc = 0 ∧ ns = 0 ∧ 0 ≤ j ∧ j ≤ 40 ∧ n = (40 - j).toNat ∧ IV σ' ∧ Un [23, 24, 25, 26, 27] σ σ') 60 ⟨fun h => absurd h (by decide), fun h => absurd h (by decide), fun _ => rfl, fun h => absurd h (by decide)⟩ dk_BlockReader_readLimits fo_BlockReader go_BlockReader_readLimits co_BlockReader_readLimits (fun a k h hk => by unfold gt_BlockReader_readLimits at h; cases h) (fun q hq h => absurd h (nt_BlockReader_readLimits q hq)) (fun av σ K kx h => by rw [sRI_len h]; decide) ?_ ?_
  · intro av σ K kx hok hSp
    obtain ⟨q0, x0, rfl, hp⟩ := sRI_inv hSp
    obtain ⟨k0, e0, i0⟩ := q0
    obtain ⟨h0, hI, hf⟩ := hp
    dsimp only at h0; subst h0
    all_goals (repeat' (first | (with_reducible assumption) | (with_reducible refine IV_upd ?_ ?_) | (with_reducible refine IV_cpy ?_ (fun _ _ _ _ => trivial)) | (refine And.intro ?_ ?_) | (intro _)))
    all_goals first | (first | rfl | decide | exact Or.inl rfl | exact Or.inr (Or.inl rfl) | exact Or.inr (Or.inr rfl) | (simp only [nrm, strm, by8] at * <;> omega) | (simp [upd4, cpy4, nrm, strm, by8] at * <;> omega)) | (apply hf <;> (repeat' (first | assumption | exact trivial | exact Un_rf | (apply by8_4; assumption) | (apply by8_9; assumption) | (apply by8_22; assumption) | (apply by8_g; assumption) | (refine by8_13 ?_) | (apply rg_34; assumption) | (refine ixr_by8 ?_ ?_) | (refine IV_upd ?_ ?_) | (refine Un_upd rfl ?_) | (refine IV_cpy ?_ (fun _ _ _ _ => trivial)) | (refine Un_cpy rfl ?_) | (apply Un_tr; rotate_left; assumption; rfl) | (refine And.intro ?_ ?_))) <;> (first | rfl | decide | exact Or.inl rfl | exact Or.inr (Or.inl rfl) | exact Or.inr (Or.inr rfl) | (simp only [nrm, strm, by8] at * <;> omega) | (simp [upd4, cpy4, nrm, strm, by8] at * <;> omega))) | (refine ⟨((40 : Int) - (0)).toNat, e0, i0, x0, 0, _, _, rfl, rfl, rfl, rfl, rfl, rfl, ?_, ?_, rfl, ?_, ?_⟩ <;> (repeat' (first | assumption | exact trivial | exact Un_rf | (apply by8_4; assumption) | (apply by8_9; assumption) | (apply by8_22; assumption) | (apply by8_g; assumption) | (refine by8_13 ?_) | (apply rg_34; assumption) | (refine ixr_by8 ?_ ?_) | (refine IV_upd ?_ ?_) | (refine Un_upd rfl ?_) | (refine IV_cpy ?_ (fun _ _ _ _ => trivial)) | (refine Un_cpy rfl ?_) | (apply Un_tr; rotate_left; assumption; rfl) | (refine And.intro ?_ ?_))) <;> (first | rfl | decide | exact Or.inl rfl | exact Or.inr (Or.inl rfl) | exact Or.inr (Or.inr rfl) | (simp only [nrm, strm, by8] at * <;> omega) | (simp [upd4, cpy4, nrm, strm, by8] at * <;> omega))) | ((repeat' (first | assumption | exact trivial | exact Un_rf | (apply by8_4; assumption) | (apply by8_9; assumption) | (apply by8_22; assumption) | (apply by8_g; assumption) | (refine by8_13 ?_) | (apply rg_34; assumption) | (refine ixr_by8 ?_ ?_) | (refine IV_upd ?_ ?_) | (refine Un_upd rfl ?_) | (refine IV_cpy ?_ (fun _ _ _ _ => trivial)) | (refine Un_cpy rfl ?_) | (apply Un_tr; rotate_left; assumption; rfl) | (refine And.intro ?_ ?_))) <;> (first | rfl | decide | exact Or.inl rfl | exact Or.inr (Or.inl rfl) | exact Or.inr (Or.inr rfl) | (simp only [nrm, strm, by8] at * <;> omega) | (simp [upd4, cpy4, nrm, strm, by8] at * <;> omega)))
  · intro av σ K kx n pc L st σ' nc ns hok hSp hJ
    obtain ⟨e, i, x, j, o1, o2, rfl, rfl, rfl, rfl, rfl, rfl, c0, c1, hn, hI, hU⟩ := hJ
    obtain ⟨-, -, hf⟩ : (23 : Nat) = 23 ∧ IV σ ∧ ∀ σ', IV σ' → Un [23, 24, 25, 26, 27] σ σ' → K none σ' := hSp
    all_goals (repeat' (first | (with_reducible assumption) | (with_reducible refine IV_upd ?_ ?_) | (with_reducible refine IV_cpy ?_ (fun _ _ _ _ => trivial)) | (refine And.intro ?_ ?_) | (intro _)))
    all_goals first | (first | rfl | decide | exact Or.inl rfl | exact Or.inr (Or.inl rfl) | exact Or.inr (Or.inr rfl) | (simp only [nrm, strm, by8] at * <;> omega) | (simp [upd4, cpy4, nrm, strm, by8] at * <;> omega)) | (apply hf <;> (repeat' (first | assumption | exact trivial | exact Un_rf | (apply by8_4; assumption) | (apply by8_9; assumption) | (apply by8_22; assumption) | (apply by8_g; assumption) | (refine by8_13 ?_) | (apply rg_34; assumption) | (refine ixr_by8 ?_ ?_) | (refine IV_upd ?_ ?_) | (refine Un_upd rfl ?_) | (refine IV_cpy ?_ (fun _ _ _ _ => trivial)) | (refine Un_cpy rfl ?_) | (apply Un_tr; rotate_left; assumption; rfl) | (refine And.intro ?_ ?_))) <;> (first | rfl | decide | exact Or.inl rfl | exact Or.inr (Or.inl rfl) | exact Or.inr (Or.inr rfl) | (simp only [nrm, strm, by8] at * <;> omega) | (simp [upd4, cpy4, nrm, strm, by8] at * <;> omega))) | (refine ⟨((40 : Int) - (j + 1)).toNat, ?_, e, i, x, j + 1, _, _, rfl, rfl, rfl, rfl, rfl, rfl, ?_, ?_, rfl, ?_, ?_⟩ <;> (repeat' (first | assumption | exact trivial | exact Un_rf | (apply by8_4; assumption) | (apply by8_9; assumption) | (apply by8_22; assumption) | (apply by8_g; assumption) | (refine by8_13 ?_) | (apply rg_34; assumption) | (refine ixr_by8 ?_ ?_) | (refine IV_upd ?_ ?_) | (refine Un_upd rfl ?_) | (refine IV_cpy ?_ (fun _ _ _ _ => trivial)) | (refine Un_cpy rfl ?_) | (apply Un_tr; rotate_left; assumption; rfl) | (refine And.intro ?_ ?_))) <;> (first | rfl | decide | exact Or.inl rfl | exact Or.inr (Or.inl rfl) | exact Or.inr (Or.inr rfl) | (simp only [nrm, strm, by8] at * <;> omega) | (simp [upd4, cpy4, nrm, strm, by8] at * <;> omega))) | ((repeat' (first | assumption | exact trivial | exact Un_rf | (apply by8_4; assumption) | (apply by8_9; assumption) | (apply by8_22; assumption) | (apply by8_g; assumption) | (refine by8_13 ?_) | (apply rg_34; assumption) | (refine ixr_by8 ?_ ?_) | (refine IV_upd ?_ ?_) | (refine Un_upd rfl ?_) | (refine IV_cpy ?_ (fun _ _ _ _ => trivial)) | (refine Un_cpy rfl ?_) | (apply Un_tr; rotate_left; assumption; rfl) | (refine And.intro ?_ ?_))) <;> (first | rfl | decide | exact Or.inl rfl | exact Or.inr (Or.inl rfl) | exact Or.inr (Or.inr rfl) | (simp only [nrm, strm, by8] at * <;> omega) | (simp [upd4, cpy4, nrm, strm, by8] at * <;> omega)))
def gt_BlockReader_read (a : Nat) : Option Nat := match a with
  | _ => none
theorem go_BlockReader_read : ∀ a v, gt_BlockReader_read a = some v → StaOK R_BlockReader a v := by
  intro a v h
  unfold gt_BlockReader_read at h
  cases h
def pr_BlockReader_read : List Ent := [(0, 5, 0, 0, 0), (1, 0, 0, 0, 0), (2, 40, 25, 0, 0), (5, 5, 0, 0, 0), (6, 5, 0, 0, 0), (7, 39, 36, 0, 0), (10, 46, 40, 0, 0), (13, 40, 29, 0, 0), (16, 5, 0, 0, 0), (17, 0, 0, 0, 0), (18, 40, 32, 0, 0), (21, 5, 0, 0, 0), (22, 39, 21, 0, 0), (25, 46, 45, 0, 0), (28, 5, 0, 0, 0), (29, 3, 1, 0, 0), (30, 46, 48, 0, 0), (33, 0, 0, 0, 0), (34, 7, 2, 0, 0), (35, 3, 2, 0, 0), (36, 0, 0, 5, 0), (37, 35, 0, 0, 57), (40, 5, 0, 0, 0), (41, 46, 52, 0, 0), (44, 26, 0, 0, 57), (47, 5, 0, 0, 0), (48, 46, 56, 0, 0), (51, 11, 2, 1, 0), (54, 38, 0, 0, 35), (57, 5, 0, 0, 0), (58, 39, 32, 0, 0), (61, 27, 0, 0, 79), (64, 5, 0, 0, 0), (65, 39, 25, 0, 0), (68, 5, 0, 0, 0), (69, 39, 29, 0, 0), (72, 33, 0, 0, 79), (75, 0, 0, 1, 0), (76, 38, 0, 0, 80), (79, 0, 0, 0, 0), (80, 48, 0, 0, 0)]
def sw_BlockReader_read : List Swt := []
theorem dk_BlockReader_read : ∀ q ∈ pr_BlockReader_read, decode b_BlockReader_read q.1 = .ok (dec sw_BlockReader_read q) ∧ okE q = true := by decide +kernel
theorem nt_BlockReader_read : ∀ q ∈ pr_BlockReader_read, ¬ q.2.1 = 55 := by decide +kernel
def ct_BlockReader_read (a : Nat) : Option (Nat × Nat × CSp × Nat × Nat) := match a with
  | 40 => some (1, 5, sp_Frame_length, 0, 0)
  | 45 => some (1, 4, sp_Fields_clear, 0, 0)
  | 48 => some (2, 1, sp_BlockReader_readLimits, 0, 0)
  | 52 => some (1, 1, sp_BlockReader_hasMore, 0, 0)
  | 56 => some (1, 1, sp_BlockReader_readField, 0, 0)
  | _ => none
theorem co_BlockReader_read : ∀ a v, ct_BlockReader_read a = some v → StcOK R_BlockReader 4 96 a v := by
  intro a v h
  unfold ct_BlockReader_read at h
  split at h
  · cases h; exact ⟨y_Frame_length, b_Frame_length, 1, (some .int), 0, 0, 0, c_Frame_length, by decide, by decide +kernel, by decide +kernel, by decide +kernel, Or.inl ⟨rfl, by decide, by decide +kernel, by decide +kernel, _, _, rfl, by decide +kernel⟩⟩
  · cases h; exact ⟨y_Fields_clear, b_Fields_clear, 1, none, 0, 0, 0, c_Fields_clear, by decide, by decide +kernel, by decide +kernel, by decide +kernel, Or.inl ⟨rfl, by decide, by decide +kernel, by decide +kernel, _, _, rfl, by decide +kernel⟩⟩
  · cases h; exact ⟨y_BlockReader_readLimits, b_BlockReader_readLimits, 5, none, 3, 69, 1, c_BlockReader_readLimits, by decide, by decide +kernel, by decide +kernel, by decide +kernel, Or.inl ⟨rfl, by decide, by decide +kernel, by decide +kernel, _, _, rfl, by decide +kernel⟩⟩
  · cases h; exact ⟨y_BlockReader_hasMore, b_BlockReader_hasMore, 1, (some .boolean), 0, 0, 0, c_BlockReader_hasMore, by decide, by decide +kernel, by decide +kernel, by decide +kernel, Or.inl ⟨rfl, by decide, by decide +kernel, by decide +kernel, _, _, rfl, by decide +kernel⟩⟩
  · cases h; exact ⟨y_BlockReader_readField, b_BlockReader_readField, 6, none, 3, 71, 0, c_BlockReader_readField, by decide, by decide +kernel, by decide +kernel, by decide +kernel, Or.inl ⟨rfl, by decide, by decide +kernel, by decide +kernel, _, _, rfl, by decide +kernel⟩⟩
  · cases h
/-- BlockReader_read -/
def sp_BlockReader_read : CSp := sRI (fun q x σ K _ => q.1 = 23 ∧ IV σ ∧ ∀ r σ', (r = 0 ∨ r = 1) → IV σ' → Un [23, 24, 25, 26, 27, 28, 29, 30] σ σ' → K (some (.inl r)) σ')
set_option maxHeartbeats 4000000 in
set_option maxRecDepth 100000 in
theorem c_BlockReader_read : Ctr y_BlockReader_read b_BlockReader_read 3 (some .boolean) 4 96 0 0 sp_BlockReader_read := by
  refine ctr_of (FT := ft_BlockReader) (GT := gt_BlockReader_read) (CT := ct_BlockReader_read) (sw := sw_BlockReader_read) (rt := 1) (pr := pr_BlockReader_read) (by decide) [35] (fun av σ _ _ n pc L st σ' nc ns => ∃ e i x j, av = [.inr (23, e, i), .inl x] ∧ pc = 35 ∧ L = [some (.inr (23, e, i)), some (.inl x), some (.inl j)] ∧ st = [] ∧ nc = 0 ∧ ns = 0 ∧ 0 ≤ j ∧ j ≤ 5 ∧ n = (5 - j).toNat ∧ IV σ' ∧ Un [23, 24, 25, 26, 27, 28, 29, 30] σ σ') 60 ⟨fun h => absurd h (by decide), fun _ => rfl, fun h => absurd h (by decide), fun h => absurd h (by decide)⟩ dk_BlockReader_read fo_BlockReader go_BlockReader_read co_BlockReader_read (fun a k h hk => by unfold gt_BlockReader_read at h; cases h) (fun q hq h => absurd h (nt_BlockReader_read q hq)) (fun av σ K kx h => by rw [sRI_len h]; decide) ?_ ?_
  · intro av σ K kx hok hSp
    obtain ⟨q0, x0, rfl, hp⟩ := sRI_inv hSp
    obtain ⟨k0, e0, i0⟩ := q0
    obtain ⟨h0, hI, hf⟩ := hp
    dsimp only at h0; subst h0
    all_goals (repeat' (first | (with_reducible assumption) | (with_reducible refine IV_upd ?_ ?_) | (with_reducible refine IV_cpy ?_ (fun _ _ _ _ => trivial)) | (refine And.intro ?_ ?_) | (intro _)))
    all_goals first | (first | rfl | decide | exact Or.inl rfl | exact Or.inr (Or.inl rfl) | exact Or.inr (Or.inr rfl) | (simp only [nrm, strm, by8] at * <;> omega) | (simp [upd4, cpy4, nrm, strm, by8] at * <;> omega)) | (apply hf <;> (repeat' (first | assumption | exact trivial | exact Un_rf | (apply by8_4; assumption) | (apply by8_9; assumption) | (apply by8_22; assumption) | (apply by8_g; assumption) | (refine by8_13 ?_) | (apply rg_34; assumption) | (refine ixr_by8 ?_ ?_) | (refine IV_upd ?_ ?_) | (refine Un_upd rfl ?_) | (refine IV_cpy ?_ (fun _ _ _ _ => trivial)) | (refine Un_cpy rfl ?_) | (apply Un_tr; rotate_left; assumption; rfl) | (refine And.intro ?_ ?_))) <;> (first | rfl | decide | exact Or.inl rfl | exact Or.inr (Or.inl rfl) | exact Or.inr (Or.inr rfl) | (simp only [nrm, strm, by8] at * <;> omega) | (simp [upd4, cpy4, nrm, strm, by8] at * <;> omega))) | (refine ⟨((5 : Int) - (0)).toNat, e0, i0, x0, 0, rfl, rfl, rfl, rfl, rfl, rfl, ?_, ?_, rfl, ?_, ?_⟩ <;> (repeat' (first | assumption | exact trivial | exact Un_rf | (apply by8_4; assumption) | (apply by8_9; assumption) | (apply by8_22; assumption) | (apply by8_g; assumption) | (refine by8_13 ?_) | (apply rg_34; assumption) | (refine ixr_by8 ?_ ?_) | (refine IV_upd ?_ ?_) | (refine Un_upd rfl ?_) | (refine IV_cpy ?_ (fun _ _ _ _ => trivial)) | (refine Un_cpy rfl ?_) | (apply Un_tr; rotate_left; assumption; rfl) | (refine And.intro ?_ ?_))) <;> (first | rfl | decide | exact Or.inl rfl | exact Or.inr (Or.inl rfl) | exact Or.inr (Or.inr rfl) | (simp only [nrm, strm, by8] at * <;> omega) | (simp [upd4, cpy4, nrm, strm, by8] at * <;> omega))) | ((repeat' (first | assumption | exact trivial | exact Un_rf | (apply by8_4; assumption) | (apply by8_9; assumption) | (apply by8_22; assumption) | (apply by8_g; assumption) | (refine by8_13 ?_) | (apply rg_34; assumption) | (refine ixr_by8 ?_ ?_) | (refine IV_upd ?_ ?_) | (refine Un_upd rfl ?_) | (refine IV_cpy ?_ (fun _ _ _ _ => trivial)) | (refine Un_cpy rfl ?_) | (apply Un_tr; rotate_left; assumption; rfl) | (refine And.intro ?_ ?_))) <;> (first | rfl | decide | exact Or.inl rfl | exact Or.inr (Or.inl rfl) | exact Or.inr (Or.inr rfl) | (simp only [nrm, strm, by8] at * <;> omega) | (simp [upd4, cpy4, nrm, strm, by8] at * <;> omega)))
  · intro av σ K kx n pc L st σ' nc ns hok hSp hJ
    obtain ⟨e, i, x, j, rfl, rfl, rfl, rfl, rfl, rfl, c0, c1, hn, hI, hU⟩ := hJ
    obtain ⟨-, -, hf⟩ : (23 : Nat) = 23 ∧ IV σ ∧ ∀ r σ', (r = 0 ∨ r = 1) → IV σ' → Un [23, 24, 25, 26, 27, 28, 29, 30] σ σ' → K (some (.inl r)) σ' := hSp
    all_goals (repeat' (first | (with_reducible assumption) | (with_reducible refine IV_upd ?_ ?_) | (with_reducible refine IV_cpy ?_ (fun _ _ _ _ => trivial)) | (refine And.intro ?_ ?_) | (intro _)))
    all_goals first | (first | rfl | decide | exact Or.inl rfl | exact Or.inr (Or.inl rfl) | exact Or.inr (Or.inr rfl) | (simp only [nrm, strm, by8] at * <;> omega) | (simp [upd4, cpy4, nrm, strm, by8] at * <;> omega)) | (apply hf <;> (repeat' (first | assumption | exact trivial | exact Un_rf | (apply by8_4; assumption) | (apply by8_9; assumption) | (apply by8_22; assumption) | (apply by8_g; assumption) | (refine by8_13 ?_) | (apply rg_34; assumption) | (refine ixr_by8 ?_ ?_) | (refine IV_upd ?_ ?_) | (refine Un_upd rfl ?_) | (refine IV_cpy ?_ (fun _ _ _ _ => trivial)) | (refine Un_cpy rfl ?_) | (apply Un_tr; rotate_left; assumption; rfl) | (refine And.intro ?_ ?_))) <;> (first | rfl | decide | exact Or.inl rfl | exact Or.inr (Or.inl rfl) | exact Or.inr (Or.inr rfl) | (simp only [nrm, strm, by8] at * <;> omega) | (simp [upd4, cpy4, nrm, strm, by8] at * <;> omega))) | (refine ⟨((5 : Int) - (j + 1)).toNat, ?_, e, i, x, j + 1, rfl, rfl, rfl, rfl, rfl, rfl, ?_, ?_, rfl, ?_, ?_⟩ <;> (repeat' (first | assumption | exact trivial | exact Un_rf | (apply by8_4; assumption) | (apply by8_9; assumption) | (apply by8_22; assumption) | (apply by8_g; assumption) | (refine by8_13 ?_) | (apply rg_34; assumption) | (refine ixr_by8 ?_ ?_) | (refine IV_upd ?_ ?_) | (refine Un_upd rfl ?_) | (refine IV_cpy ?_ (fun _ _ _ _ => trivial)) | (refine Un_cpy rfl ?_) | (apply Un_tr; rotate_left; assumption; rfl) | (refine And.intro ?_ ?_))) <;> (first | rfl | decide | exact Or.inl rfl | exact Or.inr (Or.inl rfl) | exact Or.inr (Or.inr rfl) | (simp only [nrm, strm, by8] at * <;> omega) | (simp [upd4, cpy4, nrm, strm, by8] at * <;> omega))) | ((repeat' (first | assumption | exact trivial | exact Un_rf | (apply by8_4; assumption) | (apply by8_9; assumption) | (apply by8_22; assumption) | (apply by8_g; assumption) | (refine by8_13 ?_) | (apply rg_34; assumption) | (refine ixr_by8 ?_ ?_) | (refine IV_upd ?_ ?_) | (refine Un_upd rfl ?_) | (refine IV_cpy ?_ (fun _ _ _ _ => trivial)) | (refine Un_cpy rfl ?_) | (apply Un_tr; rotate_left; assumption; rfl) | (refine And.intro ?_ ?_))) <;> (first | rfl | decide | exact Or.inl rfl | exact Or.inr (Or.inl rfl) | exact Or.inr (Or.inr rfl) | (simp only [nrm, strm, by8] at * <;> omega) | (simp [upd4, cpy4, nrm, strm, by8] at * <;> omega)))
