def gt_End_tellKnown (a : Nat) : Option Nat := match a with
  | _ => none
theorem go_End_tellKnown : ∀ a v, gt_End_tellKnown a = some v → StaOK R_End a v := by
  intro a v h
  unfold gt_End_tellKnown at h
  cases h
def pr_End_tellKnown : List Ent := [(0, 3, 1, 0, 0), (1, 28, 0, 0, 22), (4, 3, 1, 0, 0), (5, 5, 0, 0, 0), (6, 39, 43, 0, 0), (9, 44, 0, 0, 0), (10, 35, 0, 0, 22), (13, 5, 0, 0, 0), (14, 39, 43, 0, 0), (17, 3, 1, 0, 0), (18, 41, 0, 0, 0), (19, 38, 0, 0, 23), (22, 0, 0, 0, 0), (23, 48, 0, 0, 0)]
def sw_End_tellKnown : List Swt := []
theorem dk_End_tellKnown : ∀ q ∈ pr_End_tellKnown, decode b_End_tellKnown q.1 = .ok (dec sw_End_tellKnown q) ∧ okE q = true := by decide +kernel
theorem nt_End_tellKnown : ∀ q ∈ pr_End_tellKnown, ¬ q.2.1 = 55 := by decide +kernel
def ct_End_tellKnown (a : Nat) : Option (Nat × Nat × CSp × Nat × Nat) := match a with
  | _ => none
theorem co_End_tellKnown : ∀ a v, ct_End_tellKnown a = some v → StcOK R_End 0 0 a v := by
  intro a v h
  unfold ct_End_tellKnown at h
  cases h
/-- End_tellKnown -/
def sp_End_tellKnown : CSp := sRI (fun q x σ K _ => q.1 = 7 ∧ ∀ r, K (some (.inl r)) σ)
set_option maxHeartbeats 4000000 in
set_option maxRecDepth 100000 in
theorem c_End_tellKnown : Ctr y_End_tellKnown b_End_tellKnown 2 (some .int) 0 0 0 0 sp_End_tellKnown := by
  refine ctr_of (FT := ft_End) (GT := gt_End_tellKnown) (CT := ct_End_tellKnown) (sw := sw_End_tellKnown) (rt := 0) (pr := pr_End_tellKnown) (by decide) [] (fun _ _ _ _ _ _ _ _ _ _ _ => False) 30 ⟨fun _ => rfl, fun h => absurd h (by decide), fun h => absurd h (by decide), fun h => absurd h (by decide)⟩ dk_End_tellKnown fo_End go_End_tellKnown co_End_tellKnown (fun a k h hk => by unfold gt_End_tellKnown at h; cases h) (fun q hq h => absurd h (nt_End_tellKnown q hq)) (fun av σ K kx h => by rw [sRI_len h]; decide) ?_ ?_
  · intro av σ K kx hok hSp
    obtain ⟨q0, x0, rfl, hp⟩ := sRI_inv hSp
    obtain ⟨k0, e0, i0⟩ := q0
    obtain ⟨h0, h1⟩ := hp
    dsimp only at h0; subst h0
    all_goals (repeat' (first | (with_reducible assumption) | (with_reducible (apply by8_9; assumption)) | (with_reducible (apply by8_4; assumption)) | (with_reducible (apply by8_22; assumption)) | (with_reducible (apply by8_g; assumption)) | (with_reducible (apply rg34_of <;> assumption)) | (with_reducible refine rg_max ?_ ?_) | (with_reducible refine IV_upd ?_ ?_) | (with_reducible refine IV_cpy ?_ (fun _ _ _ _ => trivial)) | (refine And.intro ?_ ?_) | (intro _)))
    all_goals first | (exact h1) | (refine h1 _ ?_ ?_ <;> (repeat' (first | assumption | exact trivial | exact Un_rf | (apply by8_4; assumption) | (apply by8_9; assumption) | (apply by8_22; assumption) | (apply by8_g; assumption) | (refine by8_13 ?_) | (apply rg34_of <;> assumption) | (refine rg_max ?_ ?_) | (apply rg_34; assumption) | (refine ixr_by8 ?_ ?_) | (refine IV_upd ?_ ?_) | (refine Un_upd rfl ?_) | (refine IV_cpy ?_ (fun _ _ _ _ => trivial)) | (refine Un_cpy rfl ?_) | (apply Un_tr; rotate_left; assumption; rfl) | (refine And.intro ?_ ?_))) <;> (first | rfl | decide | exact Or.inl rfl | exact Or.inr (Or.inl rfl) | exact Or.inr (Or.inr rfl) | (simp only [nrm, strm, by8] at * <;> omega) | (simp [upd4, cpy4, nrm, strm, by8] at * <;> omega))) | (apply h1 <;> (repeat' (first | assumption | exact trivial | exact Un_rf | (apply by8_4; assumption) | (apply by8_9; assumption) | (apply by8_22; assumption) | (apply by8_g; assumption) | (refine by8_13 ?_) | (apply rg34_of <;> assumption) | (refine rg_max ?_ ?_) | (apply rg_34; assumption) | (refine ixr_by8 ?_ ?_) | (refine IV_upd ?_ ?_) | (refine Un_upd rfl ?_) | (refine IV_cpy ?_ (fun _ _ _ _ => trivial)) | (refine Un_cpy rfl ?_) | (apply Un_tr; rotate_left; assumption; rfl) | (refine And.intro ?_ ?_))) <;> (first | rfl | decide | exact Or.inl rfl | exact Or.inr (Or.inl rfl) | exact Or.inr (Or.inr rfl) | (simp only [nrm, strm, by8] at * <;> omega) | (simp [upd4, cpy4, nrm, strm, by8] at * <;> omega))) | (first | rfl | decide | exact Or.inl rfl | exact Or.inr (Or.inl rfl) | exact Or.inr (Or.inr rfl) | (simp only [nrm, strm, by8] at * <;> omega) | (simp [upd4, cpy4, nrm, strm, by8] at * <;> omega)) | ((repeat' (first | assumption | exact trivial | exact Un_rf | (apply by8_4; assumption) | (apply by8_9; assumption) | (apply by8_22; assumption) | (apply by8_g; assumption) | (refine by8_13 ?_) | (apply rg34_of <;> assumption) | (refine rg_max ?_ ?_) | (apply rg_34; assumption) | (refine ixr_by8 ?_ ?_) | (refine IV_upd ?_ ?_) | (refine Un_upd rfl ?_) | (refine IV_cpy ?_ (fun _ _ _ _ => trivial)) | (refine Un_cpy rfl ?_) | (apply Un_tr; rotate_left; assumption; rfl) | (refine And.intro ?_ ?_))) <;> (first | rfl | decide | exact Or.inl rfl | exact Or.inr (Or.inl rfl) | exact Or.inr (Or.inr rfl) | (simp only [nrm, strm, by8] at * <;> omega) | (simp [upd4, cpy4, nrm, strm, by8] at * <;> omega)))
  · intro av σ K kx n pc L st σ' nc ns _ _ h
    exact (h : False).elim
def gt_End_tell (a : Nat) : Option Nat := match a with
  | _ => none
theorem go_End_tell : ∀ a v, gt_End_tell a = some v → StaOK R_End a v := by
  intro a v h
  unfold gt_End_tell at h
  cases h
def pr_End_tell : List Ent := [(0, 3, 1, 0, 0), (1, 51, 0, 0, 0), (48, 5, 0, 0, 0), (49, 39, 59, 0, 0), (52, 48, 0, 0, 0), (53, 5, 0, 0, 0), (54, 39, 66, 0, 0), (57, 46, 268, 0, 0), (60, 48, 0, 0, 0), (61, 5, 0, 0, 0), (62, 39, 21, 0, 0), (65, 46, 271, 0, 0), (68, 46, 275, 0, 0), (71, 48, 0, 0, 0), (72, 5, 0, 0, 0), (73, 39, 85, 0, 0), (76, 46, 278, 0, 0), (79, 46, 275, 0, 0), (82, 48, 0, 0, 0), (83, 5, 0, 0, 0), (84, 39, 53, 0, 0), (87, 48, 0, 0, 0), (88, 5, 0, 0, 0), (89, 46, 110, 0, 0), (92, 48, 0, 0, 0), (93, 5, 0, 0, 0), (94, 39, 12, 0, 0), (97, 46, 279, 0, 0), (100, 48, 0, 0, 0), (101, 5, 0, 0, 0), (102, 39, 56, 0, 0), (105, 48, 0, 0, 0), (106, 5, 0, 0, 0), (107, 3, 1, 0, 0), (108, 1, 0, 8, 0), (110, 13, 0, 0, 0), (111, 46, 280, 0, 0), (114, 48, 0, 0, 0)]
def sw_End_tell : List Swt := [(0, [48, 53, 61, 72, 83, 88, 93, 101], 106, 47)]
theorem dk_End_tell : ∀ q ∈ pr_End_tell, decode b_End_tell q.1 = .ok (dec sw_End_tell q) ∧ okE q = true := by decide +kernel
theorem nt_End_tell : ∀ q ∈ pr_End_tell, ¬ q.2.1 = 55 := by decide +kernel
def ct_End_tell (a : Nat) : Option (Nat × Nat × CSp × Nat × Nat) := match a with
  | 110 => some (1, 3, sp_End_liveStreams, 0, 0)
  | 268 => some (1, 8, sp_Wire_count, 0, 0)
  | 271 => some (1, 2, sp_BlockWriter_table, 0, 0)
  | 275 => some (1, 7, sp_Table_count, 0, 0)
  | 278 => some (1, 1, sp_BlockReader_table, 0, 0)
  | 279 => some (1, 4, sp_Fields_count, 0, 0)
  | 280 => some (2, 3, sp_End_tellKnown, 0, 0)
  | _ => none
theorem co_End_tell : ∀ a v, ct_End_tell a = some v → StcOK R_End 3 62 a v := by
  intro a v h
  unfold ct_End_tell at h
  split at h
  · cases h; exact ⟨y_End_liveStreams, b_End_liveStreams, 3, (some .int), 2, 40, 0, c_End_liveStreams, by decide, by decide +kernel, by decide +kernel, by decide +kernel, Or.inl ⟨rfl, by decide, by decide +kernel, by decide +kernel, _, _, rfl, by decide +kernel⟩⟩
  · cases h; exact ⟨y_Wire_count, b_Wire_count, 1, (some .int), 0, 0, 0, c_Wire_count, by decide, by decide +kernel, by decide +kernel, by decide +kernel, Or.inl ⟨rfl, by decide, by decide +kernel, by decide +kernel, _, _, rfl, by decide +kernel⟩⟩
  · cases h; exact ⟨y_BlockWriter_table, b_BlockWriter_table, 1, (some (.object "FrameStreams$Table")), 0, 0, 0, c_BlockWriter_table, by decide, by decide +kernel, by decide +kernel, by decide +kernel, Or.inl ⟨rfl, by decide, by decide +kernel, by decide +kernel, _, _, rfl, by decide +kernel⟩⟩
  · cases h; exact ⟨y_Table_count, b_Table_count, 1, (some .int), 0, 0, 0, c_Table_count, by decide, by decide +kernel, by decide +kernel, by decide +kernel, Or.inl ⟨rfl, by decide, by decide +kernel, by decide +kernel, _, _, rfl, by decide +kernel⟩⟩
  · cases h; exact ⟨y_BlockReader_table, b_BlockReader_table, 1, (some (.object "FrameStreams$Table")), 0, 0, 0, c_BlockReader_table, by decide, by decide +kernel, by decide +kernel, by decide +kernel, Or.inl ⟨rfl, by decide, by decide +kernel, by decide +kernel, _, _, rfl, by decide +kernel⟩⟩
  · cases h; exact ⟨y_Fields_count, b_Fields_count, 1, (some .int), 0, 0, 0, c_Fields_count, by decide, by decide +kernel, by decide +kernel, by decide +kernel, Or.inl ⟨rfl, by decide, by decide +kernel, by decide +kernel, _, _, rfl, by decide +kernel⟩⟩
  · cases h; exact ⟨y_End_tellKnown, b_End_tellKnown, 2, (some .int), 0, 0, 1, c_End_tellKnown, by decide, by decide +kernel, by decide +kernel, by decide +kernel, Or.inl ⟨rfl, by decide, by decide +kernel, by decide +kernel, _, _, rfl, by decide +kernel⟩⟩
  · cases h
/-- End_tell -/
def sp_End_tell : CSp := sRI (fun q x σ K _ => q.1 = 7 ∧ ∀ r, K (some (.inl r)) σ)
set_option maxHeartbeats 4000000 in
set_option maxRecDepth 100000 in
theorem c_End_tell : Ctr y_End_tell b_End_tell 2 (some .int) 3 62 0 0 sp_End_tell := by
  refine ctr_of (FT := ft_End) (GT := gt_End_tell) (CT := ct_End_tell) (sw := sw_End_tell) (rt := 0) (pr := pr_End_tell) (by decide) [] (fun _ _ _ _ _ _ _ _ _ _ _ => False) 50 ⟨fun _ => rfl, fun h => absurd h (by decide), fun h => absurd h (by decide), fun h => absurd h (by decide)⟩ dk_End_tell fo_End go_End_tell co_End_tell (fun a k h hk => by unfold gt_End_tell at h; cases h) (fun q hq h => absurd h (nt_End_tell q hq)) (fun av σ K kx h => by rw [sRI_len h]; decide) ?_ ?_
  · intro av σ K kx hok hSp
    obtain ⟨q0, x0, rfl, hp⟩ := sRI_inv hSp
    obtain ⟨k0, e0, i0⟩ := q0
    obtain ⟨h0, h1⟩ := hp
    dsimp only at h0; subst h0
    all_goals (repeat' (first | (with_reducible assumption) | (with_reducible (apply by8_9; assumption)) | (with_reducible (apply by8_4; assumption)) | (with_reducible (apply by8_22; assumption)) | (with_reducible (apply by8_g; assumption)) | (with_reducible (apply rg34_of <;> assumption)) | (with_reducible refine rg_max ?_ ?_) | (with_reducible refine IV_upd ?_ ?_) | (with_reducible refine IV_cpy ?_ (fun _ _ _ _ => trivial)) | (refine And.intro ?_ ?_) | (intro _)))
    all_goals first | (exact h1) | (refine h1 _ ?_ ?_ <;> (repeat' (first | assumption | exact trivial | exact Un_rf | (apply by8_4; assumption) | (apply by8_9; assumption) | (apply by8_22; assumption) | (apply by8_g; assumption) | (refine by8_13 ?_) | (apply rg34_of <;> assumption) | (refine rg_max ?_ ?_) | (apply rg_34; assumption) | (refine ixr_by8 ?_ ?_) | (refine IV_upd ?_ ?_) | (refine Un_upd rfl ?_) | (refine IV_cpy ?_ (fun _ _ _ _ => trivial)) | (refine Un_cpy rfl ?_) | (apply Un_tr; rotate_left; assumption; rfl) | (refine And.intro ?_ ?_))) <;> (first | rfl | decide | exact Or.inl rfl | exact Or.inr (Or.inl rfl) | exact Or.inr (Or.inr rfl) | (simp only [nrm, strm, by8] at * <;> omega) | (simp [upd4, cpy4, nrm, strm, by8] at * <;> omega))) | (apply h1 <;> (repeat' (first | assumption | exact trivial | exact Un_rf | (apply by8_4; assumption) | (apply by8_9; assumption) | (apply by8_22; assumption) | (apply by8_g; assumption) | (refine by8_13 ?_) | (apply rg34_of <;> assumption) | (refine rg_max ?_ ?_) | (apply rg_34; assumption) | (refine ixr_by8 ?_ ?_) | (refine IV_upd ?_ ?_) | (refine Un_upd rfl ?_) | (refine IV_cpy ?_ (fun _ _ _ _ => trivial)) | (refine Un_cpy rfl ?_) | (apply Un_tr; rotate_left; assumption; rfl) | (refine And.intro ?_ ?_))) <;> (first | rfl | decide | exact Or.inl rfl | exact Or.inr (Or.inl rfl) | exact Or.inr (Or.inr rfl) | (simp only [nrm, strm, by8] at * <;> omega) | (simp [upd4, cpy4, nrm, strm, by8] at * <;> omega))) | (first | rfl | decide | exact Or.inl rfl | exact Or.inr (Or.inl rfl) | exact Or.inr (Or.inr rfl) | (simp only [nrm, strm, by8] at * <;> omega) | (simp [upd4, cpy4, nrm, strm, by8] at * <;> omega)) | ((repeat' (first | assumption | exact trivial | exact Un_rf | (apply by8_4; assumption) | (apply by8_9; assumption) | (apply by8_22; assumption) | (apply by8_g; assumption) | (refine by8_13 ?_) | (apply rg34_of <;> assumption) | (refine rg_max ?_ ?_) | (apply rg_34; assumption) | (refine ixr_by8 ?_ ?_) | (refine IV_upd ?_ ?_) | (refine Un_upd rfl ?_) | (refine IV_cpy ?_ (fun _ _ _ _ => trivial)) | (refine Un_cpy rfl ?_) | (apply Un_tr; rotate_left; assumption; rfl) | (refine And.intro ?_ ?_))) <;> (first | rfl | decide | exact Or.inl rfl | exact Or.inr (Or.inl rfl) | exact Or.inr (Or.inr rfl) | (simp only [nrm, strm, by8] at * <;> omega) | (simp [upd4, cpy4, nrm, strm, by8] at * <;> omega)))
  · intro av σ K kx n pc L st σ' nc ns _ _ h
    exact (h : False).elim
