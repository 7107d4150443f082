def gt_End_hearHeaders (a : Nat) : Option Nat := match a with
  | 219 => some 302
  | _ => none
theorem go_End_hearHeaders : ∀ a v, gt_End_hearHeaders a = some v → StaOK R_End a v := by
  intro a v h
  unfold gt_End_hearHeaders at h
  split at h
  · cases h; exact ⟨fun h => absurd h (by decide), fun _ => by decide +kernel, fun h => absurd h (by decide), fun h => absurd h (by decide)⟩
  · cases h
def pr_End_hearHeaders : List Ent := [(0, 5, 0, 0, 0), (1, 39, 85, 0, 0), (4, 5, 0, 0, 0), (5, 39, 40, 0, 0), (8, 0, 0, 0, 0), (9, 41, 0, 0, 0), (10, 46, 213, 0, 0), (13, 27, 0, 0, 19), (16, 1, 0, 9, 0), (18, 48, 0, 0, 0), (19, 5, 0, 0, 0), (20, 39, 76, 0, 0), (23, 46, 216, 0, 0), (26, 7, 1, 0, 0), (27, 5, 0, 0, 0), (28, 3, 1, 0, 0), (29, 46, 124, 0, 0), (32, 9, 2, 0, 0), (33, 5, 2, 0, 0), (34, 46, 128, 0, 0), (37, 7, 3, 0, 0), (38, 3, 3, 0, 0), (39, 26, 0, 0, 59), (42, 5, 0, 0, 0), (43, 39, 62, 0, 0), (46, 27, 0, 0, 57), (49, 3, 1, 0, 0), (50, 5, 0, 0, 0), (51, 39, 50, 0, 0), (54, 36, 0, 0, 59), (57, 0, 0, 1, 0), (58, 48, 0, 0, 0), (59, 5, 0, 0, 0), (60, 5, 0, 0, 0), (61, 39, 50, 0, 0), (64, 3, 1, 0, 0), (65, 53, 219, 0, 0), (68, 40, 50, 0, 0), (71, 3, 3, 0, 0), (72, 26, 0, 0, 124), (75, 5, 0, 0, 0), (76, 46, 110, 0, 0), (79, 5, 0, 0, 0), (80, 39, 40, 0, 0), (83, 0, 0, 2, 0), (84, 41, 0, 0, 0), (85, 34, 0, 0, 92), (88, 0, 0, 1, 0), (89, 38, 0, 0, 93), (92, 0, 0, 0, 0), (93, 8, 4, 0, 0), (95, 5, 2, 0, 0), (96, 5, 0, 0, 0), (97, 39, 43, 0, 0), (100, 0, 0, 1, 0), (101, 41, 0, 0, 0), (102, 5, 0, 0, 0), (103, 39, 40, 0, 0), (106, 0, 0, 1, 0), (107, 41, 0, 0, 0), (108, 46, 90, 0, 0), (111, 4, 4, 0, 0), (113, 26, 0, 0, 124), (116, 5, 0, 0, 0), (117, 3, 1, 0, 0), (118, 1, 0, 7, 0), (120, 46, 225, 0, 0), (123, 48, 0, 0, 0), (124, 5, 2, 0, 0), (125, 46, 228, 0, 0), (128, 27, 0, 0, 138), (131, 5, 0, 0, 0), (132, 3, 1, 0, 0), (133, 0, 0, 5, 0), (134, 46, 225, 0, 0), (137, 48, 0, 0, 0), (138, 5, 2, 0, 0), (139, 46, 231, 0, 0), (142, 5, 0, 0, 0), (143, 39, 85, 0, 0), (146, 46, 235, 0, 0), (149, 46, 236, 0, 0), (152, 5, 0, 0, 0), (153, 39, 76, 0, 0), (156, 46, 240, 0, 0), (159, 26, 0, 0, 166), (162, 5, 2, 0, 0), (163, 46, 243, 0, 0), (166, 0, 0, 0, 0), (167, 48, 0, 0, 0)]
def sw_End_hearHeaders : List Swt := []
theorem dk_End_hearHeaders : ∀ q ∈ pr_End_hearHeaders, decode b_End_hearHeaders q.1 = .ok (dec sw_End_hearHeaders q) ∧ okE q = true := by decide +kernel
theorem nt_End_hearHeaders : ∀ q ∈ pr_End_hearHeaders, ¬ q.2.1 = 55 := by decide +kernel
def ct_End_hearHeaders (a : Nat) : Option (Nat × Nat × CSp × Nat × Nat) := match a with
  | 90 => some (3, 6, sp_Stream_open, 0, 0)
  | 110 => some (1, 3, sp_End_liveStreams, 0, 0)
  | 124 => some (2, 3, sp_End_find, 0, 0)
  | 128 => some (1, 6, sp_Stream_isIdle, 0, 0)
  | 213 => some (2, 1, sp_BlockReader_read, 0, 0)
  | 216 => some (1, 5, sp_Frame_streamNumber, 0, 0)
  | 225 => some (3, 3, sp_End_closeBy, 0, 0)
  | 228 => some (1, 6, sp_Stream_mayHear, 0, 0)
  | 231 => some (1, 6, sp_Stream_fields, 0, 0)
  | 235 => some (1, 1, sp_BlockReader_fields, 0, 0)
  | 236 => some (2, 4, sp_Fields_copyFrom, 0, 0)
  | 240 => some (1, 5, sp_Frame_isFlagged, 0, 0)
  | 243 => some (1, 6, sp_Stream_hearLast, 0, 0)
  | _ => none
theorem co_End_hearHeaders : ∀ a v, ct_End_hearHeaders a = some v → StcOK R_End 5 118 a v := by
  intro a v h
  unfold ct_End_hearHeaders at h
  split at h
  · cases h; exact ⟨y_Stream_open, b_Stream_open, 3, none, 0, 0, 2, c_Stream_open, by decide, by decide +kernel, by decide +kernel, by decide +kernel, Or.inl ⟨rfl, by decide, by decide +kernel, by decide +kernel, _, _, rfl, by decide +kernel⟩⟩
  · cases h; exact ⟨y_End_liveStreams, b_End_liveStreams, 3, (some .int), 2, 40, 0, c_End_liveStreams, by decide, by decide +kernel, by decide +kernel, by decide +kernel, Or.inl ⟨rfl, by decide, by decide +kernel, by decide +kernel, _, _, rfl, by decide +kernel⟩⟩
  · cases h; exact ⟨y_End_find, b_End_find, 2, (some (.object "FrameStreams$Stream")), 1, 20, 1, c_End_find, by decide, by decide +kernel, by decide +kernel, by decide +kernel, Or.inl ⟨rfl, by decide, by decide +kernel, by decide +kernel, _, _, rfl, by decide +kernel⟩⟩
  · cases h; exact ⟨y_Stream_isIdle, b_Stream_isIdle, 1, (some .boolean), 0, 0, 0, c_Stream_isIdle, by decide, by decide +kernel, by decide +kernel, by decide +kernel, Or.inl ⟨rfl, by decide, by decide +kernel, by decide +kernel, _, _, rfl, by decide +kernel⟩⟩
  · cases h; exact ⟨y_BlockReader_read, b_BlockReader_read, 3, (some .boolean), 4, 96, 1, c_BlockReader_read, by decide, by decide +kernel, by decide +kernel, by decide +kernel, Or.inl ⟨rfl, by decide, by decide +kernel, by decide +kernel, _, _, rfl, by decide +kernel⟩⟩
  · cases h; exact ⟨y_Frame_streamNumber, b_Frame_streamNumber, 1, (some .int), 0, 0, 0, c_Frame_streamNumber, by decide, by decide +kernel, by decide +kernel, by decide +kernel, Or.inl ⟨rfl, by decide, by decide +kernel, by decide +kernel, _, _, rfl, by decide +kernel⟩⟩
  · cases h; exact ⟨y_End_closeBy, b_End_closeBy, 3, (some .int), 3, 69, 2, c_End_closeBy, by decide, by decide +kernel, by decide +kernel, by decide +kernel, Or.inl ⟨rfl, by decide, by decide +kernel, by decide +kernel, _, _, rfl, by decide +kernel⟩⟩
  · cases h; exact ⟨y_Stream_mayHear, b_Stream_mayHear, 1, (some .boolean), 0, 0, 0, c_Stream_mayHear, by decide, by decide +kernel, by decide +kernel, by decide +kernel, Or.inl ⟨rfl, by decide, by decide +kernel, by decide +kernel, _, _, rfl, by decide +kernel⟩⟩
  · cases h; exact ⟨y_Stream_fields, b_Stream_fields, 1, (some (.object "FrameStreams$Fields")), 0, 0, 0, c_Stream_fields, by decide, by decide +kernel, by decide +kernel, by decide +kernel, Or.inl ⟨rfl, by decide, by decide +kernel, by decide +kernel, _, _, rfl, by decide +kernel⟩⟩
  · cases h; exact ⟨y_BlockReader_fields, b_BlockReader_fields, 1, (some (.object "FrameStreams$Fields")), 0, 0, 0, c_BlockReader_fields, by decide, by decide +kernel, by decide +kernel, by decide +kernel, Or.inl ⟨rfl, by decide, by decide +kernel, by decide +kernel, _, _, rfl, by decide +kernel⟩⟩
  · cases h; exact ⟨y_Fields_copyFrom, b_Fields_copyFrom, 2, none, 1, 26, 1, c_Fields_copyFrom, by decide, by decide +kernel, by decide +kernel, by decide +kernel, Or.inl ⟨rfl, by decide, by decide +kernel, by decide +kernel, _, _, rfl, by decide +kernel⟩⟩
  · cases h; exact ⟨y_Frame_isFlagged, b_Frame_isFlagged, 1, (some .boolean), 0, 0, 0, c_Frame_isFlagged, by decide, by decide +kernel, by decide +kernel, by decide +kernel, Or.inl ⟨rfl, by decide, by decide +kernel, by decide +kernel, _, _, rfl, by decide +kernel⟩⟩
  · cases h; exact ⟨y_Stream_hearLast, b_Stream_hearLast, 1, none, 0, 0, 0, c_Stream_hearLast, by decide, by decide +kernel, by decide +kernel, by decide +kernel, Or.inl ⟨rfl, by decide, by decide +kernel, by decide +kernel, _, _, rfl, by decide +kernel⟩⟩
  · cases h
/-- End_hearHeaders -/
def sp_End_hearHeaders : CSp := sR (fun q σ K _ => q.1 = 7 ∧ IV σ ∧ ∀ r σ', by8 r → IV σ' → Un [3, 4, 7, 23, 24, 25, 26, 27, 28, 29, 30, 32, 35, 36, 37] σ σ' → K (some (.inl r)) σ')
set_option maxHeartbeats 4000000 in
set_option maxRecDepth 100000 in
theorem c_End_hearHeaders : Ctr y_End_hearHeaders b_End_hearHeaders 5 (some .int) 5 118 0 0 sp_End_hearHeaders := by
  refine ctr_of (FT := ft_End) (GT := gt_End_hearHeaders) (CT := ct_End_hearHeaders) (sw := sw_End_hearHeaders) (rt := 0) (pr := pr_End_hearHeaders) (by decide) [] (fun _ _ _ _ _ _ _ _ _ _ _ => False) 110 ⟨fun _ => rfl, fun h => absurd h (by decide), fun h => absurd h (by decide), fun h => absurd h (by decide)⟩ dk_End_hearHeaders fo_End go_End_hearHeaders co_End_hearHeaders (fun a k h hk => by unfold gt_End_hearHeaders at h; split at h <;> first | exact ⟨by decide, by decide⟩ | (cases h; done) | (cases h; exact absurd hk (by decide))) (fun q hq h => absurd h (nt_End_hearHeaders q hq)) (fun av σ K kx h => by rw [sR_len h]; decide) ?_ ?_
  · intro av σ K kx hok hSp
    obtain ⟨q0, rfl, hp⟩ := sR_inv hSp
    obtain ⟨k0, e0, i0⟩ := q0
    obtain ⟨h0, hI, h2⟩ := hp
    dsimp only at h0; subst h0
    all_goals (repeat' (first | (with_reducible assumption) | (with_reducible (apply by8_9; assumption)) | (with_reducible (apply by8_4; assumption)) | (with_reducible (apply by8_22; assumption)) | (with_reducible (apply by8_g; assumption)) | (with_reducible (apply rg34_of <;> assumption)) | (with_reducible refine rg_max ?_ ?_) | (with_reducible refine IV_upd ?_ ?_) | (with_reducible refine IV_cpy ?_ (fun _ _ _ _ => trivial)) | (refine And.intro ?_ ?_) | (intro h9; first | exact absurd h9 (by decide) | contradiction | skip)))
    all_goals first | (exact h2) | (refine h2 _ ?_ ?_ <;> (repeat' (first | assumption | exact trivial | exact Un_rf | (apply by8_4; assumption) | (apply by8_9; assumption) | (apply by8_22; assumption) | (apply by8_g; assumption) | (refine by8_13 ?_) | (apply rg34_of <;> assumption) | (refine rg_max ?_ ?_) | (apply rg_34; assumption) | (refine ixr_by8 ?_ ?_) | (refine IV_upd ?_ ?_) | (refine Un_upd rfl ?_) | (refine IV_cpy ?_ (fun _ _ _ _ => trivial)) | (refine Un_cpy rfl ?_) | (apply Un_tr; rotate_left; assumption; rfl) | (refine And.intro ?_ ?_))) <;> (first | rfl | decide | exact Or.inl rfl | exact Or.inr (Or.inl rfl) | exact Or.inr (Or.inr rfl) | (simp only [nrm, strm, by8] at * <;> omega) | (simp [upd4, cpy4, nrm, strm, by8] at * <;> omega))) | (apply h2 <;> (repeat' (first | assumption | exact trivial | exact Un_rf | (apply by8_4; assumption) | (apply by8_9; assumption) | (apply by8_22; assumption) | (apply by8_g; assumption) | (refine by8_13 ?_) | (apply rg34_of <;> assumption) | (refine rg_max ?_ ?_) | (apply rg_34; assumption) | (refine ixr_by8 ?_ ?_) | (refine IV_upd ?_ ?_) | (refine Un_upd rfl ?_) | (refine IV_cpy ?_ (fun _ _ _ _ => trivial)) | (refine Un_cpy rfl ?_) | (apply Un_tr; rotate_left; assumption; rfl) | (refine And.intro ?_ ?_))) <;> (first | rfl | decide | exact Or.inl rfl | exact Or.inr (Or.inl rfl) | exact Or.inr (Or.inr rfl) | (simp only [nrm, strm, by8] at * <;> omega) | (simp [upd4, cpy4, nrm, strm, by8] at * <;> omega))) | (first | rfl | decide | exact Or.inl rfl | exact Or.inr (Or.inl rfl) | exact Or.inr (Or.inr rfl) | (simp only [nrm, strm, by8] at * <;> omega) | (simp [upd4, cpy4, nrm, strm, by8] at * <;> omega)) | ((repeat' (first | assumption | exact trivial | exact Un_rf | (apply by8_4; assumption) | (apply by8_9; assumption) | (apply by8_22; assumption) | (apply by8_g; assumption) | (refine by8_13 ?_) | (apply rg34_of <;> assumption) | (refine rg_max ?_ ?_) | (apply rg_34; assumption) | (refine ixr_by8 ?_ ?_) | (refine IV_upd ?_ ?_) | (refine Un_upd rfl ?_) | (refine IV_cpy ?_ (fun _ _ _ _ => trivial)) | (refine Un_cpy rfl ?_) | (apply Un_tr; rotate_left; assumption; rfl) | (refine And.intro ?_ ?_))) <;> (first | rfl | decide | exact Or.inl rfl | exact Or.inr (Or.inl rfl) | exact Or.inr (Or.inr rfl) | (simp only [nrm, strm, by8] at * <;> omega) | (simp [upd4, cpy4, nrm, strm, by8] at * <;> omega)))
  · intro av σ K kx n pc L st σ' nc ns _ _ h
    exact (h : False).elim
