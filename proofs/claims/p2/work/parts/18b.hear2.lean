def gt_End_hearData (a : Nat) : Option Nat := match a with
  | _ => none
theorem go_End_hearData : ∀ a v, gt_End_hearData a = some v → StaOK R_End a v := by
  intro a v h
  unfold gt_End_hearData at h
  cases h
def pr_End_hearData : List Ent := [(0, 5, 0, 0, 0), (1, 39, 76, 0, 0), (4, 46, 216, 0, 0), (7, 7, 1, 0, 0), (8, 5, 0, 0, 0), (9, 39, 76, 0, 0), (12, 46, 246, 0, 0), (15, 7, 2, 0, 0), (16, 5, 0, 0, 0), (17, 3, 1, 0, 0), (18, 46, 124, 0, 0), (21, 9, 3, 0, 0), (22, 5, 3, 0, 0), (23, 46, 128, 0, 0), (26, 26, 0, 0, 31), (29, 0, 0, 1, 0), (30, 48, 0, 0, 0), (31, 3, 2, 0, 0), (32, 5, 0, 0, 0), (33, 39, 27, 0, 0), (36, 0, 0, 0, 0), (37, 43, 0, 0, 0), (38, 46, 247, 0, 0), (41, 37, 0, 0, 46), (44, 0, 0, 3, 0), (45, 48, 0, 0, 0), (46, 5, 0, 0, 0), (47, 39, 27, 0, 0), (50, 0, 0, 0, 0), (51, 43, 0, 0, 0), (52, 3, 2, 0, 0), (53, 15, 0, 0, 0), (54, 46, 169, 0, 0), (57, 5, 3, 0, 0), (58, 46, 228, 0, 0), (61, 27, 0, 0, 71), (64, 5, 0, 0, 0), (65, 3, 1, 0, 0), (66, 0, 0, 5, 0), (67, 46, 225, 0, 0), (70, 48, 0, 0, 0), (71, 3, 2, 0, 0), (72, 5, 3, 0, 0), (73, 46, 247, 0, 0), (76, 37, 0, 0, 86), (79, 5, 0, 0, 0), (80, 3, 1, 0, 0), (81, 0, 0, 3, 0), (82, 46, 225, 0, 0), (85, 48, 0, 0, 0), (86, 5, 3, 0, 0), (87, 3, 2, 0, 0), (88, 5, 0, 0, 0), (89, 39, 76, 0, 0), (92, 46, 250, 0, 0), (95, 46, 253, 0, 0), (98, 5, 0, 0, 0), (99, 39, 76, 0, 0), (102, 46, 240, 0, 0), (105, 26, 0, 0, 112), (108, 5, 3, 0, 0), (109, 46, 243, 0, 0), (112, 0, 0, 0, 0), (113, 48, 0, 0, 0)]
def sw_End_hearData : List Swt := []
theorem dk_End_hearData : ∀ q ∈ pr_End_hearData, decode b_End_hearData q.1 = .ok (dec sw_End_hearData q) ∧ okE q = true := by decide +kernel
theorem nt_End_hearData : ∀ q ∈ pr_End_hearData, ¬ q.2.1 = 55 := by decide +kernel
def ct_End_hearData (a : Nat) : Option (Nat × Nat × CSp × Nat × Nat) := match a with
  | 124 => some (2, 3, sp_End_find, 0, 0)
  | 128 => some (1, 6, sp_Stream_isIdle, 0, 0)
  | 169 => some (2, 6, sp_Stream_growDue, 0, 0)
  | 216 => some (1, 5, sp_Frame_streamNumber, 0, 0)
  | 225 => some (3, 3, sp_End_closeBy, 0, 0)
  | 228 => some (1, 6, sp_Stream_mayHear, 0, 0)
  | 240 => some (1, 5, sp_Frame_isFlagged, 0, 0)
  | 243 => some (1, 6, sp_Stream_hearLast, 0, 0)
  | 246 => some (1, 5, sp_Frame_length, 0, 0)
  | 247 => some (1, 6, sp_Stream_due, 0, 0)
  | 250 => some (1, 5, sp_Frame_sum, 0, 0)
  | 253 => some (3, 6, sp_Stream_takeData, 0, 0)
  | _ => none
theorem co_End_hearData : ∀ a v, ct_End_hearData a = some v → StcOK R_End 4 91 a v := by
  intro a v h
  unfold ct_End_hearData at h
  split at h
  · cases h; exact ⟨y_End_find, b_End_find, 2, (some (.object "FrameStreams$Stream")), 1, 20, 1, c_End_find, by decide, by decide +kernel, by decide +kernel, by decide +kernel, Or.inl ⟨rfl, by decide, by decide +kernel, by decide +kernel, _, _, rfl, by decide +kernel⟩⟩
  · cases h; exact ⟨y_Stream_isIdle, b_Stream_isIdle, 1, (some .boolean), 0, 0, 0, c_Stream_isIdle, by decide, by decide +kernel, by decide +kernel, by decide +kernel, Or.inl ⟨rfl, by decide, by decide +kernel, by decide +kernel, _, _, rfl, by decide +kernel⟩⟩
  · cases h; exact ⟨y_Stream_growDue, b_Stream_growDue, 2, none, 0, 0, 1, c_Stream_growDue, by decide, by decide +kernel, by decide +kernel, by decide +kernel, Or.inl ⟨rfl, by decide, by decide +kernel, by decide +kernel, _, _, rfl, by decide +kernel⟩⟩
  · cases h; exact ⟨y_Frame_streamNumber, b_Frame_streamNumber, 1, (some .int), 0, 0, 0, c_Frame_streamNumber, by decide, by decide +kernel, by decide +kernel, by decide +kernel, Or.inl ⟨rfl, by decide, by decide +kernel, by decide +kernel, _, _, rfl, by decide +kernel⟩⟩
  · cases h; exact ⟨y_End_closeBy, b_End_closeBy, 3, (some .int), 3, 69, 2, c_End_closeBy, by decide, by decide +kernel, by decide +kernel, by decide +kernel, Or.inl ⟨rfl, by decide, by decide +kernel, by decide +kernel, _, _, rfl, by decide +kernel⟩⟩
  · cases h; exact ⟨y_Stream_mayHear, b_Stream_mayHear, 1, (some .boolean), 0, 0, 0, c_Stream_mayHear, by decide, by decide +kernel, by decide +kernel, by decide +kernel, Or.inl ⟨rfl, by decide, by decide +kernel, by decide +kernel, _, _, rfl, by decide +kernel⟩⟩
  · cases h; exact ⟨y_Frame_isFlagged, b_Frame_isFlagged, 1, (some .boolean), 0, 0, 0, c_Frame_isFlagged, by decide, by decide +kernel, by decide +kernel, by decide +kernel, Or.inl ⟨rfl, by decide, by decide +kernel, by decide +kernel, _, _, rfl, by decide +kernel⟩⟩
  · cases h; exact ⟨y_Stream_hearLast, b_Stream_hearLast, 1, none, 0, 0, 0, c_Stream_hearLast, by decide, by decide +kernel, by decide +kernel, by decide +kernel, Or.inl ⟨rfl, by decide, by decide +kernel, by decide +kernel, _, _, rfl, by decide +kernel⟩⟩
  · cases h; exact ⟨y_Frame_length, b_Frame_length, 1, (some .int), 0, 0, 0, c_Frame_length, by decide, by decide +kernel, by decide +kernel, by decide +kernel, Or.inl ⟨rfl, by decide, by decide +kernel, by decide +kernel, _, _, rfl, by decide +kernel⟩⟩
  · cases h; exact ⟨y_Stream_due, b_Stream_due, 1, (some .int), 0, 0, 0, c_Stream_due, by decide, by decide +kernel, by decide +kernel, by decide +kernel, Or.inl ⟨rfl, by decide, by decide +kernel, by decide +kernel, _, _, rfl, by decide +kernel⟩⟩
  · cases h; exact ⟨y_Frame_sum, b_Frame_sum, 3, (some .int), 0, 0, 0, c_Frame_sum, by decide, by decide +kernel, by decide +kernel, by decide +kernel, Or.inl ⟨rfl, by decide, by decide +kernel, by decide +kernel, _, _, rfl, by decide +kernel⟩⟩
  · cases h; exact ⟨y_Stream_takeData, b_Stream_takeData, 3, none, 0, 0, 2, c_Stream_takeData, by decide, by decide +kernel, by decide +kernel, by decide +kernel, Or.inl ⟨rfl, by decide, by decide +kernel, by decide +kernel, _, _, rfl, by decide +kernel⟩⟩
  · cases h
/-- End_hearData -/
def sp_End_hearData : CSp := sR (fun q σ K _ => q.1 = 7 ∧ IV σ ∧ ∀ r σ', by8 r → IV σ' → Un [3, 4, 32] σ σ' → K (some (.inl r)) σ')
set_option maxHeartbeats 4000000 in
set_option maxRecDepth 100000 in
theorem c_End_hearData : Ctr y_End_hearData b_End_hearData 4 (some .int) 4 91 0 0 sp_End_hearData := by
  refine ctr_of (FT := ft_End) (GT := gt_End_hearData) (CT := ct_End_hearData) (sw := sw_End_hearData) (rt := 0) (pr := pr_End_hearData) (by decide) [] (fun _ _ _ _ _ _ _ _ _ _ _ => False) 80 ⟨fun _ => rfl, fun h => absurd h (by decide), fun h => absurd h (by decide), fun h => absurd h (by decide)⟩ dk_End_hearData fo_End go_End_hearData co_End_hearData (fun a k h hk => by unfold gt_End_hearData at h; cases h) (fun q hq h => absurd h (nt_End_hearData q hq)) (fun av σ K kx h => by rw [sR_len h]; decide) ?_ ?_
  · intro av σ K kx hok hSp
    obtain ⟨q0, rfl, hp⟩ := sR_inv hSp
    obtain ⟨k0, e0, i0⟩ := q0
    obtain ⟨h0, hI, h2⟩ := hp
    dsimp only at h0; subst h0
    all_goals (repeat' (first | (with_reducible assumption) | (with_reducible (apply by8_9; assumption)) | (with_reducible (apply by8_4; assumption)) | (with_reducible (apply by8_22; assumption)) | (with_reducible (apply by8_g; assumption)) | (with_reducible (apply rg34_of <;> assumption)) | (with_reducible refine rg_max ?_ ?_) | (with_reducible refine IV_upd ?_ ?_) | (with_reducible refine IV_cpy ?_ (fun _ _ _ _ => trivial)) | (refine And.intro ?_ ?_) | (intro _)))
    all_goals first | (exact h2) | (refine h2 _ ?_ ?_ <;> (repeat' (first | assumption | exact trivial | exact Un_rf | (apply by8_4; assumption) | (apply by8_9; assumption) | (apply by8_22; assumption) | (apply by8_g; assumption) | (refine by8_13 ?_) | (apply rg34_of <;> assumption) | (refine rg_max ?_ ?_) | (apply rg_34; assumption) | (refine ixr_by8 ?_ ?_) | (refine IV_upd ?_ ?_) | (refine Un_upd rfl ?_) | (refine IV_cpy ?_ (fun _ _ _ _ => trivial)) | (refine Un_cpy rfl ?_) | (apply Un_tr; rotate_left; assumption; rfl) | (refine And.intro ?_ ?_))) <;> (first | rfl | decide | exact Or.inl rfl | exact Or.inr (Or.inl rfl) | exact Or.inr (Or.inr rfl) | (simp only [nrm, strm, by8] at * <;> omega) | (simp [upd4, cpy4, nrm, strm, by8] at * <;> omega))) | (apply h2 <;> (repeat' (first | assumption | exact trivial | exact Un_rf | (apply by8_4; assumption) | (apply by8_9; assumption) | (apply by8_22; assumption) | (apply by8_g; assumption) | (refine by8_13 ?_) | (apply rg34_of <;> assumption) | (refine rg_max ?_ ?_) | (apply rg_34; assumption) | (refine ixr_by8 ?_ ?_) | (refine IV_upd ?_ ?_) | (refine Un_upd rfl ?_) | (refine IV_cpy ?_ (fun _ _ _ _ => trivial)) | (refine Un_cpy rfl ?_) | (apply Un_tr; rotate_left; assumption; rfl) | (refine And.intro ?_ ?_))) <;> (first | rfl | decide | exact Or.inl rfl | exact Or.inr (Or.inl rfl) | exact Or.inr (Or.inr rfl) | (simp only [nrm, strm, by8] at * <;> omega) | (simp [upd4, cpy4, nrm, strm, by8] at * <;> omega))) | (first | rfl | decide | exact Or.inl rfl | exact Or.inr (Or.inl rfl) | exact Or.inr (Or.inr rfl) | (simp only [nrm, strm, by8] at * <;> omega) | (simp [upd4, cpy4, nrm, strm, by8] at * <;> omega)) | ((repeat' (first | assumption | exact trivial | exact Un_rf | (apply by8_4; assumption) | (apply by8_9; assumption) | (apply by8_22; assumption) | (apply by8_g; assumption) | (refine by8_13 ?_) | (apply rg34_of <;> assumption) | (refine rg_max ?_ ?_) | (apply rg_34; assumption) | (refine ixr_by8 ?_ ?_) | (refine IV_upd ?_ ?_) | (refine Un_upd rfl ?_) | (refine IV_cpy ?_ (fun _ _ _ _ => trivial)) | (refine Un_cpy rfl ?_) | (apply Un_tr; rotate_left; assumption; rfl) | (refine And.intro ?_ ?_))) <;> (first | rfl | decide | exact Or.inl rfl | exact Or.inr (Or.inl rfl) | exact Or.inr (Or.inr rfl) | (simp only [nrm, strm, by8] at * <;> omega) | (simp [upd4, cpy4, nrm, strm, by8] at * <;> omega)))
  · intro av σ K kx n pc L st σ' nc ns _ _ h
    exact (h : False).elim
