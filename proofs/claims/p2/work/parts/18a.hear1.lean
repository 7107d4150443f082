def gt_End_hearReset (a : Nat) : Option Nat := match a with
  | _ => none
theorem go_End_hearReset : ∀ a v, gt_End_hearReset a = some v → StaOK R_End a v := by
  intro a v h
  unfold gt_End_hearReset at h
  cases h
def pr_End_hearReset : List Ent := [(0, 5, 0, 0, 0), (1, 5, 0, 0, 0), (2, 39, 76, 0, 0), (5, 46, 216, 0, 0), (8, 46, 124, 0, 0), (11, 9, 1, 0, 0), (12, 5, 1, 0, 0), (13, 46, 128, 0, 0), (16, 26, 0, 0, 21), (19, 0, 0, 1, 0), (20, 48, 0, 0, 0), (21, 5, 1, 0, 0), (22, 46, 155, 0, 0), (25, 0, 0, 0, 0), (26, 48, 0, 0, 0)]
def sw_End_hearReset : List Swt := []
theorem dk_End_hearReset : ∀ q ∈ pr_End_hearReset, decode b_End_hearReset q.1 = .ok (dec sw_End_hearReset q) ∧ okE q = true := by decide +kernel
theorem nt_End_hearReset : ∀ q ∈ pr_End_hearReset, ¬ q.2.1 = 55 := by decide +kernel
def ct_End_hearReset (a : Nat) : Option (Nat × Nat × CSp × Nat × Nat) := match a with
  | 124 => some (2, 3, sp_End_find, 0, 0)
  | 128 => some (1, 6, sp_Stream_isIdle, 0, 0)
  | 155 => some (1, 6, sp_Stream_close, 0, 0)
  | 216 => some (1, 5, sp_Frame_streamNumber, 0, 0)
  | _ => none
theorem co_End_hearReset : ∀ a v, ct_End_hearReset a = some v → StcOK R_End 2 41 a v := by
  intro a v h
  unfold ct_End_hearReset at h
  split at h
  · cases h; exact ⟨y_End_find, b_End_find, 2, (some (.object "FrameStreams$Stream")), 1, 20, 1, c_End_find, by decide, by decide +kernel, by decide +kernel, by decide +kernel, Or.inl ⟨rfl, by decide, by decide +kernel, by decide +kernel, _, _, rfl, by decide +kernel⟩⟩
  · cases h; exact ⟨y_Stream_isIdle, b_Stream_isIdle, 1, (some .boolean), 0, 0, 0, c_Stream_isIdle, by decide, by decide +kernel, by decide +kernel, by decide +kernel, Or.inl ⟨rfl, by decide, by decide +kernel, by decide +kernel, _, _, rfl, by decide +kernel⟩⟩
  · cases h; exact ⟨y_Stream_close, b_Stream_close, 1, none, 0, 0, 0, c_Stream_close, by decide, by decide +kernel, by decide +kernel, by decide +kernel, Or.inl ⟨rfl, by decide, by decide +kernel, by decide +kernel, _, _, rfl, by decide +kernel⟩⟩
  · cases h; exact ⟨y_Frame_streamNumber, b_Frame_streamNumber, 1, (some .int), 0, 0, 0, c_Frame_streamNumber, by decide, by decide +kernel, by decide +kernel, by decide +kernel, Or.inl ⟨rfl, by decide, by decide +kernel, by decide +kernel, _, _, rfl, by decide +kernel⟩⟩
  · cases h
/-- End_hearReset -/
def sp_End_hearReset : CSp := sR (fun q σ K _ => q.1 = 7 ∧ IV σ ∧ ∀ r σ', by8 r → IV σ' → Un [32] σ σ' → K (some (.inl r)) σ')
set_option maxHeartbeats 4000000 in
set_option maxRecDepth 100000 in
theorem c_End_hearReset : Ctr y_End_hearReset b_End_hearReset 2 (some .int) 2 41 0 0 sp_End_hearReset := by
  refine ctr_of (FT := ft_End) (GT := gt_End_hearReset) (CT := ct_End_hearReset) (sw := sw_End_hearReset) (rt := 0) (pr := pr_End_hearReset) (by decide) [] (fun _ _ _ _ _ _ _ _ _ _ _ => False) 30 ⟨fun _ => rfl, fun h => absurd h (by decide), fun h => absurd h (by decide), fun h => absurd h (by decide)⟩ dk_End_hearReset fo_End go_End_hearReset co_End_hearReset (fun a k h hk => by unfold gt_End_hearReset at h; cases h) (fun q hq h => absurd h (nt_End_hearReset q hq)) (fun av σ K kx h => by rw [sR_len h]; decide) ?_ ?_
  · intro av σ K kx hok hSp
    obtain ⟨q0, rfl, hp⟩ := sR_inv hSp
    obtain ⟨k0, e0, i0⟩ := q0
    obtain ⟨h0, hI, h2⟩ := hp
    dsimp only at h0; subst h0
    all_goals (repeat' (first | (with_reducible assumption) | (with_reducible (apply by8_9; assumption)) | (with_reducible (apply by8_4; assumption)) | (with_reducible (apply by8_22; assumption)) | (with_reducible (apply by8_g; assumption)) | (with_reducible refine IV_upd ?_ ?_) | (with_reducible refine IV_cpy ?_ (fun _ _ _ _ => trivial)) | (refine And.intro ?_ ?_) | (intro _)))
    all_goals first | (exact h2) | (refine h2 _ ?_ ?_ <;> (repeat' (first | assumption | exact trivial | exact Un_rf | (apply by8_4; assumption) | (apply by8_9; assumption) | (apply by8_22; assumption) | (apply by8_g; assumption) | (refine by8_13 ?_) | (apply rg34_of <;> assumption) | (refine rg_max ?_ ?_) | (apply rg_34; assumption) | (refine ixr_by8 ?_ ?_) | (refine IV_upd ?_ ?_) | (refine Un_upd rfl ?_) | (refine IV_cpy ?_ (fun _ _ _ _ => trivial)) | (refine Un_cpy rfl ?_) | (apply Un_tr; rotate_left; assumption; rfl) | (refine And.intro ?_ ?_))) <;> (first | rfl | decide | exact Or.inl rfl | exact Or.inr (Or.inl rfl) | exact Or.inr (Or.inr rfl) | (simp only [nrm, strm, by8] at * <;> omega) | (simp [upd4, cpy4, nrm, strm, by8] at * <;> omega))) | (apply h2 <;> (repeat' (first | assumption | exact trivial | exact Un_rf | (apply by8_4; assumption) | (apply by8_9; assumption) | (apply by8_22; assumption) | (apply by8_g; assumption) | (refine by8_13 ?_) | (apply rg34_of <;> assumption) | (refine rg_max ?_ ?_) | (apply rg_34; assumption) | (refine ixr_by8 ?_ ?_) | (refine IV_upd ?_ ?_) | (refine Un_upd rfl ?_) | (refine IV_cpy ?_ (fun _ _ _ _ => trivial)) | (refine Un_cpy rfl ?_) | (apply Un_tr; rotate_left; assumption; rfl) | (refine And.intro ?_ ?_))) <;> (first | rfl | decide | exact Or.inl rfl | exact Or.inr (Or.inl rfl) | exact Or.inr (Or.inr rfl) | (simp only [nrm, strm, by8] at * <;> omega) | (simp [upd4, cpy4, nrm, strm, by8] at * <;> omega))) | (first | rfl | decide | exact Or.inl rfl | exact Or.inr (Or.inl rfl) | exact Or.inr (Or.inr rfl) | (simp only [nrm, strm, by8] at * <;> omega) | (simp [upd4, cpy4, nrm, strm, by8] at * <;> omega)) | ((repeat' (first | assumption | exact trivial | exact Un_rf | (apply by8_4; assumption) | (apply by8_9; assumption) | (apply by8_22; assumption) | (apply by8_g; assumption) | (refine by8_13 ?_) | (apply rg34_of <;> assumption) | (refine rg_max ?_ ?_) | (apply rg_34; assumption) | (refine ixr_by8 ?_ ?_) | (refine IV_upd ?_ ?_) | (refine Un_upd rfl ?_) | (refine IV_cpy ?_ (fun _ _ _ _ => trivial)) | (refine Un_cpy rfl ?_) | (apply Un_tr; rotate_left; assumption; rfl) | (refine And.intro ?_ ?_))) <;> (first | rfl | decide | exact Or.inl rfl | exact Or.inr (Or.inl rfl) | exact Or.inr (Or.inr rfl) | (simp only [nrm, strm, by8] at * <;> omega) | (simp [upd4, cpy4, nrm, strm, by8] at * <;> omega)))
  · intro av σ K kx n pc L st σ' nc ns _ _ h
    exact (h : False).elim
def gt_End_hearPing (a : Nat) : Option Nat := match a with
  | _ => none
theorem go_End_hearPing : ∀ a v, gt_End_hearPing a = some v → StaOK R_End a v := by
  intro a v h
  unfold gt_End_hearPing at h
  cases h
def pr_End_hearPing : List Ent := [(0, 5, 0, 0, 0), (1, 39, 76, 0, 0), (4, 46, 240, 0, 0), (7, 26, 0, 0, 22), (10, 5, 0, 0, 0), (11, 23, 0, 0, 0), (12, 39, 53, 0, 0), (15, 0, 0, 1, 0), (16, 12, 0, 0, 0), (17, 40, 53, 0, 0), (20, 0, 0, 0, 0), (21, 48, 0, 0, 0), (22, 5, 0, 0, 0), (23, 1, 0, 6, 0), (25, 0, 0, 1, 0), (26, 0, 0, 0, 0), (27, 5, 0, 0, 0), (28, 39, 76, 0, 0), (31, 0, 0, 0, 0), (32, 46, 209, 0, 0), (35, 46, 158, 0, 0), (38, 48, 0, 0, 0)]
def sw_End_hearPing : List Swt := []
theorem dk_End_hearPing : ∀ q ∈ pr_End_hearPing, decode b_End_hearPing q.1 = .ok (dec sw_End_hearPing q) ∧ okE q = true := by decide +kernel
theorem nt_End_hearPing : ∀ q ∈ pr_End_hearPing, ¬ q.2.1 = 55 := by decide +kernel
def ct_End_hearPing (a : Nat) : Option (Nat × Nat × CSp × Nat × Nat) := match a with
  | 158 => some (5, 3, sp_End_sendByte, 0, 0)
  | 209 => some (2, 5, sp_Frame_at, 0, 0)
  | 240 => some (1, 5, sp_Frame_isFlagged, 0, 0)
  | _ => none
theorem co_End_hearPing : ∀ a v, ct_End_hearPing a = some v → StcOK R_End 3 69 a v := by
  intro a v h
  unfold ct_End_hearPing at h
  split at h
  · cases h; exact ⟨y_End_sendByte, b_End_sendByte, 5, (some .int), 2, 45, 4, c_End_sendByte, by decide, by decide +kernel, by decide +kernel, by decide +kernel, Or.inl ⟨rfl, by decide, by decide +kernel, by decide +kernel, _, _, rfl, by decide +kernel⟩⟩
  · cases h; exact ⟨y_Frame_at, b_Frame_at, 2, (some .int), 0, 0, 1, c_Frame_at, by decide, by decide +kernel, by decide +kernel, by decide +kernel, Or.inl ⟨rfl, by decide, by decide +kernel, by decide +kernel, _, _, rfl, by decide +kernel⟩⟩
  · cases h; exact ⟨y_Frame_isFlagged, b_Frame_isFlagged, 1, (some .boolean), 0, 0, 0, c_Frame_isFlagged, by decide, by decide +kernel, by decide +kernel, by decide +kernel, Or.inl ⟨rfl, by decide, by decide +kernel, by decide +kernel, _, _, rfl, by decide +kernel⟩⟩
  · cases h
/-- End_hearPing -/
def sp_End_hearPing : CSp := sR (fun q σ K _ => q.1 = 7 ∧ IV σ ∧ ∀ r σ', by8 r → IV σ' → Un [3, 4, 7] σ σ' → K (some (.inl r)) σ')
set_option maxHeartbeats 4000000 in
set_option maxRecDepth 100000 in
theorem c_End_hearPing : Ctr y_End_hearPing b_End_hearPing 1 (some .int) 3 69 0 0 sp_End_hearPing := by
  refine ctr_of (FT := ft_End) (GT := gt_End_hearPing) (CT := ct_End_hearPing) (sw := sw_End_hearPing) (rt := 0) (pr := pr_End_hearPing) (by decide) [] (fun _ _ _ _ _ _ _ _ _ _ _ => False) 40 ⟨fun _ => rfl, fun h => absurd h (by decide), fun h => absurd h (by decide), fun h => absurd h (by decide)⟩ dk_End_hearPing fo_End go_End_hearPing co_End_hearPing (fun a k h hk => by unfold gt_End_hearPing at h; cases h) (fun q hq h => absurd h (nt_End_hearPing q hq)) (fun av σ K kx h => by rw [sR_len h]; decide) ?_ ?_
  · intro av σ K kx hok hSp
    obtain ⟨q0, rfl, hp⟩ := sR_inv hSp
    obtain ⟨k0, e0, i0⟩ := q0
    obtain ⟨h0, hI, h2⟩ := hp
    dsimp only at h0; subst h0
    all_goals (repeat' (first | (with_reducible assumption) | (with_reducible (apply by8_9; assumption)) | (with_reducible (apply by8_4; assumption)) | (with_reducible (apply by8_22; assumption)) | (with_reducible (apply by8_g; assumption)) | (with_reducible refine IV_upd ?_ ?_) | (with_reducible refine IV_cpy ?_ (fun _ _ _ _ => trivial)) | (refine And.intro ?_ ?_) | (intro _)))
    all_goals first | (exact h2) | (refine h2 _ ?_ ?_ <;> (repeat' (first | assumption | exact trivial | exact Un_rf | (apply by8_4; assumption) | (apply by8_9; assumption) | (apply by8_22; assumption) | (apply by8_g; assumption) | (refine by8_13 ?_) | (apply rg34_of <;> assumption) | (refine rg_max ?_ ?_) | (apply rg_34; assumption) | (refine ixr_by8 ?_ ?_) | (refine IV_upd ?_ ?_) | (refine Un_upd rfl ?_) | (refine IV_cpy ?_ (fun _ _ _ _ => trivial)) | (refine Un_cpy rfl ?_) | (apply Un_tr; rotate_left; assumption; rfl) | (refine And.intro ?_ ?_))) <;> (first | rfl | decide | exact Or.inl rfl | exact Or.inr (Or.inl rfl) | exact Or.inr (Or.inr rfl) | (simp only [nrm, strm, by8] at * <;> omega) | (simp [upd4, cpy4, nrm, strm, by8] at * <;> omega))) | (apply h2 <;> (repeat' (first | assumption | exact trivial | exact Un_rf | (apply by8_4; assumption) | (apply by8_9; assumption) | (apply by8_22; assumption) | (apply by8_g; assumption) | (refine by8_13 ?_) | (apply rg34_of <;> assumption) | (refine rg_max ?_ ?_) | (apply rg_34; assumption) | (refine ixr_by8 ?_ ?_) | (refine IV_upd ?_ ?_) | (refine Un_upd rfl ?_) | (refine IV_cpy ?_ (fun _ _ _ _ => trivial)) | (refine Un_cpy rfl ?_) | (apply Un_tr; rotate_left; assumption; rfl) | (refine And.intro ?_ ?_))) <;> (first | rfl | decide | exact Or.inl rfl | exact Or.inr (Or.inl rfl) | exact Or.inr (Or.inr rfl) | (simp only [nrm, strm, by8] at * <;> omega) | (simp [upd4, cpy4, nrm, strm, by8] at * <;> omega))) | (first | rfl | decide | exact Or.inl rfl | exact Or.inr (Or.inl rfl) | exact Or.inr (Or.inr rfl) | (simp only [nrm, strm, by8] at * <;> omega) | (simp [upd4, cpy4, nrm, strm, by8] at * <;> omega)) | ((repeat' (first | assumption | exact trivial | exact Un_rf | (apply by8_4; assumption) | (apply by8_9; assumption) | (apply by8_22; assumption) | (apply by8_g; assumption) | (refine by8_13 ?_) | (apply rg34_of <;> assumption) | (refine rg_max ?_ ?_) | (apply rg_34; assumption) | (refine ixr_by8 ?_ ?_) | (refine IV_upd ?_ ?_) | (refine Un_upd rfl ?_) | (refine IV_cpy ?_ (fun _ _ _ _ => trivial)) | (refine Un_cpy rfl ?_) | (apply Un_tr; rotate_left; assumption; rfl) | (refine And.intro ?_ ?_))) <;> (first | rfl | decide | exact Or.inl rfl | exact Or.inr (Or.inl rfl) | exact Or.inr (Or.inr rfl) | (simp only [nrm, strm, by8] at * <;> omega) | (simp [upd4, cpy4, nrm, strm, by8] at * <;> omega)))
  · intro av σ K kx n pc L st σ' nc ns _ _ h
    exact (h : False).elim
def gt_End_hearWindow (a : Nat) : Option Nat := match a with
  | _ => none
theorem go_End_hearWindow : ∀ a v, gt_End_hearWindow a = some v → StaOK R_End a v := by
  intro a v h
  unfold gt_End_hearWindow at h
  cases h
def pr_End_hearWindow : List Ent := [(0, 5, 0, 0, 0), (1, 39, 76, 0, 0), (4, 0, 0, 0, 0), (5, 46, 209, 0, 0), (8, 7, 1, 0, 0), (9, 5, 0, 0, 0), (10, 5, 0, 0, 0), (11, 39, 76, 0, 0), (14, 46, 216, 0, 0), (17, 46, 124, 0, 0), (20, 9, 2, 0, 0), (21, 3, 1, 0, 0), (22, 26, 0, 0, 32), (25, 5, 2, 0, 0), (26, 46, 128, 0, 0), (29, 26, 0, 0, 34), (32, 0, 0, 1, 0), (33, 48, 0, 0, 0), (34, 5, 2, 0, 0), (35, 46, 262, 0, 0), (38, 26, 0, 0, 43), (41, 0, 0, 0, 0), (42, 48, 0, 0, 0), (43, 5, 2, 0, 0), (44, 46, 265, 0, 0), (47, 3, 1, 0, 0), (48, 12, 0, 0, 0), (49, 2, 0, 250, 0), (52, 37, 0, 0, 57), (55, 0, 0, 3, 0), (56, 48, 0, 0, 0), (57, 5, 2, 0, 0), (58, 3, 1, 0, 0), (59, 46, 152, 0, 0), (62, 0, 0, 0, 0), (63, 48, 0, 0, 0)]
def sw_End_hearWindow : List Swt := []
theorem dk_End_hearWindow : ∀ q ∈ pr_End_hearWindow, decode b_End_hearWindow q.1 = .ok (dec sw_End_hearWindow q) ∧ okE q = true := by decide +kernel
theorem nt_End_hearWindow : ∀ q ∈ pr_End_hearWindow, ¬ q.2.1 = 55 := by decide +kernel
def ct_End_hearWindow (a : Nat) : Option (Nat × Nat × CSp × Nat × Nat) := match a with
  | 124 => some (2, 3, sp_End_find, 0, 0)
  | 128 => some (1, 6, sp_Stream_isIdle, 0, 0)
  | 152 => some (2, 6, sp_Stream_growRoom, 0, 0)
  | 209 => some (2, 5, sp_Frame_at, 0, 0)
  | 216 => some (1, 5, sp_Frame_streamNumber, 0, 0)
  | 262 => some (1, 6, sp_Stream_isClosed, 0, 0)
  | 265 => some (1, 6, sp_Stream_room, 0, 0)
  | _ => none
theorem co_End_hearWindow : ∀ a v, ct_End_hearWindow a = some v → StcOK R_End 2 41 a v := by
  intro a v h
  unfold ct_End_hearWindow at h
  split at h
  · cases h; exact ⟨y_End_find, b_End_find, 2, (some (.object "FrameStreams$Stream")), 1, 20, 1, c_End_find, by decide, by decide +kernel, by decide +kernel, by decide +kernel, Or.inl ⟨rfl, by decide, by decide +kernel, by decide +kernel, _, _, rfl, by decide +kernel⟩⟩
  · cases h; exact ⟨y_Stream_isIdle, b_Stream_isIdle, 1, (some .boolean), 0, 0, 0, c_Stream_isIdle, by decide, by decide +kernel, by decide +kernel, by decide +kernel, Or.inl ⟨rfl, by decide, by decide +kernel, by decide +kernel, _, _, rfl, by decide +kernel⟩⟩
  · cases h; exact ⟨y_Stream_growRoom, b_Stream_growRoom, 2, none, 0, 0, 1, c_Stream_growRoom, by decide, by decide +kernel, by decide +kernel, by decide +kernel, Or.inl ⟨rfl, by decide, by decide +kernel, by decide +kernel, _, _, rfl, by decide +kernel⟩⟩
  · cases h; exact ⟨y_Frame_at, b_Frame_at, 2, (some .int), 0, 0, 1, c_Frame_at, by decide, by decide +kernel, by decide +kernel, by decide +kernel, Or.inl ⟨rfl, by decide, by decide +kernel, by decide +kernel, _, _, rfl, by decide +kernel⟩⟩
  · cases h; exact ⟨y_Frame_streamNumber, b_Frame_streamNumber, 1, (some .int), 0, 0, 0, c_Frame_streamNumber, by decide, by decide +kernel, by decide +kernel, by decide +kernel, Or.inl ⟨rfl, by decide, by decide +kernel, by decide +kernel, _, _, rfl, by decide +kernel⟩⟩
  · cases h; exact ⟨y_Stream_isClosed, b_Stream_isClosed, 1, (some .boolean), 0, 0, 0, c_Stream_isClosed, by decide, by decide +kernel, by decide +kernel, by decide +kernel, Or.inl ⟨rfl, by decide, by decide +kernel, by decide +kernel, _, _, rfl, by decide +kernel⟩⟩
  · cases h; exact ⟨y_Stream_room, b_Stream_room, 1, (some .int), 0, 0, 0, c_Stream_room, by decide, by decide +kernel, by decide +kernel, by decide +kernel, Or.inl ⟨rfl, by decide, by decide +kernel, by decide +kernel, _, _, rfl, by decide +kernel⟩⟩
  · cases h
/-- End_hearWindow -/
def sp_End_hearWindow : CSp := sR (fun q σ K _ => q.1 = 7 ∧ IV σ ∧ ∀ r σ', by8 r → IV σ' → Un [32] σ σ' → K (some (.inl r)) σ')
set_option maxHeartbeats 4000000 in
set_option maxRecDepth 100000 in
theorem c_End_hearWindow : Ctr y_End_hearWindow b_End_hearWindow 3 (some .int) 2 41 0 0 sp_End_hearWindow := by
  refine ctr_of (FT := ft_End) (GT := gt_End_hearWindow) (CT := ct_End_hearWindow) (sw := sw_End_hearWindow) (rt := 0) (pr := pr_End_hearWindow) (by decide) [] (fun _ _ _ _ _ _ _ _ _ _ _ => False) 50 ⟨fun _ => rfl, fun h => absurd h (by decide), fun h => absurd h (by decide), fun h => absurd h (by decide)⟩ dk_End_hearWindow fo_End go_End_hearWindow co_End_hearWindow (fun a k h hk => by unfold gt_End_hearWindow at h; cases h) (fun q hq h => absurd h (nt_End_hearWindow q hq)) (fun av σ K kx h => by rw [sR_len h]; decide) ?_ ?_
  · intro av σ K kx hok hSp
    obtain ⟨q0, rfl, hp⟩ := sR_inv hSp
    obtain ⟨k0, e0, i0⟩ := q0
    obtain ⟨h0, hI, h2⟩ := hp
    dsimp only at h0; subst h0
    all_goals (repeat' (first | (with_reducible assumption) | (with_reducible (apply by8_9; assumption)) | (with_reducible (apply by8_4; assumption)) | (with_reducible (apply by8_22; assumption)) | (with_reducible (apply by8_g; assumption)) | (with_reducible refine IV_upd ?_ ?_) | (with_reducible refine IV_cpy ?_ (fun _ _ _ _ => trivial)) | (refine And.intro ?_ ?_) | (intro _)))
    all_goals first | (exact h2) | (refine h2 _ ?_ ?_ <;> (repeat' (first | assumption | exact trivial | exact Un_rf | (apply by8_4; assumption) | (apply by8_9; assumption) | (apply by8_22; assumption) | (apply by8_g; assumption) | (refine by8_13 ?_) | (apply rg34_of <;> assumption) | (refine rg_max ?_ ?_) | (apply rg_34; assumption) | (refine ixr_by8 ?_ ?_) | (refine IV_upd ?_ ?_) | (refine Un_upd rfl ?_) | (refine IV_cpy ?_ (fun _ _ _ _ => trivial)) | (refine Un_cpy rfl ?_) | (apply Un_tr; rotate_left; assumption; rfl) | (refine And.intro ?_ ?_))) <;> (first | rfl | decide | exact Or.inl rfl | exact Or.inr (Or.inl rfl) | exact Or.inr (Or.inr rfl) | (simp only [nrm, strm, by8] at * <;> omega) | (simp [upd4, cpy4, nrm, strm, by8] at * <;> omega))) | (apply h2 <;> (repeat' (first | assumption | exact trivial | exact Un_rf | (apply by8_4; assumption) | (apply by8_9; assumption) | (apply by8_22; assumption) | (apply by8_g; assumption) | (refine by8_13 ?_) | (apply rg34_of <;> assumption) | (refine rg_max ?_ ?_) | (apply rg_34; assumption) | (refine ixr_by8 ?_ ?_) | (refine IV_upd ?_ ?_) | (refine Un_upd rfl ?_) | (refine IV_cpy ?_ (fun _ _ _ _ => trivial)) | (refine Un_cpy rfl ?_) | (apply Un_tr; rotate_left; assumption; rfl) | (refine And.intro ?_ ?_))) <;> (first | rfl | decide | exact Or.inl rfl | exact Or.inr (Or.inl rfl) | exact Or.inr (Or.inr rfl) | (simp only [nrm, strm, by8] at * <;> omega) | (simp [upd4, cpy4, nrm, strm, by8] at * <;> omega))) | (first | rfl | decide | exact Or.inl rfl | exact Or.inr (Or.inl rfl) | exact Or.inr (Or.inr rfl) | (simp only [nrm, strm, by8] at * <;> omega) | (simp [upd4, cpy4, nrm, strm, by8] at * <;> omega)) | ((repeat' (first | assumption | exact trivial | exact Un_rf | (apply by8_4; assumption) | (apply by8_9; assumption) | (apply by8_22; assumption) | (apply by8_g; assumption) | (refine by8_13 ?_) | (apply rg34_of <;> assumption) | (refine rg_max ?_ ?_) | (apply rg_34; assumption) | (refine ixr_by8 ?_ ?_) | (refine IV_upd ?_ ?_) | (refine Un_upd rfl ?_) | (refine IV_cpy ?_ (fun _ _ _ _ => trivial)) | (refine Un_cpy rfl ?_) | (apply Un_tr; rotate_left; assumption; rfl) | (refine And.intro ?_ ?_))) <;> (first | rfl | decide | exact Or.inl rfl | exact Or.inr (Or.inl rfl) | exact Or.inr (Or.inr rfl) | (simp only [nrm, strm, by8] at * <;> omega) | (simp [upd4, cpy4, nrm, strm, by8] at * <;> omega)))
  · intro av σ K kx n pc L st σ' nc ns _ _ h
    exact (h : False).elim
