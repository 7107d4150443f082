def gt_End_hearSettings (a : Nat) : Option Nat := match a with
  | 256 => some 201
  | _ => none
theorem go_End_hearSettings : ∀ a v, gt_End_hearSettings a = some v → StaOK R_End a v := by
  intro a v h
  unfold gt_End_hearSettings at h
  split at h
  · cases h; exact ⟨fun h => absurd h (by decide), fun h => absurd h (by decide), fun h => absurd h (by decide), fun _ => ⟨_, _, List.mem_of_getElem? (i := 1) rfl, by first | exact Or.inl (by decide +kernel) | exact Or.inr ⟨"FrameStreams", by decide +kernel⟩⟩⟩
  · cases h
def pr_End_hearSettings : List Ent := [(0, 5, 0, 0, 0), (1, 39, 76, 0, 0), (4, 46, 240, 0, 0), (7, 26, 0, 0, 22), (10, 5, 0, 0, 0), (11, 23, 0, 0, 0), (12, 39, 53, 0, 0), (15, 0, 0, 1, 0), (16, 12, 0, 0, 0), (17, 40, 53, 0, 0), (20, 0, 0, 0, 0), (21, 48, 0, 0, 0), (22, 5, 0, 0, 0), (23, 39, 76, 0, 0), (26, 0, 0, 0, 0), (27, 46, 209, 0, 0), (30, 7, 1, 0, 0), (31, 5, 0, 0, 0), (32, 39, 76, 0, 0), (35, 0, 0, 1, 0), (36, 46, 209, 0, 0), (39, 7, 2, 0, 0), (40, 3, 1, 0, 0), (41, 5, 0, 0, 0), (42, 39, 43, 0, 0), (45, 44, 0, 0, 0), (46, 35, 0, 0, 58), (49, 3, 2, 0, 0), (50, 45, 256, 0, 0), (53, 3, 1, 0, 0), (54, 41, 0, 0, 0), (55, 37, 0, 0, 60), (58, 0, 0, 1, 0), (59, 48, 0, 0, 0), (60, 3, 1, 0, 0), (61, 0, 0, 1, 0), (62, 33, 0, 0, 77), (65, 5, 0, 0, 0), (66, 3, 2, 0, 0), (67, 5, 0, 0, 0), (68, 39, 43, 0, 0), (71, 3, 1, 0, 0), (72, 41, 0, 0, 0), (73, 13, 0, 0, 0), (74, 46, 259, 0, 0), (77, 5, 0, 0, 0), (78, 39, 43, 0, 0), (81, 3, 1, 0, 0), (82, 3, 2, 0, 0), (83, 42, 0, 0, 0), (84, 5, 0, 0, 0), (85, 0, 0, 0, 0), (86, 46, 121, 0, 0), (89, 27, 0, 0, 95), (92, 1, 0, 6, 0), (94, 48, 0, 0, 0), (95, 5, 0, 0, 0), (96, 39, 70, 0, 0), (99, 0, 0, 0, 0), (100, 0, 0, 4, 0), (101, 0, 0, 1, 0), (102, 0, 0, 0, 0), (103, 46, 131, 0, 0), (106, 0, 0, 0, 0), (107, 48, 0, 0, 0)]
def sw_End_hearSettings : List Swt := []
theorem dk_End_hearSettings : ∀ q ∈ pr_End_hearSettings, decode b_End_hearSettings q.1 = .ok (dec sw_End_hearSettings q) ∧ okE q = true := by decide +kernel
theorem nt_End_hearSettings : ∀ q ∈ pr_End_hearSettings, ¬ q.2.1 = 55 := by decide +kernel
def ct_End_hearSettings (a : Nat) : Option (Nat × Nat × CSp × Nat × Nat) := match a with
  | 121 => some (2, 3, sp_End_maySend, 0, 0)
  | 131 => some (5, 8, sp_Wire_putHead, 0, 0)
  | 209 => some (2, 5, sp_Frame_at, 0, 0)
  | 240 => some (1, 5, sp_Frame_isFlagged, 0, 0)
  | 259 => some (2, 3, sp_End_growRooms, 0, 0)
  | _ => none
theorem co_End_hearSettings : ∀ a v, ct_End_hearSettings a = some v → StcOK R_End 2 45 a v := by
  intro a v h
  unfold ct_End_hearSettings at h
  split at h
  · cases h; exact ⟨y_End_maySend, b_End_maySend, 2, (some .boolean), 1, 21, 1, c_End_maySend, by decide, by decide +kernel, by decide +kernel, by decide +kernel, Or.inl ⟨rfl, by decide, by decide +kernel, by decide +kernel, _, _, rfl, by decide +kernel⟩⟩
  · cases h; exact ⟨y_Wire_putHead, b_Wire_putHead, 5, none, 1, 21, 4, c_Wire_putHead, by decide, by decide +kernel, by decide +kernel, by decide +kernel, Or.inl ⟨rfl, by decide, by decide +kernel, by decide +kernel, _, _, rfl, by decide +kernel⟩⟩
  · cases h; exact ⟨y_Frame_at, b_Frame_at, 2, (some .int), 0, 0, 1, c_Frame_at, by decide, by decide +kernel, by decide +kernel, by decide +kernel, Or.inl ⟨rfl, by decide, by decide +kernel, by decide +kernel, _, _, rfl, by decide +kernel⟩⟩
  · cases h; exact ⟨y_Frame_isFlagged, b_Frame_isFlagged, 1, (some .boolean), 0, 0, 0, c_Frame_isFlagged, by decide, by decide +kernel, by decide +kernel, by decide +kernel, Or.inl ⟨rfl, by decide, by decide +kernel, by decide +kernel, _, _, rfl, by decide +kernel⟩⟩
  · cases h; exact ⟨y_End_growRooms, b_End_growRooms, 3, none, 1, 21, 1, c_End_growRooms, by decide, by decide +kernel, by decide +kernel, by decide +kernel, Or.inl ⟨rfl, by decide, by decide +kernel, by decide +kernel, _, _, rfl, by decide +kernel⟩⟩
  · cases h
/-- End_hearSettings -/
def sp_End_hearSettings : CSp := sR (fun q σ K _ => q.1 = 7 ∧ IV σ ∧ ∀ r σ', by8 r → IV σ' → Un [3, 4, 7, 32, 34] σ σ' → K (some (.inl r)) σ')
set_option maxHeartbeats 4000000 in
set_option maxRecDepth 100000 in
theorem c_End_hearSettings : Ctr y_End_hearSettings b_End_hearSettings 3 (some .int) 2 45 0 0 sp_End_hearSettings := by
  refine ctr_of (FT := ft_End) (GT := gt_End_hearSettings) (CT := ct_End_hearSettings) (sw := sw_End_hearSettings) (rt := 0) (pr := pr_End_hearSettings) (by decide) [] (fun _ _ _ _ _ _ _ _ _ _ _ => False) 80 ⟨fun _ => rfl, fun h => absurd h (by decide), fun h => absurd h (by decide), fun h => absurd h (by decide)⟩ dk_End_hearSettings fo_End go_End_hearSettings co_End_hearSettings (fun a k h hk => by unfold gt_End_hearSettings at h; split at h <;> first | exact ⟨by decide, by decide⟩ | (cases h; done) | (cases h; exact absurd hk (by decide))) (fun q hq h => absurd h (nt_End_hearSettings q hq)) (fun av σ K kx h => by rw [sR_len h]; decide) ?_ ?_
  · intro av σ K kx hok hSp
    obtain ⟨q0, rfl, hp⟩ := sR_inv hSp
    obtain ⟨k0, e0, i0⟩ := q0
    obtain ⟨h0, hI, h2⟩ := hp
    dsimp only at h0; subst h0
    all_goals (repeat' (first | (with_reducible assumption) | (with_reducible (apply by8_9; assumption)) | (with_reducible (apply by8_4; assumption)) | (with_reducible (apply by8_22; assumption)) | (with_reducible (apply by8_g; assumption)) | (with_reducible (apply rg34_of <;> assumption)) | (with_reducible refine rg_max ?_ ?_) | (with_reducible refine IV_upd ?_ ?_) | (with_reducible refine IV_cpy ?_ (fun _ _ _ _ => trivial)) | (refine And.intro ?_ ?_) | (intro _)))
    all_goals first | (exact h2) | (refine h2 _ ?_ ?_ <;> (repeat' (first | assumption | exact trivial | exact Un_rf | (apply by8_4; assumption) | (apply by8_9; assumption) | (apply by8_22; assumption) | (apply by8_g; assumption) | (refine by8_13 ?_) | (apply rg34_of <;> assumption) | (refine rg_max ?_ ?_) | (apply rg_34; assumption) | (refine ixr_by8 ?_ ?_) | (refine IV_upd ?_ ?_) | (refine Un_upd rfl ?_) | (refine IV_cpy ?_ (fun _ _ _ _ => trivial)) | (refine Un_cpy rfl ?_) | (apply Un_tr; rotate_left; assumption; rfl) | (refine And.intro ?_ ?_))) <;> (first | rfl | decide | exact Or.inl rfl | exact Or.inr (Or.inl rfl) | exact Or.inr (Or.inr rfl) | (simp only [nrm, strm, by8] at * <;> omega) | (simp [upd4, cpy4, nrm, strm, by8] at * <;> omega))) | (apply h2 <;> (repeat' (first | assumption | exact trivial | exact Un_rf | (apply by8_4; assumption) | (apply by8_9; assumption) | (apply by8_22; assumption) | (apply by8_g; assumption) | (refine by8_13 ?_) | (apply rg34_of <;> assumption) | (refine rg_max ?_ ?_) | (apply rg_34; assumption) | (refine ixr_by8 ?_ ?_) | (refine IV_upd ?_ ?_) | (refine Un_upd rfl ?_) | (refine IV_cpy ?_ (fun _ _ _ _ => trivial)) | (refine Un_cpy rfl ?_) | (apply Un_tr; rotate_left; assumption; rfl) | (refine And.intro ?_ ?_))) <;> (first | rfl | decide | exact Or.inl rfl | exact Or.inr (Or.inl rfl) | exact Or.inr (Or.inr rfl) | (simp only [nrm, strm, by8] at * <;> omega) | (simp [upd4, cpy4, nrm, strm, by8] at * <;> omega))) | (first | rfl | decide | exact Or.inl rfl | exact Or.inr (Or.inl rfl) | exact Or.inr (Or.inr rfl) | (simp only [nrm, strm, by8] at * <;> omega) | (simp [upd4, cpy4, nrm, strm, by8] at * <;> omega)) | ((repeat' (first | assumption | exact trivial | exact Un_rf | (apply by8_4; assumption) | (apply by8_9; assumption) | (apply by8_22; assumption) | (apply by8_g; assumption) | (refine by8_13 ?_) | (apply rg34_of <;> assumption) | (refine rg_max ?_ ?_) | (apply rg_34; assumption) | (refine ixr_by8 ?_ ?_) | (refine IV_upd ?_ ?_) | (refine Un_upd rfl ?_) | (refine IV_cpy ?_ (fun _ _ _ _ => trivial)) | (refine Un_cpy rfl ?_) | (apply Un_tr; rotate_left; assumption; rfl) | (refine And.intro ?_ ?_))) <;> (first | rfl | decide | exact Or.inl rfl | exact Or.inr (Or.inl rfl) | exact Or.inr (Or.inr rfl) | (simp only [nrm, strm, by8] at * <;> omega) | (simp [upd4, cpy4, nrm, strm, by8] at * <;> omega)))
  · intro av σ K kx n pc L st σ' nc ns _ _ h
    exact (h : False).elim
