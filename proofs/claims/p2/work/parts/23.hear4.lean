def gt_End_hearFrame (a : Nat) : Option Nat := match a with
  | _ => none
theorem go_End_hearFrame : ∀ a v, gt_End_hearFrame a = some v → StaOK R_End a v := by
  intro a v h
  unfold gt_End_hearFrame at h
  cases h
def pr_End_hearFrame : List Ent := [(0, 5, 0, 0, 0), (1, 39, 76, 0, 0), (4, 46, 188, 0, 0), (7, 27, 0, 0, 12), (10, 0, 0, 1, 0), (11, 48, 0, 0, 0), (12, 5, 0, 0, 0), (13, 39, 76, 0, 0), (16, 46, 191, 0, 0), (19, 51, 0, 0, 0), (68, 5, 0, 0, 0), (69, 46, 194, 0, 0), (72, 48, 0, 0, 0), (73, 5, 0, 0, 0), (74, 46, 197, 0, 0), (77, 48, 0, 0, 0), (78, 5, 0, 0, 0), (79, 46, 200, 0, 0), (82, 48, 0, 0, 0), (83, 5, 0, 0, 0), (84, 46, 203, 0, 0), (87, 48, 0, 0, 0), (88, 5, 0, 0, 0), (89, 46, 206, 0, 0), (92, 48, 0, 0, 0), (93, 5, 0, 0, 0), (94, 2, 0, 256, 0), (97, 5, 0, 0, 0), (98, 39, 76, 0, 0), (101, 0, 0, 0, 0), (102, 46, 209, 0, 0), (105, 14, 0, 0, 0), (106, 5, 0, 0, 0), (107, 39, 76, 0, 0), (110, 0, 0, 1, 0), (111, 46, 209, 0, 0), (114, 12, 0, 0, 0), (115, 40, 56, 0, 0), (118, 0, 0, 0, 0), (119, 48, 0, 0, 0), (120, 5, 0, 0, 0), (121, 46, 210, 0, 0), (124, 48, 0, 0, 0), (125, 0, 0, 0, 0), (126, 48, 0, 0, 0)]
def sw_End_hearFrame : List Swt := [(0, [68, 73, 125, 78, 83, 125, 88, 93, 120], 125, 49)]
theorem dk_End_hearFrame : ∀ q ∈ pr_End_hearFrame, decode b_End_hearFrame q.1 = .ok (dec sw_End_hearFrame q) ∧ okE q = true := by decide +kernel
theorem nt_End_hearFrame : ∀ q ∈ pr_End_hearFrame, ¬ q.2.1 = 55 := by decide +kernel
def ct_End_hearFrame (a : Nat) : Option (Nat × Nat × CSp × Nat × Nat) := match a with
  | 188 => some (1, 5, sp_Frame_isWellFormed, 0, 0)
  | 191 => some (1, 5, sp_Frame_type, 0, 0)
  | 194 => some (1, 3, sp_End_hearData, 0, 0)
  | 197 => some (1, 3, sp_End_hearHeaders, 0, 0)
  | 200 => some (1, 3, sp_End_hearReset, 0, 0)
  | 203 => some (1, 3, sp_End_hearSettings, 0, 0)
  | 206 => some (1, 3, sp_End_hearPing, 0, 0)
  | 209 => some (2, 5, sp_Frame_at, 0, 0)
  | 210 => some (1, 3, sp_End_hearWindow, 0, 0)
  | _ => none
theorem co_End_hearFrame : ∀ a v, ct_End_hearFrame a = some v → StcOK R_End 6 142 a v := by
  intro a v h
  unfold ct_End_hearFrame at h
  split at h
  · cases h; exact ⟨y_Frame_isWellFormed, b_Frame_isWellFormed, 3, (some .boolean), 1, 20, 0, c_Frame_isWellFormed, by decide, by decide +kernel, by decide +kernel, by decide +kernel, Or.inl ⟨rfl, by decide, by decide +kernel, by decide +kernel, _, _, rfl, by decide +kernel⟩⟩
  · cases h; exact ⟨y_Frame_type, b_Frame_type, 1, (some .int), 0, 0, 0, c_Frame_type, by decide, by decide +kernel, by decide +kernel, by decide +kernel, Or.inl ⟨rfl, by decide, by decide +kernel, by decide +kernel, _, _, rfl, by decide +kernel⟩⟩
  · cases h; exact ⟨y_End_hearData, b_End_hearData, 4, (some .int), 4, 91, 0, c_End_hearData, by decide, by decide +kernel, by decide +kernel, by decide +kernel, Or.inl ⟨rfl, by decide, by decide +kernel, by decide +kernel, _, _, rfl, by decide +kernel⟩⟩
  · cases h; exact ⟨y_End_hearHeaders, b_End_hearHeaders, 5, (some .int), 5, 118, 0, c_End_hearHeaders, by decide, by decide +kernel, by decide +kernel, by decide +kernel, Or.inl ⟨rfl, by decide, by decide +kernel, by decide +kernel, _, _, rfl, by decide +kernel⟩⟩
  · cases h; exact ⟨y_End_hearReset, b_End_hearReset, 2, (some .int), 2, 41, 0, c_End_hearReset, by decide, by decide +kernel, by decide +kernel, by decide +kernel, Or.inl ⟨rfl, by decide, by decide +kernel, by decide +kernel, _, _, rfl, by decide +kernel⟩⟩
  · cases h; exact ⟨y_End_hearSettings, b_End_hearSettings, 3, (some .int), 2, 45, 0, c_End_hearSettings, by decide, by decide +kernel, by decide +kernel, by decide +kernel, Or.inl ⟨rfl, by decide, by decide +kernel, by decide +kernel, _, _, rfl, by decide +kernel⟩⟩
  · cases h; exact ⟨y_End_hearPing, b_End_hearPing, 1, (some .int), 3, 69, 0, c_End_hearPing, by decide, by decide +kernel, by decide +kernel, by decide +kernel, Or.inl ⟨rfl, by decide, by decide +kernel, by decide +kernel, _, _, rfl, by decide +kernel⟩⟩
  · cases h; exact ⟨y_Frame_at, b_Frame_at, 2, (some .int), 0, 0, 1, c_Frame_at, by decide, by decide +kernel, by decide +kernel, by decide +kernel, Or.inl ⟨rfl, by decide, by decide +kernel, by decide +kernel, _, _, rfl, by decide +kernel⟩⟩
  · cases h; exact ⟨y_End_hearWindow, b_End_hearWindow, 3, (some .int), 2, 41, 0, c_End_hearWindow, by decide, by decide +kernel, by decide +kernel, by decide +kernel, Or.inl ⟨rfl, by decide, by decide +kernel, by decide +kernel, _, _, rfl, by decide +kernel⟩⟩
  · cases h
/-- End_hearFrame -/
def sp_End_hearFrame : CSp := sR (fun q σ K _ => q.1 = 7 ∧ IV σ ∧ ∀ r σ', by8 r → IV σ' → Un [3, 4, 7, 23, 24, 25, 26, 27, 28, 29, 30, 32, 34, 35, 36, 37] σ σ' → K (some (.inl r)) σ')
set_option maxHeartbeats 4000000 in
set_option maxRecDepth 100000 in
theorem c_End_hearFrame : Ctr y_End_hearFrame b_End_hearFrame 1 (some .int) 6 142 0 0 sp_End_hearFrame := by
  refine ctr_of (FT := ft_End) (GT := gt_End_hearFrame) (CT := ct_End_hearFrame) (sw := sw_End_hearFrame) (rt := 0) (pr := pr_End_hearFrame) (by decide) [] (fun _ _ _ _ _ _ _ _ _ _ _ => False) 60 ⟨fun _ => rfl, fun h => absurd h (by decide), fun h => absurd h (by decide), fun h => absurd h (by decide)⟩ dk_End_hearFrame fo_End go_End_hearFrame co_End_hearFrame (fun a k h hk => by unfold gt_End_hearFrame at h; cases h) (fun q hq h => absurd h (nt_End_hearFrame q hq)) (fun av σ K kx h => by rw [sR_len h]; decide) ?_ ?_
  · intro av σ K kx hok hSp
    obtain ⟨q0, rfl, hp⟩ := sR_inv hSp
    obtain ⟨k0, e0, i0⟩ := q0
    obtain ⟨h0, hI, h2⟩ := hp
    dsimp only at h0; subst h0
    all_goals (repeat' (first | (with_reducible assumption) | (with_reducible (apply by8_9; assumption)) | (with_reducible (apply by8_4; assumption)) | (with_reducible (apply by8_22; assumption)) | (with_reducible (apply by8_g; assumption)) | (with_reducible (apply rg34_of <;> assumption)) | (with_reducible refine rg_max ?_ ?_) | (with_reducible refine IV_upd ?_ ?_) | (with_reducible refine IV_cpy ?_ (fun _ _ _ _ => trivial)) | (refine And.intro ?_ ?_) | (intro h9; first | exact absurd h9 (by decide) | contradiction | skip)))
    all_goals first | (exact h2) | (refine h2 _ ?_ ?_ <;> (repeat' (first | assumption | exact trivial | exact Un_rf | (apply by8_4; assumption) | (apply by8_9; assumption) | (apply by8_22; assumption) | (apply by8_g; assumption) | (refine by8_13 ?_) | (apply rg34_of <;> assumption) | (refine rg_max ?_ ?_) | (apply rg_34; assumption) | (refine ixr_by8 ?_ ?_) | (refine IV_upd ?_ ?_) | (refine Un_upd rfl ?_) | (refine IV_cpy ?_ (fun _ _ _ _ => trivial)) | (refine Un_cpy rfl ?_) | (apply Un_tr; rotate_left; assumption; rfl) | (refine And.intro ?_ ?_))) <;> (first | rfl | decide | exact Or.inl rfl | exact Or.inr (Or.inl rfl) | exact Or.inr (Or.inr rfl) | (simp only [nrm, strm, by8] at * <;> omega) | (simp [upd4, cpy4, nrm, strm, by8] at * <;> omega))) | (apply h2 <;> (repeat' (first | assumption | exact trivial | exact Un_rf | (apply by8_4; assumption) | (apply by8_9; assumption) | (apply by8_22; assumption) | (apply by8_g; assumption) | (refine by8_13 ?_) | (apply rg34_of <;> assumption) | (refine rg_max ?_ ?_) | (apply rg_34; assumption) | (refine ixr_by8 ?_ ?_) | (refine IV_upd ?_ ?_) | (refine Un_upd rfl ?_) | (refine IV_cpy ?_ (fun _ _ _ _ => trivial)) | (refine Un_cpy rfl ?_) | (apply Un_tr; rotate_left; assumption; rfl) | (refine And.intro ?_ ?_))) <;> (first | rfl | decide | exact Or.inl rfl | exact Or.inr (Or.inl rfl) | exact Or.inr (Or.inr rfl) | (simp only [nrm, strm, by8] at * <;> omega) | (simp [upd4, cpy4, nrm, strm, by8] at * <;> omega))) | (first | rfl | decide | exact Or.inl rfl | exact Or.inr (Or.inl rfl) | exact Or.inr (Or.inr rfl) | (simp only [nrm, strm, by8] at * <;> omega) | (simp [upd4, cpy4, nrm, strm, by8] at * <;> omega)) | ((repeat' (first | assumption | exact trivial | exact Un_rf | (apply by8_4; assumption) | (apply by8_9; assumption) | (apply by8_22; assumption) | (apply by8_g; assumption) | (refine by8_13 ?_) | (apply rg34_of <;> assumption) | (refine rg_max ?_ ?_) | (apply rg_34; assumption) | (refine ixr_by8 ?_ ?_) | (refine IV_upd ?_ ?_) | (refine Un_upd rfl ?_) | (refine IV_cpy ?_ (fun _ _ _ _ => trivial)) | (refine Un_cpy rfl ?_) | (apply Un_tr; rotate_left; assumption; rfl) | (refine And.intro ?_ ?_))) <;> (first | rfl | decide | exact Or.inl rfl | exact Or.inr (Or.inl rfl) | exact Or.inr (Or.inr rfl) | (simp only [nrm, strm, by8] at * <;> omega) | (simp [upd4, cpy4, nrm, strm, by8] at * <;> omega)))
  · intro av σ K kx n pc L st σ' nc ns _ _ h
    exact (h : False).elim
