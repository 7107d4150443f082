theorem rg34_of {v : Int} {j k : Nat} (h : by8 v) (h2 : nrm v ≤ nrm (sv 201 j)) : rg 34 k v := by
  have h3 := sv201 j
  unfold by8 at h
  show 0 ≤ v ∧ v ≤ 60
  rw [nrm_id (by omega) (by omega), nrm_id (by omega) (by omega)] at h2
  omega
theorem rg_max {a b : Int} (ha : by8 a) (hb : by8 b) : rg 7 11 (if nrm a < nrm b then b else a) := by
  show 0 ≤ (if nrm a < nrm b then b else a) ∧ (if nrm a < nrm b then b else a) ≤ 255
  unfold by8 at ha hb
  split <;> omega
def ft_End (a : Nat) : Option (Nat × Nat × Nat) := match a with
  | 12 => some (3, 4, 2)
  | 21 => some (3, 5, 2)
  | 27 => some (3, 7, 2)
  | 40 => some (3, 8, 2)
  | 43 => some (3, 9, 2)
  | 46 => some (3, 10, 0)
  | 50 => some (3, 11, 0)
  | 53 => some (3, 12, 0)
  | 56 => some (3, 13, 0)
  | 59 => some (3, 14, 0)
  | 62 => some (3, 0, 3)
  | 66 => some (3, 1, 2)
  | 70 => some (3, 2, 2)
  | 76 => some (3, 3, 2)
  | 85 => some (3, 6, 2)
  | _ => none
theorem fo_End : ∀ a v, ft_End a = some v → FldOK R_End a v := by
  intro a v h
  unfold ft_End at h
  split at h
  · cases h; exact fl_End _ _ _ _ (by decide) (by decide +kernel) (by decide)
  · cases h; exact fl_End _ _ _ _ (by decide) (by decide +kernel) (by decide)
  · cases h; exact fl_End _ _ _ _ (by decide) (by decide +kernel) (by decide)
  · cases h; exact fl_End _ _ _ _ (by decide) (by decide +kernel) (by decide)
  · cases h; exact fl_End _ _ _ _ (by decide) (by decide +kernel) (by decide)
  · cases h; exact fl_End _ _ _ _ (by decide) (by decide +kernel) (by decide)
  · cases h; exact fl_End _ _ _ _ (by decide) (by decide +kernel) (by decide)
  · cases h; exact fl_End _ _ _ _ (by decide) (by decide +kernel) (by decide)
  · cases h; exact fl_End _ _ _ _ (by decide) (by decide +kernel) (by decide)
  · cases h; exact fl_End _ _ _ _ (by decide) (by decide +kernel) (by decide)
  · cases h; exact fl_End _ _ _ _ (by decide) (by decide +kernel) (by decide)
  · cases h; exact fl_End _ _ _ _ (by decide) (by decide +kernel) (by decide)
  · cases h; exact fl_End _ _ _ _ (by decide) (by decide +kernel) (by decide)
  · cases h; exact fl_End _ _ _ _ (by decide) (by decide +kernel) (by decide)
  · cases h; exact fl_End _ _ _ _ (by decide) (by decide +kernel) (by decide)
  · cases h
def gt_End_isUp (a : Nat) : Option Nat := match a with
  | _ => none
theorem go_End_isUp : ∀ a v, gt_End_isUp a = some v → StaOK R_End a v := by
  intro a v h
  unfold gt_End_isUp at h
  cases h
def pr_End_isUp : List Ent := [(0, 5, 0, 0, 0), (1, 39, 59, 0, 0), (4, 27, 0, 0, 11), (7, 0, 0, 1, 0), (8, 38, 0, 0, 12), (11, 0, 0, 0, 0), (12, 48, 0, 0, 0)]
def sw_End_isUp : List Swt := []
theorem dk_End_isUp : ∀ q ∈ pr_End_isUp, decode b_End_isUp q.1 = .ok (dec sw_End_isUp q) ∧ okE q = true := by decide +kernel
theorem nt_End_isUp : ∀ q ∈ pr_End_isUp, ¬ q.2.1 = 55 := by decide +kernel
def ct_End_isUp (a : Nat) : Option (Nat × Nat × CSp × Nat × Nat) := match a with
  | _ => none
theorem co_End_isUp : ∀ a v, ct_End_isUp a = some v → StcOK R_End 0 0 a v := by
  intro a v h
  unfold ct_End_isUp at h
  cases h
/-- End_isUp -/
def sp_End_isUp : CSp := sR (fun q σ K _ => q.1 = 7 ∧ K (some (.inl 0)) σ ∧ K (some (.inl 1)) σ)
set_option maxHeartbeats 4000000 in
set_option maxRecDepth 100000 in
theorem c_End_isUp : Ctr y_End_isUp b_End_isUp 1 (some .boolean) 0 0 0 0 sp_End_isUp := by
  refine ctr_of (FT := ft_End) (GT := gt_End_isUp) (CT := ct_End_isUp) (sw := sw_End_isUp) (rt := 1) (pr := pr_End_isUp) (by decide) [] (fun _ _ _ _ _ _ _ _ _ _ _ => False) 20 ⟨fun h => absurd h (by decide), fun _ => rfl, fun h => absurd h (by decide), fun h => absurd h (by decide)⟩ dk_End_isUp fo_End go_End_isUp co_End_isUp (fun a k h hk => by unfold gt_End_isUp at h; cases h) (fun q hq h => absurd h (nt_End_isUp q hq)) (fun av σ K kx h => by rw [sR_len h]; decide) ?_ ?_
  · intro av σ K kx hok hSp
    obtain ⟨q0, rfl, hp⟩ := sR_inv hSp
    obtain ⟨k0, e0, i0⟩ := q0
    obtain ⟨h0, h1, h2⟩ := hp
    dsimp only at h0; subst h0
    all_goals (repeat' (first | (with_reducible assumption) | (with_reducible (apply by8_9; assumption)) | (with_reducible (apply by8_4; assumption)) | (with_reducible (apply by8_22; assumption)) | (with_reducible (apply by8_g; assumption)) | (with_reducible refine IV_upd ?_ ?_) | (with_reducible refine IV_cpy ?_ (fun _ _ _ _ => trivial)) | (refine And.intro ?_ ?_) | (intro _)))
    all_goals first | (first | rfl | decide | exact Or.inl rfl | exact Or.inr (Or.inl rfl) | exact Or.inr (Or.inr rfl) | (simp only [nrm, strm, by8] at * <;> omega) | (simp [upd4, cpy4, nrm, strm, by8] at * <;> omega)) | (exact h1 (by first | assumption | (first | rfl | decide | exact Or.inl rfl | exact Or.inr (Or.inl rfl) | exact Or.inr (Or.inr rfl) | (simp only [nrm, strm, by8] at * <;> omega) | (simp [upd4, cpy4, nrm, strm, by8] at * <;> omega)))) | (exact h2 (by first | assumption | (first | rfl | decide | exact Or.inl rfl | exact Or.inr (Or.inl rfl) | exact Or.inr (Or.inr rfl) | (simp only [nrm, strm, by8] at * <;> omega) | (simp [upd4, cpy4, nrm, strm, by8] at * <;> omega)))) | (exact h1) | (exact h2) | (refine h1 _ ?_ ?_ <;> (repeat' (first | assumption | exact trivial | exact Un_rf | (apply by8_4; assumption) | (apply by8_9; assumption) | (apply by8_22; assumption) | (apply by8_g; assumption) | (refine by8_13 ?_) | (apply rg34_of <;> assumption) | (refine rg_max ?_ ?_) | (apply rg_34; assumption) | (refine ixr_by8 ?_ ?_) | (refine IV_upd ?_ ?_) | (refine Un_upd rfl ?_) | (refine IV_cpy ?_ (fun _ _ _ _ => trivial)) | (refine Un_cpy rfl ?_) | (apply Un_tr; rotate_left; assumption; rfl) | (refine And.intro ?_ ?_))) <;> (first | rfl | decide | exact Or.inl rfl | exact Or.inr (Or.inl rfl) | exact Or.inr (Or.inr rfl) | (simp only [nrm, strm, by8] at * <;> omega) | (simp [upd4, cpy4, nrm, strm, by8] at * <;> omega))) | (refine h2 _ ?_ ?_ <;> (repeat' (first | assumption | exact trivial | exact Un_rf | (apply by8_4; assumption) | (apply by8_9; assumption) | (apply by8_22; assumption) | (apply by8_g; assumption) | (refine by8_13 ?_) | (apply rg34_of <;> assumption) | (refine rg_max ?_ ?_) | (apply rg_34; assumption) | (refine ixr_by8 ?_ ?_) | (refine IV_upd ?_ ?_) | (refine Un_upd rfl ?_) | (refine IV_cpy ?_ (fun _ _ _ _ => trivial)) | (refine Un_cpy rfl ?_) | (apply Un_tr; rotate_left; assumption; rfl) | (refine And.intro ?_ ?_))) <;> (first | rfl | decide | exact Or.inl rfl | exact Or.inr (Or.inl rfl) | exact Or.inr (Or.inr rfl) | (simp only [nrm, strm, by8] at * <;> omega) | (simp [upd4, cpy4, nrm, strm, by8] at * <;> omega))) | (apply h1 <;> (repeat' (first | assumption | exact trivial | exact Un_rf | (apply by8_4; assumption) | (apply by8_9; assumption) | (apply by8_22; assumption) | (apply by8_g; assumption) | (refine by8_13 ?_) | (apply rg34_of <;> assumption) | (refine rg_max ?_ ?_) | (apply rg_34; assumption) | (refine ixr_by8 ?_ ?_) | (refine IV_upd ?_ ?_) | (refine Un_upd rfl ?_) | (refine IV_cpy ?_ (fun _ _ _ _ => trivial)) | (refine Un_cpy rfl ?_) | (apply Un_tr; rotate_left; assumption; rfl) | (refine And.intro ?_ ?_))) <;> (first | rfl | decide | exact Or.inl rfl | exact Or.inr (Or.inl rfl) | exact Or.inr (Or.inr rfl) | (simp only [nrm, strm, by8] at * <;> omega) | (simp [upd4, cpy4, nrm, strm, by8] at * <;> omega))) | (apply h2 <;> (repeat' (first | assumption | exact trivial | exact Un_rf | (apply by8_4; assumption) | (apply by8_9; assumption) | (apply by8_22; assumption) | (apply by8_g; assumption) | (refine by8_13 ?_) | (apply rg34_of <;> assumption) | (refine rg_max ?_ ?_) | (apply rg_34; assumption) | (refine ixr_by8 ?_ ?_) | (refine IV_upd ?_ ?_) | (refine Un_upd rfl ?_) | (refine IV_cpy ?_ (fun _ _ _ _ => trivial)) | (refine Un_cpy rfl ?_) | (apply Un_tr; rotate_left; assumption; rfl) | (refine And.intro ?_ ?_))) <;> (first | rfl | decide | exact Or.inl rfl | exact Or.inr (Or.inl rfl) | exact Or.inr (Or.inr rfl) | (simp only [nrm, strm, by8] at * <;> omega) | (simp [upd4, cpy4, nrm, strm, by8] at * <;> omega))) | ((repeat' (first | assumption | exact trivial | exact Un_rf | (apply by8_4; assumption) | (apply by8_9; assumption) | (apply by8_22; assumption) | (apply by8_g; assumption) | (refine by8_13 ?_) | (apply rg34_of <;> assumption) | (refine rg_max ?_ ?_) | (apply rg_34; assumption) | (refine ixr_by8 ?_ ?_) | (refine IV_upd ?_ ?_) | (refine Un_upd rfl ?_) | (refine IV_cpy ?_ (fun _ _ _ _ => trivial)) | (refine Un_cpy rfl ?_) | (apply Un_tr; rotate_left; assumption; rfl) | (refine And.intro ?_ ?_))) <;> (first | rfl | decide | exact Or.inl rfl | exact Or.inr (Or.inl rfl) | exact Or.inr (Or.inr rfl) | (simp only [nrm, strm, by8] at * <;> omega) | (simp [upd4, cpy4, nrm, strm, by8] at * <;> omega)))
  · intro av σ K kx n pc L st σ' nc ns _ _ h
    exact (h : False).elim
def gt_End_maySend (a : Nat) : Option Nat := match a with
  | _ => none
theorem go_End_maySend : ∀ a v, gt_End_maySend a = some v → StaOK R_End a v := by
  intro a v h
  unfold gt_End_maySend at h
  cases h
def pr_End_maySend : List Ent := [(0, 5, 0, 0, 0), (1, 46, 94, 0, 0), (4, 26, 0, 0, 24), (7, 5, 0, 0, 0), (8, 39, 70, 0, 0), (11, 0, 0, 4, 0), (12, 3, 1, 0, 0), (13, 12, 0, 0, 0), (14, 46, 98, 0, 0), (17, 26, 0, 0, 24), (20, 0, 0, 1, 0), (21, 38, 0, 0, 25), (24, 0, 0, 0, 0), (25, 48, 0, 0, 0)]
def sw_End_maySend : List Swt := []
theorem dk_End_maySend : ∀ q ∈ pr_End_maySend, decode b_End_maySend q.1 = .ok (dec sw_End_maySend q) ∧ okE q = true := by decide +kernel
theorem nt_End_maySend : ∀ q ∈ pr_End_maySend, ¬ q.2.1 = 55 := by decide +kernel
def ct_End_maySend (a : Nat) : Option (Nat × Nat × CSp × Nat × Nat) := match a with
  | 94 => some (1, 3, sp_End_isUp, 0, 0)
  | 98 => some (2, 8, sp_Wire_hasRoom, 0, 0)
  | _ => none
theorem co_End_maySend : ∀ a v, ct_End_maySend a = some v → StcOK R_End 1 21 a v := by
  intro a v h
  unfold ct_End_maySend at h
  split at h
  · cases h; exact ⟨y_End_isUp, b_End_isUp, 1, (some .boolean), 0, 0, 0, c_End_isUp, by decide, by decide +kernel, by decide +kernel, by decide +kernel, Or.inl ⟨rfl, by decide, by decide +kernel, by decide +kernel, _, _, rfl, by decide +kernel⟩⟩
  · cases h; exact ⟨y_Wire_hasRoom, b_Wire_hasRoom, 2, (some .boolean), 0, 0, 1, c_Wire_hasRoom, by decide, by decide +kernel, by decide +kernel, by decide +kernel, Or.inl ⟨rfl, by decide, by decide +kernel, by decide +kernel, _, _, rfl, by decide +kernel⟩⟩
  · cases h
/-- End_maySend -/
def sp_End_maySend : CSp := sRI (fun q x σ K _ => q.1 = 7 ∧ K (some (.inl 0)) σ ∧ K (some (.inl 1)) σ)
set_option maxHeartbeats 4000000 in
set_option maxRecDepth 100000 in
theorem c_End_maySend : Ctr y_End_maySend b_End_maySend 2 (some .boolean) 1 21 0 0 sp_End_maySend := by
  refine ctr_of (FT := ft_End) (GT := gt_End_maySend) (CT := ct_End_maySend) (sw := sw_End_maySend) (rt := 1) (pr := pr_End_maySend) (by decide) [] (fun _ _ _ _ _ _ _ _ _ _ _ => False) 30 ⟨fun h => absurd h (by decide), fun _ => rfl, fun h => absurd h (by decide), fun h => absurd h (by decide)⟩ dk_End_maySend fo_End go_End_maySend co_End_maySend (fun a k h hk => by unfold gt_End_maySend at h; cases h) (fun q hq h => absurd h (nt_End_maySend q hq)) (fun av σ K kx h => by rw [sRI_len h]; decide) ?_ ?_
  · intro av σ K kx hok hSp
    obtain ⟨q0, x0, rfl, hp⟩ := sRI_inv hSp
    obtain ⟨k0, e0, i0⟩ := q0
    obtain ⟨h0, h1, h2⟩ := hp
    dsimp only at h0; subst h0
    all_goals (repeat' (first | (with_reducible assumption) | (with_reducible (apply by8_9; assumption)) | (with_reducible (apply by8_4; assumption)) | (with_reducible (apply by8_22; assumption)) | (with_reducible (apply by8_g; assumption)) | (with_reducible refine IV_upd ?_ ?_) | (with_reducible refine IV_cpy ?_ (fun _ _ _ _ => trivial)) | (refine And.intro ?_ ?_) | (intro _)))
    all_goals first | (first | rfl | decide | exact Or.inl rfl | exact Or.inr (Or.inl rfl) | exact Or.inr (Or.inr rfl) | (simp only [nrm, strm, by8] at * <;> omega) | (simp [upd4, cpy4, nrm, strm, by8] at * <;> omega)) | (exact h1 (by first | assumption | (first | rfl | decide | exact Or.inl rfl | exact Or.inr (Or.inl rfl) | exact Or.inr (Or.inr rfl) | (simp only [nrm, strm, by8] at * <;> omega) | (simp [upd4, cpy4, nrm, strm, by8] at * <;> omega)))) | (exact h2 (by first | assumption | (first | rfl | decide | exact Or.inl rfl | exact Or.inr (Or.inl rfl) | exact Or.inr (Or.inr rfl) | (simp only [nrm, strm, by8] at * <;> omega) | (simp [upd4, cpy4, nrm, strm, by8] at * <;> omega)))) | (exact h1) | (exact h2) | (refine h1 _ ?_ ?_ <;> (repeat' (first | assumption | exact trivial | exact Un_rf | (apply by8_4; assumption) | (apply by8_9; assumption) | (apply by8_22; assumption) | (apply by8_g; assumption) | (refine by8_13 ?_) | (apply rg34_of <;> assumption) | (refine rg_max ?_ ?_) | (apply rg_34; assumption) | (refine ixr_by8 ?_ ?_) | (refine IV_upd ?_ ?_) | (refine Un_upd rfl ?_) | (refine IV_cpy ?_ (fun _ _ _ _ => trivial)) | (refine Un_cpy rfl ?_) | (apply Un_tr; rotate_left; assumption; rfl) | (refine And.intro ?_ ?_))) <;> (first | rfl | decide | exact Or.inl rfl | exact Or.inr (Or.inl rfl) | exact Or.inr (Or.inr rfl) | (simp only [nrm, strm, by8] at * <;> omega) | (simp [upd4, cpy4, nrm, strm, by8] at * <;> omega))) | (refine h2 _ ?_ ?_ <;> (repeat' (first | assumption | exact trivial | exact Un_rf | (apply by8_4; assumption) | (apply by8_9; assumption) | (apply by8_22; assumption) | (apply by8_g; assumption) | (refine by8_13 ?_) | (apply rg34_of <;> assumption) | (refine rg_max ?_ ?_) | (apply rg_34; assumption) | (refine ixr_by8 ?_ ?_) | (refine IV_upd ?_ ?_) | (refine Un_upd rfl ?_) | (refine IV_cpy ?_ (fun _ _ _ _ => trivial)) | (refine Un_cpy rfl ?_) | (apply Un_tr; rotate_left; assumption; rfl) | (refine And.intro ?_ ?_))) <;> (first | rfl | decide | exact Or.inl rfl | exact Or.inr (Or.inl rfl) | exact Or.inr (Or.inr rfl) | (simp only [nrm, strm, by8] at * <;> omega) | (simp [upd4, cpy4, nrm, strm, by8] at * <;> omega))) | (apply h1 <;> (repeat' (first | assumption | exact trivial | exact Un_rf | (apply by8_4; assumption) | (apply by8_9; assumption) | (apply by8_22; assumption) | (apply by8_g; assumption) | (refine by8_13 ?_) | (apply rg34_of <;> assumption) | (refine rg_max ?_ ?_) | (apply rg_34; assumption) | (refine ixr_by8 ?_ ?_) | (refine IV_upd ?_ ?_) | (refine Un_upd rfl ?_) | (refine IV_cpy ?_ (fun _ _ _ _ => trivial)) | (refine Un_cpy rfl ?_) | (apply Un_tr; rotate_left; assumption; rfl) | (refine And.intro ?_ ?_))) <;> (first | rfl | decide | exact Or.inl rfl | exact Or.inr (Or.inl rfl) | exact Or.inr (Or.inr rfl) | (simp only [nrm, strm, by8] at * <;> omega) | (simp [upd4, cpy4, nrm, strm, by8] at * <;> omega))) | (apply h2 <;> (repeat' (first | assumption | exact trivial | exact Un_rf | (apply by8_4; assumption) | (apply by8_9; assumption) | (apply by8_22; assumption) | (apply by8_g; assumption) | (refine by8_13 ?_) | (apply rg34_of <;> assumption) | (refine rg_max ?_ ?_) | (apply rg_34; assumption) | (refine ixr_by8 ?_ ?_) | (refine IV_upd ?_ ?_) | (refine Un_upd rfl ?_) | (refine IV_cpy ?_ (fun _ _ _ _ => trivial)) | (refine Un_cpy rfl ?_) | (apply Un_tr; rotate_left; assumption; rfl) | (refine And.intro ?_ ?_))) <;> (first | rfl | decide | exact Or.inl rfl | exact Or.inr (Or.inl rfl) | exact Or.inr (Or.inr rfl) | (simp only [nrm, strm, by8] at * <;> omega) | (simp [upd4, cpy4, nrm, strm, by8] at * <;> omega))) | ((repeat' (first | assumption | exact trivial | exact Un_rf | (apply by8_4; assumption) | (apply by8_9; assumption) | (apply by8_22; assumption) | (apply by8_g; assumption) | (refine by8_13 ?_) | (apply rg34_of <;> assumption) | (refine rg_max ?_ ?_) | (apply rg_34; assumption) | (refine ixr_by8 ?_ ?_) | (refine IV_upd ?_ ?_) | (refine Un_upd rfl ?_) | (refine IV_cpy ?_ (fun _ _ _ _ => trivial)) | (refine Un_cpy rfl ?_) | (apply Un_tr; rotate_left; assumption; rfl) | (refine And.intro ?_ ?_))) <;> (first | rfl | decide | exact Or.inl rfl | exact Or.inr (Or.inl rfl) | exact Or.inr (Or.inr rfl) | (simp only [nrm, strm, by8] at * <;> omega) | (simp [upd4, cpy4, nrm, strm, by8] at * <;> omega)))
  · intro av σ K kx n pc L st σ' nc ns _ _ h
    exact (h : False).elim
def gt_End_coming (a : Nat) : Option Nat := match a with
  | _ => none
theorem go_End_coming : ∀ a v, gt_End_coming a = some v → StaOK R_End a v := by
  intro a v h
  unfold gt_End_coming at h
  cases h
def pr_End_coming : List Ent := [(0, 5, 0, 0, 0), (1, 39, 66, 0, 0), (4, 50, 0, 0, 0)]
def sw_End_coming : List Swt := []
theorem dk_End_coming : ∀ q ∈ pr_End_coming, decode b_End_coming q.1 = .ok (dec sw_End_coming q) ∧ okE q = true := by decide +kernel
theorem nt_End_coming : ∀ q ∈ pr_End_coming, ¬ q.2.1 = 55 := by decide +kernel
def ct_End_coming (a : Nat) : Option (Nat × Nat × CSp × Nat × Nat) := match a with
  | _ => none
theorem co_End_coming : ∀ a v, ct_End_coming a = some v → StcOK R_End 0 0 a v := by
  intro a v h
  unfold ct_End_coming at h
  cases h
/-- End_coming -/
def sp_End_coming : CSp := sR (fun q σ K _ => q.1 = 7 ∧ K (some (.inr (3, q.2.1, q.2.2))) σ)
set_option maxHeartbeats 4000000 in
set_option maxRecDepth 100000 in
theorem c_End_coming : Ctr y_End_coming b_End_coming 1 (some (.object "FrameStreams$Wire")) 0 0 0 0 sp_End_coming := by
  refine ctr_of (FT := ft_End) (GT := gt_End_coming) (CT := ct_End_coming) (sw := sw_End_coming) (rt := 3) (pr := pr_End_coming) (by decide) [] (fun _ _ _ _ _ _ _ _ _ _ _ => False) 20 ⟨fun h => absurd h (by decide), fun h => absurd h (by decide), fun h => absurd h (by decide), fun _ => ⟨_, rfl⟩⟩ dk_End_coming fo_End go_End_coming co_End_coming (fun a k h hk => by unfold gt_End_coming at h; cases h) (fun q hq h => absurd h (nt_End_coming q hq)) (fun av σ K kx h => by rw [sR_len h]; decide) ?_ ?_
  · intro av σ K kx hok hSp
    obtain ⟨q0, rfl, hp⟩ := sR_inv hSp
    obtain ⟨k0, e0, i0⟩ := q0
    obtain ⟨h0, h1⟩ := hp
    dsimp only at h0; subst h0
    all_goals (repeat' (first | (with_reducible assumption) | (with_reducible (apply by8_9; assumption)) | (with_reducible (apply by8_4; assumption)) | (with_reducible (apply by8_22; assumption)) | (with_reducible (apply by8_g; assumption)) | (with_reducible refine IV_upd ?_ ?_) | (with_reducible refine IV_cpy ?_ (fun _ _ _ _ => trivial)) | (refine And.intro ?_ ?_) | (intro _)))
    all_goals first | (first | rfl | decide | exact Or.inl rfl | exact Or.inr (Or.inl rfl) | exact Or.inr (Or.inr rfl) | (simp only [nrm, strm, by8] at * <;> omega) | (simp [upd4, cpy4, nrm, strm, by8] at * <;> omega)) | (exact h1 (by first | assumption | (first | rfl | decide | exact Or.inl rfl | exact Or.inr (Or.inl rfl) | exact Or.inr (Or.inr rfl) | (simp only [nrm, strm, by8] at * <;> omega) | (simp [upd4, cpy4, nrm, strm, by8] at * <;> omega)))) | (exact h1) | (refine h1 _ ?_ ?_ <;> (repeat' (first | assumption | exact trivial | exact Un_rf | (apply by8_4; assumption) | (apply by8_9; assumption) | (apply by8_22; assumption) | (apply by8_g; assumption) | (refine by8_13 ?_) | (apply rg34_of <;> assumption) | (refine rg_max ?_ ?_) | (apply rg_34; assumption) | (refine ixr_by8 ?_ ?_) | (refine IV_upd ?_ ?_) | (refine Un_upd rfl ?_) | (refine IV_cpy ?_ (fun _ _ _ _ => trivial)) | (refine Un_cpy rfl ?_) | (apply Un_tr; rotate_left; assumption; rfl) | (refine And.intro ?_ ?_))) <;> (first | rfl | decide | exact Or.inl rfl | exact Or.inr (Or.inl rfl) | exact Or.inr (Or.inr rfl) | (simp only [nrm, strm, by8] at * <;> omega) | (simp [upd4, cpy4, nrm, strm, by8] at * <;> omega))) | (apply h1 <;> (repeat' (first | assumption | exact trivial | exact Un_rf | (apply by8_4; assumption) | (apply by8_9; assumption) | (apply by8_22; assumption) | (apply by8_g; assumption) | (refine by8_13 ?_) | (apply rg34_of <;> assumption) | (refine rg_max ?_ ?_) | (apply rg_34; assumption) | (refine ixr_by8 ?_ ?_) | (refine IV_upd ?_ ?_) | (refine Un_upd rfl ?_) | (refine IV_cpy ?_ (fun _ _ _ _ => trivial)) | (refine Un_cpy rfl ?_) | (apply Un_tr; rotate_left; assumption; rfl) | (refine And.intro ?_ ?_))) <;> (first | rfl | decide | exact Or.inl rfl | exact Or.inr (Or.inl rfl) | exact Or.inr (Or.inr rfl) | (simp only [nrm, strm, by8] at * <;> omega) | (simp [upd4, cpy4, nrm, strm, by8] at * <;> omega))) | ((repeat' (first | assumption | exact trivial | exact Un_rf | (apply by8_4; assumption) | (apply by8_9; assumption) | (apply by8_22; assumption) | (apply by8_g; assumption) | (refine by8_13 ?_) | (apply rg34_of <;> assumption) | (refine rg_max ?_ ?_) | (apply rg_34; assumption) | (refine ixr_by8 ?_ ?_) | (refine IV_upd ?_ ?_) | (refine Un_upd rfl ?_) | (refine IV_cpy ?_ (fun _ _ _ _ => trivial)) | (refine Un_cpy rfl ?_) | (apply Un_tr; rotate_left; assumption; rfl) | (refine And.intro ?_ ?_))) <;> (first | rfl | decide | exact Or.inl rfl | exact Or.inr (Or.inl rfl) | exact Or.inr (Or.inr rfl) | (simp only [nrm, strm, by8] at * <;> omega) | (simp [upd4, cpy4, nrm, strm, by8] at * <;> omega)))
  · intro av σ K kx n pc L st σ' nc ns _ _ h
    exact (h : False).elim
def gt_End_list (a : Nat) : Option Nat := match a with
  | _ => none
theorem go_End_list : ∀ a v, gt_End_list a = some v → StaOK R_End a v := by
  intro a v h
  unfold gt_End_list at h
  cases h
def pr_End_list : List Ent := [(0, 5, 0, 0, 0), (1, 39, 12, 0, 0), (4, 50, 0, 0, 0)]
def sw_End_list : List Swt := []
theorem dk_End_list : ∀ q ∈ pr_End_list, decode b_End_list q.1 = .ok (dec sw_End_list q) ∧ okE q = true := by decide +kernel
theorem nt_End_list : ∀ q ∈ pr_End_list, ¬ q.2.1 = 55 := by decide +kernel
def ct_End_list (a : Nat) : Option (Nat × Nat × CSp × Nat × Nat) := match a with
  | _ => none
theorem co_End_list : ∀ a v, ct_End_list a = some v → StcOK R_End 0 0 a v := by
  intro a v h
  unfold ct_End_list at h
  cases h
/-- End_list -/
def sp_End_list : CSp := sR (fun q σ K _ => q.1 = 7 ∧ K (some (.inr (10, q.2.1, q.2.2))) σ)
set_option maxHeartbeats 4000000 in
set_option maxRecDepth 100000 in
theorem c_End_list : Ctr y_End_list b_End_list 1 (some (.object "FrameStreams$Fields")) 0 0 0 0 sp_End_list := by
  refine ctr_of (FT := ft_End) (GT := gt_End_list) (CT := ct_End_list) (sw := sw_End_list) (rt := 3) (pr := pr_End_list) (by decide) [] (fun _ _ _ _ _ _ _ _ _ _ _ => False) 20 ⟨fun h => absurd h (by decide), fun h => absurd h (by decide), fun h => absurd h (by decide), fun _ => ⟨_, rfl⟩⟩ dk_End_list fo_End go_End_list co_End_list (fun a k h hk => by unfold gt_End_list at h; cases h) (fun q hq h => absurd h (nt_End_list q hq)) (fun av σ K kx h => by rw [sR_len h]; decide) ?_ ?_
  · intro av σ K kx hok hSp
    obtain ⟨q0, rfl, hp⟩ := sR_inv hSp
    obtain ⟨k0, e0, i0⟩ := q0
    obtain ⟨h0, h1⟩ := hp
    dsimp only at h0; subst h0
    all_goals (repeat' (first | (with_reducible assumption) | (with_reducible (apply by8_9; assumption)) | (with_reducible (apply by8_4; assumption)) | (with_reducible (apply by8_22; assumption)) | (with_reducible (apply by8_g; assumption)) | (with_reducible refine IV_upd ?_ ?_) | (with_reducible refine IV_cpy ?_ (fun _ _ _ _ => trivial)) | (refine And.intro ?_ ?_) | (intro _)))
    all_goals first | (first | rfl | decide | exact Or.inl rfl | exact Or.inr (Or.inl rfl) | exact Or.inr (Or.inr rfl) | (simp only [nrm, strm, by8] at * <;> omega) | (simp [upd4, cpy4, nrm, strm, by8] at * <;> omega)) | (exact h1 (by first | assumption | (first | rfl | decide | exact Or.inl rfl | exact Or.inr (Or.inl rfl) | exact Or.inr (Or.inr rfl) | (simp only [nrm, strm, by8] at * <;> omega) | (simp [upd4, cpy4, nrm, strm, by8] at * <;> omega)))) | (exact h1) | (refine h1 _ ?_ ?_ <;> (repeat' (first | assumption | exact trivial | exact Un_rf | (apply by8_4; assumption) | (apply by8_9; assumption) | (apply by8_22; assumption) | (apply by8_g; assumption) | (refine by8_13 ?_) | (apply rg34_of <;> assumption) | (refine rg_max ?_ ?_) | (apply rg_34; assumption) | (refine ixr_by8 ?_ ?_) | (refine IV_upd ?_ ?_) | (refine Un_upd rfl ?_) | (refine IV_cpy ?_ (fun _ _ _ _ => trivial)) | (refine Un_cpy rfl ?_) | (apply Un_tr; rotate_left; assumption; rfl) | (refine And.intro ?_ ?_))) <;> (first | rfl | decide | exact Or.inl rfl | exact Or.inr (Or.inl rfl) | exact Or.inr (Or.inr rfl) | (simp only [nrm, strm, by8] at * <;> omega) | (simp [upd4, cpy4, nrm, strm, by8] at * <;> omega))) | (apply h1 <;> (repeat' (first | assumption | exact trivial | exact Un_rf | (apply by8_4; assumption) | (apply by8_9; assumption) | (apply by8_22; assumption) | (apply by8_g; assumption) | (refine by8_13 ?_) | (apply rg34_of <;> assumption) | (refine rg_max ?_ ?_) | (apply rg_34; assumption) | (refine ixr_by8 ?_ ?_) | (refine IV_upd ?_ ?_) | (refine Un_upd rfl ?_) | (refine IV_cpy ?_ (fun _ _ _ _ => trivial)) | (refine Un_cpy rfl ?_) | (apply Un_tr; rotate_left; assumption; rfl) | (refine And.intro ?_ ?_))) <;> (first | rfl | decide | exact Or.inl rfl | exact Or.inr (Or.inl rfl) | exact Or.inr (Or.inr rfl) | (simp only [nrm, strm, by8] at * <;> omega) | (simp [upd4, cpy4, nrm, strm, by8] at * <;> omega))) | ((repeat' (first | assumption | exact trivial | exact Un_rf | (apply by8_4; assumption) | (apply by8_9; assumption) | (apply by8_22; assumption) | (apply by8_g; assumption) | (refine by8_13 ?_) | (apply rg34_of <;> assumption) | (refine rg_max ?_ ?_) | (apply rg_34; assumption) | (refine ixr_by8 ?_ ?_) | (refine IV_upd ?_ ?_) | (refine Un_upd rfl ?_) | (refine IV_cpy ?_ (fun _ _ _ _ => trivial)) | (refine Un_cpy rfl ?_) | (apply Un_tr; rotate_left; assumption; rfl) | (refine And.intro ?_ ?_))) <;> (first | rfl | decide | exact Or.inl rfl | exact Or.inr (Or.inl rfl) | exact Or.inr (Or.inr rfl) | (simp only [nrm, strm, by8] at * <;> omega) | (simp [upd4, cpy4, nrm, strm, by8] at * <;> omega)))
  · intro av σ K kx n pc L st σ' nc ns _ _ h
    exact (h : False).elim
def gt_End_find (a : Nat) : Option Nat := match a with
  | _ => none
theorem go_End_find : ∀ a v, gt_End_find a = some v → StaOK R_End a v := by
  intro a v h
  unfold gt_End_find at h
  cases h
def pr_End_find : List Ent := [(0, 3, 1, 0, 0), (1, 47, 104, 0, 0), (4, 26, 0, 0, 20), (7, 5, 0, 0, 0), (8, 39, 27, 0, 0), (11, 3, 1, 0, 0), (12, 0, 0, 1, 0), (13, 12, 0, 0, 0), (14, 0, 0, 2, 0), (15, 16, 0, 0, 0), (16, 43, 0, 0, 0), (17, 38, 0, 0, 26), (20, 5, 0, 0, 0), (21, 39, 27, 0, 0), (24, 0, 0, 0, 0), (25, 43, 0, 0, 0), (26, 50, 0, 0, 0)]
def sw_End_find : List Swt := []
theorem dk_End_find : ∀ q ∈ pr_End_find, decode b_End_find q.1 = .ok (dec sw_End_find q) ∧ okE q = true := by decide +kernel
theorem nt_End_find : ∀ q ∈ pr_End_find, ¬ q.2.1 = 55 := by decide +kernel
def ct_End_find (a : Nat) : Option (Nat × Nat × CSp × Nat × Nat) := match a with
  | 104 => some (1, 1000, sp_FrameStreams_isStream, 0, 0)
  | _ => none
theorem co_End_find : ∀ a v, ct_End_find a = some v → StcOK R_End 1 20 a v := by
  intro a v h
  unfold ct_End_find at h
  split at h
  · cases h; exact ⟨y_FrameStreams_isStream, b_FrameStreams_isStream, 1, (some .boolean), 0, 0, 1, c_FrameStreams_isStream, by decide, by decide +kernel, by decide +kernel, by decide +kernel, (by first | exact Or.inr (Or.inl ⟨rfl, rfl, by decide +kernel, by decide +kernel⟩) | exact Or.inr (Or.inr ⟨rfl, rfl, ⟨"FrameStreams", by decide +kernel⟩, by decide +kernel⟩))⟩
  · cases h
/-- End_find -/
def sp_End_find : CSp := sRI (fun q x σ K _ => q.1 = 7 ∧ (strm x → K (some (.inr (32, q.2.1, fx x))) σ) ∧ (¬ strm x → K (some (.inr (32, q.2.1, 0))) σ))
set_option maxHeartbeats 4000000 in
set_option maxRecDepth 100000 in
theorem c_End_find : Ctr y_End_find b_End_find 2 (some (.object "FrameStreams$Stream")) 1 20 0 0 sp_End_find := by
  refine ctr_of (FT := ft_End) (GT := gt_End_find) (CT := ct_End_find) (sw := sw_End_find) (rt := 3) (pr := pr_End_find) (by decide) [] (fun _ _ _ _ _ _ _ _ _ _ _ => False) 30 ⟨fun h => absurd h (by decide), fun h => absurd h (by decide), fun h => absurd h (by decide), fun _ => ⟨_, rfl⟩⟩ dk_End_find fo_End go_End_find co_End_find (fun a k h hk => by unfold gt_End_find at h; cases h) (fun q hq h => absurd h (nt_End_find q hq)) (fun av σ K kx h => by rw [sRI_len h]; decide) ?_ ?_
  · intro av σ K kx hok hSp
    obtain ⟨q0, x0, rfl, hp⟩ := sRI_inv hSp
    obtain ⟨k0, e0, i0⟩ := q0
    obtain ⟨h0, h1, h2⟩ := hp
    dsimp only at h0; subst h0
    all_goals (repeat' (first | (with_reducible assumption) | (with_reducible (apply by8_9; assumption)) | (with_reducible (apply by8_4; assumption)) | (with_reducible (apply by8_22; assumption)) | (with_reducible (apply by8_g; assumption)) | (with_reducible refine IV_upd ?_ ?_) | (with_reducible refine IV_cpy ?_ (fun _ _ _ _ => trivial)) | (refine And.intro ?_ ?_) | (intro _)))
    all_goals first | (first | rfl | decide | exact Or.inl rfl | exact Or.inr (Or.inl rfl) | exact Or.inr (Or.inr rfl) | (simp only [nrm, strm, by8] at * <;> omega) | (simp [upd4, cpy4, nrm, strm, by8] at * <;> omega)) | (exact h1 (by first | assumption | (first | rfl | decide | exact Or.inl rfl | exact Or.inr (Or.inl rfl) | exact Or.inr (Or.inr rfl) | (simp only [nrm, strm, by8] at * <;> omega) | (simp [upd4, cpy4, nrm, strm, by8] at * <;> omega)))) | (exact h2 (by first | assumption | (first | rfl | decide | exact Or.inl rfl | exact Or.inr (Or.inl rfl) | exact Or.inr (Or.inr rfl) | (simp only [nrm, strm, by8] at * <;> omega) | (simp [upd4, cpy4, nrm, strm, by8] at * <;> omega)))) | (exact h1) | (exact h2) | (refine h1 _ ?_ ?_ <;> (repeat' (first | assumption | exact trivial | exact Un_rf | (apply by8_4; assumption) | (apply by8_9; assumption) | (apply by8_22; assumption) | (apply by8_g; assumption) | (refine by8_13 ?_) | (apply rg34_of <;> assumption) | (refine rg_max ?_ ?_) | (apply rg_34; assumption) | (refine ixr_by8 ?_ ?_) | (refine IV_upd ?_ ?_) | (refine Un_upd rfl ?_) | (refine IV_cpy ?_ (fun _ _ _ _ => trivial)) | (refine Un_cpy rfl ?_) | (apply Un_tr; rotate_left; assumption; rfl) | (refine And.intro ?_ ?_))) <;> (first | rfl | decide | exact Or.inl rfl | exact Or.inr (Or.inl rfl) | exact Or.inr (Or.inr rfl) | (simp only [nrm, strm, by8] at * <;> omega) | (simp [upd4, cpy4, nrm, strm, by8] at * <;> omega))) | (refine h2 _ ?_ ?_ <;> (repeat' (first | assumption | exact trivial | exact Un_rf | (apply by8_4; assumption) | (apply by8_9; assumption) | (apply by8_22; assumption) | (apply by8_g; assumption) | (refine by8_13 ?_) | (apply rg34_of <;> assumption) | (refine rg_max ?_ ?_) | (apply rg_34; assumption) | (refine ixr_by8 ?_ ?_) | (refine IV_upd ?_ ?_) | (refine Un_upd rfl ?_) | (refine IV_cpy ?_ (fun _ _ _ _ => trivial)) | (refine Un_cpy rfl ?_) | (apply Un_tr; rotate_left; assumption; rfl) | (refine And.intro ?_ ?_))) <;> (first | rfl | decide | exact Or.inl rfl | exact Or.inr (Or.inl rfl) | exact Or.inr (Or.inr rfl) | (simp only [nrm, strm, by8] at * <;> omega) | (simp [upd4, cpy4, nrm, strm, by8] at * <;> omega))) | (apply h1 <;> (repeat' (first | assumption | exact trivial | exact Un_rf | (apply by8_4; assumption) | (apply by8_9; assumption) | (apply by8_22; assumption) | (apply by8_g; assumption) | (refine by8_13 ?_) | (apply rg34_of <;> assumption) | (refine rg_max ?_ ?_) | (apply rg_34; assumption) | (refine ixr_by8 ?_ ?_) | (refine IV_upd ?_ ?_) | (refine Un_upd rfl ?_) | (refine IV_cpy ?_ (fun _ _ _ _ => trivial)) | (refine Un_cpy rfl ?_) | (apply Un_tr; rotate_left; assumption; rfl) | (refine And.intro ?_ ?_))) <;> (first | rfl | decide | exact Or.inl rfl | exact Or.inr (Or.inl rfl) | exact Or.inr (Or.inr rfl) | (simp only [nrm, strm, by8] at * <;> omega) | (simp [upd4, cpy4, nrm, strm, by8] at * <;> omega))) | (apply h2 <;> (repeat' (first | assumption | exact trivial | exact Un_rf | (apply by8_4; assumption) | (apply by8_9; assumption) | (apply by8_22; assumption) | (apply by8_g; assumption) | (refine by8_13 ?_) | (apply rg34_of <;> assumption) | (refine rg_max ?_ ?_) | (apply rg_34; assumption) | (refine ixr_by8 ?_ ?_) | (refine IV_upd ?_ ?_) | (refine Un_upd rfl ?_) | (refine IV_cpy ?_ (fun _ _ _ _ => trivial)) | (refine Un_cpy rfl ?_) | (apply Un_tr; rotate_left; assumption; rfl) | (refine And.intro ?_ ?_))) <;> (first | rfl | decide | exact Or.inl rfl | exact Or.inr (Or.inl rfl) | exact Or.inr (Or.inr rfl) | (simp only [nrm, strm, by8] at * <;> omega) | (simp [upd4, cpy4, nrm, strm, by8] at * <;> omega))) | ((repeat' (first | assumption | exact trivial | exact Un_rf | (apply by8_4; assumption) | (apply by8_9; assumption) | (apply by8_22; assumption) | (apply by8_g; assumption) | (refine by8_13 ?_) | (apply rg34_of <;> assumption) | (refine rg_max ?_ ?_) | (apply rg_34; assumption) | (refine ixr_by8 ?_ ?_) | (refine IV_upd ?_ ?_) | (refine Un_upd rfl ?_) | (refine IV_cpy ?_ (fun _ _ _ _ => trivial)) | (refine Un_cpy rfl ?_) | (apply Un_tr; rotate_left; assumption; rfl) | (refine And.intro ?_ ?_))) <;> (first | rfl | decide | exact Or.inl rfl | exact Or.inr (Or.inl rfl) | exact Or.inr (Or.inr rfl) | (simp only [nrm, strm, by8] at * <;> omega) | (simp [upd4, cpy4, nrm, strm, by8] at * <;> omega)))
  · intro av σ K kx n pc L st σ' nc ns _ _ h
    exact (h : False).elim
def gt_End_liveStreams (a : Nat) : Option Nat := match a with
  | _ => none
theorem go_End_liveStreams : ∀ a v, gt_End_liveStreams a = some v → StaOK R_End a v := by
  intro a v h
  unfold gt_End_liveStreams at h
  cases h
def pr_End_liveStreams : List Ent := [(0, 0, 0, 0, 0), (1, 7, 1, 0, 0), (2, 0, 0, 1, 0), (3, 7, 2, 0, 0), (4, 3, 2, 0, 0), (5, 5, 0, 0, 0), (6, 39, 27, 0, 0), (9, 44, 0, 0, 0), (10, 35, 0, 0, 34), (13, 5, 0, 0, 0), (14, 39, 27, 0, 0), (17, 3, 2, 0, 0), (18, 43, 0, 0, 0), (19, 46, 107, 0, 0), (22, 26, 0, 0, 28), (25, 11, 1, 1, 0), (28, 11, 2, 1, 0), (31, 38, 0, 0, 4), (34, 3, 1, 0, 0), (35, 48, 0, 0, 0)]
def sw_End_liveStreams : List Swt := []
theorem dk_End_liveStreams : ∀ q ∈ pr_End_liveStreams, decode b_End_liveStreams q.1 = .ok (dec sw_End_liveStreams q) ∧ okE q = true := by decide +kernel
theorem nt_End_liveStreams : ∀ q ∈ pr_End_liveStreams, ¬ q.2.1 = 55 := by decide +kernel
def ct_End_liveStreams (a : Nat) : Option (Nat × Nat × CSp × Nat × Nat) := match a with
  | 107 => some (1, 6, sp_Stream_isLive, 0, 0)
  | _ => none
theorem co_End_liveStreams : ∀ a v, ct_End_liveStreams a = some v → StcOK R_End 2 40 a v := by
  intro a v h
  unfold ct_End_liveStreams at h
  split at h
  · cases h; exact ⟨y_Stream_isLive, b_Stream_isLive, 1, (some .boolean), 1, 20, 0, c_Stream_isLive, by decide, by decide +kernel, by decide +kernel, by decide +kernel, Or.inl ⟨rfl, by decide, by decide +kernel, by decide +kernel, _, _, rfl, by decide +kernel⟩⟩
  · cases h
/-- End_liveStreams -/
def sp_End_liveStreams : CSp := sR (fun q σ K _ => q.1 = 7 ∧ ∀ r, K (some (.inl r)) σ)
set_option maxHeartbeats 4000000 in
set_option maxRecDepth 100000 in
theorem c_End_liveStreams : Ctr y_End_liveStreams b_End_liveStreams 3 (some .int) 2 40 0 0 sp_End_liveStreams := by
  refine ctr_of (FT := ft_End) (GT := gt_End_liveStreams) (CT := ct_End_liveStreams) (sw := sw_End_liveStreams) (rt := 0) (pr := pr_End_liveStreams) (by decide) [4] (fun av σ _ _ n pc L st σ' nc ns => ∃ e i l j, av = [.inr (7, e, i)] ∧ pc = 4 ∧ L = [some (.inr (7, e, i)), some (.inl l), some (.inl j)] ∧ st = [] ∧ σ' = σ ∧ nc = 0 ∧ ns = 0 ∧ 1 ≤ j ∧ j ≤ 8 ∧ n = (8 - j).toNat) 40 ⟨fun _ => rfl, fun h => absurd h (by decide), fun h => absurd h (by decide), fun h => absurd h (by decide)⟩ dk_End_liveStreams fo_End go_End_liveStreams co_End_liveStreams (fun a k h hk => by unfold gt_End_liveStreams at h; cases h) (fun q hq h => absurd h (nt_End_liveStreams q hq)) (fun av σ K kx h => by rw [sR_len h]; decide) ?_ ?_
  · intro av σ K kx hok hSp
    obtain ⟨q0, rfl, hp⟩ := sR_inv hSp
    obtain ⟨k0, e0, i0⟩ := q0
    obtain ⟨h0, h2⟩ := hp
    dsimp only at h0; subst h0
    exact ⟨7, e0, i0, 0, 1, rfl, rfl, rfl, rfl, rfl, rfl, rfl, by omega, by omega, rfl⟩
  · intro av σ K kx n pc L st σ' nc ns hok hSp hJ
    obtain ⟨e, i, l, j, rfl, rfl, rfl, rfl, rfl, rfl, rfl, c0, c1, hn⟩ := hJ
    obtain ⟨-, hf⟩ : (7 : Nat) = 7 ∧ ∀ r, K (some (.inl r)) σ' := hSp
    all_goals (repeat' (first | (with_reducible assumption) | (with_reducible (apply by8_9; assumption)) | (with_reducible (apply by8_4; assumption)) | (with_reducible (apply by8_22; assumption)) | (with_reducible (apply by8_g; assumption)) | (with_reducible refine IV_upd ?_ ?_) | (with_reducible refine IV_cpy ?_ (fun _ _ _ _ => trivial)) | (refine And.intro ?_ ?_) | (intro _)))
    all_goals first | (first | rfl | decide | exact Or.inl rfl | exact Or.inr (Or.inl rfl) | exact Or.inr (Or.inr rfl) | (simp only [nrm, strm, by8] at * <;> omega) | (simp [upd4, cpy4, nrm, strm, by8] at * <;> omega)) | (exact hf _) | (refine ⟨(8 - (j + 1)).toNat, ?_, e, i, _, j + 1, rfl, rfl, rfl, rfl, rfl, rfl, rfl, ?_, ?_, rfl⟩ <;> (first | rfl | decide | exact Or.inl rfl | exact Or.inr (Or.inl rfl) | exact Or.inr (Or.inr rfl) | (simp only [nrm, strm, by8] at * <;> omega) | (simp [upd4, cpy4, nrm, strm, by8] at * <;> omega)))
def gt_End_nextStream (a : Nat) : Option Nat := match a with
  | _ => none
theorem go_End_nextStream : ∀ a v, gt_End_nextStream a = some v → StaOK R_End a v := by
  intro a v h
  unfold gt_End_nextStream at h
  cases h
def pr_End_nextStream : List Ent := [(0, 5, 0, 0, 0), (1, 39, 62, 0, 0), (4, 26, 0, 0, 28), (7, 5, 0, 0, 0), (8, 39, 46, 0, 0), (11, 1, 0, 7, 0), (13, 35, 0, 0, 28), (16, 5, 0, 0, 0), (17, 39, 56, 0, 0), (20, 0, 0, -1, 0), (21, 33, 0, 0, 28), (24, 0, 0, 1, 0), (25, 38, 0, 0, 29), (28, 0, 0, 0, 0), (29, 7, 1, 0, 0), (30, 3, 1, 0, 0), (31, 26, 0, 0, 58), (34, 5, 0, 0, 0), (35, 46, 110, 0, 0), (38, 5, 0, 0, 0), (39, 39, 43, 0, 0), (42, 0, 0, 2, 0), (43, 41, 0, 0, 0), (44, 35, 0, 0, 58), (47, 0, 0, 2, 0), (48, 5, 0, 0, 0), (49, 39, 46, 0, 0), (52, 14, 0, 0, 0), (53, 0, 0, 1, 0), (54, 12, 0, 0, 0), (55, 38, 0, 0, 59), (58, 0, 0, 0, 0), (59, 48, 0, 0, 0)]
def sw_End_nextStream : List Swt := []
theorem dk_End_nextStream : ∀ q ∈ pr_End_nextStream, decode b_End_nextStream q.1 = .ok (dec sw_End_nextStream q) ∧ okE q = true := by decide +kernel
theorem nt_End_nextStream : ∀ q ∈ pr_End_nextStream, ¬ q.2.1 = 55 := by decide +kernel
def ct_End_nextStream (a : Nat) : Option (Nat × Nat × CSp × Nat × Nat) := match a with
  | 110 => some (1, 3, sp_End_liveStreams, 0, 0)
  | _ => none
theorem co_End_nextStream : ∀ a v, ct_End_nextStream a = some v → StcOK R_End 3 62 a v := by
  intro a v h
  unfold ct_End_nextStream at h
  split at h
  · cases h; exact ⟨y_End_liveStreams, b_End_liveStreams, 3, (some .int), 2, 40, 0, c_End_liveStreams, by decide, by decide +kernel, by decide +kernel, by decide +kernel, Or.inl ⟨rfl, by decide, by decide +kernel, by decide +kernel, _, _, rfl, by decide +kernel⟩⟩
  · cases h
/-- End_nextStream -/
def sp_End_nextStream : CSp := sR (fun q σ K _ => q.1 = 7 ∧ IV σ ∧ K (some (.inl 0)) σ ∧ (σ 7 q.2.1 q.2.2 10 ≤ 6 → K (some (.inl (2 * σ 7 q.2.1 q.2.2 10 + 1))) σ))
set_option maxHeartbeats 4000000 in
set_option maxRecDepth 100000 in
theorem c_End_nextStream : Ctr y_End_nextStream b_End_nextStream 2 (some .int) 3 62 0 0 sp_End_nextStream := by
  refine ctr_of (FT := ft_End) (GT := gt_End_nextStream) (CT := ct_End_nextStream) (sw := sw_End_nextStream) (rt := 0) (pr := pr_End_nextStream) (by decide) [] (fun _ _ _ _ _ _ _ _ _ _ _ => False) 50 ⟨fun _ => rfl, fun h => absurd h (by decide), fun h => absurd h (by decide), fun h => absurd h (by decide)⟩ dk_End_nextStream fo_End go_End_nextStream co_End_nextStream (fun a k h hk => by unfold gt_End_nextStream at h; cases h) (fun q hq h => absurd h (nt_End_nextStream q hq)) (fun av σ K kx h => by rw [sR_len h]; decide) ?_ ?_
  · intro av σ K kx hok hSp
    obtain ⟨q0, rfl, hp⟩ := sR_inv hSp
    obtain ⟨k0, e0, i0⟩ := q0
    obtain ⟨h0, hI, h2, h3⟩ := hp
    dsimp only at h0; subst h0
    have o1 : 0 ≤ σ 7 e0 i0 10 ∧ σ 7 e0 i0 10 ≤ 7 := hI 7 e0 i0 10
    all_goals (repeat' (first | (with_reducible assumption) | (with_reducible (apply by8_9; assumption)) | (with_reducible (apply by8_4; assumption)) | (with_reducible (apply by8_22; assumption)) | (with_reducible (apply by8_g; assumption)) | (with_reducible refine IV_upd ?_ ?_) | (with_reducible refine IV_cpy ?_ (fun _ _ _ _ => trivial)) | (refine And.intro ?_ ?_) | (intro _)))
    all_goals first | (first | rfl | decide | exact Or.inl rfl | exact Or.inr (Or.inl rfl) | exact Or.inr (Or.inr rfl) | (simp only [nrm, strm, by8] at * <;> omega) | (simp [upd4, cpy4, nrm, strm, by8] at * <;> omega)) | (exact h2 (by first | assumption | (first | rfl | decide | exact Or.inl rfl | exact Or.inr (Or.inl rfl) | exact Or.inr (Or.inr rfl) | (simp only [nrm, strm, by8] at * <;> omega) | (simp [upd4, cpy4, nrm, strm, by8] at * <;> omega)))) | (exact h3 (by first | assumption | (first | rfl | decide | exact Or.inl rfl | exact Or.inr (Or.inl rfl) | exact Or.inr (Or.inr rfl) | (simp only [nrm, strm, by8] at * <;> omega) | (simp [upd4, cpy4, nrm, strm, by8] at * <;> omega)))) | (exact h2) | (exact h3) | (refine h2 _ ?_ ?_ <;> (repeat' (first | assumption | exact trivial | exact Un_rf | (apply by8_4; assumption) | (apply by8_9; assumption) | (apply by8_22; assumption) | (apply by8_g; assumption) | (refine by8_13 ?_) | (apply rg34_of <;> assumption) | (refine rg_max ?_ ?_) | (apply rg_34; assumption) | (refine ixr_by8 ?_ ?_) | (refine IV_upd ?_ ?_) | (refine Un_upd rfl ?_) | (refine IV_cpy ?_ (fun _ _ _ _ => trivial)) | (refine Un_cpy rfl ?_) | (apply Un_tr; rotate_left; assumption; rfl) | (refine And.intro ?_ ?_))) <;> (first | rfl | decide | exact Or.inl rfl | exact Or.inr (Or.inl rfl) | exact Or.inr (Or.inr rfl) | (simp only [nrm, strm, by8] at * <;> omega) | (simp [upd4, cpy4, nrm, strm, by8] at * <;> omega))) | (refine h3 _ ?_ ?_ <;> (repeat' (first | assumption | exact trivial | exact Un_rf | (apply by8_4; assumption) | (apply by8_9; assumption) | (apply by8_22; assumption) | (apply by8_g; assumption) | (refine by8_13 ?_) | (apply rg34_of <;> assumption) | (refine rg_max ?_ ?_) | (apply rg_34; assumption) | (refine ixr_by8 ?_ ?_) | (refine IV_upd ?_ ?_) | (refine Un_upd rfl ?_) | (refine IV_cpy ?_ (fun _ _ _ _ => trivial)) | (refine Un_cpy rfl ?_) | (apply Un_tr; rotate_left; assumption; rfl) | (refine And.intro ?_ ?_))) <;> (first | rfl | decide | exact Or.inl rfl | exact Or.inr (Or.inl rfl) | exact Or.inr (Or.inr rfl) | (simp only [nrm, strm, by8] at * <;> omega) | (simp [upd4, cpy4, nrm, strm, by8] at * <;> omega))) | (apply h2 <;> (repeat' (first | assumption | exact trivial | exact Un_rf | (apply by8_4; assumption) | (apply by8_9; assumption) | (apply by8_22; assumption) | (apply by8_g; assumption) | (refine by8_13 ?_) | (apply rg34_of <;> assumption) | (refine rg_max ?_ ?_) | (apply rg_34; assumption) | (refine ixr_by8 ?_ ?_) | (refine IV_upd ?_ ?_) | (refine Un_upd rfl ?_) | (refine IV_cpy ?_ (fun _ _ _ _ => trivial)) | (refine Un_cpy rfl ?_) | (apply Un_tr; rotate_left; assumption; rfl) | (refine And.intro ?_ ?_))) <;> (first | rfl | decide | exact Or.inl rfl | exact Or.inr (Or.inl rfl) | exact Or.inr (Or.inr rfl) | (simp only [nrm, strm, by8] at * <;> omega) | (simp [upd4, cpy4, nrm, strm, by8] at * <;> omega))) | (apply h3 <;> (repeat' (first | assumption | exact trivial | exact Un_rf | (apply by8_4; assumption) | (apply by8_9; assumption) | (apply by8_22; assumption) | (apply by8_g; assumption) | (refine by8_13 ?_) | (apply rg34_of <;> assumption) | (refine rg_max ?_ ?_) | (apply rg_34; assumption) | (refine ixr_by8 ?_ ?_) | (refine IV_upd ?_ ?_) | (refine Un_upd rfl ?_) | (refine IV_cpy ?_ (fun _ _ _ _ => trivial)) | (refine Un_cpy rfl ?_) | (apply Un_tr; rotate_left; assumption; rfl) | (refine And.intro ?_ ?_))) <;> (first | rfl | decide | exact Or.inl rfl | exact Or.inr (Or.inl rfl) | exact Or.inr (Or.inr rfl) | (simp only [nrm, strm, by8] at * <;> omega) | (simp [upd4, cpy4, nrm, strm, by8] at * <;> omega))) | ((repeat' (first | assumption | exact trivial | exact Un_rf | (apply by8_4; assumption) | (apply by8_9; assumption) | (apply by8_22; assumption) | (apply by8_g; assumption) | (refine by8_13 ?_) | (apply rg34_of <;> assumption) | (refine rg_max ?_ ?_) | (apply rg_34; assumption) | (refine ixr_by8 ?_ ?_) | (refine IV_upd ?_ ?_) | (refine Un_upd rfl ?_) | (refine IV_cpy ?_ (fun _ _ _ _ => trivial)) | (refine Un_cpy rfl ?_) | (apply Un_tr; rotate_left; assumption; rfl) | (refine And.intro ?_ ?_))) <;> (first | rfl | decide | exact Or.inl rfl | exact Or.inr (Or.inl rfl) | exact Or.inr (Or.inr rfl) | (simp only [nrm, strm, by8] at * <;> omega) | (simp [upd4, cpy4, nrm, strm, by8] at * <;> omega)))
  · intro av σ K kx n pc L st σ' nc ns _ _ h
    exact (h : False).elim
def gt_End_prepareBlock (a : Nat) : Option Nat := match a with
  | _ => none
theorem go_End_prepareBlock : ∀ a v, gt_End_prepareBlock a = some v → StaOK R_End a v := by
  intro a v h
  unfold gt_End_prepareBlock at h
  cases h
def pr_End_prepareBlock : List Ent := [(0, 5, 0, 0, 0), (1, 39, 21, 0, 0), (4, 5, 0, 0, 0), (5, 39, 12, 0, 0), (8, 5, 0, 0, 0), (9, 39, 43, 0, 0), (12, 0, 0, 0, 0), (13, 41, 0, 0, 0), (14, 46, 114, 0, 0), (17, 5, 0, 0, 0), (18, 39, 21, 0, 0), (21, 46, 118, 0, 0), (24, 1, 0, 40, 0), (26, 36, 0, 0, 47), (29, 5, 0, 0, 0), (30, 5, 0, 0, 0), (31, 39, 21, 0, 0), (34, 46, 118, 0, 0), (37, 46, 121, 0, 0), (40, 26, 0, 0, 47), (43, 0, 0, 1, 0), (44, 38, 0, 0, 48), (47, 0, 0, 0, 0), (48, 48, 0, 0, 0)]
def sw_End_prepareBlock : List Swt := []
theorem dk_End_prepareBlock : ∀ q ∈ pr_End_prepareBlock, decode b_End_prepareBlock q.1 = .ok (dec sw_End_prepareBlock q) ∧ okE q = true := by decide +kernel
theorem nt_End_prepareBlock : ∀ q ∈ pr_End_prepareBlock, ¬ q.2.1 = 55 := by decide +kernel
def ct_End_prepareBlock (a : Nat) : Option (Nat × Nat × CSp × Nat × Nat) := match a with
  | 114 => some (3, 2, sp_BlockWriter_write, 0, 0)
  | 118 => some (1, 2, sp_BlockWriter_length, 0, 0)
  | 121 => some (2, 3, sp_End_maySend, 0, 0)
  | _ => none
theorem co_End_prepareBlock : ∀ a v, ct_End_prepareBlock a = some v → StcOK R_End 5 118 a v := by
  intro a v h
  unfold ct_End_prepareBlock at h
  split at h
  · cases h; exact ⟨y_BlockWriter_write, b_BlockWriter_write, 4, none, 4, 95, 2, c_BlockWriter_write, by decide, by decide +kernel, by decide +kernel, by decide +kernel, Or.inl ⟨rfl, by decide, by decide +kernel, by decide +kernel, _, _, rfl, by decide +kernel⟩⟩
  · cases h; exact ⟨y_BlockWriter_length, b_BlockWriter_length, 1, (some .int), 0, 0, 0, c_BlockWriter_length, by decide, by decide +kernel, by decide +kernel, by decide +kernel, Or.inl ⟨rfl, by decide, by decide +kernel, by decide +kernel, _, _, rfl, by decide +kernel⟩⟩
  · cases h; exact ⟨y_End_maySend, b_End_maySend, 2, (some .boolean), 1, 21, 1, c_End_maySend, by decide, by decide +kernel, by decide +kernel, by decide +kernel, Or.inl ⟨rfl, by decide, by decide +kernel, by decide +kernel, _, _, rfl, by decide +kernel⟩⟩
  · cases h
/-- End_prepareBlock -/
def sp_End_prepareBlock : CSp := sR (fun q σ K _ => q.1 = 7 ∧ IV σ ∧ ∀ r σ', (r = 0 ∨ r = 1) → IV σ' → Un [13, 18, 19, 20, 21, 22] σ σ' → K (some (.inl r)) σ')
set_option maxHeartbeats 4000000 in
set_option maxRecDepth 100000 in
theorem c_End_prepareBlock : Ctr y_End_prepareBlock b_End_prepareBlock 1 (some .boolean) 5 118 0 0 sp_End_prepareBlock := by
  refine ctr_of (FT := ft_End) (GT := gt_End_prepareBlock) (CT := ct_End_prepareBlock) (sw := sw_End_prepareBlock) (rt := 1) (pr := pr_End_prepareBlock) (by decide) [] (fun _ _ _ _ _ _ _ _ _ _ _ => False) 40 ⟨fun h => absurd h (by decide), fun _ => rfl, fun h => absurd h (by decide), fun h => absurd h (by decide)⟩ dk_End_prepareBlock fo_End go_End_prepareBlock co_End_prepareBlock (fun a k h hk => by unfold gt_End_prepareBlock at h; cases h) (fun q hq h => absurd h (nt_End_prepareBlock q hq)) (fun av σ K kx h => by rw [sR_len h]; decide) ?_ ?_
  · intro av σ K kx hok hSp
    obtain ⟨q0, rfl, hp⟩ := sR_inv hSp
    obtain ⟨k0, e0, i0⟩ := q0
    obtain ⟨h0, hI, h2⟩ := hp
    dsimp only at h0; subst h0
    have k1 : 0 ≤ σ 34 e0 i0 0 ∧ σ 34 e0 i0 0 ≤ 60 := hI 34 e0 i0 0
    all_goals (repeat' (first | (with_reducible assumption) | (with_reducible (apply by8_9; assumption)) | (with_reducible (apply by8_4; assumption)) | (with_reducible (apply by8_22; assumption)) | (with_reducible (apply by8_g; assumption)) | (with_reducible refine IV_upd ?_ ?_) | (with_reducible refine IV_cpy ?_ (fun _ _ _ _ => trivial)) | (refine And.intro ?_ ?_) | (intro _)))
    all_goals first | (first | rfl | decide | exact Or.inl rfl | exact Or.inr (Or.inl rfl) | exact Or.inr (Or.inr rfl) | (simp only [nrm, strm, by8] at * <;> omega) | (simp [upd4, cpy4, nrm, strm, by8] at * <;> omega)) | (exact h2) | (refine h2 _ ?_ ?_ <;> (repeat' (first | assumption | exact trivial | exact Un_rf | (apply by8_4; assumption) | (apply by8_9; assumption) | (apply by8_22; assumption) | (apply by8_g; assumption) | (refine by8_13 ?_) | (apply rg34_of <;> assumption) | (refine rg_max ?_ ?_) | (apply rg_34; assumption) | (refine ixr_by8 ?_ ?_) | (refine IV_upd ?_ ?_) | (refine Un_upd rfl ?_) | (refine IV_cpy ?_ (fun _ _ _ _ => trivial)) | (refine Un_cpy rfl ?_) | (apply Un_tr; rotate_left; assumption; rfl) | (refine And.intro ?_ ?_))) <;> (first | rfl | decide | exact Or.inl rfl | exact Or.inr (Or.inl rfl) | exact Or.inr (Or.inr rfl) | (simp only [nrm, strm, by8] at * <;> omega) | (simp [upd4, cpy4, nrm, strm, by8] at * <;> omega))) | (apply h2 <;> (repeat' (first | assumption | exact trivial | exact Un_rf | (apply by8_4; assumption) | (apply by8_9; assumption) | (apply by8_22; assumption) | (apply by8_g; assumption) | (refine by8_13 ?_) | (apply rg34_of <;> assumption) | (refine rg_max ?_ ?_) | (apply rg_34; assumption) | (refine ixr_by8 ?_ ?_) | (refine IV_upd ?_ ?_) | (refine Un_upd rfl ?_) | (refine IV_cpy ?_ (fun _ _ _ _ => trivial)) | (refine Un_cpy rfl ?_) | (apply Un_tr; rotate_left; assumption; rfl) | (refine And.intro ?_ ?_))) <;> (first | rfl | decide | exact Or.inl rfl | exact Or.inr (Or.inl rfl) | exact Or.inr (Or.inr rfl) | (simp only [nrm, strm, by8] at * <;> omega) | (simp [upd4, cpy4, nrm, strm, by8] at * <;> omega))) | ((repeat' (first | assumption | exact trivial | exact Un_rf | (apply by8_4; assumption) | (apply by8_9; assumption) | (apply by8_22; assumption) | (apply by8_g; assumption) | (refine by8_13 ?_) | (apply rg34_of <;> assumption) | (refine rg_max ?_ ?_) | (apply rg_34; assumption) | (refine ixr_by8 ?_ ?_) | (refine IV_upd ?_ ?_) | (refine Un_upd rfl ?_) | (refine IV_cpy ?_ (fun _ _ _ _ => trivial)) | (refine Un_cpy rfl ?_) | (apply Un_tr; rotate_left; assumption; rfl) | (refine And.intro ?_ ?_))) <;> (first | rfl | decide | exact Or.inl rfl | exact Or.inr (Or.inl rfl) | exact Or.inr (Or.inr rfl) | (simp only [nrm, strm, by8] at * <;> omega) | (simp [upd4, cpy4, nrm, strm, by8] at * <;> omega)))
  · intro av σ K kx n pc L st σ' nc ns _ _ h
    exact (h : False).elim
def gt_End_sendPair (a : Nat) : Option Nat := match a with
  | _ => none
theorem go_End_sendPair : ∀ a v, gt_End_sendPair a = some v → StaOK R_End a v := by
  intro a v h
  unfold gt_End_sendPair at h
  cases h
def pr_End_sendPair : List Ent := [(0, 5, 0, 0, 0), (1, 0, 0, 2, 0), (2, 46, 121, 0, 0), (5, 26, 0, 0, 35), (8, 5, 0, 0, 0), (9, 39, 70, 0, 0), (12, 0, 0, 2, 0), (13, 3, 1, 0, 0), (14, 0, 0, 0, 0), (15, 0, 0, 0, 0), (16, 46, 131, 0, 0), (19, 5, 0, 0, 0), (20, 39, 70, 0, 0), (23, 3, 2, 0, 0), (24, 46, 139, 0, 0), (27, 5, 0, 0, 0), (28, 39, 70, 0, 0), (31, 3, 3, 0, 0), (32, 46, 139, 0, 0), (35, 49, 0, 0, 0)]
def sw_End_sendPair : List Swt := []
theorem dk_End_sendPair : ∀ q ∈ pr_End_sendPair, decode b_End_sendPair q.1 = .ok (dec sw_End_sendPair q) ∧ okE q = true := by decide +kernel
theorem nt_End_sendPair : ∀ q ∈ pr_End_sendPair, ¬ q.2.1 = 55 := by decide +kernel
def ct_End_sendPair (a : Nat) : Option (Nat × Nat × CSp × Nat × Nat) := match a with
  | 121 => some (2, 3, sp_End_maySend, 0, 0)
  | 131 => some (5, 8, sp_Wire_putHead, 0, 0)
  | 139 => some (2, 8, sp_Wire_put, 0, 0)
  | _ => none
theorem co_End_sendPair : ∀ a v, ct_End_sendPair a = some v → StcOK R_End 2 45 a v := by
  intro a v h
  unfold ct_End_sendPair at h
  split at h
  · cases h; exact ⟨y_End_maySend, b_End_maySend, 2, (some .boolean), 1, 21, 1, c_End_maySend, by decide, by decide +kernel, by decide +kernel, by decide +kernel, Or.inl ⟨rfl, by decide, by decide +kernel, by decide +kernel, _, _, rfl, by decide +kernel⟩⟩
  · cases h; exact ⟨y_Wire_putHead, b_Wire_putHead, 5, none, 1, 21, 4, c_Wire_putHead, by decide, by decide +kernel, by decide +kernel, by decide +kernel, Or.inl ⟨rfl, by decide, by decide +kernel, by decide +kernel, _, _, rfl, by decide +kernel⟩⟩
  · cases h; exact ⟨y_Wire_put, b_Wire_put, 2, none, 0, 0, 1, c_Wire_put, by decide, by decide +kernel, by decide +kernel, by decide +kernel, Or.inl ⟨rfl, by decide, by decide +kernel, by decide +kernel, _, _, rfl, by decide +kernel⟩⟩
  · cases h
/-- End_sendPair -/
def sp_End_sendPair : CSp := sRIII (fun q x0 x1 x2 σ K _ => q.1 = 7 ∧ IV σ ∧ by8 x0 ∧ by8 x1 ∧ by8 x2 ∧ ∀ σ', IV σ' → Un [3, 4] σ σ' → K none σ')
set_option maxHeartbeats 4000000 in
set_option maxRecDepth 100000 in
theorem c_End_sendPair : Ctr y_End_sendPair b_End_sendPair 4 none 2 45 0 0 sp_End_sendPair := by
  refine ctr_of (FT := ft_End) (GT := gt_End_sendPair) (CT := ct_End_sendPair) (sw := sw_End_sendPair) (rt := 2) (pr := pr_End_sendPair) (by decide) [] (fun _ _ _ _ _ _ _ _ _ _ _ => False) 40 ⟨fun h => absurd h (by decide), fun h => absurd h (by decide), fun _ => rfl, fun h => absurd h (by decide)⟩ dk_End_sendPair fo_End go_End_sendPair co_End_sendPair (fun a k h hk => by unfold gt_End_sendPair at h; cases h) (fun q hq h => absurd h (nt_End_sendPair q hq)) (fun av σ K kx h => by rw [sRIII_len h]; decide) ?_ ?_
  · intro av σ K kx hok hSp
    obtain ⟨q0, x0, x1, x2, rfl, hp⟩ := sRIII_inv hSp
    obtain ⟨k0, e0, i0⟩ := q0
    obtain ⟨h0, hI, h2, h3, h4, h5⟩ := hp
    dsimp only at h0; subst h0
    all_goals (repeat' (first | (with_reducible assumption) | (with_reducible (apply by8_9; assumption)) | (with_reducible (apply by8_4; assumption)) | (with_reducible (apply by8_22; assumption)) | (with_reducible (apply by8_g; assumption)) | (with_reducible refine IV_upd ?_ ?_) | (with_reducible refine IV_cpy ?_ (fun _ _ _ _ => trivial)) | (refine And.intro ?_ ?_) | (intro _)))
    all_goals first | (first | rfl | decide | exact Or.inl rfl | exact Or.inr (Or.inl rfl) | exact Or.inr (Or.inr rfl) | (simp only [nrm, strm, by8] at * <;> omega) | (simp [upd4, cpy4, nrm, strm, by8] at * <;> omega)) | (exact h5) | (refine h5 _ ?_ ?_ <;> (repeat' (first | assumption | exact trivial | exact Un_rf | (apply by8_4; assumption) | (apply by8_9; assumption) | (apply by8_22; assumption) | (apply by8_g; assumption) | (refine by8_13 ?_) | (apply rg34_of <;> assumption) | (refine rg_max ?_ ?_) | (apply rg_34; assumption) | (refine ixr_by8 ?_ ?_) | (refine IV_upd ?_ ?_) | (refine Un_upd rfl ?_) | (refine IV_cpy ?_ (fun _ _ _ _ => trivial)) | (refine Un_cpy rfl ?_) | (apply Un_tr; rotate_left; assumption; rfl) | (refine And.intro ?_ ?_))) <;> (first | rfl | decide | exact Or.inl rfl | exact Or.inr (Or.inl rfl) | exact Or.inr (Or.inr rfl) | (simp only [nrm, strm, by8] at * <;> omega) | (simp [upd4, cpy4, nrm, strm, by8] at * <;> omega))) | (apply h5 <;> (repeat' (first | assumption | exact trivial | exact Un_rf | (apply by8_4; assumption) | (apply by8_9; assumption) | (apply by8_22; assumption) | (apply by8_g; assumption) | (refine by8_13 ?_) | (apply rg34_of <;> assumption) | (refine rg_max ?_ ?_) | (apply rg_34; assumption) | (refine ixr_by8 ?_ ?_) | (refine IV_upd ?_ ?_) | (refine Un_upd rfl ?_) | (refine IV_cpy ?_ (fun _ _ _ _ => trivial)) | (refine Un_cpy rfl ?_) | (apply Un_tr; rotate_left; assumption; rfl) | (refine And.intro ?_ ?_))) <;> (first | rfl | decide | exact Or.inl rfl | exact Or.inr (Or.inl rfl) | exact Or.inr (Or.inr rfl) | (simp only [nrm, strm, by8] at * <;> omega) | (simp [upd4, cpy4, nrm, strm, by8] at * <;> omega))) | ((repeat' (first | assumption | exact trivial | exact Un_rf | (apply by8_4; assumption) | (apply by8_9; assumption) | (apply by8_22; assumption) | (apply by8_g; assumption) | (refine by8_13 ?_) | (apply rg34_of <;> assumption) | (refine rg_max ?_ ?_) | (apply rg_34; assumption) | (refine ixr_by8 ?_ ?_) | (refine IV_upd ?_ ?_) | (refine Un_upd rfl ?_) | (refine IV_cpy ?_ (fun _ _ _ _ => trivial)) | (refine Un_cpy rfl ?_) | (apply Un_tr; rotate_left; assumption; rfl) | (refine And.intro ?_ ?_))) <;> (first | rfl | decide | exact Or.inl rfl | exact Or.inr (Or.inl rfl) | exact Or.inr (Or.inr rfl) | (simp only [nrm, strm, by8] at * <;> omega) | (simp [upd4, cpy4, nrm, strm, by8] at * <;> omega)))
  · intro av σ K kx n pc L st σ' nc ns _ _ h
    exact (h : False).elim
def gt_End_sendByte (a : Nat) : Option Nat := match a with
  | _ => none
theorem go_End_sendByte : ∀ a v, gt_End_sendByte a = some v → StaOK R_End a v := by
  intro a v h
  unfold gt_End_sendByte at h
  cases h
def pr_End_sendByte : List Ent := [(0, 5, 0, 0, 0), (1, 0, 0, 1, 0), (2, 46, 121, 0, 0), (5, 27, 0, 0, 11), (8, 1, 0, 6, 0), (10, 48, 0, 0, 0), (11, 5, 0, 0, 0), (12, 39, 70, 0, 0), (15, 0, 0, 1, 0), (16, 3, 1, 0, 0), (17, 3, 2, 0, 0), (18, 3, 3, 0, 0), (19, 46, 131, 0, 0), (22, 5, 0, 0, 0), (23, 39, 70, 0, 0), (26, 4, 4, 0, 0), (28, 46, 139, 0, 0), (31, 0, 0, 0, 0), (32, 48, 0, 0, 0)]
def sw_End_sendByte : List Swt := []
theorem dk_End_sendByte : ∀ q ∈ pr_End_sendByte, decode b_End_sendByte q.1 = .ok (dec sw_End_sendByte q) ∧ okE q = true := by decide +kernel
theorem nt_End_sendByte : ∀ q ∈ pr_End_sendByte, ¬ q.2.1 = 55 := by decide +kernel
def ct_End_sendByte (a : Nat) : Option (Nat × Nat × CSp × Nat × Nat) := match a with
  | 121 => some (2, 3, sp_End_maySend, 0, 0)
  | 131 => some (5, 8, sp_Wire_putHead, 0, 0)
  | 139 => some (2, 8, sp_Wire_put, 0, 0)
  | _ => none
theorem co_End_sendByte : ∀ a v, ct_End_sendByte a = some v → StcOK R_End 2 45 a v := by
  intro a v h
  unfold ct_End_sendByte at h
  split at h
  · cases h; exact ⟨y_End_maySend, b_End_maySend, 2, (some .boolean), 1, 21, 1, c_End_maySend, by decide, by decide +kernel, by decide +kernel, by decide +kernel, Or.inl ⟨rfl, by decide, by decide +kernel, by decide +kernel, _, _, rfl, by decide +kernel⟩⟩
  · cases h; exact ⟨y_Wire_putHead, b_Wire_putHead, 5, none, 1, 21, 4, c_Wire_putHead, by decide, by decide +kernel, by decide +kernel, by decide +kernel, Or.inl ⟨rfl, by decide, by decide +kernel, by decide +kernel, _, _, rfl, by decide +kernel⟩⟩
  · cases h; exact ⟨y_Wire_put, b_Wire_put, 2, none, 0, 0, 1, c_Wire_put, by decide, by decide +kernel, by decide +kernel, by decide +kernel, Or.inl ⟨rfl, by decide, by decide +kernel, by decide +kernel, _, _, rfl, by decide +kernel⟩⟩
  · cases h
/-- End_sendByte -/
def sp_End_sendByte : CSp := sRIIII (fun q x0 x1 x2 x3 σ K _ => q.1 = 7 ∧ IV σ ∧ by8 x0 ∧ by8 x1 ∧ by8 x2 ∧ by8 x3 ∧ ∀ r σ', (r = 0 ∨ r = 6) → IV σ' → Un [3, 4] σ σ' → K (some (.inl r)) σ')
set_option maxHeartbeats 4000000 in
set_option maxRecDepth 100000 in
theorem c_End_sendByte : Ctr y_End_sendByte b_End_sendByte 5 (some .int) 2 45 0 0 sp_End_sendByte := by
  refine ctr_of (FT := ft_End) (GT := gt_End_sendByte) (CT := ct_End_sendByte) (sw := sw_End_sendByte) (rt := 0) (pr := pr_End_sendByte) (by decide) [] (fun _ _ _ _ _ _ _ _ _ _ _ => False) 30 ⟨fun _ => rfl, fun h => absurd h (by decide), fun h => absurd h (by decide), fun h => absurd h (by decide)⟩ dk_End_sendByte fo_End go_End_sendByte co_End_sendByte (fun a k h hk => by unfold gt_End_sendByte at h; cases h) (fun q hq h => absurd h (nt_End_sendByte q hq)) (fun av σ K kx h => by rw [sRIIII_len h]; decide) ?_ ?_
  · intro av σ K kx hok hSp
    obtain ⟨q0, x0, x1, x2, x3, rfl, hp⟩ := sRIIII_inv hSp
    obtain ⟨k0, e0, i0⟩ := q0
    obtain ⟨h0, hI, h2, h3, h4, h5, h6⟩ := hp
    dsimp only at h0; subst h0
    all_goals (repeat' (first | (with_reducible assumption) | (with_reducible (apply by8_9; assumption)) | (with_reducible (apply by8_4; assumption)) | (with_reducible (apply by8_22; assumption)) | (with_reducible (apply by8_g; assumption)) | (with_reducible refine IV_upd ?_ ?_) | (with_reducible refine IV_cpy ?_ (fun _ _ _ _ => trivial)) | (refine And.intro ?_ ?_) | (intro _)))
    all_goals first | (first | rfl | decide | exact Or.inl rfl | exact Or.inr (Or.inl rfl) | exact Or.inr (Or.inr rfl) | (simp only [nrm, strm, by8] at * <;> omega) | (simp [upd4, cpy4, nrm, strm, by8] at * <;> omega)) | (exact h6) | (refine h6 _ ?_ ?_ <;> (repeat' (first | assumption | exact trivial | exact Un_rf | (apply by8_4; assumption) | (apply by8_9; assumption) | (apply by8_22; assumption) | (apply by8_g; assumption) | (refine by8_13 ?_) | (apply rg34_of <;> assumption) | (refine rg_max ?_ ?_) | (apply rg_34; assumption) | (refine ixr_by8 ?_ ?_) | (refine IV_upd ?_ ?_) | (refine Un_upd rfl ?_) | (refine IV_cpy ?_ (fun _ _ _ _ => trivial)) | (refine Un_cpy rfl ?_) | (apply Un_tr; rotate_left; assumption; rfl) | (refine And.intro ?_ ?_))) <;> (first | rfl | decide | exact Or.inl rfl | exact Or.inr (Or.inl rfl) | exact Or.inr (Or.inr rfl) | (simp only [nrm, strm, by8] at * <;> omega) | (simp [upd4, cpy4, nrm, strm, by8] at * <;> omega))) | (apply h6 <;> (repeat' (first | assumption | exact trivial | exact Un_rf | (apply by8_4; assumption) | (apply by8_9; assumption) | (apply by8_22; assumption) | (apply by8_g; assumption) | (refine by8_13 ?_) | (apply rg34_of <;> assumption) | (refine rg_max ?_ ?_) | (apply rg_34; assumption) | (refine ixr_by8 ?_ ?_) | (refine IV_upd ?_ ?_) | (refine Un_upd rfl ?_) | (refine IV_cpy ?_ (fun _ _ _ _ => trivial)) | (refine Un_cpy rfl ?_) | (apply Un_tr; rotate_left; assumption; rfl) | (refine And.intro ?_ ?_))) <;> (first | rfl | decide | exact Or.inl rfl | exact Or.inr (Or.inl rfl) | exact Or.inr (Or.inr rfl) | (simp only [nrm, strm, by8] at * <;> omega) | (simp [upd4, cpy4, nrm, strm, by8] at * <;> omega))) | ((repeat' (first | assumption | exact trivial | exact Un_rf | (apply by8_4; assumption) | (apply by8_9; assumption) | (apply by8_22; assumption) | (apply by8_g; assumption) | (refine by8_13 ?_) | (apply rg34_of <;> assumption) | (refine rg_max ?_ ?_) | (apply rg_34; assumption) | (refine ixr_by8 ?_ ?_) | (refine IV_upd ?_ ?_) | (refine Un_upd rfl ?_) | (refine IV_cpy ?_ (fun _ _ _ _ => trivial)) | (refine Un_cpy rfl ?_) | (apply Un_tr; rotate_left; assumption; rfl) | (refine And.intro ?_ ?_))) <;> (first | rfl | decide | exact Or.inl rfl | exact Or.inr (Or.inl rfl) | exact Or.inr (Or.inr rfl) | (simp only [nrm, strm, by8] at * <;> omega) | (simp [upd4, cpy4, nrm, strm, by8] at * <;> omega)))
  · intro av σ K kx n pc L st σ' nc ns _ _ h
    exact (h : False).elim
def gt_End_closeBy (a : Nat) : Option Nat := match a with
  | _ => none
theorem go_End_closeBy : ∀ a v, gt_End_closeBy a = some v → StaOK R_End a v := by
  intro a v h
  unfold gt_End_closeBy at h
  cases h
def pr_End_closeBy : List Ent := [(0, 5, 0, 0, 0), (1, 3, 1, 0, 0), (2, 46, 124, 0, 0), (5, 46, 155, 0, 0), (8, 5, 0, 0, 0), (9, 0, 0, 3, 0), (10, 0, 0, 0, 0), (11, 3, 1, 0, 0), (12, 3, 2, 0, 0), (13, 46, 158, 0, 0), (16, 48, 0, 0, 0)]
def sw_End_closeBy : List Swt := []
theorem dk_End_closeBy : ∀ q ∈ pr_End_closeBy, decode b_End_closeBy q.1 = .ok (dec sw_End_closeBy q) ∧ okE q = true := by decide +kernel
theorem nt_End_closeBy : ∀ q ∈ pr_End_closeBy, ¬ q.2.1 = 55 := by decide +kernel
def ct_End_closeBy (a : Nat) : Option (Nat × Nat × CSp × Nat × Nat) := match a with
  | 124 => some (2, 3, sp_End_find, 0, 0)
  | 155 => some (1, 6, sp_Stream_close, 0, 0)
  | 158 => some (5, 3, sp_End_sendByte, 0, 0)
  | _ => none
theorem co_End_closeBy : ∀ a v, ct_End_closeBy a = some v → StcOK R_End 3 69 a v := by
  intro a v h
  unfold ct_End_closeBy at h
  split at h
  · cases h; exact ⟨y_End_find, b_End_find, 2, (some (.object "FrameStreams$Stream")), 1, 20, 1, c_End_find, by decide, by decide +kernel, by decide +kernel, by decide +kernel, Or.inl ⟨rfl, by decide, by decide +kernel, by decide +kernel, _, _, rfl, by decide +kernel⟩⟩
  · cases h; exact ⟨y_Stream_close, b_Stream_close, 1, none, 0, 0, 0, c_Stream_close, by decide, by decide +kernel, by decide +kernel, by decide +kernel, Or.inl ⟨rfl, by decide, by decide +kernel, by decide +kernel, _, _, rfl, by decide +kernel⟩⟩
  · cases h; exact ⟨y_End_sendByte, b_End_sendByte, 5, (some .int), 2, 45, 4, c_End_sendByte, by decide, by decide +kernel, by decide +kernel, by decide +kernel, Or.inl ⟨rfl, by decide, by decide +kernel, by decide +kernel, _, _, rfl, by decide +kernel⟩⟩
  · cases h
/-- End_closeBy -/
def sp_End_closeBy : CSp := sRII (fun q x0 x1 σ K _ => q.1 = 7 ∧ IV σ ∧ by8 x0 ∧ by8 x1 ∧ ∀ r σ', (r = 0 ∨ r = 6) → IV σ' → Un [3, 4, 32] σ σ' → K (some (.inl r)) σ')
set_option maxHeartbeats 4000000 in
set_option maxRecDepth 100000 in
theorem c_End_closeBy : Ctr y_End_closeBy b_End_closeBy 3 (some .int) 3 69 0 0 sp_End_closeBy := by
  refine ctr_of (FT := ft_End) (GT := gt_End_closeBy) (CT := ct_End_closeBy) (sw := sw_End_closeBy) (rt := 0) (pr := pr_End_closeBy) (by decide) [] (fun _ _ _ _ _ _ _ _ _ _ _ => False) 30 ⟨fun _ => rfl, fun h => absurd h (by decide), fun h => absurd h (by decide), fun h => absurd h (by decide)⟩ dk_End_closeBy fo_End go_End_closeBy co_End_closeBy (fun a k h hk => by unfold gt_End_closeBy at h; cases h) (fun q hq h => absurd h (nt_End_closeBy q hq)) (fun av σ K kx h => by rw [sRII_len h]; decide) ?_ ?_
  · intro av σ K kx hok hSp
    obtain ⟨q0, x0, x1, rfl, hp⟩ := sRII_inv hSp
    obtain ⟨k0, e0, i0⟩ := q0
    obtain ⟨h0, hI, h2, h3, h4⟩ := hp
    dsimp only at h0; subst h0
    all_goals (repeat' (first | (with_reducible assumption) | (with_reducible (apply by8_9; assumption)) | (with_reducible (apply by8_4; assumption)) | (with_reducible (apply by8_22; assumption)) | (with_reducible (apply by8_g; assumption)) | (with_reducible refine IV_upd ?_ ?_) | (with_reducible refine IV_cpy ?_ (fun _ _ _ _ => trivial)) | (refine And.intro ?_ ?_) | (intro _)))
    all_goals first | (first | rfl | decide | exact Or.inl rfl | exact Or.inr (Or.inl rfl) | exact Or.inr (Or.inr rfl) | (simp only [nrm, strm, by8] at * <;> omega) | (simp [upd4, cpy4, nrm, strm, by8] at * <;> omega)) | (exact h4) | (refine h4 _ ?_ ?_ <;> (repeat' (first | assumption | exact trivial | exact Un_rf | (apply by8_4; assumption) | (apply by8_9; assumption) | (apply by8_22; assumption) | (apply by8_g; assumption) | (refine by8_13 ?_) | (apply rg34_of <;> assumption) | (refine rg_max ?_ ?_) | (apply rg_34; assumption) | (refine ixr_by8 ?_ ?_) | (refine IV_upd ?_ ?_) | (refine Un_upd rfl ?_) | (refine IV_cpy ?_ (fun _ _ _ _ => trivial)) | (refine Un_cpy rfl ?_) | (apply Un_tr; rotate_left; assumption; rfl) | (refine And.intro ?_ ?_))) <;> (first | rfl | decide | exact Or.inl rfl | exact Or.inr (Or.inl rfl) | exact Or.inr (Or.inr rfl) | (simp only [nrm, strm, by8] at * <;> omega) | (simp [upd4, cpy4, nrm, strm, by8] at * <;> omega))) | (apply h4 <;> (repeat' (first | assumption | exact trivial | exact Un_rf | (apply by8_4; assumption) | (apply by8_9; assumption) | (apply by8_22; assumption) | (apply by8_g; assumption) | (refine by8_13 ?_) | (apply rg34_of <;> assumption) | (refine rg_max ?_ ?_) | (apply rg_34; assumption) | (refine ixr_by8 ?_ ?_) | (refine IV_upd ?_ ?_) | (refine Un_upd rfl ?_) | (refine IV_cpy ?_ (fun _ _ _ _ => trivial)) | (refine Un_cpy rfl ?_) | (apply Un_tr; rotate_left; assumption; rfl) | (refine And.intro ?_ ?_))) <;> (first | rfl | decide | exact Or.inl rfl | exact Or.inr (Or.inl rfl) | exact Or.inr (Or.inr rfl) | (simp only [nrm, strm, by8] at * <;> omega) | (simp [upd4, cpy4, nrm, strm, by8] at * <;> omega))) | ((repeat' (first | assumption | exact trivial | exact Un_rf | (apply by8_4; assumption) | (apply by8_9; assumption) | (apply by8_22; assumption) | (apply by8_g; assumption) | (refine by8_13 ?_) | (apply rg34_of <;> assumption) | (refine rg_max ?_ ?_) | (apply rg_34; assumption) | (refine ixr_by8 ?_ ?_) | (refine IV_upd ?_ ?_) | (refine Un_upd rfl ?_) | (refine IV_cpy ?_ (fun _ _ _ _ => trivial)) | (refine Un_cpy rfl ?_) | (apply Un_tr; rotate_left; assumption; rfl) | (refine And.intro ?_ ?_))) <;> (first | rfl | decide | exact Or.inl rfl | exact Or.inr (Or.inl rfl) | exact Or.inr (Or.inr rfl) | (simp only [nrm, strm, by8] at * <;> omega) | (simp [upd4, cpy4, nrm, strm, by8] at * <;> omega)))
  · intro av σ K kx n pc L st σ' nc ns _ _ h
    exact (h : False).elim
def gt_End_growDues (a : Nat) : Option Nat := match a with
  | _ => none
theorem go_End_growDues : ∀ a v, gt_End_growDues a = some v → StaOK R_End a v := by
  intro a v h
  unfold gt_End_growDues at h
  cases h
def pr_End_growDues : List Ent := [(0, 0, 0, 1, 0), (1, 7, 2, 0, 0), (2, 3, 2, 0, 0), (3, 5, 0, 0, 0), (4, 39, 27, 0, 0), (7, 44, 0, 0, 0), (8, 35, 0, 0, 39), (11, 5, 0, 0, 0), (12, 39, 27, 0, 0), (15, 3, 2, 0, 0), (16, 43, 0, 0, 0), (17, 46, 128, 0, 0), (20, 27, 0, 0, 33), (23, 5, 0, 0, 0), (24, 39, 27, 0, 0), (27, 3, 2, 0, 0), (28, 43, 0, 0, 0), (29, 3, 1, 0, 0), (30, 46, 169, 0, 0), (33, 11, 2, 1, 0), (36, 38, 0, 0, 2), (39, 49, 0, 0, 0)]
def sw_End_growDues : List Swt := []
theorem dk_End_growDues : ∀ q ∈ pr_End_growDues, decode b_End_growDues q.1 = .ok (dec sw_End_growDues q) ∧ okE q = true := by decide +kernel
theorem nt_End_growDues : ∀ q ∈ pr_End_growDues, ¬ q.2.1 = 55 := by decide +kernel
def ct_End_growDues (a : Nat) : Option (Nat × Nat × CSp × Nat × Nat) := match a with
  | 128 => some (1, 6, sp_Stream_isIdle, 0, 0)
  | 169 => some (2, 6, sp_Stream_growDue, 0, 0)
  | _ => none
theorem co_End_growDues : ∀ a v, ct_End_growDues a = some v → StcOK R_End 1 21 a v := by
  intro a v h
  unfold ct_End_growDues at h
  split at h
  · cases h; exact ⟨y_Stream_isIdle, b_Stream_isIdle, 1, (some .boolean), 0, 0, 0, c_Stream_isIdle, by decide, by decide +kernel, by decide +kernel, by decide +kernel, Or.inl ⟨rfl, by decide, by decide +kernel, by decide +kernel, _, _, rfl, by decide +kernel⟩⟩
  · cases h; exact ⟨y_Stream_growDue, b_Stream_growDue, 2, none, 0, 0, 1, c_Stream_growDue, by decide, by decide +kernel, by decide +kernel, by decide +kernel, Or.inl ⟨rfl, by decide, by decide +kernel, by decide +kernel, _, _, rfl, by decide +kernel⟩⟩
  · cases h
/-- End_growDues -/
def sp_End_growDues : CSp := sRI (fun q x σ K _ => q.1 = 7 ∧ IV σ ∧ ∀ σ', IV σ' → Un [32] σ σ' → K none σ')
set_option maxHeartbeats 4000000 in
set_option maxRecDepth 100000 in
theorem c_End_growDues : Ctr y_End_growDues b_End_growDues 3 none 1 21 0 0 sp_End_growDues := by
  refine ctr_of (FT := ft_End) (GT := gt_End_growDues) (CT := ct_End_growDues) (sw := sw_End_growDues) (rt := 2) (pr := pr_End_growDues) (by decide) [2] (fun av σ _ _ n pc L st σ' nc ns => ∃ e i x j, av = [.inr (7, e, i), .inl x] ∧ pc = 2 ∧ L = [some (.inr (7, e, i)), some (.inl x), some (.inl j)] ∧ st = [] ∧ nc = 0 ∧ ns = 0 ∧ 1 ≤ j ∧ j ≤ 8 ∧ n = (8 - j).toNat ∧ IV σ' ∧ Un [32] σ σ') 40 ⟨fun h => absurd h (by decide), fun h => absurd h (by decide), fun _ => rfl, fun h => absurd h (by decide)⟩ dk_End_growDues fo_End go_End_growDues co_End_growDues (fun a k h hk => by unfold gt_End_growDues at h; cases h) (fun q hq h => absurd h (nt_End_growDues q hq)) (fun av σ K kx h => by rw [sRI_len h]; decide) ?_ ?_
  · intro av σ K kx hok hSp
    obtain ⟨q0, x0, rfl, hp⟩ := sRI_inv hSp
    obtain ⟨k0, e0, i0⟩ := q0
    obtain ⟨h0, hI, hf⟩ := hp
    dsimp only at h0; subst h0
    all_goals (repeat' (first | (with_reducible assumption) | (with_reducible (apply by8_9; assumption)) | (with_reducible (apply by8_4; assumption)) | (with_reducible (apply by8_22; assumption)) | (with_reducible (apply by8_g; assumption)) | (with_reducible refine IV_upd ?_ ?_) | (with_reducible refine IV_cpy ?_ (fun _ _ _ _ => trivial)) | (refine And.intro ?_ ?_) | (intro _)))
    all_goals first | (first | rfl | decide | exact Or.inl rfl | exact Or.inr (Or.inl rfl) | exact Or.inr (Or.inr rfl) | (simp only [nrm, strm, by8] at * <;> omega) | (simp [upd4, cpy4, nrm, strm, by8] at * <;> omega)) | (apply hf <;> (repeat' (first | assumption | exact trivial | exact Un_rf | (apply by8_4; assumption) | (apply by8_9; assumption) | (apply by8_22; assumption) | (apply by8_g; assumption) | (refine by8_13 ?_) | (apply rg34_of <;> assumption) | (refine rg_max ?_ ?_) | (apply rg_34; assumption) | (refine ixr_by8 ?_ ?_) | (refine IV_upd ?_ ?_) | (refine Un_upd rfl ?_) | (refine IV_cpy ?_ (fun _ _ _ _ => trivial)) | (refine Un_cpy rfl ?_) | (apply Un_tr; rotate_left; assumption; rfl) | (refine And.intro ?_ ?_))) <;> (first | rfl | decide | exact Or.inl rfl | exact Or.inr (Or.inl rfl) | exact Or.inr (Or.inr rfl) | (simp only [nrm, strm, by8] at * <;> omega) | (simp [upd4, cpy4, nrm, strm, by8] at * <;> omega))) | (refine ⟨((8 : Int) - (1)).toNat, e0, i0, x0, 1, rfl, rfl, rfl, rfl, rfl, rfl, ?_, ?_, rfl, ?_, ?_⟩ <;> (repeat' (first | assumption | exact trivial | exact Un_rf | (apply by8_4; assumption) | (apply by8_9; assumption) | (apply by8_22; assumption) | (apply by8_g; assumption) | (refine by8_13 ?_) | (apply rg34_of <;> assumption) | (refine rg_max ?_ ?_) | (apply rg_34; assumption) | (refine ixr_by8 ?_ ?_) | (refine IV_upd ?_ ?_) | (refine Un_upd rfl ?_) | (refine IV_cpy ?_ (fun _ _ _ _ => trivial)) | (refine Un_cpy rfl ?_) | (apply Un_tr; rotate_left; assumption; rfl) | (refine And.intro ?_ ?_))) <;> (first | rfl | decide | exact Or.inl rfl | exact Or.inr (Or.inl rfl) | exact Or.inr (Or.inr rfl) | (simp only [nrm, strm, by8] at * <;> omega) | (simp [upd4, cpy4, nrm, strm, by8] at * <;> omega))) | ((repeat' (first | assumption | exact trivial | exact Un_rf | (apply by8_4; assumption) | (apply by8_9; assumption) | (apply by8_22; assumption) | (apply by8_g; assumption) | (refine by8_13 ?_) | (apply rg34_of <;> assumption) | (refine rg_max ?_ ?_) | (apply rg_34; assumption) | (refine ixr_by8 ?_ ?_) | (refine IV_upd ?_ ?_) | (refine Un_upd rfl ?_) | (refine IV_cpy ?_ (fun _ _ _ _ => trivial)) | (refine Un_cpy rfl ?_) | (apply Un_tr; rotate_left; assumption; rfl) | (refine And.intro ?_ ?_))) <;> (first | rfl | decide | exact Or.inl rfl | exact Or.inr (Or.inl rfl) | exact Or.inr (Or.inr rfl) | (simp only [nrm, strm, by8] at * <;> omega) | (simp [upd4, cpy4, nrm, strm, by8] at * <;> omega)))
  · intro av σ K kx n pc L st σ' nc ns hok hSp hJ
    obtain ⟨e, i, x, j, rfl, rfl, rfl, rfl, rfl, rfl, c0, c1, hn, hI, hU⟩ := hJ
    obtain ⟨-, -, hf⟩ : (7 : Nat) = 7 ∧ IV σ ∧ ∀ σ', IV σ' → Un [32] σ σ' → K none σ' := hSp
    all_goals (repeat' (first | (with_reducible assumption) | (with_reducible (apply by8_9; assumption)) | (with_reducible (apply by8_4; assumption)) | (with_reducible (apply by8_22; assumption)) | (with_reducible (apply by8_g; assumption)) | (with_reducible refine IV_upd ?_ ?_) | (with_reducible refine IV_cpy ?_ (fun _ _ _ _ => trivial)) | (refine And.intro ?_ ?_) | (intro _)))
    all_goals first | (first | rfl | decide | exact Or.inl rfl | exact Or.inr (Or.inl rfl) | exact Or.inr (Or.inr rfl) | (simp only [nrm, strm, by8] at * <;> omega) | (simp [upd4, cpy4, nrm, strm, by8] at * <;> omega)) | (apply hf <;> (repeat' (first | assumption | exact trivial | exact Un_rf | (apply by8_4; assumption) | (apply by8_9; assumption) | (apply by8_22; assumption) | (apply by8_g; assumption) | (refine by8_13 ?_) | (apply rg34_of <;> assumption) | (refine rg_max ?_ ?_) | (apply rg_34; assumption) | (refine ixr_by8 ?_ ?_) | (refine IV_upd ?_ ?_) | (refine Un_upd rfl ?_) | (refine IV_cpy ?_ (fun _ _ _ _ => trivial)) | (refine Un_cpy rfl ?_) | (apply Un_tr; rotate_left; assumption; rfl) | (refine And.intro ?_ ?_))) <;> (first | rfl | decide | exact Or.inl rfl | exact Or.inr (Or.inl rfl) | exact Or.inr (Or.inr rfl) | (simp only [nrm, strm, by8] at * <;> omega) | (simp [upd4, cpy4, nrm, strm, by8] at * <;> omega))) | (refine ⟨((8 : Int) - (j + 1)).toNat, ?_, e, i, x, j + 1, rfl, rfl, rfl, rfl, rfl, rfl, ?_, ?_, rfl, ?_, ?_⟩ <;> (repeat' (first | assumption | exact trivial | exact Un_rf | (apply by8_4; assumption) | (apply by8_9; assumption) | (apply by8_22; assumption) | (apply by8_g; assumption) | (refine by8_13 ?_) | (apply rg34_of <;> assumption) | (refine rg_max ?_ ?_) | (apply rg_34; assumption) | (refine ixr_by8 ?_ ?_) | (refine IV_upd ?_ ?_) | (refine Un_upd rfl ?_) | (refine IV_cpy ?_ (fun _ _ _ _ => trivial)) | (refine Un_cpy rfl ?_) | (apply Un_tr; rotate_left; assumption; rfl) | (refine And.intro ?_ ?_))) <;> (first | rfl | decide | exact Or.inl rfl | exact Or.inr (Or.inl rfl) | exact Or.inr (Or.inr rfl) | (simp only [nrm, strm, by8] at * <;> omega) | (simp [upd4, cpy4, nrm, strm, by8] at * <;> omega))) | ((repeat' (first | assumption | exact trivial | exact Un_rf | (apply by8_4; assumption) | (apply by8_9; assumption) | (apply by8_22; assumption) | (apply by8_g; assumption) | (refine by8_13 ?_) | (apply rg34_of <;> assumption) | (refine rg_max ?_ ?_) | (apply rg_34; assumption) | (refine ixr_by8 ?_ ?_) | (refine IV_upd ?_ ?_) | (refine Un_upd rfl ?_) | (refine IV_cpy ?_ (fun _ _ _ _ => trivial)) | (refine Un_cpy rfl ?_) | (apply Un_tr; rotate_left; assumption; rfl) | (refine And.intro ?_ ?_))) <;> (first | rfl | decide | exact Or.inl rfl | exact Or.inr (Or.inl rfl) | exact Or.inr (Or.inr rfl) | (simp only [nrm, strm, by8] at * <;> omega) | (simp [upd4, cpy4, nrm, strm, by8] at * <;> omega)))
def gt_End_growRooms (a : Nat) : Option Nat := match a with
  | _ => none
theorem go_End_growRooms : ∀ a v, gt_End_growRooms a = some v → StaOK R_End a v := by
  intro a v h
  unfold gt_End_growRooms at h
  cases h
def pr_End_growRooms : List Ent := [(0, 0, 0, 1, 0), (1, 7, 2, 0, 0), (2, 3, 2, 0, 0), (3, 5, 0, 0, 0), (4, 39, 27, 0, 0), (7, 44, 0, 0, 0), (8, 35, 0, 0, 39), (11, 5, 0, 0, 0), (12, 39, 27, 0, 0), (15, 3, 2, 0, 0), (16, 43, 0, 0, 0), (17, 46, 128, 0, 0), (20, 27, 0, 0, 33), (23, 5, 0, 0, 0), (24, 39, 27, 0, 0), (27, 3, 2, 0, 0), (28, 43, 0, 0, 0), (29, 3, 1, 0, 0), (30, 46, 152, 0, 0), (33, 11, 2, 1, 0), (36, 38, 0, 0, 2), (39, 49, 0, 0, 0)]
def sw_End_growRooms : List Swt := []
theorem dk_End_growRooms : ∀ q ∈ pr_End_growRooms, decode b_End_growRooms q.1 = .ok (dec sw_End_growRooms q) ∧ okE q = true := by decide +kernel
theorem nt_End_growRooms : ∀ q ∈ pr_End_growRooms, ¬ q.2.1 = 55 := by decide +kernel
def ct_End_growRooms (a : Nat) : Option (Nat × Nat × CSp × Nat × Nat) := match a with
  | 128 => some (1, 6, sp_Stream_isIdle, 0, 0)
  | 152 => some (2, 6, sp_Stream_growRoom, 0, 0)
  | _ => none
theorem co_End_growRooms : ∀ a v, ct_End_growRooms a = some v → StcOK R_End 1 21 a v := by
  intro a v h
  unfold ct_End_growRooms at h
  split at h
  · cases h; exact ⟨y_Stream_isIdle, b_Stream_isIdle, 1, (some .boolean), 0, 0, 0, c_Stream_isIdle, by decide, by decide +kernel, by decide +kernel, by decide +kernel, Or.inl ⟨rfl, by decide, by decide +kernel, by decide +kernel, _, _, rfl, by decide +kernel⟩⟩
  · cases h; exact ⟨y_Stream_growRoom, b_Stream_growRoom, 2, none, 0, 0, 1, c_Stream_growRoom, by decide, by decide +kernel, by decide +kernel, by decide +kernel, Or.inl ⟨rfl, by decide, by decide +kernel, by decide +kernel, _, _, rfl, by decide +kernel⟩⟩
  · cases h
/-- End_growRooms -/
def sp_End_growRooms : CSp := sRI (fun q x σ K _ => q.1 = 7 ∧ IV σ ∧ ∀ σ', IV σ' → Un [32] σ σ' → K none σ')
set_option maxHeartbeats 4000000 in
set_option maxRecDepth 100000 in
theorem c_End_growRooms : Ctr y_End_growRooms b_End_growRooms 3 none 1 21 0 0 sp_End_growRooms := by
  refine ctr_of (FT := ft_End) (GT := gt_End_growRooms) (CT := ct_End_growRooms) (sw := sw_End_growRooms) (rt := 2) (pr := pr_End_growRooms) (by decide) [2] (fun av σ _ _ n pc L st σ' nc ns => ∃ e i x j, av = [.inr (7, e, i), .inl x] ∧ pc = 2 ∧ L = [some (.inr (7, e, i)), some (.inl x), some (.inl j)] ∧ st = [] ∧ nc = 0 ∧ ns = 0 ∧ 1 ≤ j ∧ j ≤ 8 ∧ n = (8 - j).toNat ∧ IV σ' ∧ Un [32] σ σ') 40 ⟨fun h => absurd h (by decide), fun h => absurd h (by decide), fun _ => rfl, fun h => absurd h (by decide)⟩ dk_End_growRooms fo_End go_End_growRooms co_End_growRooms (fun a k h hk => by unfold gt_End_growRooms at h; cases h) (fun q hq h => absurd h (nt_End_growRooms q hq)) (fun av σ K kx h => by rw [sRI_len h]; decide) ?_ ?_
  · intro av σ K kx hok hSp
    obtain ⟨q0, x0, rfl, hp⟩ := sRI_inv hSp
    obtain ⟨k0, e0, i0⟩ := q0
    obtain ⟨h0, hI, hf⟩ := hp
    dsimp only at h0; subst h0
    all_goals (repeat' (first | (with_reducible assumption) | (with_reducible (apply by8_9; assumption)) | (with_reducible (apply by8_4; assumption)) | (with_reducible (apply by8_22; assumption)) | (with_reducible (apply by8_g; assumption)) | (with_reducible refine IV_upd ?_ ?_) | (with_reducible refine IV_cpy ?_ (fun _ _ _ _ => trivial)) | (refine And.intro ?_ ?_) | (intro _)))
    all_goals first | (first | rfl | decide | exact Or.inl rfl | exact Or.inr (Or.inl rfl) | exact Or.inr (Or.inr rfl) | (simp only [nrm, strm, by8] at * <;> omega) | (simp [upd4, cpy4, nrm, strm, by8] at * <;> omega)) | (apply hf <;> (repeat' (first | assumption | exact trivial | exact Un_rf | (apply by8_4; assumption) | (apply by8_9; assumption) | (apply by8_22; assumption) | (apply by8_g; assumption) | (refine by8_13 ?_) | (apply rg34_of <;> assumption) | (refine rg_max ?_ ?_) | (apply rg_34; assumption) | (refine ixr_by8 ?_ ?_) | (refine IV_upd ?_ ?_) | (refine Un_upd rfl ?_) | (refine IV_cpy ?_ (fun _ _ _ _ => trivial)) | (refine Un_cpy rfl ?_) | (apply Un_tr; rotate_left; assumption; rfl) | (refine And.intro ?_ ?_))) <;> (first | rfl | decide | exact Or.inl rfl | exact Or.inr (Or.inl rfl) | exact Or.inr (Or.inr rfl) | (simp only [nrm, strm, by8] at * <;> omega) | (simp [upd4, cpy4, nrm, strm, by8] at * <;> omega))) | (refine ⟨((8 : Int) - (1)).toNat, e0, i0, x0, 1, rfl, rfl, rfl, rfl, rfl, rfl, ?_, ?_, rfl, ?_, ?_⟩ <;> (repeat' (first | assumption | exact trivial | exact Un_rf | (apply by8_4; assumption) | (apply by8_9; assumption) | (apply by8_22; assumption) | (apply by8_g; assumption) | (refine by8_13 ?_) | (apply rg34_of <;> assumption) | (refine rg_max ?_ ?_) | (apply rg_34; assumption) | (refine ixr_by8 ?_ ?_) | (refine IV_upd ?_ ?_) | (refine Un_upd rfl ?_) | (refine IV_cpy ?_ (fun _ _ _ _ => trivial)) | (refine Un_cpy rfl ?_) | (apply Un_tr; rotate_left; assumption; rfl) | (refine And.intro ?_ ?_))) <;> (first | rfl | decide | exact Or.inl rfl | exact Or.inr (Or.inl rfl) | exact Or.inr (Or.inr rfl) | (simp only [nrm, strm, by8] at * <;> omega) | (simp [upd4, cpy4, nrm, strm, by8] at * <;> omega))) | ((repeat' (first | assumption | exact trivial | exact Un_rf | (apply by8_4; assumption) | (apply by8_9; assumption) | (apply by8_22; assumption) | (apply by8_g; assumption) | (refine by8_13 ?_) | (apply rg34_of <;> assumption) | (refine rg_max ?_ ?_) | (apply rg_34; assumption) | (refine ixr_by8 ?_ ?_) | (refine IV_upd ?_ ?_) | (refine Un_upd rfl ?_) | (refine IV_cpy ?_ (fun _ _ _ _ => trivial)) | (refine Un_cpy rfl ?_) | (apply Un_tr; rotate_left; assumption; rfl) | (refine And.intro ?_ ?_))) <;> (first | rfl | decide | exact Or.inl rfl | exact Or.inr (Or.inl rfl) | exact Or.inr (Or.inr rfl) | (simp only [nrm, strm, by8] at * <;> omega) | (simp [upd4, cpy4, nrm, strm, by8] at * <;> omega)))
  · intro av σ K kx n pc L st σ' nc ns hok hSp hJ
    obtain ⟨e, i, x, j, rfl, rfl, rfl, rfl, rfl, rfl, c0, c1, hn, hI, hU⟩ := hJ
    obtain ⟨-, -, hf⟩ : (7 : Nat) = 7 ∧ IV σ ∧ ∀ σ', IV σ' → Un [32] σ σ' → K none σ' := hSp
    all_goals (repeat' (first | (with_reducible assumption) | (with_reducible (apply by8_9; assumption)) | (with_reducible (apply by8_4; assumption)) | (with_reducible (apply by8_22; assumption)) | (with_reducible (apply by8_g; assumption)) | (with_reducible refine IV_upd ?_ ?_) | (with_reducible refine IV_cpy ?_ (fun _ _ _ _ => trivial)) | (refine And.intro ?_ ?_) | (intro _)))
    all_goals first | (first | rfl | decide | exact Or.inl rfl | exact Or.inr (Or.inl rfl) | exact Or.inr (Or.inr rfl) | (simp only [nrm, strm, by8] at * <;> omega) | (simp [upd4, cpy4, nrm, strm, by8] at * <;> omega)) | (apply hf <;> (repeat' (first | assumption | exact trivial | exact Un_rf | (apply by8_4; assumption) | (apply by8_9; assumption) | (apply by8_22; assumption) | (apply by8_g; assumption) | (refine by8_13 ?_) | (apply rg34_of <;> assumption) | (refine rg_max ?_ ?_) | (apply rg_34; assumption) | (refine ixr_by8 ?_ ?_) | (refine IV_upd ?_ ?_) | (refine Un_upd rfl ?_) | (refine IV_cpy ?_ (fun _ _ _ _ => trivial)) | (refine Un_cpy rfl ?_) | (apply Un_tr; rotate_left; assumption; rfl) | (refine And.intro ?_ ?_))) <;> (first | rfl | decide | exact Or.inl rfl | exact Or.inr (Or.inl rfl) | exact Or.inr (Or.inr rfl) | (simp only [nrm, strm, by8] at * <;> omega) | (simp [upd4, cpy4, nrm, strm, by8] at * <;> omega))) | (refine ⟨((8 : Int) - (j + 1)).toNat, ?_, e, i, x, j + 1, rfl, rfl, rfl, rfl, rfl, rfl, ?_, ?_, rfl, ?_, ?_⟩ <;> (repeat' (first | assumption | exact trivial | exact Un_rf | (apply by8_4; assumption) | (apply by8_9; assumption) | (apply by8_22; assumption) | (apply by8_g; assumption) | (refine by8_13 ?_) | (apply rg34_of <;> assumption) | (refine rg_max ?_ ?_) | (apply rg_34; assumption) | (refine ixr_by8 ?_ ?_) | (refine IV_upd ?_ ?_) | (refine Un_upd rfl ?_) | (refine IV_cpy ?_ (fun _ _ _ _ => trivial)) | (refine Un_cpy rfl ?_) | (apply Un_tr; rotate_left; assumption; rfl) | (refine And.intro ?_ ?_))) <;> (first | rfl | decide | exact Or.inl rfl | exact Or.inr (Or.inl rfl) | exact Or.inr (Or.inr rfl) | (simp only [nrm, strm, by8] at * <;> omega) | (simp [upd4, cpy4, nrm, strm, by8] at * <;> omega))) | ((repeat' (first | assumption | exact trivial | exact Un_rf | (apply by8_4; assumption) | (apply by8_9; assumption) | (apply by8_22; assumption) | (apply by8_g; assumption) | (refine by8_13 ?_) | (apply rg34_of <;> assumption) | (refine rg_max ?_ ?_) | (apply rg_34; assumption) | (refine ixr_by8 ?_ ?_) | (refine IV_upd ?_ ?_) | (refine Un_upd rfl ?_) | (refine IV_cpy ?_ (fun _ _ _ _ => trivial)) | (refine Un_cpy rfl ?_) | (apply Un_tr; rotate_left; assumption; rfl) | (refine And.intro ?_ ?_))) <;> (first | rfl | decide | exact Or.inl rfl | exact Or.inr (Or.inl rfl) | exact Or.inr (Or.inr rfl) | (simp only [nrm, strm, by8] at * <;> omega) | (simp [upd4, cpy4, nrm, strm, by8] at * <;> omega)))
def gt_End_changeOwn (a : Nat) : Option Nat := match a with
  | _ => none
theorem go_End_changeOwn : ∀ a v, gt_End_changeOwn a = some v → StaOK R_End a v := by
  intro a v h
  unfold gt_End_changeOwn at h
  cases h
def pr_End_changeOwn : List Ent := [(0, 3, 1, 0, 0), (1, 28, 0, 0, 13), (4, 3, 1, 0, 0), (5, 5, 0, 0, 0), (6, 39, 40, 0, 0), (9, 44, 0, 0, 0), (10, 34, 0, 0, 15), (13, 0, 0, 0, 0), (14, 48, 0, 0, 0), (15, 5, 0, 0, 0), (16, 39, 40, 0, 0), (19, 3, 1, 0, 0), (20, 41, 0, 0, 0), (21, 7, 3, 0, 0), (22, 5, 0, 0, 0), (23, 39, 40, 0, 0), (26, 3, 1, 0, 0), (27, 3, 2, 0, 0), (28, 42, 0, 0, 0), (29, 3, 1, 0, 0), (30, 0, 0, 1, 0), (31, 33, 0, 0, 41), (34, 5, 0, 0, 0), (35, 3, 2, 0, 0), (36, 3, 3, 0, 0), (37, 13, 0, 0, 0), (38, 46, 162, 0, 0), (41, 5, 0, 0, 0), (42, 0, 0, 4, 0), (43, 3, 1, 0, 0), (44, 3, 2, 0, 0), (45, 46, 165, 0, 0), (48, 3, 3, 0, 0), (49, 48, 0, 0, 0)]
def sw_End_changeOwn : List Swt := []
theorem dk_End_changeOwn : ∀ q ∈ pr_End_changeOwn, decode b_End_changeOwn q.1 = .ok (dec sw_End_changeOwn q) ∧ okE q = true := by decide +kernel
theorem nt_End_changeOwn : ∀ q ∈ pr_End_changeOwn, ¬ q.2.1 = 55 := by decide +kernel
def ct_End_changeOwn (a : Nat) : Option (Nat × Nat × CSp × Nat × Nat) := match a with
  | 162 => some (2, 3, sp_End_growDues, 0, 0)
  | 165 => some (4, 3, sp_End_sendPair, 0, 0)
  | _ => none
theorem co_End_changeOwn : ∀ a v, ct_End_changeOwn a = some v → StcOK R_End 3 68 a v := by
  intro a v h
  unfold ct_End_changeOwn at h
  split at h
  · cases h; exact ⟨y_End_growDues, b_End_growDues, 3, none, 1, 21, 1, c_End_growDues, by decide, by decide +kernel, by decide +kernel, by decide +kernel, Or.inl ⟨rfl, by decide, by decide +kernel, by decide +kernel, _, _, rfl, by decide +kernel⟩⟩
  · cases h; exact ⟨y_End_sendPair, b_End_sendPair, 4, none, 2, 45, 3, c_End_sendPair, by decide, by decide +kernel, by decide +kernel, by decide +kernel, Or.inl ⟨rfl, by decide, by decide +kernel, by decide +kernel, _, _, rfl, by decide +kernel⟩⟩
  · cases h
/-- End_changeOwn -/
def sp_End_changeOwn : CSp := sRII (fun q x0 x1 σ K _ => q.1 = 7 ∧ IV σ ∧ by8 x0 ∧ by8 x1 ∧ ∀ r σ', IV σ' → Un [3, 4, 32, 33] σ σ' → K (some (.inl r)) σ')
set_option maxHeartbeats 4000000 in
set_option maxRecDepth 100000 in
theorem c_End_changeOwn : Ctr y_End_changeOwn b_End_changeOwn 4 (some .int) 3 68 0 0 sp_End_changeOwn := by
  refine ctr_of (FT := ft_End) (GT := gt_End_changeOwn) (CT := ct_End_changeOwn) (sw := sw_End_changeOwn) (rt := 0) (pr := pr_End_changeOwn) (by decide) [] (fun _ _ _ _ _ _ _ _ _ _ _ => False) 50 ⟨fun _ => rfl, fun h => absurd h (by decide), fun h => absurd h (by decide), fun h => absurd h (by decide)⟩ dk_End_changeOwn fo_End go_End_changeOwn co_End_changeOwn (fun a k h hk => by unfold gt_End_changeOwn at h; cases h) (fun q hq h => absurd h (nt_End_changeOwn q hq)) (fun av σ K kx h => by rw [sRII_len h]; decide) ?_ ?_
  · intro av σ K kx hok hSp
    obtain ⟨q0, x0, x1, rfl, hp⟩ := sRII_inv hSp
    obtain ⟨k0, e0, i0⟩ := q0
    obtain ⟨h0, hI, h2, h3, h4⟩ := hp
    dsimp only at h0; subst h0
    all_goals (repeat' (first | (with_reducible assumption) | (with_reducible (apply by8_9; assumption)) | (with_reducible (apply by8_4; assumption)) | (with_reducible (apply by8_22; assumption)) | (with_reducible (apply by8_g; assumption)) | (with_reducible refine IV_upd ?_ ?_) | (with_reducible refine IV_cpy ?_ (fun _ _ _ _ => trivial)) | (refine And.intro ?_ ?_) | (intro _)))
    all_goals first | (first | rfl | decide | exact Or.inl rfl | exact Or.inr (Or.inl rfl) | exact Or.inr (Or.inr rfl) | (simp only [nrm, strm, by8] at * <;> omega) | (simp [upd4, cpy4, nrm, strm, by8] at * <;> omega)) | (exact h4) | (refine h4 _ ?_ ?_ <;> (repeat' (first | assumption | exact trivial | exact Un_rf | (apply by8_4; assumption) | (apply by8_9; assumption) | (apply by8_22; assumption) | (apply by8_g; assumption) | (refine by8_13 ?_) | (apply rg34_of <;> assumption) | (refine rg_max ?_ ?_) | (apply rg_34; assumption) | (refine ixr_by8 ?_ ?_) | (refine IV_upd ?_ ?_) | (refine Un_upd rfl ?_) | (refine IV_cpy ?_ (fun _ _ _ _ => trivial)) | (refine Un_cpy rfl ?_) | (apply Un_tr; rotate_left; assumption; rfl) | (refine And.intro ?_ ?_))) <;> (first | rfl | decide | exact Or.inl rfl | exact Or.inr (Or.inl rfl) | exact Or.inr (Or.inr rfl) | (simp only [nrm, strm, by8] at * <;> omega) | (simp [upd4, cpy4, nrm, strm, by8] at * <;> omega))) | (apply h4 <;> (repeat' (first | assumption | exact trivial | exact Un_rf | (apply by8_4; assumption) | (apply by8_9; assumption) | (apply by8_22; assumption) | (apply by8_g; assumption) | (refine by8_13 ?_) | (apply rg34_of <;> assumption) | (refine rg_max ?_ ?_) | (apply rg_34; assumption) | (refine ixr_by8 ?_ ?_) | (refine IV_upd ?_ ?_) | (refine Un_upd rfl ?_) | (refine IV_cpy ?_ (fun _ _ _ _ => trivial)) | (refine Un_cpy rfl ?_) | (apply Un_tr; rotate_left; assumption; rfl) | (refine And.intro ?_ ?_))) <;> (first | rfl | decide | exact Or.inl rfl | exact Or.inr (Or.inl rfl) | exact Or.inr (Or.inr rfl) | (simp only [nrm, strm, by8] at * <;> omega) | (simp [upd4, cpy4, nrm, strm, by8] at * <;> omega))) | ((repeat' (first | assumption | exact trivial | exact Un_rf | (apply by8_4; assumption) | (apply by8_9; assumption) | (apply by8_22; assumption) | (apply by8_g; assumption) | (refine by8_13 ?_) | (apply rg34_of <;> assumption) | (refine rg_max ?_ ?_) | (apply rg_34; assumption) | (refine ixr_by8 ?_ ?_) | (refine IV_upd ?_ ?_) | (refine Un_upd rfl ?_) | (refine IV_cpy ?_ (fun _ _ _ _ => trivial)) | (refine Un_cpy rfl ?_) | (apply Un_tr; rotate_left; assumption; rfl) | (refine And.intro ?_ ?_))) <;> (first | rfl | decide | exact Or.inl rfl | exact Or.inr (Or.inl rfl) | exact Or.inr (Or.inr rfl) | (simp only [nrm, strm, by8] at * <;> omega) | (simp [upd4, cpy4, nrm, strm, by8] at * <;> omega)))
  · intro av σ K kx n pc L st σ' nc ns _ _ h
    exact (h : False).elim
def gt_End_shut (a : Nat) : Option Nat := match a with
  | _ => none
theorem go_End_shut : ∀ a v, gt_End_shut a = some v → StaOK R_End a v := by
  intro a v h
  unfold gt_End_shut at h
  cases h
def pr_End_shut : List Ent := [(0, 5, 0, 0, 0), (1, 1, 0, 7, 0), (3, 5, 0, 0, 0), (4, 39, 50, 0, 0), (7, 3, 1, 0, 0), (8, 46, 165, 0, 0), (11, 5, 0, 0, 0), (12, 3, 1, 0, 0), (13, 40, 59, 0, 0), (16, 49, 0, 0, 0)]
def sw_End_shut : List Swt := []
theorem dk_End_shut : ∀ q ∈ pr_End_shut, decode b_End_shut q.1 = .ok (dec sw_End_shut q) ∧ okE q = true := by decide +kernel
theorem nt_End_shut : ∀ q ∈ pr_End_shut, ¬ q.2.1 = 55 := by decide +kernel
def ct_End_shut (a : Nat) : Option (Nat × Nat × CSp × Nat × Nat) := match a with
  | 165 => some (4, 3, sp_End_sendPair, 0, 0)
  | _ => none
theorem co_End_shut : ∀ a v, ct_End_shut a = some v → StcOK R_End 3 68 a v := by
  intro a v h
  unfold ct_End_shut at h
  split at h
  · cases h; exact ⟨y_End_sendPair, b_End_sendPair, 4, none, 2, 45, 3, c_End_sendPair, by decide, by decide +kernel, by decide +kernel, by decide +kernel, Or.inl ⟨rfl, by decide, by decide +kernel, by decide +kernel, _, _, rfl, by decide +kernel⟩⟩
  · cases h
/-- End_shut -/
def sp_End_shut : CSp := sRI (fun q x σ K _ => q.1 = 7 ∧ IV σ ∧ by8 x ∧ ∀ σ', IV σ' → Un [3, 4, 7] σ σ' → K none σ')
set_option maxHeartbeats 4000000 in
set_option maxRecDepth 100000 in
theorem c_End_shut : Ctr y_End_shut b_End_shut 2 none 3 68 0 0 sp_End_shut := by
  refine ctr_of (FT := ft_End) (GT := gt_End_shut) (CT := ct_End_shut) (sw := sw_End_shut) (rt := 2) (pr := pr_End_shut) (by decide) [] (fun _ _ _ _ _ _ _ _ _ _ _ => False) 30 ⟨fun h => absurd h (by decide), fun h => absurd h (by decide), fun _ => rfl, fun h => absurd h (by decide)⟩ dk_End_shut fo_End go_End_shut co_End_shut (fun a k h hk => by unfold gt_End_shut at h; cases h) (fun q hq h => absurd h (nt_End_shut q hq)) (fun av σ K kx h => by rw [sRI_len h]; decide) ?_ ?_
  · intro av σ K kx hok hSp
    obtain ⟨q0, x0, rfl, hp⟩ := sRI_inv hSp
    obtain ⟨k0, e0, i0⟩ := q0
    obtain ⟨h0, hI, h2, h3⟩ := hp
    dsimp only at h0; subst h0
    have g1 : 0 ≤ σ 7 e0 i0 11 ∧ σ 7 e0 i0 11 ≤ 255 := hI 7 e0 i0 11
    all_goals (repeat' (first | (with_reducible assumption) | (with_reducible (apply by8_9; assumption)) | (with_reducible (apply by8_4; assumption)) | (with_reducible (apply by8_22; assumption)) | (with_reducible (apply by8_g; assumption)) | (with_reducible refine IV_upd ?_ ?_) | (with_reducible refine IV_cpy ?_ (fun _ _ _ _ => trivial)) | (refine And.intro ?_ ?_) | (intro _)))
    all_goals first | (first | rfl | decide | exact Or.inl rfl | exact Or.inr (Or.inl rfl) | exact Or.inr (Or.inr rfl) | (simp only [nrm, strm, by8] at * <;> omega) | (simp [upd4, cpy4, nrm, strm, by8] at * <;> omega)) | (exact h3) | (refine h3 _ ?_ ?_ <;> (repeat' (first | assumption | exact trivial | exact Un_rf | (apply by8_4; assumption) | (apply by8_9; assumption) | (apply by8_22; assumption) | (apply by8_g; assumption) | (refine by8_13 ?_) | (apply rg34_of <;> assumption) | (refine rg_max ?_ ?_) | (apply rg_34; assumption) | (refine ixr_by8 ?_ ?_) | (refine IV_upd ?_ ?_) | (refine Un_upd rfl ?_) | (refine IV_cpy ?_ (fun _ _ _ _ => trivial)) | (refine Un_cpy rfl ?_) | (apply Un_tr; rotate_left; assumption; rfl) | (refine And.intro ?_ ?_))) <;> (first | rfl | decide | exact Or.inl rfl | exact Or.inr (Or.inl rfl) | exact Or.inr (Or.inr rfl) | (simp only [nrm, strm, by8] at * <;> omega) | (simp [upd4, cpy4, nrm, strm, by8] at * <;> omega))) | (apply h3 <;> (repeat' (first | assumption | exact trivial | exact Un_rf | (apply by8_4; assumption) | (apply by8_9; assumption) | (apply by8_22; assumption) | (apply by8_g; assumption) | (refine by8_13 ?_) | (apply rg34_of <;> assumption) | (refine rg_max ?_ ?_) | (apply rg_34; assumption) | (refine ixr_by8 ?_ ?_) | (refine IV_upd ?_ ?_) | (refine Un_upd rfl ?_) | (refine IV_cpy ?_ (fun _ _ _ _ => trivial)) | (refine Un_cpy rfl ?_) | (apply Un_tr; rotate_left; assumption; rfl) | (refine And.intro ?_ ?_))) <;> (first | rfl | decide | exact Or.inl rfl | exact Or.inr (Or.inl rfl) | exact Or.inr (Or.inr rfl) | (simp only [nrm, strm, by8] at * <;> omega) | (simp [upd4, cpy4, nrm, strm, by8] at * <;> omega))) | ((repeat' (first | assumption | exact trivial | exact Un_rf | (apply by8_4; assumption) | (apply by8_9; assumption) | (apply by8_22; assumption) | (apply by8_g; assumption) | (refine by8_13 ?_) | (apply rg34_of <;> assumption) | (refine rg_max ?_ ?_) | (apply rg_34; assumption) | (refine ixr_by8 ?_ ?_) | (refine IV_upd ?_ ?_) | (refine Un_upd rfl ?_) | (refine IV_cpy ?_ (fun _ _ _ _ => trivial)) | (refine Un_cpy rfl ?_) | (apply Un_tr; rotate_left; assumption; rfl) | (refine And.intro ?_ ?_))) <;> (first | rfl | decide | exact Or.inl rfl | exact Or.inr (Or.inl rfl) | exact Or.inr (Or.inr rfl) | (simp only [nrm, strm, by8] at * <;> omega) | (simp [upd4, cpy4, nrm, strm, by8] at * <;> omega)))
  · intro av σ K kx n pc L st σ' nc ns _ _ h
    exact (h : False).elim
def gt_End_takeByte (a : Nat) : Option Nat := match a with
  | _ => none
theorem go_End_takeByte : ∀ a v, gt_End_takeByte a = some v → StaOK R_End a v := by
  intro a v h
  unfold gt_End_takeByte at h
  cases h
def pr_End_takeByte : List Ent := [(0, 5, 0, 0, 0), (1, 39, 76, 0, 0), (4, 5, 0, 0, 0), (5, 39, 66, 0, 0), (8, 46, 172, 0, 0), (11, 46, 175, 0, 0), (14, 5, 0, 0, 0), (15, 39, 76, 0, 0), (18, 46, 178, 0, 0), (21, 26, 0, 0, 30), (24, 5, 0, 0, 0), (25, 1, 0, 6, 0), (27, 46, 181, 0, 0), (30, 49, 0, 0, 0)]
def sw_End_takeByte : List Swt := []
theorem dk_End_takeByte : ∀ q ∈ pr_End_takeByte, decode b_End_takeByte q.1 = .ok (dec sw_End_takeByte q) ∧ okE q = true := by decide +kernel
theorem nt_End_takeByte : ∀ q ∈ pr_End_takeByte, ¬ q.2.1 = 55 := by decide +kernel
def ct_End_takeByte (a : Nat) : Option (Nat × Nat × CSp × Nat × Nat) := match a with
  | 172 => some (1, 8, sp_Wire_take, 0, 0)
  | 175 => some (2, 5, sp_Frame_add, 0, 0)
  | 178 => some (1, 5, sp_Frame_isTooLong, 0, 0)
  | 181 => some (2, 3, sp_End_shut, 0, 0)
  | _ => none
theorem co_End_takeByte : ∀ a v, ct_End_takeByte a = some v → StcOK R_End 4 89 a v := by
  intro a v h
  unfold ct_End_takeByte at h
  split at h
  · cases h; exact ⟨y_Wire_take, b_Wire_take, 2, (some .int), 0, 0, 0, c_Wire_take, by decide, by decide +kernel, by decide +kernel, by decide +kernel, Or.inl ⟨rfl, by decide, by decide +kernel, by decide +kernel, _, _, rfl, by decide +kernel⟩⟩
  · cases h; exact ⟨y_Frame_add, b_Frame_add, 2, none, 0, 0, 1, c_Frame_add, by decide, by decide +kernel, by decide +kernel, by decide +kernel, Or.inl ⟨rfl, by decide, by decide +kernel, by decide +kernel, _, _, rfl, by decide +kernel⟩⟩
  · cases h; exact ⟨y_Frame_isTooLong, b_Frame_isTooLong, 1, (some .boolean), 1, 20, 0, c_Frame_isTooLong, by decide, by decide +kernel, by decide +kernel, by decide +kernel, Or.inl ⟨rfl, by decide, by decide +kernel, by decide +kernel, _, _, rfl, by decide +kernel⟩⟩
  · cases h; exact ⟨y_End_shut, b_End_shut, 2, none, 3, 68, 1, c_End_shut, by decide, by decide +kernel, by decide +kernel, by decide +kernel, Or.inl ⟨rfl, by decide, by decide +kernel, by decide +kernel, _, _, rfl, by decide +kernel⟩⟩
  · cases h
/-- End_takeByte -/
def sp_End_takeByte : CSp := sR (fun q σ K _ => q.1 = 7 ∧ IV σ ∧ ∀ σ', IV σ' → Un [3, 4, 7, 8, 9] σ σ' → K none σ')
set_option maxHeartbeats 4000000 in
set_option maxRecDepth 100000 in
theorem c_End_takeByte : Ctr y_End_takeByte b_End_takeByte 1 none 4 89 0 0 sp_End_takeByte := by
  refine ctr_of (FT := ft_End) (GT := gt_End_takeByte) (CT := ct_End_takeByte) (sw := sw_End_takeByte) (rt := 2) (pr := pr_End_takeByte) (by decide) [] (fun _ _ _ _ _ _ _ _ _ _ _ => False) 30 ⟨fun h => absurd h (by decide), fun h => absurd h (by decide), fun _ => rfl, fun h => absurd h (by decide)⟩ dk_End_takeByte fo_End go_End_takeByte co_End_takeByte (fun a k h hk => by unfold gt_End_takeByte at h; cases h) (fun q hq h => absurd h (nt_End_takeByte q hq)) (fun av σ K kx h => by rw [sR_len h]; decide) ?_ ?_
  · intro av σ K kx hok hSp
    obtain ⟨q0, rfl, hp⟩ := sR_inv hSp
    obtain ⟨k0, e0, i0⟩ := q0
    obtain ⟨h0, hI, h2⟩ := hp
    dsimp only at h0; subst h0
    all_goals (repeat' (first | (with_reducible assumption) | (with_reducible (apply by8_9; assumption)) | (with_reducible (apply by8_4; assumption)) | (with_reducible (apply by8_22; assumption)) | (with_reducible (apply by8_g; assumption)) | (with_reducible refine IV_upd ?_ ?_) | (with_reducible refine IV_cpy ?_ (fun _ _ _ _ => trivial)) | (refine And.intro ?_ ?_) | (intro _)))
    all_goals first | (first | rfl | decide | exact Or.inl rfl | exact Or.inr (Or.inl rfl) | exact Or.inr (Or.inr rfl) | (simp only [nrm, strm, by8] at * <;> omega) | (simp [upd4, cpy4, nrm, strm, by8] at * <;> omega)) | (exact h2) | (refine h2 _ ?_ ?_ <;> (repeat' (first | assumption | exact trivial | exact Un_rf | (apply by8_4; assumption) | (apply by8_9; assumption) | (apply by8_22; assumption) | (apply by8_g; assumption) | (refine by8_13 ?_) | (apply rg34_of <;> assumption) | (refine rg_max ?_ ?_) | (apply rg_34; assumption) | (refine ixr_by8 ?_ ?_) | (refine IV_upd ?_ ?_) | (refine Un_upd rfl ?_) | (refine IV_cpy ?_ (fun _ _ _ _ => trivial)) | (refine Un_cpy rfl ?_) | (apply Un_tr; rotate_left; assumption; rfl) | (refine And.intro ?_ ?_))) <;> (first | rfl | decide | exact Or.inl rfl | exact Or.inr (Or.inl rfl) | exact Or.inr (Or.inr rfl) | (simp only [nrm, strm, by8] at * <;> omega) | (simp [upd4, cpy4, nrm, strm, by8] at * <;> omega))) | (apply h2 <;> (repeat' (first | assumption | exact trivial | exact Un_rf | (apply by8_4; assumption) | (apply by8_9; assumption) | (apply by8_22; assumption) | (apply by8_g; assumption) | (refine by8_13 ?_) | (apply rg34_of <;> assumption) | (refine rg_max ?_ ?_) | (apply rg_34; assumption) | (refine ixr_by8 ?_ ?_) | (refine IV_upd ?_ ?_) | (refine Un_upd rfl ?_) | (refine IV_cpy ?_ (fun _ _ _ _ => trivial)) | (refine Un_cpy rfl ?_) | (apply Un_tr; rotate_left; assumption; rfl) | (refine And.intro ?_ ?_))) <;> (first | rfl | decide | exact Or.inl rfl | exact Or.inr (Or.inl rfl) | exact Or.inr (Or.inr rfl) | (simp only [nrm, strm, by8] at * <;> omega) | (simp [upd4, cpy4, nrm, strm, by8] at * <;> omega))) | ((repeat' (first | assumption | exact trivial | exact Un_rf | (apply by8_4; assumption) | (apply by8_9; assumption) | (apply by8_22; assumption) | (apply by8_g; assumption) | (refine by8_13 ?_) | (apply rg34_of <;> assumption) | (refine rg_max ?_ ?_) | (apply rg_34; assumption) | (refine ixr_by8 ?_ ?_) | (refine IV_upd ?_ ?_) | (refine Un_upd rfl ?_) | (refine IV_cpy ?_ (fun _ _ _ _ => trivial)) | (refine Un_cpy rfl ?_) | (apply Un_tr; rotate_left; assumption; rfl) | (refine And.intro ?_ ?_))) <;> (first | rfl | decide | exact Or.inl rfl | exact Or.inr (Or.inl rfl) | exact Or.inr (Or.inr rfl) | (simp only [nrm, strm, by8] at * <;> omega) | (simp [upd4, cpy4, nrm, strm, by8] at * <;> omega)))
  · intro av σ K kx n pc L st σ' nc ns _ _ h
    exact (h : False).elim
def gt_End_hasWholeFrame (a : Nat) : Option Nat := match a with
  | _ => none
theorem go_End_hasWholeFrame : ∀ a v, gt_End_hasWholeFrame a = some v → StaOK R_End a v := by
  intro a v h
  unfold gt_End_hasWholeFrame at h
  cases h
def pr_End_hasWholeFrame : List Ent := [(0, 5, 0, 0, 0), (1, 39, 76, 0, 0), (4, 46, 184, 0, 0), (7, 48, 0, 0, 0)]
def sw_End_hasWholeFrame : List Swt := []
theorem dk_End_hasWholeFrame : ∀ q ∈ pr_End_hasWholeFrame, decode b_End_hasWholeFrame q.1 = .ok (dec sw_End_hasWholeFrame q) ∧ okE q = true := by decide +kernel
theorem nt_End_hasWholeFrame : ∀ q ∈ pr_End_hasWholeFrame, ¬ q.2.1 = 55 := by decide +kernel
def ct_End_hasWholeFrame (a : Nat) : Option (Nat × Nat × CSp × Nat × Nat) := match a with
  | 184 => some (1, 5, sp_Frame_isWhole, 0, 0)
  | _ => none
theorem co_End_hasWholeFrame : ∀ a v, ct_End_hasWholeFrame a = some v → StcOK R_End 2 40 a v := by
  intro a v h
  unfold ct_End_hasWholeFrame at h
  split at h
  · cases h; exact ⟨y_Frame_isWhole, b_Frame_isWhole, 1, (some .boolean), 1, 20, 0, c_Frame_isWhole, by decide, by decide +kernel, by decide +kernel, by decide +kernel, Or.inl ⟨rfl, by decide, by decide +kernel, by decide +kernel, _, _, rfl, by decide +kernel⟩⟩
  · cases h
/-- End_hasWholeFrame -/
def sp_End_hasWholeFrame : CSp := sR (fun q σ K _ => q.1 = 7 ∧ K (some (.inl 0)) σ ∧ K (some (.inl 1)) σ)
set_option maxHeartbeats 4000000 in
set_option maxRecDepth 100000 in
theorem c_End_hasWholeFrame : Ctr y_End_hasWholeFrame b_End_hasWholeFrame 1 (some .boolean) 2 40 0 0 sp_End_hasWholeFrame := by
  refine ctr_of (FT := ft_End) (GT := gt_End_hasWholeFrame) (CT := ct_End_hasWholeFrame) (sw := sw_End_hasWholeFrame) (rt := 1) (pr := pr_End_hasWholeFrame) (by decide) [] (fun _ _ _ _ _ _ _ _ _ _ _ => False) 20 ⟨fun h => absurd h (by decide), fun _ => rfl, fun h => absurd h (by decide), fun h => absurd h (by decide)⟩ dk_End_hasWholeFrame fo_End go_End_hasWholeFrame co_End_hasWholeFrame (fun a k h hk => by unfold gt_End_hasWholeFrame at h; cases h) (fun q hq h => absurd h (nt_End_hasWholeFrame q hq)) (fun av σ K kx h => by rw [sR_len h]; decide) ?_ ?_
  · intro av σ K kx hok hSp
    obtain ⟨q0, rfl, hp⟩ := sR_inv hSp
    obtain ⟨k0, e0, i0⟩ := q0
    obtain ⟨h0, h1, h2⟩ := hp
    dsimp only at h0; subst h0
    all_goals (repeat' (first | (with_reducible assumption) | (with_reducible (apply by8_9; assumption)) | (with_reducible (apply by8_4; assumption)) | (with_reducible (apply by8_22; assumption)) | (with_reducible (apply by8_g; assumption)) | (with_reducible refine IV_upd ?_ ?_) | (with_reducible refine IV_cpy ?_ (fun _ _ _ _ => trivial)) | (refine And.intro ?_ ?_) | (intro _)))
    all_goals first | (first | rfl | decide | exact Or.inl rfl | exact Or.inr (Or.inl rfl) | exact Or.inr (Or.inr rfl) | (simp only [nrm, strm, by8] at * <;> omega) | (simp [upd4, cpy4, nrm, strm, by8] at * <;> omega)) | (exact h1 (by first | assumption | (first | rfl | decide | exact Or.inl rfl | exact Or.inr (Or.inl rfl) | exact Or.inr (Or.inr rfl) | (simp only [nrm, strm, by8] at * <;> omega) | (simp [upd4, cpy4, nrm, strm, by8] at * <;> omega)))) | (exact h2 (by first | assumption | (first | rfl | decide | exact Or.inl rfl | exact Or.inr (Or.inl rfl) | exact Or.inr (Or.inr rfl) | (simp only [nrm, strm, by8] at * <;> omega) | (simp [upd4, cpy4, nrm, strm, by8] at * <;> omega)))) | (exact h1) | (exact h2) | (refine h1 _ ?_ ?_ <;> (repeat' (first | assumption | exact trivial | exact Un_rf | (apply by8_4; assumption) | (apply by8_9; assumption) | (apply by8_22; assumption) | (apply by8_g; assumption) | (refine by8_13 ?_) | (apply rg34_of <;> assumption) | (refine rg_max ?_ ?_) | (apply rg_34; assumption) | (refine ixr_by8 ?_ ?_) | (refine IV_upd ?_ ?_) | (refine Un_upd rfl ?_) | (refine IV_cpy ?_ (fun _ _ _ _ => trivial)) | (refine Un_cpy rfl ?_) | (apply Un_tr; rotate_left; assumption; rfl) | (refine And.intro ?_ ?_))) <;> (first | rfl | decide | exact Or.inl rfl | exact Or.inr (Or.inl rfl) | exact Or.inr (Or.inr rfl) | (simp only [nrm, strm, by8] at * <;> omega) | (simp [upd4, cpy4, nrm, strm, by8] at * <;> omega))) | (refine h2 _ ?_ ?_ <;> (repeat' (first | assumption | exact trivial | exact Un_rf | (apply by8_4; assumption) | (apply by8_9; assumption) | (apply by8_22; assumption) | (apply by8_g; assumption) | (refine by8_13 ?_) | (apply rg34_of <;> assumption) | (refine rg_max ?_ ?_) | (apply rg_34; assumption) | (refine ixr_by8 ?_ ?_) | (refine IV_upd ?_ ?_) | (refine Un_upd rfl ?_) | (refine IV_cpy ?_ (fun _ _ _ _ => trivial)) | (refine Un_cpy rfl ?_) | (apply Un_tr; rotate_left; assumption; rfl) | (refine And.intro ?_ ?_))) <;> (first | rfl | decide | exact Or.inl rfl | exact Or.inr (Or.inl rfl) | exact Or.inr (Or.inr rfl) | (simp only [nrm, strm, by8] at * <;> omega) | (simp [upd4, cpy4, nrm, strm, by8] at * <;> omega))) | (apply h1 <;> (repeat' (first | assumption | exact trivial | exact Un_rf | (apply by8_4; assumption) | (apply by8_9; assumption) | (apply by8_22; assumption) | (apply by8_g; assumption) | (refine by8_13 ?_) | (apply rg34_of <;> assumption) | (refine rg_max ?_ ?_) | (apply rg_34; assumption) | (refine ixr_by8 ?_ ?_) | (refine IV_upd ?_ ?_) | (refine Un_upd rfl ?_) | (refine IV_cpy ?_ (fun _ _ _ _ => trivial)) | (refine Un_cpy rfl ?_) | (apply Un_tr; rotate_left; assumption; rfl) | (refine And.intro ?_ ?_))) <;> (first | rfl | decide | exact Or.inl rfl | exact Or.inr (Or.inl rfl) | exact Or.inr (Or.inr rfl) | (simp only [nrm, strm, by8] at * <;> omega) | (simp [upd4, cpy4, nrm, strm, by8] at * <;> omega))) | (apply h2 <;> (repeat' (first | assumption | exact trivial | exact Un_rf | (apply by8_4; assumption) | (apply by8_9; assumption) | (apply by8_22; assumption) | (apply by8_g; assumption) | (refine by8_13 ?_) | (apply rg34_of <;> assumption) | (refine rg_max ?_ ?_) | (apply rg_34; assumption) | (refine ixr_by8 ?_ ?_) | (refine IV_upd ?_ ?_) | (refine Un_upd rfl ?_) | (refine IV_cpy ?_ (fun _ _ _ _ => trivial)) | (refine Un_cpy rfl ?_) | (apply Un_tr; rotate_left; assumption; rfl) | (refine And.intro ?_ ?_))) <;> (first | rfl | decide | exact Or.inl rfl | exact Or.inr (Or.inl rfl) | exact Or.inr (Or.inr rfl) | (simp only [nrm, strm, by8] at * <;> omega) | (simp [upd4, cpy4, nrm, strm, by8] at * <;> omega))) | ((repeat' (first | assumption | exact trivial | exact Un_rf | (apply by8_4; assumption) | (apply by8_9; assumption) | (apply by8_22; assumption) | (apply by8_g; assumption) | (refine by8_13 ?_) | (apply rg34_of <;> assumption) | (refine rg_max ?_ ?_) | (apply rg_34; assumption) | (refine ixr_by8 ?_ ?_) | (refine IV_upd ?_ ?_) | (refine Un_upd rfl ?_) | (refine IV_cpy ?_ (fun _ _ _ _ => trivial)) | (refine Un_cpy rfl ?_) | (apply Un_tr; rotate_left; assumption; rfl) | (refine And.intro ?_ ?_))) <;> (first | rfl | decide | exact Or.inl rfl | exact Or.inr (Or.inl rfl) | exact Or.inr (Or.inr rfl) | (simp only [nrm, strm, by8] at * <;> omega) | (simp [upd4, cpy4, nrm, strm, by8] at * <;> omega)))
  · intro av σ K kx n pc L st σ' nc ns _ _ h
    exact (h : False).elim
def gt_End_endFrame (a : Nat) : Option Nat := match a with
  | _ => none
theorem go_End_endFrame : ∀ a v, gt_End_endFrame a = some v → StaOK R_End a v := by
  intro a v h
  unfold gt_End_endFrame at h
  cases h
def pr_End_endFrame : List Ent := [(0, 5, 0, 0, 0), (1, 39, 76, 0, 0), (4, 46, 187, 0, 0), (7, 3, 1, 0, 0), (8, 26, 0, 0, 16), (11, 5, 0, 0, 0), (12, 3, 1, 0, 0), (13, 46, 181, 0, 0), (16, 49, 0, 0, 0)]
def sw_End_endFrame : List Swt := []
theorem dk_End_endFrame : ∀ q ∈ pr_End_endFrame, decode b_End_endFrame q.1 = .ok (dec sw_End_endFrame q) ∧ okE q = true := by decide +kernel
theorem nt_End_endFrame : ∀ q ∈ pr_End_endFrame, ¬ q.2.1 = 55 := by decide +kernel
def ct_End_endFrame (a : Nat) : Option (Nat × Nat × CSp × Nat × Nat) := match a with
  | 181 => some (2, 3, sp_End_shut, 0, 0)
  | 187 => some (1, 5, sp_Frame_clear, 0, 0)
  | _ => none
theorem co_End_endFrame : ∀ a v, ct_End_endFrame a = some v → StcOK R_End 4 89 a v := by
  intro a v h
  unfold ct_End_endFrame at h
  split at h
  · cases h; exact ⟨y_End_shut, b_End_shut, 2, none, 3, 68, 1, c_End_shut, by decide, by decide +kernel, by decide +kernel, by decide +kernel, Or.inl ⟨rfl, by decide, by decide +kernel, by decide +kernel, _, _, rfl, by decide +kernel⟩⟩
  · cases h; exact ⟨y_Frame_clear, b_Frame_clear, 1, none, 0, 0, 0, c_Frame_clear, by decide, by decide +kernel, by decide +kernel, by decide +kernel, Or.inl ⟨rfl, by decide, by decide +kernel, by decide +kernel, _, _, rfl, by decide +kernel⟩⟩
  · cases h
/-- End_endFrame -/
def sp_End_endFrame : CSp := sRI (fun q x σ K _ => q.1 = 7 ∧ IV σ ∧ by8 x ∧ ∀ σ', IV σ' → Un [3, 4, 7, 8, 9] σ σ' → K none σ')
set_option maxHeartbeats 4000000 in
set_option maxRecDepth 100000 in
theorem c_End_endFrame : Ctr y_End_endFrame b_End_endFrame 2 none 4 89 0 0 sp_End_endFrame := by
  refine ctr_of (FT := ft_End) (GT := gt_End_endFrame) (CT := ct_End_endFrame) (sw := sw_End_endFrame) (rt := 2) (pr := pr_End_endFrame) (by decide) [] (fun _ _ _ _ _ _ _ _ _ _ _ => False) 20 ⟨fun h => absurd h (by decide), fun h => absurd h (by decide), fun _ => rfl, fun h => absurd h (by decide)⟩ dk_End_endFrame fo_End go_End_endFrame co_End_endFrame (fun a k h hk => by unfold gt_End_endFrame at h; cases h) (fun q hq h => absurd h (nt_End_endFrame q hq)) (fun av σ K kx h => by rw [sRI_len h]; decide) ?_ ?_
  · intro av σ K kx hok hSp
    obtain ⟨q0, x0, rfl, hp⟩ := sRI_inv hSp
    obtain ⟨k0, e0, i0⟩ := q0
    obtain ⟨h0, hI, h2, h3⟩ := hp
    dsimp only at h0; subst h0
    all_goals (repeat' (first | (with_reducible assumption) | (with_reducible (apply by8_9; assumption)) | (with_reducible (apply by8_4; assumption)) | (with_reducible (apply by8_22; assumption)) | (with_reducible (apply by8_g; assumption)) | (with_reducible refine IV_upd ?_ ?_) | (with_reducible refine IV_cpy ?_ (fun _ _ _ _ => trivial)) | (refine And.intro ?_ ?_) | (intro _)))
    all_goals first | (first | rfl | decide | exact Or.inl rfl | exact Or.inr (Or.inl rfl) | exact Or.inr (Or.inr rfl) | (simp only [nrm, strm, by8] at * <;> omega) | (simp [upd4, cpy4, nrm, strm, by8] at * <;> omega)) | (exact h3) | (refine h3 _ ?_ ?_ <;> (repeat' (first | assumption | exact trivial | exact Un_rf | (apply by8_4; assumption) | (apply by8_9; assumption) | (apply by8_22; assumption) | (apply by8_g; assumption) | (refine by8_13 ?_) | (apply rg34_of <;> assumption) | (refine rg_max ?_ ?_) | (apply rg_34; assumption) | (refine ixr_by8 ?_ ?_) | (refine IV_upd ?_ ?_) | (refine Un_upd rfl ?_) | (refine IV_cpy ?_ (fun _ _ _ _ => trivial)) | (refine Un_cpy rfl ?_) | (apply Un_tr; rotate_left; assumption; rfl) | (refine And.intro ?_ ?_))) <;> (first | rfl | decide | exact Or.inl rfl | exact Or.inr (Or.inl rfl) | exact Or.inr (Or.inr rfl) | (simp only [nrm, strm, by8] at * <;> omega) | (simp [upd4, cpy4, nrm, strm, by8] at * <;> omega))) | (apply h3 <;> (repeat' (first | assumption | exact trivial | exact Un_rf | (apply by8_4; assumption) | (apply by8_9; assumption) | (apply by8_22; assumption) | (apply by8_g; assumption) | (refine by8_13 ?_) | (apply rg34_of <;> assumption) | (refine rg_max ?_ ?_) | (apply rg_34; assumption) | (refine ixr_by8 ?_ ?_) | (refine IV_upd ?_ ?_) | (refine Un_upd rfl ?_) | (refine IV_cpy ?_ (fun _ _ _ _ => trivial)) | (refine Un_cpy rfl ?_) | (apply Un_tr; rotate_left; assumption; rfl) | (refine And.intro ?_ ?_))) <;> (first | rfl | decide | exact Or.inl rfl | exact Or.inr (Or.inl rfl) | exact Or.inr (Or.inr rfl) | (simp only [nrm, strm, by8] at * <;> omega) | (simp [upd4, cpy4, nrm, strm, by8] at * <;> omega))) | ((repeat' (first | assumption | exact trivial | exact Un_rf | (apply by8_4; assumption) | (apply by8_9; assumption) | (apply by8_22; assumption) | (apply by8_g; assumption) | (refine by8_13 ?_) | (apply rg34_of <;> assumption) | (refine rg_max ?_ ?_) | (apply rg_34; assumption) | (refine ixr_by8 ?_ ?_) | (refine IV_upd ?_ ?_) | (refine Un_upd rfl ?_) | (refine IV_cpy ?_ (fun _ _ _ _ => trivial)) | (refine Un_cpy rfl ?_) | (apply Un_tr; rotate_left; assumption; rfl) | (refine And.intro ?_ ?_))) <;> (first | rfl | decide | exact Or.inl rfl | exact Or.inr (Or.inl rfl) | exact Or.inr (Or.inr rfl) | (simp only [nrm, strm, by8] at * <;> omega) | (simp [upd4, cpy4, nrm, strm, by8] at * <;> omega)))
  · intro av σ K kx n pc L st σ' nc ns _ _ h
    exact (h : False).elim
