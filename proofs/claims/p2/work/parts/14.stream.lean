def ft_Stream (a : Nat) : Option (Nat × Nat × Nat) := match a with
  | 12 => some (6, 0, 2)
  | 18 => some (6, 1, 0)
  | 22 => some (6, 2, 0)
  | 25 => some (6, 3, 0)
  | 28 => some (6, 4, 0)
  | 31 => some (6, 5, 0)
  | _ => none
theorem fo_Stream : ∀ a v, ft_Stream a = some v → FldOK R_Stream a v := by
  intro a v h
  unfold ft_Stream at h
  split at h
  · cases h; exact fl_Stream _ _ _ _ (by decide) (by decide +kernel) (by decide)
  · cases h; exact fl_Stream _ _ _ _ (by decide) (by decide +kernel) (by decide)
  · cases h; exact fl_Stream _ _ _ _ (by decide) (by decide +kernel) (by decide)
  · cases h; exact fl_Stream _ _ _ _ (by decide) (by decide +kernel) (by decide)
  · cases h; exact fl_Stream _ _ _ _ (by decide) (by decide +kernel) (by decide)
  · cases h; exact fl_Stream _ _ _ _ (by decide) (by decide +kernel) (by decide)
  · cases h
def gt_Stream_open (a : Nat) : Option Nat := match a with
  | _ => none
theorem go_Stream_open : ∀ a v, gt_Stream_open a = some v → StaOK R_Stream a v := by
  intro a v h
  unfold gt_Stream_open at h
  cases h
def pr_Stream_open : List Ent := [(0, 5, 0, 0, 0), (1, 0, 0, 1, 0), (2, 40, 18, 0, 0), (5, 5, 0, 0, 0), (6, 3, 1, 0, 0), (7, 40, 22, 0, 0), (10, 5, 0, 0, 0), (11, 3, 2, 0, 0), (12, 40, 25, 0, 0), (15, 49, 0, 0, 0)]
def sw_Stream_open : List Swt := []
theorem dk_Stream_open : ∀ q ∈ pr_Stream_open, decode b_Stream_open q.1 = .ok (dec sw_Stream_open q) ∧ okE q = true := by decide +kernel
theorem nt_Stream_open : ∀ q ∈ pr_Stream_open, ¬ q.2.1 = 55 := by decide +kernel
def ct_Stream_open (a : Nat) : Option (Nat × Nat × CSp × Nat × Nat) := match a with
  | _ => none
theorem co_Stream_open : ∀ a v, ct_Stream_open a = some v → StcOK R_Stream 0 0 a v := by
  intro a v h
  unfold ct_Stream_open at h
  cases h
/-- Stream_open -/
def sp_Stream_open : CSp := sRII (fun q x0 x1 σ K _ => q.1 = 32 ∧ IV σ ∧ ∀ σ', IV σ' → Un [32] σ σ' → K none σ')
set_option maxHeartbeats 4000000 in
set_option maxRecDepth 100000 in
theorem c_Stream_open : Ctr y_Stream_open b_Stream_open 3 none 0 0 0 0 sp_Stream_open := by
  refine ctr_of (FT := ft_Stream) (GT := gt_Stream_open) (CT := ct_Stream_open) (sw := sw_Stream_open) (rt := 2) (pr := pr_Stream_open) (by decide) [] (fun _ _ _ _ _ _ _ _ _ _ _ => False) 30 ⟨fun h => absurd h (by decide), fun h => absurd h (by decide), fun _ => rfl, fun h => absurd h (by decide)⟩ dk_Stream_open fo_Stream go_Stream_open co_Stream_open (fun a k h hk => by unfold gt_Stream_open at h; cases h) (fun q hq h => absurd h (nt_Stream_open q hq)) (fun av σ K kx h => by rw [sRII_len h]; decide) ?_ ?_
  · intro av σ K kx hok hSp
    obtain ⟨q0, x0, x1, rfl, hp⟩ := sRII_inv hSp
    obtain ⟨k0, e0, i0⟩ := q0
    obtain ⟨h0, hI, h2⟩ := hp
    dsimp only at h0; subst h0
    all_goals (repeat' (first | (with_reducible assumption) | (with_reducible refine IV_upd ?_ ?_) | (with_reducible refine IV_cpy ?_ (fun _ _ _ _ => trivial)) | (refine And.intro ?_ ?_) | (intro _)))
    all_goals first | (first | rfl | decide | exact Or.inl rfl | exact Or.inr (Or.inl rfl) | exact Or.inr (Or.inr rfl) | (simp only [nrm, strm, by8] at * <;> omega) | (simp [upd4, cpy4, nrm, strm, by8] at * <;> omega)) | (exact h2) | (refine h2 _ ?_ ?_ <;> (repeat' (first | assumption | exact trivial | exact Un_rf | exact hI 4 _ _ _ | exact hI 9 _ _ _ | exact hI 22 _ _ _ | (refine ixr_by8 ?_ ?_) | (refine IV_upd ?_ ?_) | (refine Un_upd rfl ?_) | (refine IV_cpy ?_ (fun _ _ _ _ => trivial)) | (refine Un_cpy rfl ?_) | (apply Un_tr; rotate_left; assumption; rfl) | (refine And.intro ?_ ?_))) <;> (first | rfl | decide | exact Or.inl rfl | exact Or.inr (Or.inl rfl) | exact Or.inr (Or.inr rfl) | (simp only [nrm, strm, by8] at * <;> omega) | (simp [upd4, cpy4, nrm, strm, by8] at * <;> omega))) | (apply h2 <;> (repeat' (first | assumption | exact trivial | exact Un_rf | exact hI 4 _ _ _ | exact hI 9 _ _ _ | exact hI 22 _ _ _ | (refine ixr_by8 ?_ ?_) | (refine IV_upd ?_ ?_) | (refine Un_upd rfl ?_) | (refine IV_cpy ?_ (fun _ _ _ _ => trivial)) | (refine Un_cpy rfl ?_) | (apply Un_tr; rotate_left; assumption; rfl) | (refine And.intro ?_ ?_))) <;> (first | rfl | decide | exact Or.inl rfl | exact Or.inr (Or.inl rfl) | exact Or.inr (Or.inr rfl) | (simp only [nrm, strm, by8] at * <;> omega) | (simp [upd4, cpy4, nrm, strm, by8] at * <;> omega))) | ((repeat' (first | assumption | exact trivial | exact Un_rf | exact hI 4 _ _ _ | exact hI 9 _ _ _ | exact hI 22 _ _ _ | (refine ixr_by8 ?_ ?_) | (refine IV_upd ?_ ?_) | (refine Un_upd rfl ?_) | (refine IV_cpy ?_ (fun _ _ _ _ => trivial)) | (refine Un_cpy rfl ?_) | (apply Un_tr; rotate_left; assumption; rfl) | (refine And.intro ?_ ?_))) <;> (first | rfl | decide | exact Or.inl rfl | exact Or.inr (Or.inl rfl) | exact Or.inr (Or.inr rfl) | (simp only [nrm, strm, by8] at * <;> omega) | (simp [upd4, cpy4, nrm, strm, by8] at * <;> omega)))
  · intro av σ K kx n pc L st σ' nc ns _ _ h
    exact (h : False).elim
def gt_Stream_isIdle (a : Nat) : Option Nat := match a with
  | _ => none
theorem go_Stream_isIdle : ∀ a v, gt_Stream_isIdle a = some v → StaOK R_Stream a v := by
  intro a v h
  unfold gt_Stream_isIdle at h
  cases h
def pr_Stream_isIdle : List Ent := [(0, 5, 0, 0, 0), (1, 39, 18, 0, 0), (4, 27, 0, 0, 11), (7, 0, 0, 1, 0), (8, 38, 0, 0, 12), (11, 0, 0, 0, 0), (12, 48, 0, 0, 0)]
def sw_Stream_isIdle : List Swt := []
theorem dk_Stream_isIdle : ∀ q ∈ pr_Stream_isIdle, decode b_Stream_isIdle q.1 = .ok (dec sw_Stream_isIdle q) ∧ okE q = true := by decide +kernel
theorem nt_Stream_isIdle : ∀ q ∈ pr_Stream_isIdle, ¬ q.2.1 = 55 := by decide +kernel
def ct_Stream_isIdle (a : Nat) : Option (Nat × Nat × CSp × Nat × Nat) := match a with
  | _ => none
theorem co_Stream_isIdle : ∀ a v, ct_Stream_isIdle a = some v → StcOK R_Stream 0 0 a v := by
  intro a v h
  unfold ct_Stream_isIdle at h
  cases h
/-- Stream_isIdle -/
def sp_Stream_isIdle : CSp := sR (fun q σ K _ => q.1 = 32 ∧ (nrm (σ 32 q.2.1 q.2.2 1) = 0 → K (some (.inl 1)) σ) ∧ (¬ nrm (σ 32 q.2.1 q.2.2 1) = 0 → K (some (.inl 0)) σ))
set_option maxHeartbeats 4000000 in
set_option maxRecDepth 100000 in
theorem c_Stream_isIdle : Ctr y_Stream_isIdle b_Stream_isIdle 1 (some .boolean) 0 0 0 0 sp_Stream_isIdle := by
  refine ctr_of (FT := ft_Stream) (GT := gt_Stream_isIdle) (CT := ct_Stream_isIdle) (sw := sw_Stream_isIdle) (rt := 1) (pr := pr_Stream_isIdle) (by decide) [] (fun _ _ _ _ _ _ _ _ _ _ _ => False) 20 ⟨fun h => absurd h (by decide), fun _ => rfl, fun h => absurd h (by decide), fun h => absurd h (by decide)⟩ dk_Stream_isIdle fo_Stream go_Stream_isIdle co_Stream_isIdle (fun a k h hk => by unfold gt_Stream_isIdle at h; cases h) (fun q hq h => absurd h (nt_Stream_isIdle q hq)) (fun av σ K kx h => by rw [sR_len h]; decide) ?_ ?_
  · intro av σ K kx hok hSp
    obtain ⟨q0, rfl, hp⟩ := sR_inv hSp
    obtain ⟨k0, e0, i0⟩ := q0
    obtain ⟨h0, h1, h2⟩ := hp
    dsimp only at h0; subst h0
    all_goals (repeat' (first | (with_reducible assumption) | (with_reducible refine IV_upd ?_ ?_) | (with_reducible refine IV_cpy ?_ (fun _ _ _ _ => trivial)) | (refine And.intro ?_ ?_) | (intro _)))
    all_goals first | (first | rfl | decide | exact Or.inl rfl | exact Or.inr (Or.inl rfl) | exact Or.inr (Or.inr rfl) | (simp only [nrm, strm, by8] at * <;> omega) | (simp [upd4, cpy4, nrm, strm, by8] at * <;> omega)) | (exact h1 (by first | assumption | (first | rfl | decide | exact Or.inl rfl | exact Or.inr (Or.inl rfl) | exact Or.inr (Or.inr rfl) | (simp only [nrm, strm, by8] at * <;> omega) | (simp [upd4, cpy4, nrm, strm, by8] at * <;> omega)))) | (exact h2 (by first | assumption | (first | rfl | decide | exact Or.inl rfl | exact Or.inr (Or.inl rfl) | exact Or.inr (Or.inr rfl) | (simp only [nrm, strm, by8] at * <;> omega) | (simp [upd4, cpy4, nrm, strm, by8] at * <;> omega)))) | (exact h1) | (exact h2) | (refine h1 _ ?_ ?_ <;> (repeat' (first | assumption | exact trivial | exact Un_rf | exact hI 4 _ _ _ | exact hI 9 _ _ _ | exact hI 22 _ _ _ | (refine ixr_by8 ?_ ?_) | (refine IV_upd ?_ ?_) | (refine Un_upd rfl ?_) | (refine IV_cpy ?_ (fun _ _ _ _ => trivial)) | (refine Un_cpy rfl ?_) | (apply Un_tr; rotate_left; assumption; rfl) | (refine And.intro ?_ ?_))) <;> (first | rfl | decide | exact Or.inl rfl | exact Or.inr (Or.inl rfl) | exact Or.inr (Or.inr rfl) | (simp only [nrm, strm, by8] at * <;> omega) | (simp [upd4, cpy4, nrm, strm, by8] at * <;> omega))) | (refine h2 _ ?_ ?_ <;> (repeat' (first | assumption | exact trivial | exact Un_rf | exact hI 4 _ _ _ | exact hI 9 _ _ _ | exact hI 22 _ _ _ | (refine ixr_by8 ?_ ?_) | (refine IV_upd ?_ ?_) | (refine Un_upd rfl ?_) | (refine IV_cpy ?_ (fun _ _ _ _ => trivial)) | (refine Un_cpy rfl ?_) | (apply Un_tr; rotate_left; assumption; rfl) | (refine And.intro ?_ ?_))) <;> (first | rfl | decide | exact Or.inl rfl | exact Or.inr (Or.inl rfl) | exact Or.inr (Or.inr rfl) | (simp only [nrm, strm, by8] at * <;> omega) | (simp [upd4, cpy4, nrm, strm, by8] at * <;> omega))) | (apply h1 <;> (repeat' (first | assumption | exact trivial | exact Un_rf | exact hI 4 _ _ _ | exact hI 9 _ _ _ | exact hI 22 _ _ _ | (refine ixr_by8 ?_ ?_) | (refine IV_upd ?_ ?_) | (refine Un_upd rfl ?_) | (refine IV_cpy ?_ (fun _ _ _ _ => trivial)) | (refine Un_cpy rfl ?_) | (apply Un_tr; rotate_left; assumption; rfl) | (refine And.intro ?_ ?_))) <;> (first | rfl | decide | exact Or.inl rfl | exact Or.inr (Or.inl rfl) | exact Or.inr (Or.inr rfl) | (simp only [nrm, strm, by8] at * <;> omega) | (simp [upd4, cpy4, nrm, strm, by8] at * <;> omega))) | (apply h2 <;> (repeat' (first | assumption | exact trivial | exact Un_rf | exact hI 4 _ _ _ | exact hI 9 _ _ _ | exact hI 22 _ _ _ | (refine ixr_by8 ?_ ?_) | (refine IV_upd ?_ ?_) | (refine Un_upd rfl ?_) | (refine IV_cpy ?_ (fun _ _ _ _ => trivial)) | (refine Un_cpy rfl ?_) | (apply Un_tr; rotate_left; assumption; rfl) | (refine And.intro ?_ ?_))) <;> (first | rfl | decide | exact Or.inl rfl | exact Or.inr (Or.inl rfl) | exact Or.inr (Or.inr rfl) | (simp only [nrm, strm, by8] at * <;> omega) | (simp [upd4, cpy4, nrm, strm, by8] at * <;> omega))) | ((repeat' (first | assumption | exact trivial | exact Un_rf | exact hI 4 _ _ _ | exact hI 9 _ _ _ | exact hI 22 _ _ _ | (refine ixr_by8 ?_ ?_) | (refine IV_upd ?_ ?_) | (refine Un_upd rfl ?_) | (refine IV_cpy ?_ (fun _ _ _ _ => trivial)) | (refine Un_cpy rfl ?_) | (apply Un_tr; rotate_left; assumption; rfl) | (refine And.intro ?_ ?_))) <;> (first | rfl | decide | exact Or.inl rfl | exact Or.inr (Or.inl rfl) | exact Or.inr (Or.inr rfl) | (simp only [nrm, strm, by8] at * <;> omega) | (simp [upd4, cpy4, nrm, strm, by8] at * <;> omega)))
  · intro av σ K kx n pc L st σ' nc ns _ _ h
    exact (h : False).elim
def gt_Stream_isClosed (a : Nat) : Option Nat := match a with
  | _ => none
theorem go_Stream_isClosed : ∀ a v, gt_Stream_isClosed a = some v → StaOK R_Stream a v := by
  intro a v h
  unfold gt_Stream_isClosed at h
  cases h
def pr_Stream_isClosed : List Ent := [(0, 5, 0, 0, 0), (1, 39, 18, 0, 0), (4, 0, 0, 4, 0), (5, 33, 0, 0, 12), (8, 0, 0, 1, 0), (9, 38, 0, 0, 13), (12, 0, 0, 0, 0), (13, 48, 0, 0, 0)]
def sw_Stream_isClosed : List Swt := []
theorem dk_Stream_isClosed : ∀ q ∈ pr_Stream_isClosed, decode b_Stream_isClosed q.1 = .ok (dec sw_Stream_isClosed q) ∧ okE q = true := by decide +kernel
theorem nt_Stream_isClosed : ∀ q ∈ pr_Stream_isClosed, ¬ q.2.1 = 55 := by decide +kernel
def ct_Stream_isClosed (a : Nat) : Option (Nat × Nat × CSp × Nat × Nat) := match a with
  | _ => none
theorem co_Stream_isClosed : ∀ a v, ct_Stream_isClosed a = some v → StcOK R_Stream 0 0 a v := by
  intro a v h
  unfold ct_Stream_isClosed at h
  cases h
/-- Stream_isClosed -/
def sp_Stream_isClosed : CSp := sR (fun q σ K _ => q.1 = 32 ∧ K (some (.inl 0)) σ ∧ K (some (.inl 1)) σ)
set_option maxHeartbeats 4000000 in
set_option maxRecDepth 100000 in
theorem c_Stream_isClosed : Ctr y_Stream_isClosed b_Stream_isClosed 1 (some .boolean) 0 0 0 0 sp_Stream_isClosed := by
  refine ctr_of (FT := ft_Stream) (GT := gt_Stream_isClosed) (CT := ct_Stream_isClosed) (sw := sw_Stream_isClosed) (rt := 1) (pr := pr_Stream_isClosed) (by decide) [] (fun _ _ _ _ _ _ _ _ _ _ _ => False) 20 ⟨fun h => absurd h (by decide), fun _ => rfl, fun h => absurd h (by decide), fun h => absurd h (by decide)⟩ dk_Stream_isClosed fo_Stream go_Stream_isClosed co_Stream_isClosed (fun a k h hk => by unfold gt_Stream_isClosed at h; cases h) (fun q hq h => absurd h (nt_Stream_isClosed q hq)) (fun av σ K kx h => by rw [sR_len h]; decide) ?_ ?_
  · intro av σ K kx hok hSp
    obtain ⟨q0, rfl, hp⟩ := sR_inv hSp
    obtain ⟨k0, e0, i0⟩ := q0
    obtain ⟨h0, h1, h2⟩ := hp
    dsimp only at h0; subst h0
    all_goals (repeat' (first | (with_reducible assumption) | (with_reducible refine IV_upd ?_ ?_) | (with_reducible refine IV_cpy ?_ (fun _ _ _ _ => trivial)) | (refine And.intro ?_ ?_) | (intro _)))
    all_goals first | (first | rfl | decide | exact Or.inl rfl | exact Or.inr (Or.inl rfl) | exact Or.inr (Or.inr rfl) | (simp only [nrm, strm, by8] at * <;> omega) | (simp [upd4, cpy4, nrm, strm, by8] at * <;> omega)) | (exact h1 (by first | assumption | (first | rfl | decide | exact Or.inl rfl | exact Or.inr (Or.inl rfl) | exact Or.inr (Or.inr rfl) | (simp only [nrm, strm, by8] at * <;> omega) | (simp [upd4, cpy4, nrm, strm, by8] at * <;> omega)))) | (exact h2 (by first | assumption | (first | rfl | decide | exact Or.inl rfl | exact Or.inr (Or.inl rfl) | exact Or.inr (Or.inr rfl) | (simp only [nrm, strm, by8] at * <;> omega) | (simp [upd4, cpy4, nrm, strm, by8] at * <;> omega)))) | (exact h1) | (exact h2) | (refine h1 _ ?_ ?_ <;> (repeat' (first | assumption | exact trivial | exact Un_rf | exact hI 4 _ _ _ | exact hI 9 _ _ _ | exact hI 22 _ _ _ | (refine ixr_by8 ?_ ?_) | (refine IV_upd ?_ ?_) | (refine Un_upd rfl ?_) | (refine IV_cpy ?_ (fun _ _ _ _ => trivial)) | (refine Un_cpy rfl ?_) | (apply Un_tr; rotate_left; assumption; rfl) | (refine And.intro ?_ ?_))) <;> (first | rfl | decide | exact Or.inl rfl | exact Or.inr (Or.inl rfl) | exact Or.inr (Or.inr rfl) | (simp only [nrm, strm, by8] at * <;> omega) | (simp [upd4, cpy4, nrm, strm, by8] at * <;> omega))) | (refine h2 _ ?_ ?_ <;> (repeat' (first | assumption | exact trivial | exact Un_rf | exact hI 4 _ _ _ | exact hI 9 _ _ _ | exact hI 22 _ _ _ | (refine ixr_by8 ?_ ?_) | (refine IV_upd ?_ ?_) | (refine Un_upd rfl ?_) | (refine IV_cpy ?_ (fun _ _ _ _ => trivial)) | (refine Un_cpy rfl ?_) | (apply Un_tr; rotate_left; assumption; rfl) | (refine And.intro ?_ ?_))) <;> (first | rfl | decide | exact Or.inl rfl | exact Or.inr (Or.inl rfl) | exact Or.inr (Or.inr rfl) | (simp only [nrm, strm, by8] at * <;> omega) | (simp [upd4, cpy4, nrm, strm, by8] at * <;> omega))) | (apply h1 <;> (repeat' (first | assumption | exact trivial | exact Un_rf | exact hI 4 _ _ _ | exact hI 9 _ _ _ | exact hI 22 _ _ _ | (refine ixr_by8 ?_ ?_) | (refine IV_upd ?_ ?_) | (refine Un_upd rfl ?_) | (refine IV_cpy ?_ (fun _ _ _ _ => trivial)) | (refine Un_cpy rfl ?_) | (apply Un_tr; rotate_left; assumption; rfl) | (refine And.intro ?_ ?_))) <;> (first | rfl | decide | exact Or.inl rfl | exact Or.inr (Or.inl rfl) | exact Or.inr (Or.inr rfl) | (simp only [nrm, strm, by8] at * <;> omega) | (simp [upd4, cpy4, nrm, strm, by8] at * <;> omega))) | (apply h2 <;> (repeat' (first | assumption | exact trivial | exact Un_rf | exact hI 4 _ _ _ | exact hI 9 _ _ _ | exact hI 22 _ _ _ | (refine ixr_by8 ?_ ?_) | (refine IV_upd ?_ ?_) | (refine Un_upd rfl ?_) | (refine IV_cpy ?_ (fun _ _ _ _ => trivial)) | (refine Un_cpy rfl ?_) | (apply Un_tr; rotate_left; assumption; rfl) | (refine And.intro ?_ ?_))) <;> (first | rfl | decide | exact Or.inl rfl | exact Or.inr (Or.inl rfl) | exact Or.inr (Or.inr rfl) | (simp only [nrm, strm, by8] at * <;> omega) | (simp [upd4, cpy4, nrm, strm, by8] at * <;> omega))) | ((repeat' (first | assumption | exact trivial | exact Un_rf | exact hI 4 _ _ _ | exact hI 9 _ _ _ | exact hI 22 _ _ _ | (refine ixr_by8 ?_ ?_) | (refine IV_upd ?_ ?_) | (refine Un_upd rfl ?_) | (refine IV_cpy ?_ (fun _ _ _ _ => trivial)) | (refine Un_cpy rfl ?_) | (apply Un_tr; rotate_left; assumption; rfl) | (refine And.intro ?_ ?_))) <;> (first | rfl | decide | exact Or.inl rfl | exact Or.inr (Or.inl rfl) | exact Or.inr (Or.inr rfl) | (simp only [nrm, strm, by8] at * <;> omega) | (simp [upd4, cpy4, nrm, strm, by8] at * <;> omega)))
  · intro av σ K kx n pc L st σ' nc ns _ _ h
    exact (h : False).elim
def gt_Stream_isLive (a : Nat) : Option Nat := match a with
  | _ => none
theorem go_Stream_isLive : ∀ a v, gt_Stream_isLive a = some v → StaOK R_Stream a v := by
  intro a v h
  unfold gt_Stream_isLive at h
  cases h
def pr_Stream_isLive : List Ent := [(0, 5, 0, 0, 0), (1, 46, 34, 0, 0), (4, 27, 0, 0, 18), (7, 5, 0, 0, 0), (8, 46, 38, 0, 0), (11, 27, 0, 0, 18), (14, 0, 0, 1, 0), (15, 38, 0, 0, 19), (18, 0, 0, 0, 0), (19, 48, 0, 0, 0)]
def sw_Stream_isLive : List Swt := []
theorem dk_Stream_isLive : ∀ q ∈ pr_Stream_isLive, decode b_Stream_isLive q.1 = .ok (dec sw_Stream_isLive q) ∧ okE q = true := by decide +kernel
theorem nt_Stream_isLive : ∀ q ∈ pr_Stream_isLive, ¬ q.2.1 = 55 := by decide +kernel
def ct_Stream_isLive (a : Nat) : Option (Nat × Nat × CSp × Nat × Nat) := match a with
  | 34 => some (1, 6, sp_Stream_isIdle, 0, 0)
  | 38 => some (1, 6, sp_Stream_isClosed, 0, 0)
  | _ => none
theorem co_Stream_isLive : ∀ a v, ct_Stream_isLive a = some v → StcOK R_Stream 1 20 a v := by
  intro a v h
  unfold ct_Stream_isLive at h
  split at h
  · cases h; exact ⟨y_Stream_isIdle, b_Stream_isIdle, 1, (some .boolean), 0, 0, 0, c_Stream_isIdle, by decide, by decide +kernel, by decide +kernel, by decide +kernel, Or.inl ⟨rfl, by decide, by decide +kernel, by decide +kernel, _, _, rfl, by decide +kernel⟩⟩
  · cases h; exact ⟨y_Stream_isClosed, b_Stream_isClosed, 1, (some .boolean), 0, 0, 0, c_Stream_isClosed, by decide, by decide +kernel, by decide +kernel, by decide +kernel, Or.inl ⟨rfl, by decide, by decide +kernel, by decide +kernel, _, _, rfl, by decide +kernel⟩⟩
  · cases h
/-- Stream_isLive -/
def sp_Stream_isLive : CSp := sR (fun q σ K _ => q.1 = 32 ∧ K (some (.inl 0)) σ ∧ K (some (.inl 1)) σ)
set_option maxHeartbeats 4000000 in
set_option maxRecDepth 100000 in
theorem c_Stream_isLive : Ctr y_Stream_isLive b_Stream_isLive 1 (some .boolean) 1 20 0 0 sp_Stream_isLive := by
  refine ctr_of (FT := ft_Stream) (GT := gt_Stream_isLive) (CT := ct_Stream_isLive) (sw := sw_Stream_isLive) (rt := 1) (pr := pr_Stream_isLive) (by decide) [] (fun _ _ _ _ _ _ _ _ _ _ _ => False) 30 ⟨fun h => absurd h (by decide), fun _ => rfl, fun h => absurd h (by decide), fun h => absurd h (by decide)⟩ dk_Stream_isLive fo_Stream go_Stream_isLive co_Stream_isLive (fun a k h hk => by unfold gt_Stream_isLive at h; cases h) (fun q hq h => absurd h (nt_Stream_isLive q hq)) (fun av σ K kx h => by rw [sR_len h]; decide) ?_ ?_
  · intro av σ K kx hok hSp
    obtain ⟨q0, rfl, hp⟩ := sR_inv hSp
    obtain ⟨k0, e0, i0⟩ := q0
    obtain ⟨h0, h1, h2⟩ := hp
    dsimp only at h0; subst h0
    all_goals (repeat' (first | (with_reducible assumption) | (with_reducible refine IV_upd ?_ ?_) | (with_reducible refine IV_cpy ?_ (fun _ _ _ _ => trivial)) | (refine And.intro ?_ ?_) | (intro _)))
    all_goals first | (first | rfl | decide | exact Or.inl rfl | exact Or.inr (Or.inl rfl) | exact Or.inr (Or.inr rfl) | (simp only [nrm, strm, by8] at * <;> omega) | (simp [upd4, cpy4, nrm, strm, by8] at * <;> omega)) | (exact h1 (by first | assumption | (first | rfl | decide | exact Or.inl rfl | exact Or.inr (Or.inl rfl) | exact Or.inr (Or.inr rfl) | (simp only [nrm, strm, by8] at * <;> omega) | (simp [upd4, cpy4, nrm, strm, by8] at * <;> omega)))) | (exact h2 (by first | assumption | (first | rfl | decide | exact Or.inl rfl | exact Or.inr (Or.inl rfl) | exact Or.inr (Or.inr rfl) | (simp only [nrm, strm, by8] at * <;> omega) | (simp [upd4, cpy4, nrm, strm, by8] at * <;> omega)))) | (exact h1) | (exact h2) | (refine h1 _ ?_ ?_ <;> (repeat' (first | assumption | exact trivial | exact Un_rf | exact hI 4 _ _ _ | exact hI 9 _ _ _ | exact hI 22 _ _ _ | (refine ixr_by8 ?_ ?_) | (refine IV_upd ?_ ?_) | (refine Un_upd rfl ?_) | (refine IV_cpy ?_ (fun _ _ _ _ => trivial)) | (refine Un_cpy rfl ?_) | (apply Un_tr; rotate_left; assumption; rfl) | (refine And.intro ?_ ?_))) <;> (first | rfl | decide | exact Or.inl rfl | exact Or.inr (Or.inl rfl) | exact Or.inr (Or.inr rfl) | (simp only [nrm, strm, by8] at * <;> omega) | (simp [upd4, cpy4, nrm, strm, by8] at * <;> omega))) | (refine h2 _ ?_ ?_ <;> (repeat' (first | assumption | exact trivial | exact Un_rf | exact hI 4 _ _ _ | exact hI 9 _ _ _ | exact hI 22 _ _ _ | (refine ixr_by8 ?_ ?_) | (refine IV_upd ?_ ?_) | (refine Un_upd rfl ?_) | (refine IV_cpy ?_ (fun _ _ _ _ => trivial)) | (refine Un_cpy rfl ?_) | (apply Un_tr; rotate_left; assumption; rfl) | (refine And.intro ?_ ?_))) <;> (first | rfl | decide | exact Or.inl rfl | exact Or.inr (Or.inl rfl) | exact Or.inr (Or.inr rfl) | (simp only [nrm, strm, by8] at * <;> omega) | (simp [upd4, cpy4, nrm, strm, by8] at * <;> omega))) | (apply h1 <;> (repeat' (first | assumption | exact trivial | exact Un_rf | exact hI 4 _ _ _ | exact hI 9 _ _ _ | exact hI 22 _ _ _ | (refine ixr_by8 ?_ ?_) | (refine IV_upd ?_ ?_) | (refine Un_upd rfl ?_) | (refine IV_cpy ?_ (fun _ _ _ _ => trivial)) | (refine Un_cpy rfl ?_) | (apply Un_tr; rotate_left; assumption; rfl) | (refine And.intro ?_ ?_))) <;> (first | rfl | decide | exact Or.inl rfl | exact Or.inr (Or.inl rfl) | exact Or.inr (Or.inr rfl) | (simp only [nrm, strm, by8] at * <;> omega) | (simp [upd4, cpy4, nrm, strm, by8] at * <;> omega))) | (apply h2 <;> (repeat' (first | assumption | exact trivial | exact Un_rf | exact hI 4 _ _ _ | exact hI 9 _ _ _ | exact hI 22 _ _ _ | (refine ixr_by8 ?_ ?_) | (refine IV_upd ?_ ?_) | (refine Un_upd rfl ?_) | (refine IV_cpy ?_ (fun _ _ _ _ => trivial)) | (refine Un_cpy rfl ?_) | (apply Un_tr; rotate_left; assumption; rfl) | (refine And.intro ?_ ?_))) <;> (first | rfl | decide | exact Or.inl rfl | exact Or.inr (Or.inl rfl) | exact Or.inr (Or.inr rfl) | (simp only [nrm, strm, by8] at * <;> omega) | (simp [upd4, cpy4, nrm, strm, by8] at * <;> omega))) | ((repeat' (first | assumption | exact trivial | exact Un_rf | exact hI 4 _ _ _ | exact hI 9 _ _ _ | exact hI 22 _ _ _ | (refine ixr_by8 ?_ ?_) | (refine IV_upd ?_ ?_) | (refine Un_upd rfl ?_) | (refine IV_cpy ?_ (fun _ _ _ _ => trivial)) | (refine Un_cpy rfl ?_) | (apply Un_tr; rotate_left; assumption; rfl) | (refine And.intro ?_ ?_))) <;> (first | rfl | decide | exact Or.inl rfl | exact Or.inr (Or.inl rfl) | exact Or.inr (Or.inr rfl) | (simp only [nrm, strm, by8] at * <;> omega) | (simp [upd4, cpy4, nrm, strm, by8] at * <;> omega)))
  · intro av σ K kx n pc L st σ' nc ns _ _ h
    exact (h : False).elim
def gt_Stream_maySend (a : Nat) : Option Nat := match a with
  | _ => none
theorem go_Stream_maySend : ∀ a v, gt_Stream_maySend a = some v → StaOK R_Stream a v := by
  intro a v h
  unfold gt_Stream_maySend at h
  cases h
def pr_Stream_maySend : List Ent := [(0, 5, 0, 0, 0), (1, 39, 18, 0, 0), (4, 0, 0, 1, 0), (5, 32, 0, 0, 16), (8, 5, 0, 0, 0), (9, 39, 18, 0, 0), (12, 0, 0, 3, 0), (13, 33, 0, 0, 20), (16, 0, 0, 1, 0), (17, 38, 0, 0, 21), (20, 0, 0, 0, 0), (21, 48, 0, 0, 0)]
def sw_Stream_maySend : List Swt := []
theorem dk_Stream_maySend : ∀ q ∈ pr_Stream_maySend, decode b_Stream_maySend q.1 = .ok (dec sw_Stream_maySend q) ∧ okE q = true := by decide +kernel
theorem nt_Stream_maySend : ∀ q ∈ pr_Stream_maySend, ¬ q.2.1 = 55 := by decide +kernel
def ct_Stream_maySend (a : Nat) : Option (Nat × Nat × CSp × Nat × Nat) := match a with
  | _ => none
theorem co_Stream_maySend : ∀ a v, ct_Stream_maySend a = some v → StcOK R_Stream 0 0 a v := by
  intro a v h
  unfold ct_Stream_maySend at h
  cases h
/-- Stream_maySend -/
def sp_Stream_maySend : CSp := sR (fun q σ K _ => q.1 = 32 ∧ K (some (.inl 0)) σ ∧ (¬ nrm (σ 32 q.2.1 q.2.2 1) = 0 → K (some (.inl 1)) σ))
set_option maxHeartbeats 4000000 in
set_option maxRecDepth 100000 in
theorem c_Stream_maySend : Ctr y_Stream_maySend b_Stream_maySend 1 (some .boolean) 0 0 0 0 sp_Stream_maySend := by
  refine ctr_of (FT := ft_Stream) (GT := gt_Stream_maySend) (CT := ct_Stream_maySend) (sw := sw_Stream_maySend) (rt := 1) (pr := pr_Stream_maySend) (by decide) [] (fun _ _ _ _ _ _ _ _ _ _ _ => False) 30 ⟨fun h => absurd h (by decide), fun _ => rfl, fun h => absurd h (by decide), fun h => absurd h (by decide)⟩ dk_Stream_maySend fo_Stream go_Stream_maySend co_Stream_maySend (fun a k h hk => by unfold gt_Stream_maySend at h; cases h) (fun q hq h => absurd h (nt_Stream_maySend q hq)) (fun av σ K kx h => by rw [sR_len h]; decide) ?_ ?_
  · intro av σ K kx hok hSp
    obtain ⟨q0, rfl, hp⟩ := sR_inv hSp
    obtain ⟨k0, e0, i0⟩ := q0
    obtain ⟨h0, h1, h2⟩ := hp
    dsimp only at h0; subst h0
    all_goals (repeat' (first | (with_reducible assumption) | (with_reducible refine IV_upd ?_ ?_) | (with_reducible refine IV_cpy ?_ (fun _ _ _ _ => trivial)) | (refine And.intro ?_ ?_) | (intro _)))
    all_goals first | (first | rfl | decide | exact Or.inl rfl | exact Or.inr (Or.inl rfl) | exact Or.inr (Or.inr rfl) | (simp only [nrm, strm, by8] at * <;> omega) | (simp [upd4, cpy4, nrm, strm, by8] at * <;> omega)) | (exact h1 (by first | assumption | (first | rfl | decide | exact Or.inl rfl | exact Or.inr (Or.inl rfl) | exact Or.inr (Or.inr rfl) | (simp only [nrm, strm, by8] at * <;> omega) | (simp [upd4, cpy4, nrm, strm, by8] at * <;> omega)))) | (exact h2 (by first | assumption | (first | rfl | decide | exact Or.inl rfl | exact Or.inr (Or.inl rfl) | exact Or.inr (Or.inr rfl) | (simp only [nrm, strm, by8] at * <;> omega) | (simp [upd4, cpy4, nrm, strm, by8] at * <;> omega)))) | (exact h1) | (exact h2) | (refine h1 _ ?_ ?_ <;> (repeat' (first | assumption | exact trivial | exact Un_rf | exact hI 4 _ _ _ | exact hI 9 _ _ _ | exact hI 22 _ _ _ | (refine ixr_by8 ?_ ?_) | (refine IV_upd ?_ ?_) | (refine Un_upd rfl ?_) | (refine IV_cpy ?_ (fun _ _ _ _ => trivial)) | (refine Un_cpy rfl ?_) | (apply Un_tr; rotate_left; assumption; rfl) | (refine And.intro ?_ ?_))) <;> (first | rfl | decide | exact Or.inl rfl | exact Or.inr (Or.inl rfl) | exact Or.inr (Or.inr rfl) | (simp only [nrm, strm, by8] at * <;> omega) | (simp [upd4, cpy4, nrm, strm, by8] at * <;> omega))) | (refine h2 _ ?_ ?_ <;> (repeat' (first | assumption | exact trivial | exact Un_rf | exact hI 4 _ _ _ | exact hI 9 _ _ _ | exact hI 22 _ _ _ | (refine ixr_by8 ?_ ?_) | (refine IV_upd ?_ ?_) | (refine Un_upd rfl ?_) | (refine IV_cpy ?_ (fun _ _ _ _ => trivial)) | (refine Un_cpy rfl ?_) | (apply Un_tr; rotate_left; assumption; rfl) | (refine And.intro ?_ ?_))) <;> (first | rfl | decide | exact Or.inl rfl | exact Or.inr (Or.inl rfl) | exact Or.inr (Or.inr rfl) | (simp only [nrm, strm, by8] at * <;> omega) | (simp [upd4, cpy4, nrm, strm, by8] at * <;> omega))) | (apply h1 <;> (repeat' (first | assumption | exact trivial | exact Un_rf | exact hI 4 _ _ _ | exact hI 9 _ _ _ | exact hI 22 _ _ _ | (refine ixr_by8 ?_ ?_) | (refine IV_upd ?_ ?_) | (refine Un_upd rfl ?_) | (refine IV_cpy ?_ (fun _ _ _ _ => trivial)) | (refine Un_cpy rfl ?_) | (apply Un_tr; rotate_left; assumption; rfl) | (refine And.intro ?_ ?_))) <;> (first | rfl | decide | exact Or.inl rfl | exact Or.inr (Or.inl rfl) | exact Or.inr (Or.inr rfl) | (simp only [nrm, strm, by8] at * <;> omega) | (simp [upd4, cpy4, nrm, strm, by8] at * <;> omega))) | (apply h2 <;> (repeat' (first | assumption | exact trivial | exact Un_rf | exact hI 4 _ _ _ | exact hI 9 _ _ _ | exact hI 22 _ _ _ | (refine ixr_by8 ?_ ?_) | (refine IV_upd ?_ ?_) | (refine Un_upd rfl ?_) | (refine IV_cpy ?_ (fun _ _ _ _ => trivial)) | (refine Un_cpy rfl ?_) | (apply Un_tr; rotate_left; assumption; rfl) | (refine And.intro ?_ ?_))) <;> (first | rfl | decide | exact Or.inl rfl | exact Or.inr (Or.inl rfl) | exact Or.inr (Or.inr rfl) | (simp only [nrm, strm, by8] at * <;> omega) | (simp [upd4, cpy4, nrm, strm, by8] at * <;> omega))) | ((repeat' (first | assumption | exact trivial | exact Un_rf | exact hI 4 _ _ _ | exact hI 9 _ _ _ | exact hI 22 _ _ _ | (refine ixr_by8 ?_ ?_) | (refine IV_upd ?_ ?_) | (refine Un_upd rfl ?_) | (refine IV_cpy ?_ (fun _ _ _ _ => trivial)) | (refine Un_cpy rfl ?_) | (apply Un_tr; rotate_left; assumption; rfl) | (refine And.intro ?_ ?_))) <;> (first | rfl | decide | exact Or.inl rfl | exact Or.inr (Or.inl rfl) | exact Or.inr (Or.inr rfl) | (simp only [nrm, strm, by8] at * <;> omega) | (simp [upd4, cpy4, nrm, strm, by8] at * <;> omega)))
  · intro av σ K kx n pc L st σ' nc ns _ _ h
    exact (h : False).elim
def gt_Stream_mayHear (a : Nat) : Option Nat := match a with
  | _ => none
theorem go_Stream_mayHear : ∀ a v, gt_Stream_mayHear a = some v → StaOK R_Stream a v := by
  intro a v h
  unfold gt_Stream_mayHear at h
  cases h
def pr_Stream_mayHear : List Ent := [(0, 5, 0, 0, 0), (1, 39, 18, 0, 0), (4, 0, 0, 1, 0), (5, 32, 0, 0, 16), (8, 5, 0, 0, 0), (9, 39, 18, 0, 0), (12, 0, 0, 2, 0), (13, 33, 0, 0, 20), (16, 0, 0, 1, 0), (17, 38, 0, 0, 21), (20, 0, 0, 0, 0), (21, 48, 0, 0, 0)]
def sw_Stream_mayHear : List Swt := []
theorem dk_Stream_mayHear : ∀ q ∈ pr_Stream_mayHear, decode b_Stream_mayHear q.1 = .ok (dec sw_Stream_mayHear q) ∧ okE q = true := by decide +kernel
theorem nt_Stream_mayHear : ∀ q ∈ pr_Stream_mayHear, ¬ q.2.1 = 55 := by decide +kernel
def ct_Stream_mayHear (a : Nat) : Option (Nat × Nat × CSp × Nat × Nat) := match a with
  | _ => none
theorem co_Stream_mayHear : ∀ a v, ct_Stream_mayHear a = some v → StcOK R_Stream 0 0 a v := by
  intro a v h
  unfold ct_Stream_mayHear at h
  cases h
/-- Stream_mayHear -/
def sp_Stream_mayHear : CSp := sR (fun q σ K _ => q.1 = 32 ∧ K (some (.inl 0)) σ ∧ K (some (.inl 1)) σ)
set_option maxHeartbeats 4000000 in
set_option maxRecDepth 100000 in
theorem c_Stream_mayHear : Ctr y_Stream_mayHear b_Stream_mayHear 1 (some .boolean) 0 0 0 0 sp_Stream_mayHear := by
  refine ctr_of (FT := ft_Stream) (GT := gt_Stream_mayHear) (CT := ct_Stream_mayHear) (sw := sw_Stream_mayHear) (rt := 1) (pr := pr_Stream_mayHear) (by decide) [] (fun _ _ _ _ _ _ _ _ _ _ _ => False) 30 ⟨fun h => absurd h (by decide), fun _ => rfl, fun h => absurd h (by decide), fun h => absurd h (by decide)⟩ dk_Stream_mayHear fo_Stream go_Stream_mayHear co_Stream_mayHear (fun a k h hk => by unfold gt_Stream_mayHear at h; cases h) (fun q hq h => absurd h (nt_Stream_mayHear q hq)) (fun av σ K kx h => by rw [sR_len h]; decide) ?_ ?_
  · intro av σ K kx hok hSp
    obtain ⟨q0, rfl, hp⟩ := sR_inv hSp
    obtain ⟨k0, e0, i0⟩ := q0
    obtain ⟨h0, h1, h2⟩ := hp
    dsimp only at h0; subst h0
    all_goals (repeat' (first | (with_reducible assumption) | (with_reducible refine IV_upd ?_ ?_) | (with_reducible refine IV_cpy ?_ (fun _ _ _ _ => trivial)) | (refine And.intro ?_ ?_) | (intro _)))
    all_goals first | (first | rfl | decide | exact Or.inl rfl | exact Or.inr (Or.inl rfl) | exact Or.inr (Or.inr rfl) | (simp only [nrm, strm, by8] at * <;> omega) | (simp [upd4, cpy4, nrm, strm, by8] at * <;> omega)) | (exact h1 (by first | assumption | (first | rfl | decide | exact Or.inl rfl | exact Or.inr (Or.inl rfl) | exact Or.inr (Or.inr rfl) | (simp only [nrm, strm, by8] at * <;> omega) | (simp [upd4, cpy4, nrm, strm, by8] at * <;> omega)))) | (exact h2 (by first | assumption | (first | rfl | decide | exact Or.inl rfl | exact Or.inr (Or.inl rfl) | exact Or.inr (Or.inr rfl) | (simp only [nrm, strm, by8] at * <;> omega) | (simp [upd4, cpy4, nrm, strm, by8] at * <;> omega)))) | (exact h1) | (exact h2) | (refine h1 _ ?_ ?_ <;> (repeat' (first | assumption | exact trivial | exact Un_rf | exact hI 4 _ _ _ | exact hI 9 _ _ _ | exact hI 22 _ _ _ | (refine ixr_by8 ?_ ?_) | (refine IV_upd ?_ ?_) | (refine Un_upd rfl ?_) | (refine IV_cpy ?_ (fun _ _ _ _ => trivial)) | (refine Un_cpy rfl ?_) | (apply Un_tr; rotate_left; assumption; rfl) | (refine And.intro ?_ ?_))) <;> (first | rfl | decide | exact Or.inl rfl | exact Or.inr (Or.inl rfl) | exact Or.inr (Or.inr rfl) | (simp only [nrm, strm, by8] at * <;> omega) | (simp [upd4, cpy4, nrm, strm, by8] at * <;> omega))) | (refine h2 _ ?_ ?_ <;> (repeat' (first | assumption | exact trivial | exact Un_rf | exact hI 4 _ _ _ | exact hI 9 _ _ _ | exact hI 22 _ _ _ | (refine ixr_by8 ?_ ?_) | (refine IV_upd ?_ ?_) | (refine Un_upd rfl ?_) | (refine IV_cpy ?_ (fun _ _ _ _ => trivial)) | (refine Un_cpy rfl ?_) | (apply Un_tr; rotate_left; assumption; rfl) | (refine And.intro ?_ ?_))) <;> (first | rfl | decide | exact Or.inl rfl | exact Or.inr (Or.inl rfl) | exact Or.inr (Or.inr rfl) | (simp only [nrm, strm, by8] at * <;> omega) | (simp [upd4, cpy4, nrm, strm, by8] at * <;> omega))) | (apply h1 <;> (repeat' (first | assumption | exact trivial | exact Un_rf | exact hI 4 _ _ _ | exact hI 9 _ _ _ | exact hI 22 _ _ _ | (refine ixr_by8 ?_ ?_) | (refine IV_upd ?_ ?_) | (refine Un_upd rfl ?_) | (refine IV_cpy ?_ (fun _ _ _ _ => trivial)) | (refine Un_cpy rfl ?_) | (apply Un_tr; rotate_left; assumption; rfl) | (refine And.intro ?_ ?_))) <;> (first | rfl | decide | exact Or.inl rfl | exact Or.inr (Or.inl rfl) | exact Or.inr (Or.inr rfl) | (simp only [nrm, strm, by8] at * <;> omega) | (simp [upd4, cpy4, nrm, strm, by8] at * <;> omega))) | (apply h2 <;> (repeat' (first | assumption | exact trivial | exact Un_rf | exact hI 4 _ _ _ | exact hI 9 _ _ _ | exact hI 22 _ _ _ | (refine ixr_by8 ?_ ?_) | (refine IV_upd ?_ ?_) | (refine Un_upd rfl ?_) | (refine IV_cpy ?_ (fun _ _ _ _ => trivial)) | (refine Un_cpy rfl ?_) | (apply Un_tr; rotate_left; assumption; rfl) | (refine And.intro ?_ ?_))) <;> (first | rfl | decide | exact Or.inl rfl | exact Or.inr (Or.inl rfl) | exact Or.inr (Or.inr rfl) | (simp only [nrm, strm, by8] at * <;> omega) | (simp [upd4, cpy4, nrm, strm, by8] at * <;> omega))) | ((repeat' (first | assumption | exact trivial | exact Un_rf | exact hI 4 _ _ _ | exact hI 9 _ _ _ | exact hI 22 _ _ _ | (refine ixr_by8 ?_ ?_) | (refine IV_upd ?_ ?_) | (refine Un_upd rfl ?_) | (refine IV_cpy ?_ (fun _ _ _ _ => trivial)) | (refine Un_cpy rfl ?_) | (apply Un_tr; rotate_left; assumption; rfl) | (refine And.intro ?_ ?_))) <;> (first | rfl | decide | exact Or.inl rfl | exact Or.inr (Or.inl rfl) | exact Or.inr (Or.inr rfl) | (simp only [nrm, strm, by8] at * <;> omega) | (simp [upd4, cpy4, nrm, strm, by8] at * <;> omega)))
  · intro av σ K kx n pc L st σ' nc ns _ _ h
    exact (h : False).elim
def gt_Stream_close (a : Nat) : Option Nat := match a with
  | _ => none
theorem go_Stream_close : ∀ a v, gt_Stream_close a = some v → StaOK R_Stream a v := by
  intro a v h
  unfold gt_Stream_close at h
  cases h
def pr_Stream_close : List Ent := [(0, 5, 0, 0, 0), (1, 0, 0, 4, 0), (2, 40, 18, 0, 0), (5, 49, 0, 0, 0)]
def sw_Stream_close : List Swt := []
theorem dk_Stream_close : ∀ q ∈ pr_Stream_close, decode b_Stream_close q.1 = .ok (dec sw_Stream_close q) ∧ okE q = true := by decide +kernel
theorem nt_Stream_close : ∀ q ∈ pr_Stream_close, ¬ q.2.1 = 55 := by decide +kernel
def ct_Stream_close (a : Nat) : Option (Nat × Nat × CSp × Nat × Nat) := match a with
  | _ => none
theorem co_Stream_close : ∀ a v, ct_Stream_close a = some v → StcOK R_Stream 0 0 a v := by
  intro a v h
  unfold ct_Stream_close at h
  cases h
/-- Stream_close -/
def sp_Stream_close : CSp := sR (fun q σ K _ => q.1 = 32 ∧ IV σ ∧ ∀ σ', IV σ' → Un [32] σ σ' → K none σ')
set_option maxHeartbeats 4000000 in
set_option maxRecDepth 100000 in
theorem c_Stream_close : Ctr y_Stream_close b_Stream_close 1 none 0 0 0 0 sp_Stream_close := by
  refine ctr_of (FT := ft_Stream) (GT := gt_Stream_close) (CT := ct_Stream_close) (sw := sw_Stream_close) (rt := 2) (pr := pr_Stream_close) (by decide) [] (fun _ _ _ _ _ _ _ _ _ _ _ => False) 20 ⟨fun h => absurd h (by decide), fun h => absurd h (by decide), fun _ => rfl, fun h => absurd h (by decide)⟩ dk_Stream_close fo_Stream go_Stream_close co_Stream_close (fun a k h hk => by unfold gt_Stream_close at h; cases h) (fun q hq h => absurd h (nt_Stream_close q hq)) (fun av σ K kx h => by rw [sR_len h]; decide) ?_ ?_
  · intro av σ K kx hok hSp
    obtain ⟨q0, rfl, hp⟩ := sR_inv hSp
    obtain ⟨k0, e0, i0⟩ := q0
    obtain ⟨h0, hI, h2⟩ := hp
    dsimp only at h0; subst h0
    all_goals (repeat' (first | (with_reducible assumption) | (with_reducible refine IV_upd ?_ ?_) | (with_reducible refine IV_cpy ?_ (fun _ _ _ _ => trivial)) | (refine And.intro ?_ ?_) | (intro _)))
    all_goals first | (first | rfl | decide | exact Or.inl rfl | exact Or.inr (Or.inl rfl) | exact Or.inr (Or.inr rfl) | (simp only [nrm, strm, by8] at * <;> omega) | (simp [upd4, cpy4, nrm, strm, by8] at * <;> omega)) | (exact h2) | (refine h2 _ ?_ ?_ <;> (repeat' (first | assumption | exact trivial | exact Un_rf | exact hI 4 _ _ _ | exact hI 9 _ _ _ | exact hI 22 _ _ _ | (refine ixr_by8 ?_ ?_) | (refine IV_upd ?_ ?_) | (refine Un_upd rfl ?_) | (refine IV_cpy ?_ (fun _ _ _ _ => trivial)) | (refine Un_cpy rfl ?_) | (apply Un_tr; rotate_left; assumption; rfl) | (refine And.intro ?_ ?_))) <;> (first | rfl | decide | exact Or.inl rfl | exact Or.inr (Or.inl rfl) | exact Or.inr (Or.inr rfl) | (simp only [nrm, strm, by8] at * <;> omega) | (simp [upd4, cpy4, nrm, strm, by8] at * <;> omega))) | (apply h2 <;> (repeat' (first | assumption | exact trivial | exact Un_rf | exact hI 4 _ _ _ | exact hI 9 _ _ _ | exact hI 22 _ _ _ | (refine ixr_by8 ?_ ?_) | (refine IV_upd ?_ ?_) | (refine Un_upd rfl ?_) | (refine IV_cpy ?_ (fun _ _ _ _ => trivial)) | (refine Un_cpy rfl ?_) | (apply Un_tr; rotate_left; assumption; rfl) | (refine And.intro ?_ ?_))) <;> (first | rfl | decide | exact Or.inl rfl | exact Or.inr (Or.inl rfl) | exact Or.inr (Or.inr rfl) | (simp only [nrm, strm, by8] at * <;> omega) | (simp [upd4, cpy4, nrm, strm, by8] at * <;> omega))) | ((repeat' (first | assumption | exact trivial | exact Un_rf | exact hI 4 _ _ _ | exact hI 9 _ _ _ | exact hI 22 _ _ _ | (refine ixr_by8 ?_ ?_) | (refine IV_upd ?_ ?_) | (refine Un_upd rfl ?_) | (refine IV_cpy ?_ (fun _ _ _ _ => trivial)) | (refine Un_cpy rfl ?_) | (apply Un_tr; rotate_left; assumption; rfl) | (refine And.intro ?_ ?_))) <;> (first | rfl | decide | exact Or.inl rfl | exact Or.inr (Or.inl rfl) | exact Or.inr (Or.inr rfl) | (simp only [nrm, strm, by8] at * <;> omega) | (simp [upd4, cpy4, nrm, strm, by8] at * <;> omega)))
  · intro av σ K kx n pc L st σ' nc ns _ _ h
    exact (h : False).elim
def gt_Stream_sendLast (a : Nat) : Option Nat := match a with
  | _ => none
theorem go_Stream_sendLast : ∀ a v, gt_Stream_sendLast a = some v → StaOK R_Stream a v := by
  intro a v h
  unfold gt_Stream_sendLast at h
  cases h
def pr_Stream_sendLast : List Ent := [(0, 5, 0, 0, 0), (1, 5, 0, 0, 0), (2, 39, 18, 0, 0), (5, 0, 0, 1, 0), (6, 33, 0, 0, 13), (9, 0, 0, 2, 0), (10, 38, 0, 0, 14), (13, 0, 0, 4, 0), (14, 40, 18, 0, 0), (17, 49, 0, 0, 0)]
def sw_Stream_sendLast : List Swt := []
theorem dk_Stream_sendLast : ∀ q ∈ pr_Stream_sendLast, decode b_Stream_sendLast q.1 = .ok (dec sw_Stream_sendLast q) ∧ okE q = true := by decide +kernel
theorem nt_Stream_sendLast : ∀ q ∈ pr_Stream_sendLast, ¬ q.2.1 = 55 := by decide +kernel
def ct_Stream_sendLast (a : Nat) : Option (Nat × Nat × CSp × Nat × Nat) := match a with
  | _ => none
theorem co_Stream_sendLast : ∀ a v, ct_Stream_sendLast a = some v → StcOK R_Stream 0 0 a v := by
  intro a v h
  unfold ct_Stream_sendLast at h
  cases h
/-- Stream_sendLast -/
def sp_Stream_sendLast : CSp := sR (fun q σ K _ => q.1 = 32 ∧ IV σ ∧ ∀ σ', IV σ' → Un [32] σ σ' → K none σ')
set_option maxHeartbeats 4000000 in
set_option maxRecDepth 100000 in
theorem c_Stream_sendLast : Ctr y_Stream_sendLast b_Stream_sendLast 1 none 0 0 0 0 sp_Stream_sendLast := by
  refine ctr_of (FT := ft_Stream) (GT := gt_Stream_sendLast) (CT := ct_Stream_sendLast) (sw := sw_Stream_sendLast) (rt := 2) (pr := pr_Stream_sendLast) (by decide) [] (fun _ _ _ _ _ _ _ _ _ _ _ => False) 30 ⟨fun h => absurd h (by decide), fun h => absurd h (by decide), fun _ => rfl, fun h => absurd h (by decide)⟩ dk_Stream_sendLast fo_Stream go_Stream_sendLast co_Stream_sendLast (fun a k h hk => by unfold gt_Stream_sendLast at h; cases h) (fun q hq h => absurd h (nt_Stream_sendLast q hq)) (fun av σ K kx h => by rw [sR_len h]; decide) ?_ ?_
  · intro av σ K kx hok hSp
    obtain ⟨q0, rfl, hp⟩ := sR_inv hSp
    obtain ⟨k0, e0, i0⟩ := q0
    obtain ⟨h0, hI, h2⟩ := hp
    dsimp only at h0; subst h0
    all_goals (repeat' (first | (with_reducible assumption) | (with_reducible refine IV_upd ?_ ?_) | (with_reducible refine IV_cpy ?_ (fun _ _ _ _ => trivial)) | (refine And.intro ?_ ?_) | (intro _)))
    all_goals first | (first | rfl | decide | exact Or.inl rfl | exact Or.inr (Or.inl rfl) | exact Or.inr (Or.inr rfl) | (simp only [nrm, strm, by8] at * <;> omega) | (simp [upd4, cpy4, nrm, strm, by8] at * <;> omega)) | (exact h2) | (refine h2 _ ?_ ?_ <;> (repeat' (first | assumption | exact trivial | exact Un_rf | exact hI 4 _ _ _ | exact hI 9 _ _ _ | exact hI 22 _ _ _ | (refine ixr_by8 ?_ ?_) | (refine IV_upd ?_ ?_) | (refine Un_upd rfl ?_) | (refine IV_cpy ?_ (fun _ _ _ _ => trivial)) | (refine Un_cpy rfl ?_) | (apply Un_tr; rotate_left; assumption; rfl) | (refine And.intro ?_ ?_))) <;> (first | rfl | decide | exact Or.inl rfl | exact Or.inr (Or.inl rfl) | exact Or.inr (Or.inr rfl) | (simp only [nrm, strm, by8] at * <;> omega) | (simp [upd4, cpy4, nrm, strm, by8] at * <;> omega))) | (apply h2 <;> (repeat' (first | assumption | exact trivial | exact Un_rf | exact hI 4 _ _ _ | exact hI 9 _ _ _ | exact hI 22 _ _ _ | (refine ixr_by8 ?_ ?_) | (refine IV_upd ?_ ?_) | (refine Un_upd rfl ?_) | (refine IV_cpy ?_ (fun _ _ _ _ => trivial)) | (refine Un_cpy rfl ?_) | (apply Un_tr; rotate_left; assumption; rfl) | (refine And.intro ?_ ?_))) <;> (first | rfl | decide | exact Or.inl rfl | exact Or.inr (Or.inl rfl) | exact Or.inr (Or.inr rfl) | (simp only [nrm, strm, by8] at * <;> omega) | (simp [upd4, cpy4, nrm, strm, by8] at * <;> omega))) | ((repeat' (first | assumption | exact trivial | exact Un_rf | exact hI 4 _ _ _ | exact hI 9 _ _ _ | exact hI 22 _ _ _ | (refine ixr_by8 ?_ ?_) | (refine IV_upd ?_ ?_) | (refine Un_upd rfl ?_) | (refine IV_cpy ?_ (fun _ _ _ _ => trivial)) | (refine Un_cpy rfl ?_) | (apply Un_tr; rotate_left; assumption; rfl) | (refine And.intro ?_ ?_))) <;> (first | rfl | decide | exact Or.inl rfl | exact Or.inr (Or.inl rfl) | exact Or.inr (Or.inr rfl) | (simp only [nrm, strm, by8] at * <;> omega) | (simp [upd4, cpy4, nrm, strm, by8] at * <;> omega)))
  · intro av σ K kx n pc L st σ' nc ns _ _ h
    exact (h : False).elim
def gt_Stream_hearLast (a : Nat) : Option Nat := match a with
  | _ => none
theorem go_Stream_hearLast : ∀ a v, gt_Stream_hearLast a = some v → StaOK R_Stream a v := by
  intro a v h
  unfold gt_Stream_hearLast at h
  cases h
def pr_Stream_hearLast : List Ent := [(0, 5, 0, 0, 0), (1, 5, 0, 0, 0), (2, 39, 18, 0, 0), (5, 0, 0, 1, 0), (6, 33, 0, 0, 13), (9, 0, 0, 3, 0), (10, 38, 0, 0, 14), (13, 0, 0, 4, 0), (14, 40, 18, 0, 0), (17, 49, 0, 0, 0)]
def sw_Stream_hearLast : List Swt := []
theorem dk_Stream_hearLast : ∀ q ∈ pr_Stream_hearLast, decode b_Stream_hearLast q.1 = .ok (dec sw_Stream_hearLast q) ∧ okE q = true := by decide +kernel
theorem nt_Stream_hearLast : ∀ q ∈ pr_Stream_hearLast, ¬ q.2.1 = 55 := by decide +kernel
def ct_Stream_hearLast (a : Nat) : Option (Nat × Nat × CSp × Nat × Nat) := match a with
  | _ => none
theorem co_Stream_hearLast : ∀ a v, ct_Stream_hearLast a = some v → StcOK R_Stream 0 0 a v := by
  intro a v h
  unfold ct_Stream_hearLast at h
  cases h
/-- Stream_hearLast -/
def sp_Stream_hearLast : CSp := sR (fun q σ K _ => q.1 = 32 ∧ IV σ ∧ ∀ σ', IV σ' → Un [32] σ σ' → K none σ')
set_option maxHeartbeats 4000000 in
set_option maxRecDepth 100000 in
theorem c_Stream_hearLast : Ctr y_Stream_hearLast b_Stream_hearLast 1 none 0 0 0 0 sp_Stream_hearLast := by
  refine ctr_of (FT := ft_Stream) (GT := gt_Stream_hearLast) (CT := ct_Stream_hearLast) (sw := sw_Stream_hearLast) (rt := 2) (pr := pr_Stream_hearLast) (by decide) [] (fun _ _ _ _ _ _ _ _ _ _ _ => False) 30 ⟨fun h => absurd h (by decide), fun h => absurd h (by decide), fun _ => rfl, fun h => absurd h (by decide)⟩ dk_Stream_hearLast fo_Stream go_Stream_hearLast co_Stream_hearLast (fun a k h hk => by unfold gt_Stream_hearLast at h; cases h) (fun q hq h => absurd h (nt_Stream_hearLast q hq)) (fun av σ K kx h => by rw [sR_len h]; decide) ?_ ?_
  · intro av σ K kx hok hSp
    obtain ⟨q0, rfl, hp⟩ := sR_inv hSp
    obtain ⟨k0, e0, i0⟩ := q0
    obtain ⟨h0, hI, h2⟩ := hp
    dsimp only at h0; subst h0
    all_goals (repeat' (first | (with_reducible assumption) | (with_reducible refine IV_upd ?_ ?_) | (with_reducible refine IV_cpy ?_ (fun _ _ _ _ => trivial)) | (refine And.intro ?_ ?_) | (intro _)))
    all_goals first | (first | rfl | decide | exact Or.inl rfl | exact Or.inr (Or.inl rfl) | exact Or.inr (Or.inr rfl) | (simp only [nrm, strm, by8] at * <;> omega) | (simp [upd4, cpy4, nrm, strm, by8] at * <;> omega)) | (exact h2) | (refine h2 _ ?_ ?_ <;> (repeat' (first | assumption | exact trivial | exact Un_rf | exact hI 4 _ _ _ | exact hI 9 _ _ _ | exact hI 22 _ _ _ | (refine ixr_by8 ?_ ?_) | (refine IV_upd ?_ ?_) | (refine Un_upd rfl ?_) | (refine IV_cpy ?_ (fun _ _ _ _ => trivial)) | (refine Un_cpy rfl ?_) | (apply Un_tr; rotate_left; assumption; rfl) | (refine And.intro ?_ ?_))) <;> (first | rfl | decide | exact Or.inl rfl | exact Or.inr (Or.inl rfl) | exact Or.inr (Or.inr rfl) | (simp only [nrm, strm, by8] at * <;> omega) | (simp [upd4, cpy4, nrm, strm, by8] at * <;> omega))) | (apply h2 <;> (repeat' (first | assumption | exact trivial | exact Un_rf | exact hI 4 _ _ _ | exact hI 9 _ _ _ | exact hI 22 _ _ _ | (refine ixr_by8 ?_ ?_) | (refine IV_upd ?_ ?_) | (refine Un_upd rfl ?_) | (refine IV_cpy ?_ (fun _ _ _ _ => trivial)) | (refine Un_cpy rfl ?_) | (apply Un_tr; rotate_left; assumption; rfl) | (refine And.intro ?_ ?_))) <;> (first | rfl | decide | exact Or.inl rfl | exact Or.inr (Or.inl rfl) | exact Or.inr (Or.inr rfl) | (simp only [nrm, strm, by8] at * <;> omega) | (simp [upd4, cpy4, nrm, strm, by8] at * <;> omega))) | ((repeat' (first | assumption | exact trivial | exact Un_rf | exact hI 4 _ _ _ | exact hI 9 _ _ _ | exact hI 22 _ _ _ | (refine ixr_by8 ?_ ?_) | (refine IV_upd ?_ ?_) | (refine Un_upd rfl ?_) | (refine IV_cpy ?_ (fun _ _ _ _ => trivial)) | (refine Un_cpy rfl ?_) | (apply Un_tr; rotate_left; assumption; rfl) | (refine And.intro ?_ ?_))) <;> (first | rfl | decide | exact Or.inl rfl | exact Or.inr (Or.inl rfl) | exact Or.inr (Or.inr rfl) | (simp only [nrm, strm, by8] at * <;> omega) | (simp [upd4, cpy4, nrm, strm, by8] at * <;> omega)))
  · intro av σ K kx n pc L st σ' nc ns _ _ h
    exact (h : False).elim
def gt_Stream_room (a : Nat) : Option Nat := match a with
  | _ => none
theorem go_Stream_room : ∀ a v, gt_Stream_room a = some v → StaOK R_Stream a v := by
  intro a v h
  unfold gt_Stream_room at h
  cases h
def pr_Stream_room : List Ent := [(0, 5, 0, 0, 0), (1, 39, 22, 0, 0), (4, 48, 0, 0, 0)]
def sw_Stream_room : List Swt := []
theorem dk_Stream_room : ∀ q ∈ pr_Stream_room, decode b_Stream_room q.1 = .ok (dec sw_Stream_room q) ∧ okE q = true := by decide +kernel
theorem nt_Stream_room : ∀ q ∈ pr_Stream_room, ¬ q.2.1 = 55 := by decide +kernel
def ct_Stream_room (a : Nat) : Option (Nat × Nat × CSp × Nat × Nat) := match a with
  | _ => none
theorem co_Stream_room : ∀ a v, ct_Stream_room a = some v → StcOK R_Stream 0 0 a v := by
  intro a v h
  unfold ct_Stream_room at h
  cases h
/-- Stream_room -/
def sp_Stream_room : CSp := sR (fun q σ K _ => q.1 = 32 ∧ K (some (.inl (σ 32 q.2.1 q.2.2 2))) σ)
set_option maxHeartbeats 4000000 in
set_option maxRecDepth 100000 in
theorem c_Stream_room : Ctr y_Stream_room b_Stream_room 1 (some .int) 0 0 0 0 sp_Stream_room := by
  refine ctr_of (FT := ft_Stream) (GT := gt_Stream_room) (CT := ct_Stream_room) (sw := sw_Stream_room) (rt := 0) (pr := pr_Stream_room) (by decide) [] (fun _ _ _ _ _ _ _ _ _ _ _ => False) 20 ⟨fun _ => rfl, fun h => absurd h (by decide), fun h => absurd h (by decide), fun h => absurd h (by decide)⟩ dk_Stream_room fo_Stream go_Stream_room co_Stream_room (fun a k h hk => by unfold gt_Stream_room at h; cases h) (fun q hq h => absurd h (nt_Stream_room q hq)) (fun av σ K kx h => by rw [sR_len h]; decide) ?_ ?_
  · intro av σ K kx hok hSp
    obtain ⟨q0, rfl, hp⟩ := sR_inv hSp
    obtain ⟨k0, e0, i0⟩ := q0
    obtain ⟨h0, h1⟩ := hp
    dsimp only at h0; subst h0
    all_goals (repeat' (first | (with_reducible assumption) | (with_reducible refine IV_upd ?_ ?_) | (with_reducible refine IV_cpy ?_ (fun _ _ _ _ => trivial)) | (refine And.intro ?_ ?_) | (intro _)))
    all_goals first | (first | rfl | decide | exact Or.inl rfl | exact Or.inr (Or.inl rfl) | exact Or.inr (Or.inr rfl) | (simp only [nrm, strm, by8] at * <;> omega) | (simp [upd4, cpy4, nrm, strm, by8] at * <;> omega)) | (exact h1 (by first | assumption | (first | rfl | decide | exact Or.inl rfl | exact Or.inr (Or.inl rfl) | exact Or.inr (Or.inr rfl) | (simp only [nrm, strm, by8] at * <;> omega) | (simp [upd4, cpy4, nrm, strm, by8] at * <;> omega)))) | (exact h1) | (refine h1 _ ?_ ?_ <;> (repeat' (first | assumption | exact trivial | exact Un_rf | exact hI 4 _ _ _ | exact hI 9 _ _ _ | exact hI 22 _ _ _ | (refine ixr_by8 ?_ ?_) | (refine IV_upd ?_ ?_) | (refine Un_upd rfl ?_) | (refine IV_cpy ?_ (fun _ _ _ _ => trivial)) | (refine Un_cpy rfl ?_) | (apply Un_tr; rotate_left; assumption; rfl) | (refine And.intro ?_ ?_))) <;> (first | rfl | decide | exact Or.inl rfl | exact Or.inr (Or.inl rfl) | exact Or.inr (Or.inr rfl) | (simp only [nrm, strm, by8] at * <;> omega) | (simp [upd4, cpy4, nrm, strm, by8] at * <;> omega))) | (apply h1 <;> (repeat' (first | assumption | exact trivial | exact Un_rf | exact hI 4 _ _ _ | exact hI 9 _ _ _ | exact hI 22 _ _ _ | (refine ixr_by8 ?_ ?_) | (refine IV_upd ?_ ?_) | (refine Un_upd rfl ?_) | (refine IV_cpy ?_ (fun _ _ _ _ => trivial)) | (refine Un_cpy rfl ?_) | (apply Un_tr; rotate_left; assumption; rfl) | (refine And.intro ?_ ?_))) <;> (first | rfl | decide | exact Or.inl rfl | exact Or.inr (Or.inl rfl) | exact Or.inr (Or.inr rfl) | (simp only [nrm, strm, by8] at * <;> omega) | (simp [upd4, cpy4, nrm, strm, by8] at * <;> omega))) | ((repeat' (first | assumption | exact trivial | exact Un_rf | exact hI 4 _ _ _ | exact hI 9 _ _ _ | exact hI 22 _ _ _ | (refine ixr_by8 ?_ ?_) | (refine IV_upd ?_ ?_) | (refine Un_upd rfl ?_) | (refine IV_cpy ?_ (fun _ _ _ _ => trivial)) | (refine Un_cpy rfl ?_) | (apply Un_tr; rotate_left; assumption; rfl) | (refine And.intro ?_ ?_))) <;> (first | rfl | decide | exact Or.inl rfl | exact Or.inr (Or.inl rfl) | exact Or.inr (Or.inr rfl) | (simp only [nrm, strm, by8] at * <;> omega) | (simp [upd4, cpy4, nrm, strm, by8] at * <;> omega)))
  · intro av σ K kx n pc L st σ' nc ns _ _ h
    exact (h : False).elim
def gt_Stream_growRoom (a : Nat) : Option Nat := match a with
  | _ => none
theorem go_Stream_growRoom : ∀ a v, gt_Stream_growRoom a = some v → StaOK R_Stream a v := by
  intro a v h
  unfold gt_Stream_growRoom at h
  cases h
def pr_Stream_growRoom : List Ent := [(0, 5, 0, 0, 0), (1, 23, 0, 0, 0), (2, 39, 22, 0, 0), (5, 3, 1, 0, 0), (6, 12, 0, 0, 0), (7, 40, 22, 0, 0), (10, 49, 0, 0, 0)]
def sw_Stream_growRoom : List Swt := []
theorem dk_Stream_growRoom : ∀ q ∈ pr_Stream_growRoom, decode b_Stream_growRoom q.1 = .ok (dec sw_Stream_growRoom q) ∧ okE q = true := by decide +kernel
theorem nt_Stream_growRoom : ∀ q ∈ pr_Stream_growRoom, ¬ q.2.1 = 55 := by decide +kernel
def ct_Stream_growRoom (a : Nat) : Option (Nat × Nat × CSp × Nat × Nat) := match a with
  | _ => none
theorem co_Stream_growRoom : ∀ a v, ct_Stream_growRoom a = some v → StcOK R_Stream 0 0 a v := by
  intro a v h
  unfold ct_Stream_growRoom at h
  cases h
/-- Stream_growRoom -/
def sp_Stream_growRoom : CSp := sRI (fun q x σ K _ => q.1 = 32 ∧ IV σ ∧ ∀ σ', IV σ' → Un [32] σ σ' → K none σ')
set_option maxHeartbeats 4000000 in
set_option maxRecDepth 100000 in
theorem c_Stream_growRoom : Ctr y_Stream_growRoom b_Stream_growRoom 2 none 0 0 0 0 sp_Stream_growRoom := by
  refine ctr_of (FT := ft_Stream) (GT := gt_Stream_growRoom) (CT := ct_Stream_growRoom) (sw := sw_Stream_growRoom) (rt := 2) (pr := pr_Stream_growRoom) (by decide) [] (fun _ _ _ _ _ _ _ _ _ _ _ => False) 20 ⟨fun h => absurd h (by decide), fun h => absurd h (by decide), fun _ => rfl, fun h => absurd h (by decide)⟩ dk_Stream_growRoom fo_Stream go_Stream_growRoom co_Stream_growRoom (fun a k h hk => by unfold gt_Stream_growRoom at h; cases h) (fun q hq h => absurd h (nt_Stream_growRoom q hq)) (fun av σ K kx h => by rw [sRI_len h]; decide) ?_ ?_
  · intro av σ K kx hok hSp
    obtain ⟨q0, x0, rfl, hp⟩ := sRI_inv hSp
    obtain ⟨k0, e0, i0⟩ := q0
    obtain ⟨h0, hI, h2⟩ := hp
    dsimp only at h0; subst h0
    all_goals (repeat' (first | (with_reducible assumption) | (with_reducible refine IV_upd ?_ ?_) | (with_reducible refine IV_cpy ?_ (fun _ _ _ _ => trivial)) | (refine And.intro ?_ ?_) | (intro _)))
    all_goals first | (first | rfl | decide | exact Or.inl rfl | exact Or.inr (Or.inl rfl) | exact Or.inr (Or.inr rfl) | (simp only [nrm, strm, by8] at * <;> omega) | (simp [upd4, cpy4, nrm, strm, by8] at * <;> omega)) | (exact h2) | (refine h2 _ ?_ ?_ <;> (repeat' (first | assumption | exact trivial | exact Un_rf | exact hI 4 _ _ _ | exact hI 9 _ _ _ | exact hI 22 _ _ _ | (refine ixr_by8 ?_ ?_) | (refine IV_upd ?_ ?_) | (refine Un_upd rfl ?_) | (refine IV_cpy ?_ (fun _ _ _ _ => trivial)) | (refine Un_cpy rfl ?_) | (apply Un_tr; rotate_left; assumption; rfl) | (refine And.intro ?_ ?_))) <;> (first | rfl | decide | exact Or.inl rfl | exact Or.inr (Or.inl rfl) | exact Or.inr (Or.inr rfl) | (simp only [nrm, strm, by8] at * <;> omega) | (simp [upd4, cpy4, nrm, strm, by8] at * <;> omega))) | (apply h2 <;> (repeat' (first | assumption | exact trivial | exact Un_rf | exact hI 4 _ _ _ | exact hI 9 _ _ _ | exact hI 22 _ _ _ | (refine ixr_by8 ?_ ?_) | (refine IV_upd ?_ ?_) | (refine Un_upd rfl ?_) | (refine IV_cpy ?_ (fun _ _ _ _ => trivial)) | (refine Un_cpy rfl ?_) | (apply Un_tr; rotate_left; assumption; rfl) | (refine And.intro ?_ ?_))) <;> (first | rfl | decide | exact Or.inl rfl | exact Or.inr (Or.inl rfl) | exact Or.inr (Or.inr rfl) | (simp only [nrm, strm, by8] at * <;> omega) | (simp [upd4, cpy4, nrm, strm, by8] at * <;> omega))) | ((repeat' (first | assumption | exact trivial | exact Un_rf | exact hI 4 _ _ _ | exact hI 9 _ _ _ | exact hI 22 _ _ _ | (refine ixr_by8 ?_ ?_) | (refine IV_upd ?_ ?_) | (refine Un_upd rfl ?_) | (refine IV_cpy ?_ (fun _ _ _ _ => trivial)) | (refine Un_cpy rfl ?_) | (apply Un_tr; rotate_left; assumption; rfl) | (refine And.intro ?_ ?_))) <;> (first | rfl | decide | exact Or.inl rfl | exact Or.inr (Or.inl rfl) | exact Or.inr (Or.inr rfl) | (simp only [nrm, strm, by8] at * <;> omega) | (simp [upd4, cpy4, nrm, strm, by8] at * <;> omega)))
  · intro av σ K kx n pc L st σ' nc ns _ _ h
    exact (h : False).elim
def gt_Stream_due (a : Nat) : Option Nat := match a with
  | _ => none
theorem go_Stream_due : ∀ a v, gt_Stream_due a = some v → StaOK R_Stream a v := by
  intro a v h
  unfold gt_Stream_due at h
  cases h
def pr_Stream_due : List Ent := [(0, 5, 0, 0, 0), (1, 39, 25, 0, 0), (4, 48, 0, 0, 0)]
def sw_Stream_due : List Swt := []
theorem dk_Stream_due : ∀ q ∈ pr_Stream_due, decode b_Stream_due q.1 = .ok (dec sw_Stream_due q) ∧ okE q = true := by decide +kernel
theorem nt_Stream_due : ∀ q ∈ pr_Stream_due, ¬ q.2.1 = 55 := by decide +kernel
def ct_Stream_due (a : Nat) : Option (Nat × Nat × CSp × Nat × Nat) := match a with
  | _ => none
theorem co_Stream_due : ∀ a v, ct_Stream_due a = some v → StcOK R_Stream 0 0 a v := by
  intro a v h
  unfold ct_Stream_due at h
  cases h
/-- Stream_due -/
def sp_Stream_due : CSp := sR (fun q σ K _ => q.1 = 32 ∧ K (some (.inl (σ 32 q.2.1 q.2.2 3))) σ)
set_option maxHeartbeats 4000000 in
set_option maxRecDepth 100000 in
theorem c_Stream_due : Ctr y_Stream_due b_Stream_due 1 (some .int) 0 0 0 0 sp_Stream_due := by
  refine ctr_of (FT := ft_Stream) (GT := gt_Stream_due) (CT := ct_Stream_due) (sw := sw_Stream_due) (rt := 0) (pr := pr_Stream_due) (by decide) [] (fun _ _ _ _ _ _ _ _ _ _ _ => False) 20 ⟨fun _ => rfl, fun h => absurd h (by decide), fun h => absurd h (by decide), fun h => absurd h (by decide)⟩ dk_Stream_due fo_Stream go_Stream_due co_Stream_due (fun a k h hk => by unfold gt_Stream_due at h; cases h) (fun q hq h => absurd h (nt_Stream_due q hq)) (fun av σ K kx h => by rw [sR_len h]; decide) ?_ ?_
  · intro av σ K kx hok hSp
    obtain ⟨q0, rfl, hp⟩ := sR_inv hSp
    obtain ⟨k0, e0, i0⟩ := q0
    obtain ⟨h0, h1⟩ := hp
    dsimp only at h0; subst h0
    all_goals (repeat' (first | (with_reducible assumption) | (with_reducible refine IV_upd ?_ ?_) | (with_reducible refine IV_cpy ?_ (fun _ _ _ _ => trivial)) | (refine And.intro ?_ ?_) | (intro _)))
    all_goals first | (first | rfl | decide | exact Or.inl rfl | exact Or.inr (Or.inl rfl) | exact Or.inr (Or.inr rfl) | (simp only [nrm, strm, by8] at * <;> omega) | (simp [upd4, cpy4, nrm, strm, by8] at * <;> omega)) | (exact h1 (by first | assumption | (first | rfl | decide | exact Or.inl rfl | exact Or.inr (Or.inl rfl) | exact Or.inr (Or.inr rfl) | (simp only [nrm, strm, by8] at * <;> omega) | (simp [upd4, cpy4, nrm, strm, by8] at * <;> omega)))) | (exact h1) | (refine h1 _ ?_ ?_ <;> (repeat' (first | assumption | exact trivial | exact Un_rf | exact hI 4 _ _ _ | exact hI 9 _ _ _ | exact hI 22 _ _ _ | (refine ixr_by8 ?_ ?_) | (refine IV_upd ?_ ?_) | (refine Un_upd rfl ?_) | (refine IV_cpy ?_ (fun _ _ _ _ => trivial)) | (refine Un_cpy rfl ?_) | (apply Un_tr; rotate_left; assumption; rfl) | (refine And.intro ?_ ?_))) <;> (first | rfl | decide | exact Or.inl rfl | exact Or.inr (Or.inl rfl) | exact Or.inr (Or.inr rfl) | (simp only [nrm, strm, by8] at * <;> omega) | (simp [upd4, cpy4, nrm, strm, by8] at * <;> omega))) | (apply h1 <;> (repeat' (first | assumption | exact trivial | exact Un_rf | exact hI 4 _ _ _ | exact hI 9 _ _ _ | exact hI 22 _ _ _ | (refine ixr_by8 ?_ ?_) | (refine IV_upd ?_ ?_) | (refine Un_upd rfl ?_) | (refine IV_cpy ?_ (fun _ _ _ _ => trivial)) | (refine Un_cpy rfl ?_) | (apply Un_tr; rotate_left; assumption; rfl) | (refine And.intro ?_ ?_))) <;> (first | rfl | decide | exact Or.inl rfl | exact Or.inr (Or.inl rfl) | exact Or.inr (Or.inr rfl) | (simp only [nrm, strm, by8] at * <;> omega) | (simp [upd4, cpy4, nrm, strm, by8] at * <;> omega))) | ((repeat' (first | assumption | exact trivial | exact Un_rf | exact hI 4 _ _ _ | exact hI 9 _ _ _ | exact hI 22 _ _ _ | (refine ixr_by8 ?_ ?_) | (refine IV_upd ?_ ?_) | (refine Un_upd rfl ?_) | (refine IV_cpy ?_ (fun _ _ _ _ => trivial)) | (refine Un_cpy rfl ?_) | (apply Un_tr; rotate_left; assumption; rfl) | (refine And.intro ?_ ?_))) <;> (first | rfl | decide | exact Or.inl rfl | exact Or.inr (Or.inl rfl) | exact Or.inr (Or.inr rfl) | (simp only [nrm, strm, by8] at * <;> omega) | (simp [upd4, cpy4, nrm, strm, by8] at * <;> omega)))
  · intro av σ K kx n pc L st σ' nc ns _ _ h
    exact (h : False).elim
def gt_Stream_growDue (a : Nat) : Option Nat := match a with
  | _ => none
theorem go_Stream_growDue : ∀ a v, gt_Stream_growDue a = some v → StaOK R_Stream a v := by
  intro a v h
  unfold gt_Stream_growDue at h
  cases h
def pr_Stream_growDue : List Ent := [(0, 5, 0, 0, 0), (1, 23, 0, 0, 0), (2, 39, 25, 0, 0), (5, 3, 1, 0, 0), (6, 12, 0, 0, 0), (7, 40, 25, 0, 0), (10, 49, 0, 0, 0)]
def sw_Stream_growDue : List Swt := []
theorem dk_Stream_growDue : ∀ q ∈ pr_Stream_growDue, decode b_Stream_growDue q.1 = .ok (dec sw_Stream_growDue q) ∧ okE q = true := by decide +kernel
theorem nt_Stream_growDue : ∀ q ∈ pr_Stream_growDue, ¬ q.2.1 = 55 := by decide +kernel
def ct_Stream_growDue (a : Nat) : Option (Nat × Nat × CSp × Nat × Nat) := match a with
  | _ => none
theorem co_Stream_growDue : ∀ a v, ct_Stream_growDue a = some v → StcOK R_Stream 0 0 a v := by
  intro a v h
  unfold ct_Stream_growDue at h
  cases h
/-- Stream_growDue -/
def sp_Stream_growDue : CSp := sRI (fun q x σ K _ => q.1 = 32 ∧ IV σ ∧ ∀ σ', IV σ' → Un [32] σ σ' → K none σ')
set_option maxHeartbeats 4000000 in
set_option maxRecDepth 100000 in
theorem c_Stream_growDue : Ctr y_Stream_growDue b_Stream_growDue 2 none 0 0 0 0 sp_Stream_growDue := by
  refine ctr_of (FT := ft_Stream) (GT := gt_Stream_growDue) (CT := ct_Stream_growDue) (sw := sw_Stream_growDue) (rt := 2) (pr := pr_Stream_growDue) (by decide) [] (fun _ _ _ _ _ _ _ _ _ _ _ => False) 20 ⟨fun h => absurd h (by decide), fun h => absurd h (by decide), fun _ => rfl, fun h => absurd h (by decide)⟩ dk_Stream_growDue fo_Stream go_Stream_growDue co_Stream_growDue (fun a k h hk => by unfold gt_Stream_growDue at h; cases h) (fun q hq h => absurd h (nt_Stream_growDue q hq)) (fun av σ K kx h => by rw [sRI_len h]; decide) ?_ ?_
  · intro av σ K kx hok hSp
    obtain ⟨q0, x0, rfl, hp⟩ := sRI_inv hSp
    obtain ⟨k0, e0, i0⟩ := q0
    obtain ⟨h0, hI, h2⟩ := hp
    dsimp only at h0; subst h0
    all_goals (repeat' (first | (with_reducible assumption) | (with_reducible refine IV_upd ?_ ?_) | (with_reducible refine IV_cpy ?_ (fun _ _ _ _ => trivial)) | (refine And.intro ?_ ?_) | (intro _)))
    all_goals first | (first | rfl | decide | exact Or.inl rfl | exact Or.inr (Or.inl rfl) | exact Or.inr (Or.inr rfl) | (simp only [nrm, strm, by8] at * <;> omega) | (simp [upd4, cpy4, nrm, strm, by8] at * <;> omega)) | (exact h2) | (refine h2 _ ?_ ?_ <;> (repeat' (first | assumption | exact trivial | exact Un_rf | exact hI 4 _ _ _ | exact hI 9 _ _ _ | exact hI 22 _ _ _ | (refine ixr_by8 ?_ ?_) | (refine IV_upd ?_ ?_) | (refine Un_upd rfl ?_) | (refine IV_cpy ?_ (fun _ _ _ _ => trivial)) | (refine Un_cpy rfl ?_) | (apply Un_tr; rotate_left; assumption; rfl) | (refine And.intro ?_ ?_))) <;> (first | rfl | decide | exact Or.inl rfl | exact Or.inr (Or.inl rfl) | exact Or.inr (Or.inr rfl) | (simp only [nrm, strm, by8] at * <;> omega) | (simp [upd4, cpy4, nrm, strm, by8] at * <;> omega))) | (apply h2 <;> (repeat' (first | assumption | exact trivial | exact Un_rf | exact hI 4 _ _ _ | exact hI 9 _ _ _ | exact hI 22 _ _ _ | (refine ixr_by8 ?_ ?_) | (refine IV_upd ?_ ?_) | (refine Un_upd rfl ?_) | (refine IV_cpy ?_ (fun _ _ _ _ => trivial)) | (refine Un_cpy rfl ?_) | (apply Un_tr; rotate_left; assumption; rfl) | (refine And.intro ?_ ?_))) <;> (first | rfl | decide | exact Or.inl rfl | exact Or.inr (Or.inl rfl) | exact Or.inr (Or.inr rfl) | (simp only [nrm, strm, by8] at * <;> omega) | (simp [upd4, cpy4, nrm, strm, by8] at * <;> omega))) | ((repeat' (first | assumption | exact trivial | exact Un_rf | exact hI 4 _ _ _ | exact hI 9 _ _ _ | exact hI 22 _ _ _ | (refine ixr_by8 ?_ ?_) | (refine IV_upd ?_ ?_) | (refine Un_upd rfl ?_) | (refine IV_cpy ?_ (fun _ _ _ _ => trivial)) | (refine Un_cpy rfl ?_) | (apply Un_tr; rotate_left; assumption; rfl) | (refine And.intro ?_ ?_))) <;> (first | rfl | decide | exact Or.inl rfl | exact Or.inr (Or.inl rfl) | exact Or.inr (Or.inr rfl) | (simp only [nrm, strm, by8] at * <;> omega) | (simp [upd4, cpy4, nrm, strm, by8] at * <;> omega)))
  · intro av σ K kx n pc L st σ' nc ns _ _ h
    exact (h : False).elim
def gt_Stream_takeData (a : Nat) : Option Nat := match a with
  | _ => none
theorem go_Stream_takeData : ∀ a v, gt_Stream_takeData a = some v → StaOK R_Stream a v := by
  intro a v h
  unfold gt_Stream_takeData at h
  cases h
def pr_Stream_takeData : List Ent := [(0, 5, 0, 0, 0), (1, 23, 0, 0, 0), (2, 39, 25, 0, 0), (5, 3, 1, 0, 0), (6, 13, 0, 0, 0), (7, 40, 25, 0, 0), (10, 5, 0, 0, 0), (11, 23, 0, 0, 0), (12, 39, 28, 0, 0), (15, 3, 1, 0, 0), (16, 12, 0, 0, 0), (17, 40, 28, 0, 0), (20, 5, 0, 0, 0), (21, 23, 0, 0, 0), (22, 39, 31, 0, 0), (25, 3, 2, 0, 0), (26, 12, 0, 0, 0), (27, 40, 31, 0, 0), (30, 49, 0, 0, 0)]
def sw_Stream_takeData : List Swt := []
theorem dk_Stream_takeData : ∀ q ∈ pr_Stream_takeData, decode b_Stream_takeData q.1 = .ok (dec sw_Stream_takeData q) ∧ okE q = true := by decide +kernel
theorem nt_Stream_takeData : ∀ q ∈ pr_Stream_takeData, ¬ q.2.1 = 55 := by decide +kernel
def ct_Stream_takeData (a : Nat) : Option (Nat × Nat × CSp × Nat × Nat) := match a with
  | _ => none
theorem co_Stream_takeData : ∀ a v, ct_Stream_takeData a = some v → StcOK R_Stream 0 0 a v := by
  intro a v h
  unfold ct_Stream_takeData at h
  cases h
/-- Stream_takeData -/
def sp_Stream_takeData : CSp := sRII (fun q x0 x1 σ K _ => q.1 = 32 ∧ IV σ ∧ ∀ σ', IV σ' → Un [32] σ σ' → K none σ')
set_option maxHeartbeats 4000000 in
set_option maxRecDepth 100000 in
theorem c_Stream_takeData : Ctr y_Stream_takeData b_Stream_takeData 3 none 0 0 0 0 sp_Stream_takeData := by
  refine ctr_of (FT := ft_Stream) (GT := gt_Stream_takeData) (CT := ct_Stream_takeData) (sw := sw_Stream_takeData) (rt := 2) (pr := pr_Stream_takeData) (by decide) [] (fun _ _ _ _ _ _ _ _ _ _ _ => False) 30 ⟨fun h => absurd h (by decide), fun h => absurd h (by decide), fun _ => rfl, fun h => absurd h (by decide)⟩ dk_Stream_takeData fo_Stream go_Stream_takeData co_Stream_takeData (fun a k h hk => by unfold gt_Stream_takeData at h; cases h) (fun q hq h => absurd h (nt_Stream_takeData q hq)) (fun av σ K kx h => by rw [sRII_len h]; decide) ?_ ?_
  · intro av σ K kx hok hSp
    obtain ⟨q0, x0, x1, rfl, hp⟩ := sRII_inv hSp
    obtain ⟨k0, e0, i0⟩ := q0
    obtain ⟨h0, hI, h2⟩ := hp
    dsimp only at h0; subst h0
    all_goals (repeat' (first | (with_reducible assumption) | (with_reducible refine IV_upd ?_ ?_) | (with_reducible refine IV_cpy ?_ (fun _ _ _ _ => trivial)) | (refine And.intro ?_ ?_) | (intro _)))
    all_goals first | (first | rfl | decide | exact Or.inl rfl | exact Or.inr (Or.inl rfl) | exact Or.inr (Or.inr rfl) | (simp only [nrm, strm, by8] at * <;> omega) | (simp [upd4, cpy4, nrm, strm, by8] at * <;> omega)) | (exact h2) | (refine h2 _ ?_ ?_ <;> (repeat' (first | assumption | exact trivial | exact Un_rf | exact hI 4 _ _ _ | exact hI 9 _ _ _ | exact hI 22 _ _ _ | (refine ixr_by8 ?_ ?_) | (refine IV_upd ?_ ?_) | (refine Un_upd rfl ?_) | (refine IV_cpy ?_ (fun _ _ _ _ => trivial)) | (refine Un_cpy rfl ?_) | (apply Un_tr; rotate_left; assumption; rfl) | (refine And.intro ?_ ?_))) <;> (first | rfl | decide | exact Or.inl rfl | exact Or.inr (Or.inl rfl) | exact Or.inr (Or.inr rfl) | (simp only [nrm, strm, by8] at * <;> omega) | (simp [upd4, cpy4, nrm, strm, by8] at * <;> omega))) | (apply h2 <;> (repeat' (first | assumption | exact trivial | exact Un_rf | exact hI 4 _ _ _ | exact hI 9 _ _ _ | exact hI 22 _ _ _ | (refine ixr_by8 ?_ ?_) | (refine IV_upd ?_ ?_) | (refine Un_upd rfl ?_) | (refine IV_cpy ?_ (fun _ _ _ _ => trivial)) | (refine Un_cpy rfl ?_) | (apply Un_tr; rotate_left; assumption; rfl) | (refine And.intro ?_ ?_))) <;> (first | rfl | decide | exact Or.inl rfl | exact Or.inr (Or.inl rfl) | exact Or.inr (Or.inr rfl) | (simp only [nrm, strm, by8] at * <;> omega) | (simp [upd4, cpy4, nrm, strm, by8] at * <;> omega))) | ((repeat' (first | assumption | exact trivial | exact Un_rf | exact hI 4 _ _ _ | exact hI 9 _ _ _ | exact hI 22 _ _ _ | (refine ixr_by8 ?_ ?_) | (refine IV_upd ?_ ?_) | (refine Un_upd rfl ?_) | (refine IV_cpy ?_ (fun _ _ _ _ => trivial)) | (refine Un_cpy rfl ?_) | (apply Un_tr; rotate_left; assumption; rfl) | (refine And.intro ?_ ?_))) <;> (first | rfl | decide | exact Or.inl rfl | exact Or.inr (Or.inl rfl) | exact Or.inr (Or.inr rfl) | (simp only [nrm, strm, by8] at * <;> omega) | (simp [upd4, cpy4, nrm, strm, by8] at * <;> omega)))
  · intro av σ K kx n pc L st σ' nc ns _ _ h
    exact (h : False).elim
def gt_Stream_fields (a : Nat) : Option Nat := match a with
  | _ => none
theorem go_Stream_fields : ∀ a v, gt_Stream_fields a = some v → StaOK R_Stream a v := by
  intro a v h
  unfold gt_Stream_fields at h
  cases h
def pr_Stream_fields : List Ent := [(0, 5, 0, 0, 0), (1, 39, 12, 0, 0), (4, 50, 0, 0, 0)]
def sw_Stream_fields : List Swt := []
theorem dk_Stream_fields : ∀ q ∈ pr_Stream_fields, decode b_Stream_fields q.1 = .ok (dec sw_Stream_fields q) ∧ okE q = true := by decide +kernel
theorem nt_Stream_fields : ∀ q ∈ pr_Stream_fields, ¬ q.2.1 = 55 := by decide +kernel
def ct_Stream_fields (a : Nat) : Option (Nat × Nat × CSp × Nat × Nat) := match a with
  | _ => none
theorem co_Stream_fields : ∀ a v, ct_Stream_fields a = some v → StcOK R_Stream 0 0 a v := by
  intro a v h
  unfold ct_Stream_fields at h
  cases h
/-- Stream_fields -/
def sp_Stream_fields : CSp := sR (fun q σ K _ => q.1 = 32 ∧ K (some (.inr (35, q.2.1, q.2.2))) σ)
set_option maxHeartbeats 4000000 in
set_option maxRecDepth 100000 in
theorem c_Stream_fields : Ctr y_Stream_fields b_Stream_fields 1 (some (.object "FrameStreams$Fields")) 0 0 0 0 sp_Stream_fields := by
  refine ctr_of (FT := ft_Stream) (GT := gt_Stream_fields) (CT := ct_Stream_fields) (sw := sw_Stream_fields) (rt := 3) (pr := pr_Stream_fields) (by decide) [] (fun _ _ _ _ _ _ _ _ _ _ _ => False) 20 ⟨fun h => absurd h (by decide), fun h => absurd h (by decide), fun h => absurd h (by decide), fun _ => ⟨_, rfl⟩⟩ dk_Stream_fields fo_Stream go_Stream_fields co_Stream_fields (fun a k h hk => by unfold gt_Stream_fields at h; cases h) (fun q hq h => absurd h (nt_Stream_fields q hq)) (fun av σ K kx h => by rw [sR_len h]; decide) ?_ ?_
  · intro av σ K kx hok hSp
    obtain ⟨q0, rfl, hp⟩ := sR_inv hSp
    obtain ⟨k0, e0, i0⟩ := q0
    obtain ⟨h0, h1⟩ := hp
    dsimp only at h0; subst h0
    all_goals (repeat' (first | (with_reducible assumption) | (with_reducible refine IV_upd ?_ ?_) | (with_reducible refine IV_cpy ?_ (fun _ _ _ _ => trivial)) | (refine And.intro ?_ ?_) | (intro _)))
    all_goals first | (first | rfl | decide | exact Or.inl rfl | exact Or.inr (Or.inl rfl) | exact Or.inr (Or.inr rfl) | (simp only [nrm, strm, by8] at * <;> omega) | (simp [upd4, cpy4, nrm, strm, by8] at * <;> omega)) | (exact h1 (by first | assumption | (first | rfl | decide | exact Or.inl rfl | exact Or.inr (Or.inl rfl) | exact Or.inr (Or.inr rfl) | (simp only [nrm, strm, by8] at * <;> omega) | (simp [upd4, cpy4, nrm, strm, by8] at * <;> omega)))) | (exact h1) | (refine h1 _ ?_ ?_ <;> (repeat' (first | assumption | exact trivial | exact Un_rf | exact hI 4 _ _ _ | exact hI 9 _ _ _ | exact hI 22 _ _ _ | (refine ixr_by8 ?_ ?_) | (refine IV_upd ?_ ?_) | (refine Un_upd rfl ?_) | (refine IV_cpy ?_ (fun _ _ _ _ => trivial)) | (refine Un_cpy rfl ?_) | (apply Un_tr; rotate_left; assumption; rfl) | (refine And.intro ?_ ?_))) <;> (first | rfl | decide | exact Or.inl rfl | exact Or.inr (Or.inl rfl) | exact Or.inr (Or.inr rfl) | (simp only [nrm, strm, by8] at * <;> omega) | (simp [upd4, cpy4, nrm, strm, by8] at * <;> omega))) | (apply h1 <;> (repeat' (first | assumption | exact trivial | exact Un_rf | exact hI 4 _ _ _ | exact hI 9 _ _ _ | exact hI 22 _ _ _ | (refine ixr_by8 ?_ ?_) | (refine IV_upd ?_ ?_) | (refine Un_upd rfl ?_) | (refine IV_cpy ?_ (fun _ _ _ _ => trivial)) | (refine Un_cpy rfl ?_) | (apply Un_tr; rotate_left; assumption; rfl) | (refine And.intro ?_ ?_))) <;> (first | rfl | decide | exact Or.inl rfl | exact Or.inr (Or.inl rfl) | exact Or.inr (Or.inr rfl) | (simp only [nrm, strm, by8] at * <;> omega) | (simp [upd4, cpy4, nrm, strm, by8] at * <;> omega))) | ((repeat' (first | assumption | exact trivial | exact Un_rf | exact hI 4 _ _ _ | exact hI 9 _ _ _ | exact hI 22 _ _ _ | (refine ixr_by8 ?_ ?_) | (refine IV_upd ?_ ?_) | (refine Un_upd rfl ?_) | (refine IV_cpy ?_ (fun _ _ _ _ => trivial)) | (refine Un_cpy rfl ?_) | (apply Un_tr; rotate_left; assumption; rfl) | (refine And.intro ?_ ?_))) <;> (first | rfl | decide | exact Or.inl rfl | exact Or.inr (Or.inl rfl) | exact Or.inr (Or.inr rfl) | (simp only [nrm, strm, by8] at * <;> omega) | (simp [upd4, cpy4, nrm, strm, by8] at * <;> omega)))
  · intro av σ K kx n pc L st σ' nc ns _ _ h
    exact (h : False).elim
def gt_Stream_tell (a : Nat) : Option Nat := match a with
  | _ => none
theorem go_Stream_tell : ∀ a v, gt_Stream_tell a = some v → StaOK R_Stream a v := by
  intro a v h
  unfold gt_Stream_tell at h
  cases h
def pr_Stream_tell : List Ent := [(0, 3, 1, 0, 0), (1, 51, 0, 0, 0), (36, 5, 0, 0, 0), (37, 39, 18, 0, 0), (40, 48, 0, 0, 0), (41, 5, 0, 0, 0), (42, 39, 22, 0, 0), (45, 48, 0, 0, 0), (46, 5, 0, 0, 0), (47, 39, 25, 0, 0), (50, 48, 0, 0, 0), (51, 5, 0, 0, 0), (52, 39, 28, 0, 0), (55, 48, 0, 0, 0), (56, 5, 0, 0, 0), (57, 39, 31, 0, 0), (60, 48, 0, 0, 0), (61, 5, 0, 0, 0), (62, 39, 12, 0, 0), (65, 46, 41, 0, 0), (68, 48, 0, 0, 0)]
def sw_Stream_tell : List Swt := [(0, [36, 41, 46, 51, 56], 61, 35)]
theorem dk_Stream_tell : ∀ q ∈ pr_Stream_tell, decode b_Stream_tell q.1 = .ok (dec sw_Stream_tell q) ∧ okE q = true := by decide +kernel
theorem nt_Stream_tell : ∀ q ∈ pr_Stream_tell, ¬ q.2.1 = 55 := by decide +kernel
def ct_Stream_tell (a : Nat) : Option (Nat × Nat × CSp × Nat × Nat) := match a with
  | 41 => some (1, 4, sp_Fields_count, 0, 0)
  | _ => none
theorem co_Stream_tell : ∀ a v, ct_Stream_tell a = some v → StcOK R_Stream 1 20 a v := by
  intro a v h
  unfold ct_Stream_tell at h
  split at h
  · cases h; exact ⟨y_Fields_count, b_Fields_count, 1, (some .int), 0, 0, 0, c_Fields_count, by decide, by decide +kernel, by decide +kernel, by decide +kernel, Or.inl ⟨rfl, by decide, by decide +kernel, by decide +kernel, _, _, rfl, by decide +kernel⟩⟩
  · cases h
/-- Stream_tell -/
def sp_Stream_tell : CSp := sRI (fun q x σ K _ => q.1 = 32 ∧ ∀ r, K (some (.inl r)) σ)
set_option maxHeartbeats 4000000 in
set_option maxRecDepth 100000 in
theorem c_Stream_tell : Ctr y_Stream_tell b_Stream_tell 2 (some .int) 1 20 0 0 sp_Stream_tell := by
  refine ctr_of (FT := ft_Stream) (GT := gt_Stream_tell) (CT := ct_Stream_tell) (sw := sw_Stream_tell) (rt := 0) (pr := pr_Stream_tell) (by decide) [] (fun _ _ _ _ _ _ _ _ _ _ _ => False) 40 ⟨fun _ => rfl, fun h => absurd h (by decide), fun h => absurd h (by decide), fun h => absurd h (by decide)⟩ dk_Stream_tell fo_Stream go_Stream_tell co_Stream_tell (fun a k h hk => by unfold gt_Stream_tell at h; cases h) (fun q hq h => absurd h (nt_Stream_tell q hq)) (fun av σ K kx h => by rw [sRI_len h]; decide) ?_ ?_
  · intro av σ K kx hok hSp
    obtain ⟨q0, x0, rfl, hp⟩ := sRI_inv hSp
    obtain ⟨k0, e0, i0⟩ := q0
    obtain ⟨h0, h1⟩ := hp
    dsimp only at h0; subst h0
    all_goals (repeat' (first | (with_reducible assumption) | (with_reducible refine IV_upd ?_ ?_) | (with_reducible refine IV_cpy ?_ (fun _ _ _ _ => trivial)) | (refine And.intro ?_ ?_) | (intro _)))
    all_goals first | (first | rfl | decide | exact Or.inl rfl | exact Or.inr (Or.inl rfl) | exact Or.inr (Or.inr rfl) | (simp only [nrm, strm, by8] at * <;> omega) | (simp [upd4, cpy4, nrm, strm, by8] at * <;> omega)) | (exact h1) | (refine h1 _ ?_ ?_ <;> (repeat' (first | assumption | exact trivial | exact Un_rf | exact hI 4 _ _ _ | exact hI 9 _ _ _ | exact hI 22 _ _ _ | (refine ixr_by8 ?_ ?_) | (refine IV_upd ?_ ?_) | (refine Un_upd rfl ?_) | (refine IV_cpy ?_ (fun _ _ _ _ => trivial)) | (refine Un_cpy rfl ?_) | (apply Un_tr; rotate_left; assumption; rfl) | (refine And.intro ?_ ?_))) <;> (first | rfl | decide | exact Or.inl rfl | exact Or.inr (Or.inl rfl) | exact Or.inr (Or.inr rfl) | (simp only [nrm, strm, by8] at * <;> omega) | (simp [upd4, cpy4, nrm, strm, by8] at * <;> omega))) | (apply h1 <;> (repeat' (first | assumption | exact trivial | exact Un_rf | exact hI 4 _ _ _ | exact hI 9 _ _ _ | exact hI 22 _ _ _ | (refine ixr_by8 ?_ ?_) | (refine IV_upd ?_ ?_) | (refine Un_upd rfl ?_) | (refine IV_cpy ?_ (fun _ _ _ _ => trivial)) | (refine Un_cpy rfl ?_) | (apply Un_tr; rotate_left; assumption; rfl) | (refine And.intro ?_ ?_))) <;> (first | rfl | decide | exact Or.inl rfl | exact Or.inr (Or.inl rfl) | exact Or.inr (Or.inr rfl) | (simp only [nrm, strm, by8] at * <;> omega) | (simp [upd4, cpy4, nrm, strm, by8] at * <;> omega))) | ((repeat' (first | assumption | exact trivial | exact Un_rf | exact hI 4 _ _ _ | exact hI 9 _ _ _ | exact hI 22 _ _ _ | (refine ixr_by8 ?_ ?_) | (refine IV_upd ?_ ?_) | (refine Un_upd rfl ?_) | (refine IV_cpy ?_ (fun _ _ _ _ => trivial)) | (refine Un_cpy rfl ?_) | (apply Un_tr; rotate_left; assumption; rfl) | (refine And.intro ?_ ?_))) <;> (first | rfl | decide | exact Or.inl rfl | exact Or.inr (Or.inl rfl) | exact Or.inr (Or.inr rfl) | (simp only [nrm, strm, by8] at * <;> omega) | (simp [upd4, cpy4, nrm, strm, by8] at * <;> omega)))
  · intro av σ K kx n pc L st σ' nc ns _ _ h
    exact (h : False).elim
