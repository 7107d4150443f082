theorem tlF_rg (x : Int) : ∀ (n : Nat) (l : Int), 0 ≤ l → 0 ≤ tlF x n l ∧ tlF x n l ≤ l + n
  | 0, l, h => by
    show 0 ≤ l ∧ l ≤ l + (0 : Nat)
    omega
  | n + 1, l, h => by
    show 0 ≤ (if nrm (isr x (5 * l)) = 0 then l else tlF x n (l + 1)) ∧ (if nrm (isr x (5 * l)) = 0 then l else tlF x n (l + 1)) ≤ l + (n + 1 : Nat)
    have ih := tlF_rg x n (l + 1) (by omega)
    split <;> omega
theorem tl_rg (x : Int) : 0 ≤ tl x ∧ tl x ≤ 6 := by
  have h := tlF_rg x 6 0 (by omega)
  unfold tl
  omega
theorem sv201 (j : Nat) : 0 ≤ sv 201 j ∧ sv 201 j ≤ 60 := by
  rcases j with _ | _ | _ | j
  · decide
  · decide
  · decide
  · show 0 ≤ ([6, 60, 7] : List Int).getD (j + 3) 0 ∧ ([6, 60, 7] : List Int).getD (j + 3) 0 ≤ 60
    simp
theorem by8_4 {σ : Sg} {e i j : Nat} (h : IV σ) : by8 (σ 4 e i j) := h 4 e i j
theorem by8_9 {σ : Sg} {e i j : Nat} (h : IV σ) : by8 (σ 9 e i j) := h 9 e i j
theorem by8_22 {σ : Sg} {e i j : Nat} (h : IV σ) : by8 (σ 22 e i j) := h 22 e i j
theorem by8_g {σ : Sg} {e i : Nat} (h : IV σ) : by8 (σ 7 e i 11) := h 7 e i 11
theorem rg_34 {σ : Sg} {e i j : Nat} (h : IV σ) : 0 ≤ σ 34 e i j ∧ σ 34 e i j ≤ 60 := h 34 e i j
def fx (x : Int) : Nat := (nrm (nrm (x + 1) / 2)).toNat
theorem by8_13 {σ : Sg} {e i : Nat} (h : IV σ) : by8 (σ 13 e i 3) := by
  have h2 : 0 ≤ σ 13 e i 3 ∧ σ 13 e i 3 ≤ 76 := h 13 e i 3
  unfold by8
  omega
theorem op_rg {σ σ1 : Sg} {e i : Nat} (h : IV σ1) (hU : Un [32] σ σ1) (ho : σ 7 e i 10 ≤ 6) : rg 7 10 (σ1 7 e i 10 + 1) := by
  have h2 : 0 ≤ σ1 7 e i 10 ∧ σ1 7 e i 10 ≤ 7 := h 7 e i 10
  have h3 : σ1 7 e i 10 = σ 7 e i 10 := hU 7 e i 10 rfl
  show 0 ≤ σ1 7 e i 10 + 1 ∧ σ1 7 e i 10 + 1 ≤ 7
  omega
def ft_BlockWriter (a : Nat) : Option (Nat × Nat × Nat) := match a with
  | 12 => some (2, 0, 2)
  | 18 => some (2, 1, 2)
  | 21 => some (2, 2, 2)
  | 25 => some (2, 3, 0)
  | _ => none
theorem fo_BlockWriter : ∀ a v, ft_BlockWriter a = some v → FldOK R_BlockWriter a v := by
  intro a v h
  unfold ft_BlockWriter at h
  split at h
  · cases h; exact fl_BlockWriter _ _ _ _ (by decide) (by decide +kernel) (by decide)
  · cases h; exact fl_BlockWriter _ _ _ _ (by decide) (by decide +kernel) (by decide)
  · cases h; exact fl_BlockWriter _ _ _ _ (by decide) (by decide +kernel) (by decide)
  · cases h; exact fl_BlockWriter _ _ _ _ (by decide) (by decide +kernel) (by decide)
  · cases h
def gt_BlockWriter_table (a : Nat) : Option Nat := match a with
  | _ => none
theorem go_BlockWriter_table : ∀ a v, gt_BlockWriter_table a = some v → StaOK R_BlockWriter a v := by
  intro a v h
  unfold gt_BlockWriter_table at h
  cases h
def pr_BlockWriter_table : List Ent := [(0, 5, 0, 0, 0), (1, 39, 12, 0, 0), (4, 50, 0, 0, 0)]
def sw_BlockWriter_table : List Swt := []
theorem dk_BlockWriter_table : ∀ q ∈ pr_BlockWriter_table, decode b_BlockWriter_table q.1 = .ok (dec sw_BlockWriter_table q) ∧ okE q = true := by decide +kernel
theorem nt_BlockWriter_table : ∀ q ∈ pr_BlockWriter_table, ¬ q.2.1 = 55 := by decide +kernel
def ct_BlockWriter_table (a : Nat) : Option (Nat × Nat × CSp × Nat × Nat) := match a with
  | _ => none
theorem co_BlockWriter_table : ∀ a v, ct_BlockWriter_table a = some v → StcOK R_BlockWriter 0 0 a v := by
  intro a v h
  unfold ct_BlockWriter_table at h
  cases h
/-- BlockWriter_table -/
def sp_BlockWriter_table : CSp := sR (fun q σ K _ => q.1 = 13 ∧ K (some (.inr (14, q.2.1, q.2.2))) σ)
set_option maxHeartbeats 4000000 in
set_option maxRecDepth 100000 in
theorem c_BlockWriter_table : Ctr y_BlockWriter_table b_BlockWriter_table 1 (some (.object "FrameStreams$Table")) 0 0 0 0 sp_BlockWriter_table := by
  refine ctr_of (FT := ft_BlockWriter) (GT := gt_BlockWriter_table) (CT := ct_BlockWriter_table) (sw := sw_BlockWriter_table) (rt := 3) (pr := pr_BlockWriter_table) (by decide) [] (fun _ _ _ _ _ _ _ _ _ _ _ => False) 20 ⟨fun h => absurd h (by decide), fun h => absurd h (by decide), fun h => absurd h (by decide), fun _ => ⟨_, rfl⟩⟩ dk_BlockWriter_table fo_BlockWriter go_BlockWriter_table co_BlockWriter_table (fun a k h hk => by unfold gt_BlockWriter_table at h; cases h) (fun q hq h => absurd h (nt_BlockWriter_table q hq)) (fun av σ K kx h => by rw [sR_len h]; decide) ?_ ?_
  · intro av σ K kx hok hSp
    obtain ⟨q0, rfl, hp⟩ := sR_inv hSp
    obtain ⟨k0, e0, i0⟩ := q0
    obtain ⟨h0, h1⟩ := hp
    dsimp only at h0; subst h0
    all_goals (repeat' (first | (with_reducible assumption) | (with_reducible refine IV_upd ?_ ?_) | (with_reducible refine IV_cpy ?_ (fun _ _ _ _ => trivial)) | (refine And.intro ?_ ?_) | (intro _)))
    all_goals first | (first | rfl | decide | exact Or.inl rfl | exact Or.inr (Or.inl rfl) | exact Or.inr (Or.inr rfl) | (simp only [nrm, strm, by8] at * <;> omega) | (simp [upd4, cpy4, nrm, strm, by8] at * <;> omega)) | (exact h1 (by first | assumption | (first | rfl | decide | exact Or.inl rfl | exact Or.inr (Or.inl rfl) | exact Or.inr (Or.inr rfl) | (simp only [nrm, strm, by8] at * <;> omega) | (simp [upd4, cpy4, nrm, strm, by8] at * <;> omega)))) | (exact h1) | (refine h1 _ ?_ ?_ <;> (repeat' (first | assumption | exact trivial | exact Un_rf | (apply by8_4; assumption) | (apply by8_9; assumption) | (apply by8_22; assumption) | (apply by8_g; assumption) | (refine by8_13 ?_) | (apply rg_34; assumption) | (refine ixr_by8 ?_ ?_) | (refine IV_upd ?_ ?_) | (refine Un_upd rfl ?_) | (refine IV_cpy ?_ (fun _ _ _ _ => trivial)) | (refine Un_cpy rfl ?_) | (apply Un_tr; rotate_left; assumption; rfl) | (refine And.intro ?_ ?_))) <;> (first | rfl | decide | exact Or.inl rfl | exact Or.inr (Or.inl rfl) | exact Or.inr (Or.inr rfl) | (simp only [nrm, strm, by8] at * <;> omega) | (simp [upd4, cpy4, nrm, strm, by8] at * <;> omega))) | (apply h1 <;> (repeat' (first | assumption | exact trivial | exact Un_rf | (apply by8_4; assumption) | (apply by8_9; assumption) | (apply by8_22; assumption) | (apply by8_g; assumption) | (refine by8_13 ?_) | (apply rg_34; assumption) | (refine ixr_by8 ?_ ?_) | (refine IV_upd ?_ ?_) | (refine Un_upd rfl ?_) | (refine IV_cpy ?_ (fun _ _ _ _ => trivial)) | (refine Un_cpy rfl ?_) | (apply Un_tr; rotate_left; assumption; rfl) | (refine And.intro ?_ ?_))) <;> (first | rfl | decide | exact Or.inl rfl | exact Or.inr (Or.inl rfl) | exact Or.inr (Or.inr rfl) | (simp only [nrm, strm, by8] at * <;> omega) | (simp [upd4, cpy4, nrm, strm, by8] at * <;> omega))) | ((repeat' (first | assumption | exact trivial | exact Un_rf | (apply by8_4; assumption) | (apply by8_9; assumption) | (apply by8_22; assumption) | (apply by8_g; assumption) | (refine by8_13 ?_) | (apply rg_34; assumption) | (refine ixr_by8 ?_ ?_) | (refine IV_upd ?_ ?_) | (refine Un_upd rfl ?_) | (refine IV_cpy ?_ (fun _ _ _ _ => trivial)) | (refine Un_cpy rfl ?_) | (apply Un_tr; rotate_left; assumption; rfl) | (refine And.intro ?_ ?_))) <;> (first | rfl | decide | exact Or.inl rfl | exact Or.inr (Or.inl rfl) | exact Or.inr (Or.inr rfl) | (simp only [nrm, strm, by8] at * <;> omega) | (simp [upd4, cpy4, nrm, strm, by8] at * <;> omega)))
  · intro av σ K kx n pc L st σ' nc ns _ _ h
    exact (h : False).elim
def gt_BlockWriter_length (a : Nat) : Option Nat := match a with
  | _ => none
theorem go_BlockWriter_length : ∀ a v, gt_BlockWriter_length a = some v → StaOK R_BlockWriter a v := by
  intro a v h
  unfold gt_BlockWriter_length at h
  cases h
def pr_BlockWriter_length : List Ent := [(0, 5, 0, 0, 0), (1, 39, 25, 0, 0), (4, 48, 0, 0, 0)]
def sw_BlockWriter_length : List Swt := []
theorem dk_BlockWriter_length : ∀ q ∈ pr_BlockWriter_length, decode b_BlockWriter_length q.1 = .ok (dec sw_BlockWriter_length q) ∧ okE q = true := by decide +kernel
theorem nt_BlockWriter_length : ∀ q ∈ pr_BlockWriter_length, ¬ q.2.1 = 55 := by decide +kernel
def ct_BlockWriter_length (a : Nat) : Option (Nat × Nat × CSp × Nat × Nat) := match a with
  | _ => none
theorem co_BlockWriter_length : ∀ a v, ct_BlockWriter_length a = some v → StcOK R_BlockWriter 0 0 a v := by
  intro a v h
  unfold ct_BlockWriter_length at h
  cases h
/-- BlockWriter_length -/
def sp_BlockWriter_length : CSp := sR (fun q σ K _ => q.1 = 13 ∧ K (some (.inl (σ 13 q.2.1 q.2.2 3))) σ)
set_option maxHeartbeats 4000000 in
set_option maxRecDepth 100000 in
theorem c_BlockWriter_length : Ctr y_BlockWriter_length b_BlockWriter_length 1 (some .int) 0 0 0 0 sp_BlockWriter_length := by
  refine ctr_of (FT := ft_BlockWriter) (GT := gt_BlockWriter_length) (CT := ct_BlockWriter_length) (sw := sw_BlockWriter_length) (rt := 0) (pr := pr_BlockWriter_length) (by decide) [] (fun _ _ _ _ _ _ _ _ _ _ _ => False) 20 ⟨fun _ => rfl, fun h => absurd h (by decide), fun h => absurd h (by decide), fun h => absurd h (by decide)⟩ dk_BlockWriter_length fo_BlockWriter go_BlockWriter_length co_BlockWriter_length (fun a k h hk => by unfold gt_BlockWriter_length at h; cases h) (fun q hq h => absurd h (nt_BlockWriter_length q hq)) (fun av σ K kx h => by rw [sR_len h]; decide) ?_ ?_
  · intro av σ K kx hok hSp
    obtain ⟨q0, rfl, hp⟩ := sR_inv hSp
    obtain ⟨k0, e0, i0⟩ := q0
    obtain ⟨h0, h1⟩ := hp
    dsimp only at h0; subst h0
    all_goals (repeat' (first | (with_reducible assumption) | (with_reducible refine IV_upd ?_ ?_) | (with_reducible refine IV_cpy ?_ (fun _ _ _ _ => trivial)) | (refine And.intro ?_ ?_) | (intro _)))
    all_goals first | (first | rfl | decide | exact Or.inl rfl | exact Or.inr (Or.inl rfl) | exact Or.inr (Or.inr rfl) | (simp only [nrm, strm, by8] at * <;> omega) | (simp [upd4, cpy4, nrm, strm, by8] at * <;> omega)) | (exact h1 (by first | assumption | (first | rfl | decide | exact Or.inl rfl | exact Or.inr (Or.inl rfl) | exact Or.inr (Or.inr rfl) | (simp only [nrm, strm, by8] at * <;> omega) | (simp [upd4, cpy4, nrm, strm, by8] at * <;> omega)))) | (exact h1) | (refine h1 _ ?_ ?_ <;> (repeat' (first | assumption | exact trivial | exact Un_rf | (apply by8_4; assumption) | (apply by8_9; assumption) | (apply by8_22; assumption) | (apply by8_g; assumption) | (refine by8_13 ?_) | (apply rg_34; assumption) | (refine ixr_by8 ?_ ?_) | (refine IV_upd ?_ ?_) | (refine Un_upd rfl ?_) | (refine IV_cpy ?_ (fun _ _ _ _ => trivial)) | (refine Un_cpy rfl ?_) | (apply Un_tr; rotate_left; assumption; rfl) | (refine And.intro ?_ ?_))) <;> (first | rfl | decide | exact Or.inl rfl | exact Or.inr (Or.inl rfl) | exact Or.inr (Or.inr rfl) | (simp only [nrm, strm, by8] at * <;> omega) | (simp [upd4, cpy4, nrm, strm, by8] at * <;> omega))) | (apply h1 <;> (repeat' (first | assumption | exact trivial | exact Un_rf | (apply by8_4; assumption) | (apply by8_9; assumption) | (apply by8_22; assumption) | (apply by8_g; assumption) | (refine by8_13 ?_) | (apply rg_34; assumption) | (refine ixr_by8 ?_ ?_) | (refine IV_upd ?_ ?_) | (refine Un_upd rfl ?_) | (refine IV_cpy ?_ (fun _ _ _ _ => trivial)) | (refine Un_cpy rfl ?_) | (apply Un_tr; rotate_left; assumption; rfl) | (refine And.intro ?_ ?_))) <;> (first | rfl | decide | exact Or.inl rfl | exact Or.inr (Or.inl rfl) | exact Or.inr (Or.inr rfl) | (simp only [nrm, strm, by8] at * <;> omega) | (simp [upd4, cpy4, nrm, strm, by8] at * <;> omega))) | ((repeat' (first | assumption | exact trivial | exact Un_rf | (apply by8_4; assumption) | (apply by8_9; assumption) | (apply by8_22; assumption) | (apply by8_g; assumption) | (refine by8_13 ?_) | (apply rg_34; assumption) | (refine ixr_by8 ?_ ?_) | (refine IV_upd ?_ ?_) | (refine Un_upd rfl ?_) | (refine IV_cpy ?_ (fun _ _ _ _ => trivial)) | (refine Un_cpy rfl ?_) | (apply Un_tr; rotate_left; assumption; rfl) | (refine And.intro ?_ ?_))) <;> (first | rfl | decide | exact Or.inl rfl | exact Or.inr (Or.inl rfl) | exact Or.inr (Or.inr rfl) | (simp only [nrm, strm, by8] at * <;> omega) | (simp [upd4, cpy4, nrm, strm, by8] at * <;> omega)))
  · intro av σ K kx n pc L st σ' nc ns _ _ h
    exact (h : False).elim
def gt_BlockWriter_at (a : Nat) : Option Nat := match a with
  | _ => none
theorem go_BlockWriter_at : ∀ a v, gt_BlockWriter_at a = some v → StaOK R_BlockWriter a v := by
  intro a v h
  unfold gt_BlockWriter_at at h
  cases h
def pr_BlockWriter_at : List Ent := [(0, 3, 1, 0, 0), (1, 28, 0, 0, 21), (4, 3, 1, 0, 0), (5, 5, 0, 0, 0), (6, 39, 25, 0, 0), (9, 35, 0, 0, 21), (12, 5, 0, 0, 0), (13, 39, 21, 0, 0), (16, 3, 1, 0, 0), (17, 41, 0, 0, 0), (18, 38, 0, 0, 22), (21, 0, 0, 0, 0), (22, 48, 0, 0, 0)]
def sw_BlockWriter_at : List Swt := []
theorem dk_BlockWriter_at : ∀ q ∈ pr_BlockWriter_at, decode b_BlockWriter_at q.1 = .ok (dec sw_BlockWriter_at q) ∧ okE q = true := by decide +kernel
theorem nt_BlockWriter_at : ∀ q ∈ pr_BlockWriter_at, ¬ q.2.1 = 55 := by decide +kernel
def ct_BlockWriter_at (a : Nat) : Option (Nat × Nat × CSp × Nat × Nat) := match a with
  | _ => none
theorem co_BlockWriter_at : ∀ a v, ct_BlockWriter_at a = some v → StcOK R_BlockWriter 0 0 a v := by
  intro a v h
  unfold ct_BlockWriter_at at h
  cases h
/-- BlockWriter_at -/
def sp_BlockWriter_at : CSp := sRI (fun q x σ K _ => q.1 = 13 ∧ IV σ ∧ ∀ r, by8 r → K (some (.inl r)) σ)
set_option maxHeartbeats 4000000 in
set_option maxRecDepth 100000 in
theorem c_BlockWriter_at : Ctr y_BlockWriter_at b_BlockWriter_at 2 (some .int) 0 0 0 0 sp_BlockWriter_at := by
  refine ctr_of (FT := ft_BlockWriter) (GT := gt_BlockWriter_at) (CT := ct_BlockWriter_at) (sw := sw_BlockWriter_at) (rt := 0) (pr := pr_BlockWriter_at) (by decide) [] (fun _ _ _ _ _ _ _ _ _ _ _ => False) 30 ⟨fun _ => rfl, fun h => absurd h (by decide), fun h => absurd h (by decide), fun h => absurd h (by decide)⟩ dk_BlockWriter_at fo_BlockWriter go_BlockWriter_at co_BlockWriter_at (fun a k h hk => by unfold gt_BlockWriter_at at h; cases h) (fun q hq h => absurd h (nt_BlockWriter_at q hq)) (fun av σ K kx h => by rw [sRI_len h]; decide) ?_ ?_
  · intro av σ K kx hok hSp
    obtain ⟨q0, x0, rfl, hp⟩ := sRI_inv hSp
    obtain ⟨k0, e0, i0⟩ := q0
    obtain ⟨h0, hI, h2⟩ := hp
    dsimp only at h0; subst h0
    have b3 : 0 ≤ σ 13 e0 i0 3 ∧ σ 13 e0 i0 3 ≤ 76 := hI 13 e0 i0 3
    all_goals (repeat' (first | (with_reducible assumption) | (with_reducible refine IV_upd ?_ ?_) | (with_reducible refine IV_cpy ?_ (fun _ _ _ _ => trivial)) | (refine And.intro ?_ ?_) | (intro _)))
    all_goals first | (first | rfl | decide | exact Or.inl rfl | exact Or.inr (Or.inl rfl) | exact Or.inr (Or.inr rfl) | (simp only [nrm, strm, by8] at * <;> omega) | (simp [upd4, cpy4, nrm, strm, by8] at * <;> omega)) | (exact h2) | (refine h2 _ ?_ ?_ <;> (repeat' (first | assumption | exact trivial | exact Un_rf | (apply by8_4; assumption) | (apply by8_9; assumption) | (apply by8_22; assumption) | (apply by8_g; assumption) | (refine by8_13 ?_) | (apply rg_34; assumption) | (refine ixr_by8 ?_ ?_) | (refine IV_upd ?_ ?_) | (refine Un_upd rfl ?_) | (refine IV_cpy ?_ (fun _ _ _ _ => trivial)) | (refine Un_cpy rfl ?_) | (apply Un_tr; rotate_left; assumption; rfl) | (refine And.intro ?_ ?_))) <;> (first | rfl | decide | exact Or.inl rfl | exact Or.inr (Or.inl rfl) | exact Or.inr (Or.inr rfl) | (simp only [nrm, strm, by8] at * <;> omega) | (simp [upd4, cpy4, nrm, strm, by8] at * <;> omega))) | (apply h2 <;> (repeat' (first | assumption | exact trivial | exact Un_rf | (apply by8_4; assumption) | (apply by8_9; assumption) | (apply by8_22; assumption) | (apply by8_g; assumption) | (refine by8_13 ?_) | (apply rg_34; assumption) | (refine ixr_by8 ?_ ?_) | (refine IV_upd ?_ ?_) | (refine Un_upd rfl ?_) | (refine IV_cpy ?_ (fun _ _ _ _ => trivial)) | (refine Un_cpy rfl ?_) | (apply Un_tr; rotate_left; assumption; rfl) | (refine And.intro ?_ ?_))) <;> (first | rfl | decide | exact Or.inl rfl | exact Or.inr (Or.inl rfl) | exact Or.inr (Or.inr rfl) | (simp only [nrm, strm, by8] at * <;> omega) | (simp [upd4, cpy4, nrm, strm, by8] at * <;> omega))) | ((repeat' (first | assumption | exact trivial | exact Un_rf | (apply by8_4; assumption) | (apply by8_9; assumption) | (apply by8_22; assumption) | (apply by8_g; assumption) | (refine by8_13 ?_) | (apply rg_34; assumption) | (refine ixr_by8 ?_ ?_) | (refine IV_upd ?_ ?_) | (refine Un_upd rfl ?_) | (refine IV_cpy ?_ (fun _ _ _ _ => trivial)) | (refine Un_cpy rfl ?_) | (apply Un_tr; rotate_left; assumption; rfl) | (refine And.intro ?_ ?_))) <;> (first | rfl | decide | exact Or.inl rfl | exact Or.inr (Or.inl rfl) | exact Or.inr (Or.inr rfl) | (simp only [nrm, strm, by8] at * <;> omega) | (simp [upd4, cpy4, nrm, strm, by8] at * <;> omega)))
  · intro av σ K kx n pc L st σ' nc ns _ _ h
    exact (h : False).elim
def gt_BlockWriter_put (a : Nat) : Option Nat := match a with
  | _ => none
theorem go_BlockWriter_put : ∀ a v, gt_BlockWriter_put a = some v → StaOK R_BlockWriter a v := by
  intro a v h
  unfold gt_BlockWriter_put at h
  cases h
def pr_BlockWriter_put : List Ent := [(0, 5, 0, 0, 0), (1, 39, 25, 0, 0), (4, 1, 0, 76, 0), (6, 35, 0, 0, 29), (9, 5, 0, 0, 0), (10, 39, 21, 0, 0), (13, 5, 0, 0, 0), (14, 39, 25, 0, 0), (17, 3, 1, 0, 0), (18, 42, 0, 0, 0), (19, 5, 0, 0, 0), (20, 23, 0, 0, 0), (21, 39, 25, 0, 0), (24, 0, 0, 1, 0), (25, 12, 0, 0, 0), (26, 40, 25, 0, 0), (29, 49, 0, 0, 0)]
def sw_BlockWriter_put : List Swt := []
theorem dk_BlockWriter_put : ∀ q ∈ pr_BlockWriter_put, decode b_BlockWriter_put q.1 = .ok (dec sw_BlockWriter_put q) ∧ okE q = true := by decide +kernel
theorem nt_BlockWriter_put : ∀ q ∈ pr_BlockWriter_put, ¬ q.2.1 = 55 := by decide +kernel
def ct_BlockWriter_put (a : Nat) : Option (Nat × Nat × CSp × Nat × Nat) := match a with
  | _ => none
theorem co_BlockWriter_put : ∀ a v, ct_BlockWriter_put a = some v → StcOK R_BlockWriter 0 0 a v := by
  intro a v h
  unfold ct_BlockWriter_put at h
  cases h
/-- BlockWriter_put -/
def sp_BlockWriter_put : CSp := sRI (fun q x σ K _ => q.1 = 13 ∧ IV σ ∧ by8 x ∧ ∀ σ', IV σ' → Un [13, 22] σ σ' → K none σ')
set_option maxHeartbeats 4000000 in
set_option maxRecDepth 100000 in
theorem c_BlockWriter_put : Ctr y_BlockWriter_put b_BlockWriter_put 2 none 0 0 0 0 sp_BlockWriter_put := by
  refine ctr_of (FT := ft_BlockWriter) (GT := gt_BlockWriter_put) (CT := ct_BlockWriter_put) (sw := sw_BlockWriter_put) (rt := 2) (pr := pr_BlockWriter_put) (by decide) [] (fun _ _ _ _ _ _ _ _ _ _ _ => False) 30 ⟨fun h => absurd h (by decide), fun h => absurd h (by decide), fun _ => rfl, fun h => absurd h (by decide)⟩ dk_BlockWriter_put fo_BlockWriter go_BlockWriter_put co_BlockWriter_put (fun a k h hk => by unfold gt_BlockWriter_put at h; cases h) (fun q hq h => absurd h (nt_BlockWriter_put q hq)) (fun av σ K kx h => by rw [sRI_len h]; decide) ?_ ?_
  · intro av σ K kx hok hSp
    obtain ⟨q0, x0, rfl, hp⟩ := sRI_inv hSp
    obtain ⟨k0, e0, i0⟩ := q0
    obtain ⟨h0, hI, h2, h3⟩ := hp
    dsimp only at h0; subst h0
    have b3 : 0 ≤ σ 13 e0 i0 3 ∧ σ 13 e0 i0 3 ≤ 76 := hI 13 e0 i0 3
    all_goals (repeat' (first | (with_reducible assumption) | (with_reducible refine IV_upd ?_ ?_) | (with_reducible refine IV_cpy ?_ (fun _ _ _ _ => trivial)) | (refine And.intro ?_ ?_) | (intro _)))
    all_goals first | (first | rfl | decide | exact Or.inl rfl | exact Or.inr (Or.inl rfl) | exact Or.inr (Or.inr rfl) | (simp only [nrm, strm, by8] at * <;> omega) | (simp [upd4, cpy4, nrm, strm, by8] at * <;> omega)) | (exact h3) | (refine h3 _ ?_ ?_ <;> (repeat' (first | assumption | exact trivial | exact Un_rf | (apply by8_4; assumption) | (apply by8_9; assumption) | (apply by8_22; assumption) | (apply by8_g; assumption) | (refine by8_13 ?_) | (apply rg_34; assumption) | (refine ixr_by8 ?_ ?_) | (refine IV_upd ?_ ?_) | (refine Un_upd rfl ?_) | (refine IV_cpy ?_ (fun _ _ _ _ => trivial)) | (refine Un_cpy rfl ?_) | (apply Un_tr; rotate_left; assumption; rfl) | (refine And.intro ?_ ?_))) <;> (first | rfl | decide | exact Or.inl rfl | exact Or.inr (Or.inl rfl) | exact Or.inr (Or.inr rfl) | (simp only [nrm, strm, by8] at * <;> omega) | (simp [upd4, cpy4, nrm, strm, by8] at * <;> omega))) | (apply h3 <;> (repeat' (first | assumption | exact trivial | exact Un_rf | (apply by8_4; assumption) | (apply by8_9; assumption) | (apply by8_22; assumption) | (apply by8_g; assumption) | (refine by8_13 ?_) | (apply rg_34; assumption) | (refine ixr_by8 ?_ ?_) | (refine IV_upd ?_ ?_) | (refine Un_upd rfl ?_) | (refine IV_cpy ?_ (fun _ _ _ _ => trivial)) | (refine Un_cpy rfl ?_) | (apply Un_tr; rotate_left; assumption; rfl) | (refine And.intro ?_ ?_))) <;> (first | rfl | decide | exact Or.inl rfl | exact Or.inr (Or.inl rfl) | exact Or.inr (Or.inr rfl) | (simp only [nrm, strm, by8] at * <;> omega) | (simp [upd4, cpy4, nrm, strm, by8] at * <;> omega))) | ((repeat' (first | assumption | exact trivial | exact Un_rf | (apply by8_4; assumption) | (apply by8_9; assumption) | (apply by8_22; assumption) | (apply by8_g; assumption) | (refine by8_13 ?_) | (apply rg_34; assumption) | (refine ixr_by8 ?_ ?_) | (refine IV_upd ?_ ?_) | (refine Un_upd rfl ?_) | (refine IV_cpy ?_ (fun _ _ _ _ => trivial)) | (refine Un_cpy rfl ?_) | (apply Un_tr; rotate_left; assumption; rfl) | (refine And.intro ?_ ?_))) <;> (first | rfl | decide | exact Or.inl rfl | exact Or.inr (Or.inl rfl) | exact Or.inr (Or.inr rfl) | (simp only [nrm, strm, by8] at * <;> omega) | (simp [upd4, cpy4, nrm, strm, by8] at * <;> omega)))
  · intro av σ K kx n pc L st σ' nc ns _ _ h
    exact (h : False).elim
def gt_BlockWriter_putText (a : Nat) : Option Nat := match a with
  | _ => none
theorem go_BlockWriter_putText : ∀ a v, gt_BlockWriter_putText a = some v → StaOK R_BlockWriter a v := by
  intro a v h
  unfold gt_BlockWriter_putText at h
  cases h
def pr_BlockWriter_putText : List Ent := [(0, 3, 1, 0, 0), (1, 47, 75, 0, 0), (4, 7, 2, 0, 0), (5, 5, 0, 0, 0), (6, 3, 2, 0, 0), (7, 46, 43, 0, 0), (10, 0, 0, 0, 0), (11, 7, 3, 0, 0), (12, 3, 3, 0, 0), (13, 3, 2, 0, 0), (14, 35, 0, 0, 32), (17, 5, 0, 0, 0), (18, 3, 1, 0, 0), (19, 3, 3, 0, 0), (20, 47, 79, 0, 0), (23, 46, 43, 0, 0), (26, 11, 3, 1, 0), (29, 38, 0, 0, 12), (32, 49, 0, 0, 0)]
def sw_BlockWriter_putText : List Swt := []
theorem dk_BlockWriter_putText : ∀ q ∈ pr_BlockWriter_putText, decode b_BlockWriter_putText q.1 = .ok (dec sw_BlockWriter_putText q) ∧ okE q = true := by decide +kernel
theorem nt_BlockWriter_putText : ∀ q ∈ pr_BlockWriter_putText, ¬ q.2.1 = 55 := by decide +kernel
def ct_BlockWriter_putText (a : Nat) : Option (Nat × Nat × CSp × Nat × Nat) := match a with
  | 43 => some (2, 2, sp_BlockWriter_put, 0, 0)
  | 75 => some (1, 1000, sp_Letters_length, 0, 0)
  | 79 => some (2, 1000, sp_Letters_letterAt, 0, 0)
  | _ => none
theorem co_BlockWriter_putText : ∀ a v, ct_BlockWriter_putText a = some v → StcOK R_BlockWriter 1 21 a v := by
  intro a v h
  unfold ct_BlockWriter_putText at h
  split at h
  · cases h; exact ⟨y_BlockWriter_put, b_BlockWriter_put, 2, none, 0, 0, 1, c_BlockWriter_put, by decide, by decide +kernel, by decide +kernel, by decide +kernel, Or.inl ⟨rfl, by decide, by decide +kernel, by decide +kernel, _, _, rfl, by decide +kernel⟩⟩
  · cases h; exact ⟨y_Letters_length, b_Letters_length, 2, (some .int), 0, 0, 1, c_Letters_length, by decide, by decide +kernel, by decide +kernel, by decide +kernel, (by first | exact Or.inr (Or.inl ⟨rfl, rfl, by decide +kernel, by decide +kernel⟩) | exact Or.inr (Or.inr ⟨rfl, rfl, ⟨"FrameStreams", by decide +kernel⟩, by decide +kernel⟩))⟩
  · cases h; exact ⟨y_Letters_letterAt, b_Letters_letterAt, 2, (some .int), 0, 0, 2, c_Letters_letterAt, by decide, by decide +kernel, by decide +kernel, by decide +kernel, (by first | exact Or.inr (Or.inl ⟨rfl, rfl, by decide +kernel, by decide +kernel⟩) | exact Or.inr (Or.inr ⟨rfl, rfl, ⟨"FrameStreams", by decide +kernel⟩, by decide +kernel⟩))⟩
  · cases h
/-- BlockWriter_putText -/
def sp_BlockWriter_putText : CSp := sRI (fun q x σ K _ => q.1 = 13 ∧ IV σ ∧ ∀ σ', IV σ' → Un [13, 22] σ σ' → K none σ')
set_option maxHeartbeats 4000000 in
set_option maxRecDepth 100000 in
theorem c_BlockWriter_putText : Ctr y_BlockWriter_putText b_BlockWriter_putText 4 none 1 21 0 0 sp_BlockWriter_putText := by
  refine ctr_of (FT := ft_BlockWriter) (GT := gt_BlockWriter_putText) (CT := ct_BlockWriter_putText) (sw := sw_BlockWriter_putText) (rt := 2) (pr := pr_BlockWriter_putText) (by decide) [12] (fun av σ _ _ n pc L st σ' nc ns => ∃ e i x l k, av = [.inr (13, e, i), .inl x] ∧ pc = 12 ∧ L = [some (.inr (13, e, i)), some (.inl x), some (.inl l), some (.inl k)] ∧ st = [] ∧ nc = 0 ∧ ns = 0 ∧ 0 ≤ k ∧ k ≤ l ∧ l ≤ 6 ∧ n = (6 - k).toNat ∧ IV σ' ∧ Un [13, 22] σ σ') 30 ⟨fun h => absurd h (by decide), fun h => absurd h (by decide), fun _ => rfl, fun h => absurd h (by decide)⟩ dk_BlockWriter_putText fo_BlockWriter go_BlockWriter_putText co_BlockWriter_putText (fun a k h hk => by unfold gt_BlockWriter_putText at h; cases h) (fun q hq h => absurd h (nt_BlockWriter_putText q hq)) (fun av σ K kx h => by rw [sRI_len h]; decide) ?_ ?_
  · intro av σ K kx hok hSp
    obtain ⟨q0, x0, rfl, hp⟩ := sRI_inv hSp
    obtain ⟨k0, e0, i0⟩ := q0
    obtain ⟨h0, hI, h2⟩ := hp
    dsimp only at h0; subst h0
    have t1 := tl_rg x0
    refine And.intro rfl (And.intro hI (And.intro (by unfold by8; omega) (fun σ1 I1 U1 => ?_)))
    exact ⟨6, e0, i0, x0, tl x0, 0, rfl, rfl, rfl, rfl, rfl, rfl, by omega, by omega, by omega, rfl, I1, U1⟩
  · intro av σ K kx n pc L st σ' nc ns hok hSp hJ
    obtain ⟨e, i, x, l, k, rfl, rfl, rfl, rfl, rfl, rfl, h0, h6, h7, hn, hI, hU⟩ := hJ
    obtain ⟨-, -, hf⟩ : (13 : Nat) = 13 ∧ IV σ ∧ ∀ σ', IV σ' → Un [13, 22] σ σ' → K none σ' := hSp
    refine And.intro (fun h => ?_) (fun h => ?_)
    · exact hf _ hI hU
    · have t2 := ian_31 (isr x (5 * k))
      refine And.intro rfl (And.intro hI (And.intro (by unfold by8; omega) (fun σ1 I1 U1 => ?_)))
      refine ⟨(6 - (k + 1)).toNat, ?_, e, i, x, l, k + 1, rfl, rfl, rfl, rfl, rfl, rfl, ?_, ?_, ?_, rfl, I1, Un_tr hU U1 rfl⟩ <;> (simp only [nrm] at * <;> omega)
def gt_BlockWriter_putField (a : Nat) : Option Nat := match a with
  | _ => none
theorem go_BlockWriter_putField : ∀ a v, gt_BlockWriter_putField a = some v → StaOK R_BlockWriter a v := by
  intro a v h
  unfold gt_BlockWriter_putField at h
  cases h
def pr_BlockWriter_putField : List Ent := [(0, 5, 0, 0, 0), (1, 39, 18, 0, 0), (4, 3, 1, 0, 0), (5, 3, 2, 0, 0), (6, 46, 62, 0, 0), (9, 7, 3, 0, 0), (10, 3, 3, 0, 0), (11, 26, 0, 0, 24), (14, 5, 0, 0, 0), (15, 2, 0, 128, 0), (18, 3, 3, 0, 0), (19, 12, 0, 0, 0), (20, 46, 43, 0, 0), (23, 49, 0, 0, 0), (24, 5, 0, 0, 0), (25, 39, 18, 0, 0), (28, 3, 1, 0, 0), (29, 46, 66, 0, 0), (32, 8, 4, 0, 0), (34, 5, 0, 0, 0), (35, 1, 0, 64, 0), (37, 4, 4, 0, 0), (39, 12, 0, 0, 0), (40, 46, 43, 0, 0), (43, 4, 4, 0, 0), (45, 27, 0, 0, 53), (48, 5, 0, 0, 0), (49, 3, 1, 0, 0), (50, 46, 69, 0, 0), (53, 5, 0, 0, 0), (54, 3, 2, 0, 0), (55, 46, 69, 0, 0), (58, 5, 0, 0, 0), (59, 39, 18, 0, 0), (62, 3, 1, 0, 0), (63, 3, 2, 0, 0), (64, 46, 72, 0, 0), (67, 49, 0, 0, 0)]
def sw_BlockWriter_putField : List Swt := []
theorem dk_BlockWriter_putField : ∀ q ∈ pr_BlockWriter_putField, decode b_BlockWriter_putField q.1 = .ok (dec sw_BlockWriter_putField q) ∧ okE q = true := by decide +kernel
theorem nt_BlockWriter_putField : ∀ q ∈ pr_BlockWriter_putField, ¬ q.2.1 = 55 := by decide +kernel
def ct_BlockWriter_putField (a : Nat) : Option (Nat × Nat × CSp × Nat × Nat) := match a with
  | 43 => some (2, 2, sp_BlockWriter_put, 0, 0)
  | 62 => some (3, 7, sp_Table_indexOf, 0, 0)
  | 66 => some (2, 7, sp_Table_indexOfName, 0, 0)
  | 69 => some (2, 2, sp_BlockWriter_putText, 0, 0)
  | 72 => some (3, 7, sp_Table_add, 0, 0)
  | _ => none
theorem co_BlockWriter_putField : ∀ a v, ct_BlockWriter_putField a = some v → StcOK R_BlockWriter 3 71 a v := by
  intro a v h
  unfold ct_BlockWriter_putField at h
  split at h
  · cases h; exact ⟨y_BlockWriter_put, b_BlockWriter_put, 2, none, 0, 0, 1, c_BlockWriter_put, by decide, by decide +kernel, by decide +kernel, by decide +kernel, Or.inl ⟨rfl, by decide, by decide +kernel, by decide +kernel, _, _, rfl, by decide +kernel⟩⟩
  · cases h; exact ⟨y_Table_indexOf, b_Table_indexOf, 4, (some .int), 2, 42, 2, c_Table_indexOf, by decide, by decide +kernel, by decide +kernel, by decide +kernel, Or.inl ⟨rfl, by decide, by decide +kernel, by decide +kernel, _, _, rfl, by decide +kernel⟩⟩
  · cases h; exact ⟨y_Table_indexOfName, b_Table_indexOfName, 3, (some .int), 2, 42, 1, c_Table_indexOfName, by decide, by decide +kernel, by decide +kernel, by decide +kernel, Or.inl ⟨rfl, by decide, by decide +kernel, by decide +kernel, _, _, rfl, by decide +kernel⟩⟩
  · cases h; exact ⟨y_BlockWriter_putText, b_BlockWriter_putText, 4, none, 1, 21, 1, c_BlockWriter_putText, by decide, by decide +kernel, by decide +kernel, by decide +kernel, Or.inl ⟨rfl, by decide, by decide +kernel, by decide +kernel, _, _, rfl, by decide +kernel⟩⟩
  · cases h; exact ⟨y_Table_add, b_Table_add, 4, none, 2, 48, 2, c_Table_add, by decide, by decide +kernel, by decide +kernel, by decide +kernel, Or.inl ⟨rfl, by decide, by decide +kernel, by decide +kernel, _, _, rfl, by decide +kernel⟩⟩
  · cases h
/-- BlockWriter_putField -/
def sp_BlockWriter_putField : CSp := sRII (fun q x0 x1 σ K _ => q.1 = 13 ∧ IV σ ∧ ∀ σ', IV σ' → Un [13, 18, 19, 20, 21, 22] σ σ' → K none σ')
set_option maxHeartbeats 4000000 in
set_option maxRecDepth 100000 in
theorem c_BlockWriter_putField : Ctr y_BlockWriter_putField b_BlockWriter_putField 5 none 3 71 0 0 sp_BlockWriter_putField := by
  refine ctr_of (FT := ft_BlockWriter) (GT := gt_BlockWriter_putField) (CT := ct_BlockWriter_putField) (sw := sw_BlockWriter_putField) (rt := 2) (pr := pr_BlockWriter_putField) (by decide) [] (fun _ _ _ _ _ _ _ _ _ _ _ => False) 50 ⟨fun h => absurd h (by decide), fun h => absurd h (by decide), fun _ => rfl, fun h => absurd h (by decide)⟩ dk_BlockWriter_putField fo_BlockWriter go_BlockWriter_putField co_BlockWriter_putField (fun a k h hk => by unfold gt_BlockWriter_putField at h; cases h) (fun q hq h => absurd h (nt_BlockWriter_putField q hq)) (fun av σ K kx h => by rw [sRII_len h]; decide) ?_ ?_
  · intro av σ K kx hok hSp
    obtain ⟨q0, x0, x1, rfl, hp⟩ := sRII_inv hSp
    obtain ⟨k0, e0, i0⟩ := q0
    obtain ⟨h0, hI, h2⟩ := hp
    dsimp only at h0; subst h0
    all_goals (repeat' (first | (with_reducible assumption) | (with_reducible refine IV_upd ?_ ?_) | (with_reducible refine IV_cpy ?_ (fun _ _ _ _ => trivial)) | (refine And.intro ?_ ?_) | (intro _)))
    all_goals first | (first | rfl | decide | exact Or.inl rfl | exact Or.inr (Or.inl rfl) | exact Or.inr (Or.inr rfl) | (simp only [nrm, strm, by8] at * <;> omega) | (simp [upd4, cpy4, nrm, strm, by8] at * <;> omega)) | (exact h2) | (refine h2 _ ?_ ?_ <;> (repeat' (first | assumption | exact trivial | exact Un_rf | (apply by8_4; assumption) | (apply by8_9; assumption) | (apply by8_22; assumption) | (apply by8_g; assumption) | (refine by8_13 ?_) | (apply rg_34; assumption) | (refine ixr_by8 ?_ ?_) | (refine IV_upd ?_ ?_) | (refine Un_upd rfl ?_) | (refine IV_cpy ?_ (fun _ _ _ _ => trivial)) | (refine Un_cpy rfl ?_) | (apply Un_tr; rotate_left; assumption; rfl) | (refine And.intro ?_ ?_))) <;> (first | rfl | decide | exact Or.inl rfl | exact Or.inr (Or.inl rfl) | exact Or.inr (Or.inr rfl) | (simp only [nrm, strm, by8] at * <;> omega) | (simp [upd4, cpy4, nrm, strm, by8] at * <;> omega))) | (apply h2 <;> (repeat' (first | assumption | exact trivial | exact Un_rf | (apply by8_4; assumption) | (apply by8_9; assumption) | (apply by8_22; assumption) | (apply by8_g; assumption) | (refine by8_13 ?_) | (apply rg_34; assumption) | (refine ixr_by8 ?_ ?_) | (refine IV_upd ?_ ?_) | (refine Un_upd rfl ?_) | (refine IV_cpy ?_ (fun _ _ _ _ => trivial)) | (refine Un_cpy rfl ?_) | (apply Un_tr; rotate_left; assumption; rfl) | (refine And.intro ?_ ?_))) <;> (first | rfl | decide | exact Or.inl rfl | exact Or.inr (Or.inl rfl) | exact Or.inr (Or.inr rfl) | (simp only [nrm, strm, by8] at * <;> omega) | (simp [upd4, cpy4, nrm, strm, by8] at * <;> omega))) | ((repeat' (first | assumption | exact trivial | exact Un_rf | (apply by8_4; assumption) | (apply by8_9; assumption) | (apply by8_22; assumption) | (apply by8_g; assumption) | (refine by8_13 ?_) | (apply rg_34; assumption) | (refine ixr_by8 ?_ ?_) | (refine IV_upd ?_ ?_) | (refine Un_upd rfl ?_) | (refine IV_cpy ?_ (fun _ _ _ _ => trivial)) | (refine Un_cpy rfl ?_) | (apply Un_tr; rotate_left; assumption; rfl) | (refine And.intro ?_ ?_))) <;> (first | rfl | decide | exact Or.inl rfl | exact Or.inr (Or.inl rfl) | exact Or.inr (Or.inr rfl) | (simp only [nrm, strm, by8] at * <;> omega) | (simp [upd4, cpy4, nrm, strm, by8] at * <;> omega)))
  · intro av σ K kx n pc L st σ' nc ns _ _ h
    exact (h : False).elim
def gt_BlockWriter_write (a : Nat) : Option Nat := match a with
  | _ => none
theorem go_BlockWriter_write : ∀ a v, gt_BlockWriter_write a = some v → StaOK R_BlockWriter a v := by
  intro a v h
  unfold gt_BlockWriter_write at h
  cases h
def pr_BlockWriter_write : List Ent := [(0, 5, 0, 0, 0), (1, 39, 18, 0, 0), (4, 5, 0, 0, 0), (5, 39, 12, 0, 0), (8, 46, 29, 0, 0), (11, 5, 0, 0, 0), (12, 0, 0, 0, 0), (13, 40, 25, 0, 0), (16, 5, 0, 0, 0), (17, 39, 18, 0, 0), (20, 46, 33, 0, 0), (23, 3, 2, 0, 0), (24, 1, 0, 10, 0), (26, 14, 0, 0, 0), (27, 32, 0, 0, 49), (30, 5, 0, 0, 0), (31, 39, 18, 0, 0), (34, 3, 2, 0, 0), (35, 1, 0, 10, 0), (37, 14, 0, 0, 0), (38, 46, 39, 0, 0), (41, 5, 0, 0, 0), (42, 1, 0, 32, 0), (44, 3, 2, 0, 0), (45, 12, 0, 0, 0), (46, 46, 43, 0, 0), (49, 0, 0, 0, 0), (50, 7, 3, 0, 0), (51, 3, 3, 0, 0), (52, 5, 1, 0, 0), (53, 46, 46, 0, 0), (56, 35, 0, 0, 79), (59, 5, 0, 0, 0), (60, 5, 1, 0, 0), (61, 3, 3, 0, 0), (62, 46, 51, 0, 0), (65, 5, 1, 0, 0), (66, 3, 3, 0, 0), (67, 46, 55, 0, 0), (70, 46, 58, 0, 0), (73, 11, 3, 1, 0), (76, 38, 0, 0, 51), (79, 49, 0, 0, 0)]
def sw_BlockWriter_write : List Swt := []
theorem dk_BlockWriter_write : ∀ q ∈ pr_BlockWriter_write, decode b_BlockWriter_write q.1 = .ok (dec sw_BlockWriter_write q) ∧ okE q = true := by decide +kernel
theorem nt_BlockWriter_write : ∀ q ∈ pr_BlockWriter_write, ¬ q.2.1 = 55 := by decide +kernel
def ct_BlockWriter_write (a : Nat) : Option (Nat × Nat × CSp × Nat × Nat) := match a with
  | 29 => some (2, 7, sp_Table_copyFrom, 0, 0)
  | 33 => some (1, 7, sp_Table_limit, 0, 0)
  | 39 => some (2, 7, sp_Table_changeLimit, 0, 0)
  | 43 => some (2, 2, sp_BlockWriter_put, 0, 0)
  | 46 => some (1, 4, sp_Fields_count, 0, 0)
  | 51 => some (2, 4, sp_Fields_nameAt, 0, 0)
  | 55 => some (2, 4, sp_Fields_valueAt, 0, 0)
  | 58 => some (3, 2, sp_BlockWriter_putField, 0, 0)
  | _ => none
theorem co_BlockWriter_write : ∀ a v, ct_BlockWriter_write a = some v → StcOK R_BlockWriter 4 95 a v := by
  intro a v h
  unfold ct_BlockWriter_write at h
  split at h
  · cases h; exact ⟨y_Table_copyFrom, b_Table_copyFrom, 2, none, 1, 26, 1, c_Table_copyFrom, by decide, by decide +kernel, by decide +kernel, by decide +kernel, Or.inl ⟨rfl, by decide, by decide +kernel, by decide +kernel, _, _, rfl, by decide +kernel⟩⟩
  · cases h; exact ⟨y_Table_limit, b_Table_limit, 1, (some .int), 0, 0, 0, c_Table_limit, by decide, by decide +kernel, by decide +kernel, by decide +kernel, Or.inl ⟨rfl, by decide, by decide +kernel, by decide +kernel, _, _, rfl, by decide +kernel⟩⟩
  · cases h; exact ⟨y_Table_changeLimit, b_Table_changeLimit, 2, none, 2, 48, 1, c_Table_changeLimit, by decide, by decide +kernel, by decide +kernel, by decide +kernel, Or.inl ⟨rfl, by decide, by decide +kernel, by decide +kernel, _, _, rfl, by decide +kernel⟩⟩
  · cases h; exact ⟨y_BlockWriter_put, b_BlockWriter_put, 2, none, 0, 0, 1, c_BlockWriter_put, by decide, by decide +kernel, by decide +kernel, by decide +kernel, Or.inl ⟨rfl, by decide, by decide +kernel, by decide +kernel, _, _, rfl, by decide +kernel⟩⟩
  · cases h; exact ⟨y_Fields_count, b_Fields_count, 1, (some .int), 0, 0, 0, c_Fields_count, by decide, by decide +kernel, by decide +kernel, by decide +kernel, Or.inl ⟨rfl, by decide, by decide +kernel, by decide +kernel, _, _, rfl, by decide +kernel⟩⟩
  · cases h; exact ⟨y_Fields_nameAt, b_Fields_nameAt, 2, (some .int), 0, 0, 1, c_Fields_nameAt, by decide, by decide +kernel, by decide +kernel, by decide +kernel, Or.inl ⟨rfl, by decide, by decide +kernel, by decide +kernel, _, _, rfl, by decide +kernel⟩⟩
  · cases h; exact ⟨y_Fields_valueAt, b_Fields_valueAt, 2, (some .int), 0, 0, 1, c_Fields_valueAt, by decide, by decide +kernel, by decide +kernel, by decide +kernel, Or.inl ⟨rfl, by decide, by decide +kernel, by decide +kernel, _, _, rfl, by decide +kernel⟩⟩
  · cases h; exact ⟨y_BlockWriter_putField, b_BlockWriter_putField, 5, none, 3, 71, 2, c_BlockWriter_putField, by decide, by decide +kernel, by decide +kernel, by decide +kernel, Or.inl ⟨rfl, by decide, by decide +kernel, by decide +kernel, _, _, rfl, by decide +kernel⟩⟩
  · cases h
/-- BlockWriter_write -/
def sp_BlockWriter_write : CSp := sRRI (fun q q1 x σ K _ => q.1 = 13 ∧ kF q1.1 ∧ (0 ≤ x ∧ x ≤ 60) ∧ IV σ ∧ ∀ σ', IV σ' → Un [13, 18, 19, 20, 21, 22] σ σ' → K none σ')
set_option maxHeartbeats 4000000 in
set_option maxRecDepth 100000 in
theorem c_BlockWriter_write : Ctr y_BlockWriter_write b_BlockWriter_write 4 none 4 95 0 0 sp_BlockWriter_write := by
  refine ctr_of (FT := ft_BlockWriter) (GT := gt_BlockWriter_write) (CT := ct_BlockWriter_write) (sw := sw_BlockWriter_write) (rt := 2) (pr := pr_BlockWriter_write) (by decide) [51] (fun av σ _ _ n pc L st σ' nc ns => ∃ e i k1 e1 i1 x j, av = [.inr (13, e, i), .inr (k1, e1, i1), .inl x] ∧ kF k1 ∧ pc = 51 ∧ L = [some (.inr (13, e, i)), some (.inr (k1, e1, i1)), some (.inl x), some (.inl j)] ∧ st = [] ∧ nc = 0 ∧ ns = 0 ∧ 0 ≤ j ∧ j ≤ 5 ∧ n = (5 - j).toNat ∧ IV σ' ∧ Un [13, 18, 19, 20, 21, 22] σ σ') 60 ⟨fun h => absurd h (by decide), fun h => absurd h (by decide), fun _ => rfl, fun h => absurd h (by decide)⟩ dk_BlockWriter_write fo_BlockWriter go_BlockWriter_write co_BlockWriter_write (fun a k h hk => by unfold gt_BlockWriter_write at h; cases h) (fun q hq h => absurd h (nt_BlockWriter_write q hq)) (fun av σ K kx h => by rw [sRRI_len h]; decide) ?_ ?_
  · intro av σ K kx hok hSp
    obtain ⟨q0, q1, x0, rfl, hp⟩ := sRRI_inv hSp
    obtain ⟨k0, e0, i0⟩ := q0
    obtain ⟨k1, e1, i1⟩ := q1
    obtain ⟨h0, h1, h2, hI, h4⟩ := hp
    dsimp only at h0; subst h0
    refine And.intro (Or.inr (Or.inl rfl)) (And.intro (Or.inl rfl) (And.intro hI (fun σ1 I1 U1 => ?_)))
    refine And.intro (Or.inr (Or.inl rfl)) ?_
    have I2 : IV (upd4 σ1 13 e0 i0 3 0) := IV_upd I1 (show (0 : Int) ≤ 0 ∧ (0 : Int) ≤ 76 by omega)
    have U2 : Un [13, 18, 19, 20, 21, 22] σ (upd4 σ1 13 e0 i0 3 0) := Un_upd rfl (Un_wk U1 rfl)
    refine And.intro (fun h => ?_) (fun h => ?_)
    · exact ⟨5, e0, i0, k1, e1, i1, x0, 0, rfl, h1, rfl, rfl, rfl, rfl, rfl, by omega, by omega, rfl, I2, U2⟩
    · refine And.intro (Or.inr (Or.inl rfl)) (And.intro I2 (fun σ3 I3 U3 => ?_))
      refine And.intro rfl (And.intro I3 (And.intro (by unfold by8; omega) (fun σ4 I4 U4 => ?_)))
      exact ⟨5, e0, i0, k1, e1, i1, x0, 0, rfl, h1, rfl, rfl, rfl, rfl, rfl, by omega, by omega, rfl, I4, Un_tr (Un_tr U2 U3 rfl) U4 rfl⟩
  · intro av σ K kx n pc L st σ' nc ns hok hSp hJ
    obtain ⟨e, i, k1, e1, i1, x, j, rfl, hk1, rfl, rfl, rfl, rfl, rfl, h0, h6, hn, hI, hU⟩ := hJ
    obtain ⟨-, -, -, -, hf⟩ : (13 : Nat) = 13 ∧ kF k1 ∧ (0 ≤ x ∧ x ≤ 60) ∧ IV σ ∧ ∀ σ', IV σ' → Un [13, 18, 19, 20, 21, 22] σ σ' → K none σ' := hSp
    have c1 := IV_F hI hk1 e1 i1
    have hk2 := hk1
    rcases hk1 with hk1 | hk1 | hk1
    all_goals subst hk1
    all_goals
      refine And.intro hk2 (And.intro (fun h => ?_) (fun h => ?_))
      · exact hf _ hI hU
      · refine And.intro hk2 (And.intro hI (fun r1 => And.intro hk2 (And.intro hI (fun r2 => And.intro rfl (And.intro hI (fun σ1 I1 U1 => ?_))))))
        refine ⟨(5 - (j + 1)).toNat, ?_, e, i, _, e1, i1, x, j + 1, rfl, hk2, rfl, rfl, rfl, rfl, rfl, ?_, ?_, rfl, I1, Un_tr hU U1 rfl⟩ <;> (simp only [nrm] at * <;> omega)
def gt_BlockWriter_keep (a : Nat) : Option Nat := match a with
  | _ => none
theorem go_BlockWriter_keep : ∀ a v, gt_BlockWriter_keep a = some v → StaOK R_BlockWriter a v := by
  intro a v h
  unfold gt_BlockWriter_keep at h
  cases h
def pr_BlockWriter_keep : List Ent := [(0, 5, 0, 0, 0), (1, 39, 12, 0, 0), (4, 5, 0, 0, 0), (5, 39, 18, 0, 0), (8, 46, 29, 0, 0), (11, 49, 0, 0, 0)]
def sw_BlockWriter_keep : List Swt := []
theorem dk_BlockWriter_keep : ∀ q ∈ pr_BlockWriter_keep, decode b_BlockWriter_keep q.1 = .ok (dec sw_BlockWriter_keep q) ∧ okE q = true := by decide +kernel
theorem nt_BlockWriter_keep : ∀ q ∈ pr_BlockWriter_keep, ¬ q.2.1 = 55 := by decide +kernel
def ct_BlockWriter_keep (a : Nat) : Option (Nat × Nat × CSp × Nat × Nat) := match a with
  | 29 => some (2, 7, sp_Table_copyFrom, 0, 0)
  | _ => none
theorem co_BlockWriter_keep : ∀ a v, ct_BlockWriter_keep a = some v → StcOK R_BlockWriter 2 47 a v := by
  intro a v h
  unfold ct_BlockWriter_keep at h
  split at h
  · cases h; exact ⟨y_Table_copyFrom, b_Table_copyFrom, 2, none, 1, 26, 1, c_Table_copyFrom, by decide, by decide +kernel, by decide +kernel, by decide +kernel, Or.inl ⟨rfl, by decide, by decide +kernel, by decide +kernel, _, _, rfl, by decide +kernel⟩⟩
  · cases h
/-- BlockWriter_keep -/
def sp_BlockWriter_keep : CSp := sR (fun q σ K _ => q.1 = 13 ∧ IV σ ∧ ∀ σ', IV σ' → Un [14, 15, 16, 17] σ σ' → K none σ')
set_option maxHeartbeats 4000000 in
set_option maxRecDepth 100000 in
theorem c_BlockWriter_keep : Ctr y_BlockWriter_keep b_BlockWriter_keep 1 none 2 47 0 0 sp_BlockWriter_keep := by
  refine ctr_of (FT := ft_BlockWriter) (GT := gt_BlockWriter_keep) (CT := ct_BlockWriter_keep) (sw := sw_BlockWriter_keep) (rt := 2) (pr := pr_BlockWriter_keep) (by decide) [] (fun _ _ _ _ _ _ _ _ _ _ _ => False) 20 ⟨fun h => absurd h (by decide), fun h => absurd h (by decide), fun _ => rfl, fun h => absurd h (by decide)⟩ dk_BlockWriter_keep fo_BlockWriter go_BlockWriter_keep co_BlockWriter_keep (fun a k h hk => by unfold gt_BlockWriter_keep at h; cases h) (fun q hq h => absurd h (nt_BlockWriter_keep q hq)) (fun av σ K kx h => by rw [sR_len h]; decide) ?_ ?_
  · intro av σ K kx hok hSp
    obtain ⟨q0, rfl, hp⟩ := sR_inv hSp
    obtain ⟨k0, e0, i0⟩ := q0
    obtain ⟨h0, hI, h2⟩ := hp
    dsimp only at h0; subst h0
    all_goals (repeat' (first | (with_reducible assumption) | (with_reducible refine IV_upd ?_ ?_) | (with_reducible refine IV_cpy ?_ (fun _ _ _ _ => trivial)) | (refine And.intro ?_ ?_) | (intro _)))
    all_goals first | (first | rfl | decide | exact Or.inl rfl | exact Or.inr (Or.inl rfl) | exact Or.inr (Or.inr rfl) | (simp only [nrm, strm, by8] at * <;> omega) | (simp [upd4, cpy4, nrm, strm, by8] at * <;> omega)) | (exact h2) | (refine h2 _ ?_ ?_ <;> (repeat' (first | assumption | exact trivial | exact Un_rf | (apply by8_4; assumption) | (apply by8_9; assumption) | (apply by8_22; assumption) | (apply by8_g; assumption) | (refine by8_13 ?_) | (apply rg_34; assumption) | (refine ixr_by8 ?_ ?_) | (refine IV_upd ?_ ?_) | (refine Un_upd rfl ?_) | (refine IV_cpy ?_ (fun _ _ _ _ => trivial)) | (refine Un_cpy rfl ?_) | (apply Un_tr; rotate_left; assumption; rfl) | (refine And.intro ?_ ?_))) <;> (first | rfl | decide | exact Or.inl rfl | exact Or.inr (Or.inl rfl) | exact Or.inr (Or.inr rfl) | (simp only [nrm, strm, by8] at * <;> omega) | (simp [upd4, cpy4, nrm, strm, by8] at * <;> omega))) | (apply h2 <;> (repeat' (first | assumption | exact trivial | exact Un_rf | (apply by8_4; assumption) | (apply by8_9; assumption) | (apply by8_22; assumption) | (apply by8_g; assumption) | (refine by8_13 ?_) | (apply rg_34; assumption) | (refine ixr_by8 ?_ ?_) | (refine IV_upd ?_ ?_) | (refine Un_upd rfl ?_) | (refine IV_cpy ?_ (fun _ _ _ _ => trivial)) | (refine Un_cpy rfl ?_) | (apply Un_tr; rotate_left; assumption; rfl) | (refine And.intro ?_ ?_))) <;> (first | rfl | decide | exact Or.inl rfl | exact Or.inr (Or.inl rfl) | exact Or.inr (Or.inr rfl) | (simp only [nrm, strm, by8] at * <;> omega) | (simp [upd4, cpy4, nrm, strm, by8] at * <;> omega))) | ((repeat' (first | assumption | exact trivial | exact Un_rf | (apply by8_4; assumption) | (apply by8_9; assumption) | (apply by8_22; assumption) | (apply by8_g; assumption) | (refine by8_13 ?_) | (apply rg_34; assumption) | (refine ixr_by8 ?_ ?_) | (refine IV_upd ?_ ?_) | (refine Un_upd rfl ?_) | (refine IV_cpy ?_ (fun _ _ _ _ => trivial)) | (refine Un_cpy rfl ?_) | (apply Un_tr; rotate_left; assumption; rfl) | (refine And.intro ?_ ?_))) <;> (first | rfl | decide | exact Or.inl rfl | exact Or.inr (Or.inl rfl) | exact Or.inr (Or.inr rfl) | (simp only [nrm, strm, by8] at * <;> omega) | (simp [upd4, cpy4, nrm, strm, by8] at * <;> omega)))
  · intro av σ K kx n pc L st σ' nc ns _ _ h
    exact (h : False).elim
