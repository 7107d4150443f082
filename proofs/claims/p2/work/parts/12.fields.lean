theorem IV_T {σ : Sg} (hI : IV σ) {k : Nat} (hk : kT k) (e i : Nat) : 0 ≤ σ k e i 3 ∧ σ k e i 3 ≤ 8 := by
  rcases hk with h | h | h <;> subst h
  · exact hI 14 e i 3
  · exact hI 18 e i 3
  · exact hI 24 e i 3
theorem IV_F {σ : Sg} (hI : IV σ) {k : Nat} (hk : kF k) (e i : Nat) : 0 ≤ σ k e i 2 ∧ σ k e i 2 ≤ 5 := by
  rcases hk with h | h | h <;> subst h
  · exact hI 10 e i 2
  · exact hI 28 e i 2
  · exact hI 35 e i 2
def ft_Fields (a : Nat) : Option (Nat × Nat × Nat) := match a with
  | 9 => some (4, 0, 2)
  | 15 => some (4, 1, 2)
  | 18 => some (4, 2, 0)
  | _ => none
theorem fo_Fields : ∀ a v, ft_Fields a = some v → FldOK R_Fields a v := by
  intro a v h
  unfold ft_Fields at h
  split at h
  · cases h; exact fl_Fields _ _ _ _ (by decide) (by decide +kernel) (by decide)
  · cases h; exact fl_Fields _ _ _ _ (by decide) (by decide +kernel) (by decide)
  · cases h; exact fl_Fields _ _ _ _ (by decide) (by decide +kernel) (by decide)
  · cases h
def gt_Fields_count (a : Nat) : Option Nat := match a with
  | _ => none
theorem go_Fields_count : ∀ a v, gt_Fields_count a = some v → StaOK R_Fields a v := by
  intro a v h
  unfold gt_Fields_count at h
  cases h
def pr_Fields_count : List Ent := [(0, 5, 0, 0, 0), (1, 39, 18, 0, 0), (4, 48, 0, 0, 0)]
def sw_Fields_count : List Swt := []
theorem dk_Fields_count : ∀ q ∈ pr_Fields_count, decode b_Fields_count q.1 = .ok (dec sw_Fields_count q) ∧ okE q = true := by decide +kernel
theorem nt_Fields_count : ∀ q ∈ pr_Fields_count, ¬ q.2.1 = 55 := by decide +kernel
def ct_Fields_count (a : Nat) : Option (Nat × Nat × CSp × Nat × Nat) := match a with
  | _ => none
theorem co_Fields_count : ∀ a v, ct_Fields_count a = some v → StcOK R_Fields 0 0 a v := by
  intro a v h
  unfold ct_Fields_count at h
  cases h
/-- Fields_count -/
def sp_Fields_count : CSp := sR (fun q σ K _ => kF q.1 ∧ K (some (.inl (σ q.1 q.2.1 q.2.2 2))) σ)
set_option maxHeartbeats 4000000 in
set_option maxRecDepth 100000 in
theorem c_Fields_count : Ctr y_Fields_count b_Fields_count 1 (some .int) 0 0 0 0 sp_Fields_count := by
  refine ctr_of (FT := ft_Fields) (GT := gt_Fields_count) (CT := ct_Fields_count) (sw := sw_Fields_count) (rt := 0) (pr := pr_Fields_count) (by decide) [] (fun _ _ _ _ _ _ _ _ _ _ _ => False) 20 ⟨fun _ => rfl, fun h => absurd h (by decide), fun h => absurd h (by decide), fun h => absurd h (by decide)⟩ dk_Fields_count fo_Fields go_Fields_count co_Fields_count (fun a k h hk => by unfold gt_Fields_count at h; cases h) (fun q hq h => absurd h (nt_Fields_count q hq)) (fun av σ K kx h => by rw [sR_len h]; decide) ?_ ?_
  · intro av σ K kx hok hSp
    obtain ⟨q0, rfl, hp⟩ := sR_inv hSp
    obtain ⟨k0, e0, i0⟩ := q0
    obtain ⟨h0, h1⟩ := hp
    all_goals (rcases h0 with h0 | h0 | h0)
    all_goals (dsimp only at h0; subst h0)
    all_goals (repeat' (first | (with_reducible assumption) | (with_reducible refine IV_upd ?_ ?_) | (with_reducible refine IV_cpy ?_ (fun _ _ _ _ => trivial)) | (refine And.intro ?_ ?_) | (intro _)))
    all_goals first | (first | rfl | decide | (simp only [nrm, strm, by8] at * <;> omega) | (simp [upd4, cpy4, nrm, strm, by8] at * <;> omega)) | (exact h1 (by first | assumption | (first | rfl | decide | (simp only [nrm, strm, by8] at * <;> omega) | (simp [upd4, cpy4, nrm, strm, by8] at * <;> omega)))) | (exact h1) | (refine h1 _ ?_ ?_ <;> (repeat' (first | assumption | exact trivial | exact Un_rf | exact hI 4 _ _ _ | exact hI 9 _ _ _ | exact hI 22 _ _ _ | (refine ixr_by8 ?_ ?_) | (refine IV_upd ?_ ?_) | (refine Un_upd rfl ?_) | (refine IV_cpy ?_ (fun _ _ _ _ => trivial)) | (refine Un_cpy rfl ?_) | (apply Un_tr; rotate_left; assumption; rfl) | (refine And.intro ?_ ?_))) <;> (first | rfl | decide | (simp only [nrm, strm, by8] at * <;> omega) | (simp [upd4, cpy4, nrm, strm, by8] at * <;> omega))) | (apply h1 <;> (repeat' (first | assumption | exact trivial | exact Un_rf | exact hI 4 _ _ _ | exact hI 9 _ _ _ | exact hI 22 _ _ _ | (refine ixr_by8 ?_ ?_) | (refine IV_upd ?_ ?_) | (refine Un_upd rfl ?_) | (refine IV_cpy ?_ (fun _ _ _ _ => trivial)) | (refine Un_cpy rfl ?_) | (apply Un_tr; rotate_left; assumption; rfl) | (refine And.intro ?_ ?_))) <;> (first | rfl | decide | (simp only [nrm, strm, by8] at * <;> omega) | (simp [upd4, cpy4, nrm, strm, by8] at * <;> omega))) | ((repeat' (first | assumption | exact trivial | exact Un_rf | exact hI 4 _ _ _ | exact hI 9 _ _ _ | exact hI 22 _ _ _ | (refine ixr_by8 ?_ ?_) | (refine IV_upd ?_ ?_) | (refine Un_upd rfl ?_) | (refine IV_cpy ?_ (fun _ _ _ _ => trivial)) | (refine Un_cpy rfl ?_) | (apply Un_tr; rotate_left; assumption; rfl) | (refine And.intro ?_ ?_))) <;> (first | rfl | decide | (simp only [nrm, strm, by8] at * <;> omega) | (simp [upd4, cpy4, nrm, strm, by8] at * <;> omega)))
  · intro av σ K kx n pc L st σ' nc ns _ _ h
    exact (h : False).elim
def gt_Fields_clear (a : Nat) : Option Nat := match a with
  | _ => none
theorem go_Fields_clear : ∀ a v, gt_Fields_clear a = some v → StaOK R_Fields a v := by
  intro a v h
  unfold gt_Fields_clear at h
  cases h
def pr_Fields_clear : List Ent := [(0, 5, 0, 0, 0), (1, 0, 0, 0, 0), (2, 40, 18, 0, 0), (5, 49, 0, 0, 0)]
def sw_Fields_clear : List Swt := []
theorem dk_Fields_clear : ∀ q ∈ pr_Fields_clear, decode b_Fields_clear q.1 = .ok (dec sw_Fields_clear q) ∧ okE q = true := by decide +kernel
theorem nt_Fields_clear : ∀ q ∈ pr_Fields_clear, ¬ q.2.1 = 55 := by decide +kernel
def ct_Fields_clear (a : Nat) : Option (Nat × Nat × CSp × Nat × Nat) := match a with
  | _ => none
theorem co_Fields_clear : ∀ a v, ct_Fields_clear a = some v → StcOK R_Fields 0 0 a v := by
  intro a v h
  unfold ct_Fields_clear at h
  cases h
/-- Fields_clear -/
def sp_Fields_clear : CSp := sR (fun q σ K _ => kF q.1 ∧ IV σ ∧ ∀ σ', IV σ' → Un [q.1] σ σ' → K none σ')
set_option maxHeartbeats 4000000 in
set_option maxRecDepth 100000 in
theorem c_Fields_clear : Ctr y_Fields_clear b_Fields_clear 1 none 0 0 0 0 sp_Fields_clear := by
  refine ctr_of (FT := ft_Fields) (GT := gt_Fields_clear) (CT := ct_Fields_clear) (sw := sw_Fields_clear) (rt := 2) (pr := pr_Fields_clear) (by decide) [] (fun _ _ _ _ _ _ _ _ _ _ _ => False) 20 ⟨fun h => absurd h (by decide), fun h => absurd h (by decide), fun _ => rfl, fun h => absurd h (by decide)⟩ dk_Fields_clear fo_Fields go_Fields_clear co_Fields_clear (fun a k h hk => by unfold gt_Fields_clear at h; cases h) (fun q hq h => absurd h (nt_Fields_clear q hq)) (fun av σ K kx h => by rw [sR_len h]; decide) ?_ ?_
  · intro av σ K kx hok hSp
    obtain ⟨q0, rfl, hp⟩ := sR_inv hSp
    obtain ⟨k0, e0, i0⟩ := q0
    obtain ⟨h0, hI, h2⟩ := hp
    all_goals (rcases h0 with h0 | h0 | h0)
    all_goals (dsimp only at h0; subst h0)
    all_goals (repeat' (first | (with_reducible assumption) | (with_reducible refine IV_upd ?_ ?_) | (with_reducible refine IV_cpy ?_ (fun _ _ _ _ => trivial)) | (refine And.intro ?_ ?_) | (intro _)))
    all_goals first | (first | rfl | decide | (simp only [nrm, strm, by8] at * <;> omega) | (simp [upd4, cpy4, nrm, strm, by8] at * <;> omega)) | (exact h2) | (refine h2 _ ?_ ?_ <;> (repeat' (first | assumption | exact trivial | exact Un_rf | exact hI 4 _ _ _ | exact hI 9 _ _ _ | exact hI 22 _ _ _ | (refine ixr_by8 ?_ ?_) | (refine IV_upd ?_ ?_) | (refine Un_upd rfl ?_) | (refine IV_cpy ?_ (fun _ _ _ _ => trivial)) | (refine Un_cpy rfl ?_) | (apply Un_tr; rotate_left; assumption; rfl) | (refine And.intro ?_ ?_))) <;> (first | rfl | decide | (simp only [nrm, strm, by8] at * <;> omega) | (simp [upd4, cpy4, nrm, strm, by8] at * <;> omega))) | (apply h2 <;> (repeat' (first | assumption | exact trivial | exact Un_rf | exact hI 4 _ _ _ | exact hI 9 _ _ _ | exact hI 22 _ _ _ | (refine ixr_by8 ?_ ?_) | (refine IV_upd ?_ ?_) | (refine Un_upd rfl ?_) | (refine IV_cpy ?_ (fun _ _ _ _ => trivial)) | (refine Un_cpy rfl ?_) | (apply Un_tr; rotate_left; assumption; rfl) | (refine And.intro ?_ ?_))) <;> (first | rfl | decide | (simp only [nrm, strm, by8] at * <;> omega) | (simp [upd4, cpy4, nrm, strm, by8] at * <;> omega))) | ((repeat' (first | assumption | exact trivial | exact Un_rf | exact hI 4 _ _ _ | exact hI 9 _ _ _ | exact hI 22 _ _ _ | (refine ixr_by8 ?_ ?_) | (refine IV_upd ?_ ?_) | (refine Un_upd rfl ?_) | (refine IV_cpy ?_ (fun _ _ _ _ => trivial)) | (refine Un_cpy rfl ?_) | (apply Un_tr; rotate_left; assumption; rfl) | (refine And.intro ?_ ?_))) <;> (first | rfl | decide | (simp only [nrm, strm, by8] at * <;> omega) | (simp [upd4, cpy4, nrm, strm, by8] at * <;> omega)))
  · intro av σ K kx n pc L st σ' nc ns _ _ h
    exact (h : False).elim
def gt_Fields_add (a : Nat) : Option Nat := match a with
  | _ => none
theorem go_Fields_add : ∀ a v, gt_Fields_add a = some v → StaOK R_Fields a v := by
  intro a v h
  unfold gt_Fields_add at h
  cases h
def pr_Fields_add : List Ent := [(0, 5, 0, 0, 0), (1, 39, 18, 0, 0), (4, 0, 0, 5, 0), (5, 35, 0, 0, 38), (8, 5, 0, 0, 0), (9, 39, 9, 0, 0), (12, 5, 0, 0, 0), (13, 39, 18, 0, 0), (16, 3, 1, 0, 0), (17, 42, 0, 0, 0), (18, 5, 0, 0, 0), (19, 39, 15, 0, 0), (22, 5, 0, 0, 0), (23, 39, 18, 0, 0), (26, 3, 2, 0, 0), (27, 42, 0, 0, 0), (28, 5, 0, 0, 0), (29, 23, 0, 0, 0), (30, 39, 18, 0, 0), (33, 0, 0, 1, 0), (34, 12, 0, 0, 0), (35, 40, 18, 0, 0), (38, 49, 0, 0, 0)]
def sw_Fields_add : List Swt := []
theorem dk_Fields_add : ∀ q ∈ pr_Fields_add, decode b_Fields_add q.1 = .ok (dec sw_Fields_add q) ∧ okE q = true := by decide +kernel
theorem nt_Fields_add : ∀ q ∈ pr_Fields_add, ¬ q.2.1 = 55 := by decide +kernel
def ct_Fields_add (a : Nat) : Option (Nat × Nat × CSp × Nat × Nat) := match a with
  | _ => none
theorem co_Fields_add : ∀ a v, ct_Fields_add a = some v → StcOK R_Fields 0 0 a v := by
  intro a v h
  unfold ct_Fields_add at h
  cases h
/-- Fields_add -/
def sp_Fields_add : CSp := sRII (fun q x0 x1 σ K _ => kF q.1 ∧ IV σ ∧ ∀ σ', IV σ' → Un [q.1, q.1 + 1, q.1 + 2] σ σ' → K none σ')
set_option maxHeartbeats 4000000 in
set_option maxRecDepth 100000 in
theorem c_Fields_add : Ctr y_Fields_add b_Fields_add 3 none 0 0 0 0 sp_Fields_add := by
  refine ctr_of (FT := ft_Fields) (GT := gt_Fields_add) (CT := ct_Fields_add) (sw := sw_Fields_add) (rt := 2) (pr := pr_Fields_add) (by decide) [] (fun _ _ _ _ _ _ _ _ _ _ _ => False) 40 ⟨fun h => absurd h (by decide), fun h => absurd h (by decide), fun _ => rfl, fun h => absurd h (by decide)⟩ dk_Fields_add fo_Fields go_Fields_add co_Fields_add (fun a k h hk => by unfold gt_Fields_add at h; cases h) (fun q hq h => absurd h (nt_Fields_add q hq)) (fun av σ K kx h => by rw [sRII_len h]; decide) ?_ ?_
  · intro av σ K kx hok hSp
    obtain ⟨q0, x0, x1, rfl, hp⟩ := sRII_inv hSp
    obtain ⟨k0, e0, i0⟩ := q0
    obtain ⟨h0, hI, h2⟩ := hp
    have i1 := IV_F hI h0 e0 i0
    all_goals (rcases h0 with h0 | h0 | h0)
    all_goals (dsimp only at h0; subst h0)
    all_goals (repeat' (first | (with_reducible assumption) | (with_reducible refine IV_upd ?_ ?_) | (with_reducible refine IV_cpy ?_ (fun _ _ _ _ => trivial)) | (refine And.intro ?_ ?_) | (intro _)))
    all_goals first | (first | rfl | decide | (simp only [nrm, strm, by8] at * <;> omega) | (simp [upd4, cpy4, nrm, strm, by8] at * <;> omega)) | (exact h2) | (refine h2 _ ?_ ?_ <;> (repeat' (first | assumption | exact trivial | exact Un_rf | exact hI 4 _ _ _ | exact hI 9 _ _ _ | exact hI 22 _ _ _ | (refine ixr_by8 ?_ ?_) | (refine IV_upd ?_ ?_) | (refine Un_upd rfl ?_) | (refine IV_cpy ?_ (fun _ _ _ _ => trivial)) | (refine Un_cpy rfl ?_) | (apply Un_tr; rotate_left; assumption; rfl) | (refine And.intro ?_ ?_))) <;> (first | rfl | decide | (simp only [nrm, strm, by8] at * <;> omega) | (simp [upd4, cpy4, nrm, strm, by8] at * <;> omega))) | (apply h2 <;> (repeat' (first | assumption | exact trivial | exact Un_rf | exact hI 4 _ _ _ | exact hI 9 _ _ _ | exact hI 22 _ _ _ | (refine ixr_by8 ?_ ?_) | (refine IV_upd ?_ ?_) | (refine Un_upd rfl ?_) | (refine IV_cpy ?_ (fun _ _ _ _ => trivial)) | (refine Un_cpy rfl ?_) | (apply Un_tr; rotate_left; assumption; rfl) | (refine And.intro ?_ ?_))) <;> (first | rfl | decide | (simp only [nrm, strm, by8] at * <;> omega) | (simp [upd4, cpy4, nrm, strm, by8] at * <;> omega))) | ((repeat' (first | assumption | exact trivial | exact Un_rf | exact hI 4 _ _ _ | exact hI 9 _ _ _ | exact hI 22 _ _ _ | (refine ixr_by8 ?_ ?_) | (refine IV_upd ?_ ?_) | (refine Un_upd rfl ?_) | (refine IV_cpy ?_ (fun _ _ _ _ => trivial)) | (refine Un_cpy rfl ?_) | (apply Un_tr; rotate_left; assumption; rfl) | (refine And.intro ?_ ?_))) <;> (first | rfl | decide | (simp only [nrm, strm, by8] at * <;> omega) | (simp [upd4, cpy4, nrm, strm, by8] at * <;> omega)))
  · intro av σ K kx n pc L st σ' nc ns _ _ h
    exact (h : False).elim
def gt_Fields_nameAt (a : Nat) : Option Nat := match a with
  | _ => none
theorem go_Fields_nameAt : ∀ a v, gt_Fields_nameAt a = some v → StaOK R_Fields a v := by
  intro a v h
  unfold gt_Fields_nameAt at h
  cases h
def pr_Fields_nameAt : List Ent := [(0, 3, 1, 0, 0), (1, 28, 0, 0, 21), (4, 3, 1, 0, 0), (5, 5, 0, 0, 0), (6, 39, 18, 0, 0), (9, 35, 0, 0, 21), (12, 5, 0, 0, 0), (13, 39, 9, 0, 0), (16, 3, 1, 0, 0), (17, 41, 0, 0, 0), (18, 38, 0, 0, 22), (21, 0, 0, 0, 0), (22, 48, 0, 0, 0)]
def sw_Fields_nameAt : List Swt := []
theorem dk_Fields_nameAt : ∀ q ∈ pr_Fields_nameAt, decode b_Fields_nameAt q.1 = .ok (dec sw_Fields_nameAt q) ∧ okE q = true := by decide +kernel
theorem nt_Fields_nameAt : ∀ q ∈ pr_Fields_nameAt, ¬ q.2.1 = 55 := by decide +kernel
def ct_Fields_nameAt (a : Nat) : Option (Nat × Nat × CSp × Nat × Nat) := match a with
  | _ => none
theorem co_Fields_nameAt : ∀ a v, ct_Fields_nameAt a = some v → StcOK R_Fields 0 0 a v := by
  intro a v h
  unfold ct_Fields_nameAt at h
  cases h
/-- Fields_nameAt -/
def sp_Fields_nameAt : CSp := sRI (fun q x σ K _ => kF q.1 ∧ IV σ ∧ ∀ r, K (some (.inl r)) σ)
set_option maxHeartbeats 4000000 in
set_option maxRecDepth 100000 in
theorem c_Fields_nameAt : Ctr y_Fields_nameAt b_Fields_nameAt 2 (some .int) 0 0 0 0 sp_Fields_nameAt := by
  refine ctr_of (FT := ft_Fields) (GT := gt_Fields_nameAt) (CT := ct_Fields_nameAt) (sw := sw_Fields_nameAt) (rt := 0) (pr := pr_Fields_nameAt) (by decide) [] (fun _ _ _ _ _ _ _ _ _ _ _ => False) 30 ⟨fun _ => rfl, fun h => absurd h (by decide), fun h => absurd h (by decide), fun h => absurd h (by decide)⟩ dk_Fields_nameAt fo_Fields go_Fields_nameAt co_Fields_nameAt (fun a k h hk => by unfold gt_Fields_nameAt at h; cases h) (fun q hq h => absurd h (nt_Fields_nameAt q hq)) (fun av σ K kx h => by rw [sRI_len h]; decide) ?_ ?_
  · intro av σ K kx hok hSp
    obtain ⟨q0, x0, rfl, hp⟩ := sRI_inv hSp
    obtain ⟨k0, e0, i0⟩ := q0
    obtain ⟨h0, hI, h2⟩ := hp
    have i1 := IV_F hI h0 e0 i0
    all_goals (rcases h0 with h0 | h0 | h0)
    all_goals (dsimp only at h0; subst h0)
    all_goals (repeat' (first | (with_reducible assumption) | (with_reducible refine IV_upd ?_ ?_) | (with_reducible refine IV_cpy ?_ (fun _ _ _ _ => trivial)) | (refine And.intro ?_ ?_) | (intro _)))
    all_goals first | (first | rfl | decide | (simp only [nrm, strm, by8] at * <;> omega) | (simp [upd4, cpy4, nrm, strm, by8] at * <;> omega)) | (exact h2) | (refine h2 _ ?_ ?_ <;> (repeat' (first | assumption | exact trivial | exact Un_rf | exact hI 4 _ _ _ | exact hI 9 _ _ _ | exact hI 22 _ _ _ | (refine ixr_by8 ?_ ?_) | (refine IV_upd ?_ ?_) | (refine Un_upd rfl ?_) | (refine IV_cpy ?_ (fun _ _ _ _ => trivial)) | (refine Un_cpy rfl ?_) | (apply Un_tr; rotate_left; assumption; rfl) | (refine And.intro ?_ ?_))) <;> (first | rfl | decide | (simp only [nrm, strm, by8] at * <;> omega) | (simp [upd4, cpy4, nrm, strm, by8] at * <;> omega))) | (apply h2 <;> (repeat' (first | assumption | exact trivial | exact Un_rf | exact hI 4 _ _ _ | exact hI 9 _ _ _ | exact hI 22 _ _ _ | (refine ixr_by8 ?_ ?_) | (refine IV_upd ?_ ?_) | (refine Un_upd rfl ?_) | (refine IV_cpy ?_ (fun _ _ _ _ => trivial)) | (refine Un_cpy rfl ?_) | (apply Un_tr; rotate_left; assumption; rfl) | (refine And.intro ?_ ?_))) <;> (first | rfl | decide | (simp only [nrm, strm, by8] at * <;> omega) | (simp [upd4, cpy4, nrm, strm, by8] at * <;> omega))) | ((repeat' (first | assumption | exact trivial | exact Un_rf | exact hI 4 _ _ _ | exact hI 9 _ _ _ | exact hI 22 _ _ _ | (refine ixr_by8 ?_ ?_) | (refine IV_upd ?_ ?_) | (refine Un_upd rfl ?_) | (refine IV_cpy ?_ (fun _ _ _ _ => trivial)) | (refine Un_cpy rfl ?_) | (apply Un_tr; rotate_left; assumption; rfl) | (refine And.intro ?_ ?_))) <;> (first | rfl | decide | (simp only [nrm, strm, by8] at * <;> omega) | (simp [upd4, cpy4, nrm, strm, by8] at * <;> omega)))
  · intro av σ K kx n pc L st σ' nc ns _ _ h
    exact (h : False).elim
def gt_Fields_valueAt (a : Nat) : Option Nat := match a with
  | _ => none
theorem go_Fields_valueAt : ∀ a v, gt_Fields_valueAt a = some v → StaOK R_Fields a v := by
  intro a v h
  unfold gt_Fields_valueAt at h
  cases h
def pr_Fields_valueAt : List Ent := [(0, 3, 1, 0, 0), (1, 28, 0, 0, 21), (4, 3, 1, 0, 0), (5, 5, 0, 0, 0), (6, 39, 18, 0, 0), (9, 35, 0, 0, 21), (12, 5, 0, 0, 0), (13, 39, 15, 0, 0), (16, 3, 1, 0, 0), (17, 41, 0, 0, 0), (18, 38, 0, 0, 22), (21, 0, 0, 0, 0), (22, 48, 0, 0, 0)]
def sw_Fields_valueAt : List Swt := []
theorem dk_Fields_valueAt : ∀ q ∈ pr_Fields_valueAt, decode b_Fields_valueAt q.1 = .ok (dec sw_Fields_valueAt q) ∧ okE q = true := by decide +kernel
theorem nt_Fields_valueAt : ∀ q ∈ pr_Fields_valueAt, ¬ q.2.1 = 55 := by decide +kernel
def ct_Fields_valueAt (a : Nat) : Option (Nat × Nat × CSp × Nat × Nat) := match a with
  | _ => none
theorem co_Fields_valueAt : ∀ a v, ct_Fields_valueAt a = some v → StcOK R_Fields 0 0 a v := by
  intro a v h
  unfold ct_Fields_valueAt at h
  cases h
/-- Fields_valueAt -/
def sp_Fields_valueAt : CSp := sRI (fun q x σ K _ => kF q.1 ∧ IV σ ∧ ∀ r, K (some (.inl r)) σ)
set_option maxHeartbeats 4000000 in
set_option maxRecDepth 100000 in
theorem c_Fields_valueAt : Ctr y_Fields_valueAt b_Fields_valueAt 2 (some .int) 0 0 0 0 sp_Fields_valueAt := by
  refine ctr_of (FT := ft_Fields) (GT := gt_Fields_valueAt) (CT := ct_Fields_valueAt) (sw := sw_Fields_valueAt) (rt := 0) (pr := pr_Fields_valueAt) (by decide) [] (fun _ _ _ _ _ _ _ _ _ _ _ => False) 30 ⟨fun _ => rfl, fun h => absurd h (by decide), fun h => absurd h (by decide), fun h => absurd h (by decide)⟩ dk_Fields_valueAt fo_Fields go_Fields_valueAt co_Fields_valueAt (fun a k h hk => by unfold gt_Fields_valueAt at h; cases h) (fun q hq h => absurd h (nt_Fields_valueAt q hq)) (fun av σ K kx h => by rw [sRI_len h]; decide) ?_ ?_
  · intro av σ K kx hok hSp
    obtain ⟨q0, x0, rfl, hp⟩ := sRI_inv hSp
    obtain ⟨k0, e0, i0⟩ := q0
    obtain ⟨h0, hI, h2⟩ := hp
    have i1 := IV_F hI h0 e0 i0
    all_goals (rcases h0 with h0 | h0 | h0)
    all_goals (dsimp only at h0; subst h0)
    all_goals (repeat' (first | (with_reducible assumption) | (with_reducible refine IV_upd ?_ ?_) | (with_reducible refine IV_cpy ?_ (fun _ _ _ _ => trivial)) | (refine And.intro ?_ ?_) | (intro _)))
    all_goals first | (first | rfl | decide | (simp only [nrm, strm, by8] at * <;> omega) | (simp [upd4, cpy4, nrm, strm, by8] at * <;> omega)) | (exact h2) | (refine h2 _ ?_ ?_ <;> (repeat' (first | assumption | exact trivial | exact Un_rf | exact hI 4 _ _ _ | exact hI 9 _ _ _ | exact hI 22 _ _ _ | (refine ixr_by8 ?_ ?_) | (refine IV_upd ?_ ?_) | (refine Un_upd rfl ?_) | (refine IV_cpy ?_ (fun _ _ _ _ => trivial)) | (refine Un_cpy rfl ?_) | (apply Un_tr; rotate_left; assumption; rfl) | (refine And.intro ?_ ?_))) <;> (first | rfl | decide | (simp only [nrm, strm, by8] at * <;> omega) | (simp [upd4, cpy4, nrm, strm, by8] at * <;> omega))) | (apply h2 <;> (repeat' (first | assumption | exact trivial | exact Un_rf | exact hI 4 _ _ _ | exact hI 9 _ _ _ | exact hI 22 _ _ _ | (refine ixr_by8 ?_ ?_) | (refine IV_upd ?_ ?_) | (refine Un_upd rfl ?_) | (refine IV_cpy ?_ (fun _ _ _ _ => trivial)) | (refine Un_cpy rfl ?_) | (apply Un_tr; rotate_left; assumption; rfl) | (refine And.intro ?_ ?_))) <;> (first | rfl | decide | (simp only [nrm, strm, by8] at * <;> omega) | (simp [upd4, cpy4, nrm, strm, by8] at * <;> omega))) | ((repeat' (first | assumption | exact trivial | exact Un_rf | exact hI 4 _ _ _ | exact hI 9 _ _ _ | exact hI 22 _ _ _ | (refine ixr_by8 ?_ ?_) | (refine IV_upd ?_ ?_) | (refine Un_upd rfl ?_) | (refine IV_cpy ?_ (fun _ _ _ _ => trivial)) | (refine Un_cpy rfl ?_) | (apply Un_tr; rotate_left; assumption; rfl) | (refine And.intro ?_ ?_))) <;> (first | rfl | decide | (simp only [nrm, strm, by8] at * <;> omega) | (simp [upd4, cpy4, nrm, strm, by8] at * <;> omega)))
  · intro av σ K kx n pc L st σ' nc ns _ _ h
    exact (h : False).elim
def gt_Fields_copyFrom (a : Nat) : Option Nat := match a with
  | 24 => some 303
  | _ => none
theorem go_Fields_copyFrom : ∀ a v, gt_Fields_copyFrom a = some v → StaOK R_Fields a v := by
  intro a v h
  unfold gt_Fields_copyFrom at h
  split at h
  · cases h; exact ⟨fun h => absurd h (by decide), fun h => absurd h (by decide), fun _ => by decide +kernel, fun h => absurd h (by decide)⟩
  · cases h
def pr_Fields_copyFrom : List Ent := [(0, 5, 0, 0, 0), (1, 5, 1, 0, 0), (2, 39, 18, 0, 0), (5, 40, 18, 0, 0), (8, 5, 1, 0, 0), (9, 39, 9, 0, 0), (12, 0, 0, 0, 0), (13, 5, 0, 0, 0), (14, 39, 9, 0, 0), (17, 0, 0, 0, 0), (18, 5, 0, 0, 0), (19, 39, 18, 0, 0), (22, 54, 24, 0, 0), (25, 5, 1, 0, 0), (26, 39, 15, 0, 0), (29, 0, 0, 0, 0), (30, 5, 0, 0, 0), (31, 39, 15, 0, 0), (34, 0, 0, 0, 0), (35, 5, 0, 0, 0), (36, 39, 18, 0, 0), (39, 54, 24, 0, 0), (42, 49, 0, 0, 0)]
def sw_Fields_copyFrom : List Swt := []
theorem dk_Fields_copyFrom : ∀ q ∈ pr_Fields_copyFrom, decode b_Fields_copyFrom q.1 = .ok (dec sw_Fields_copyFrom q) ∧ okE q = true := by decide +kernel
theorem nt_Fields_copyFrom : ∀ q ∈ pr_Fields_copyFrom, ¬ q.2.1 = 55 := by decide +kernel
def ct_Fields_copyFrom (a : Nat) : Option (Nat × Nat × CSp × Nat × Nat) := match a with
  | _ => none
theorem co_Fields_copyFrom : ∀ a v, ct_Fields_copyFrom a = some v → StcOK R_Fields 1 26 a v := by
  intro a v h
  unfold ct_Fields_copyFrom at h
  cases h
/-- Fields_copyFrom -/
def sp_Fields_copyFrom : CSp := sRR (fun q q1 σ K _ => kF q.1 ∧ kF q1.1 ∧ IV σ ∧ ∀ σ', IV σ' → Un [q.1, q.1 + 1, q.1 + 2] σ σ' → K none σ')
set_option maxHeartbeats 4000000 in
set_option maxRecDepth 100000 in
theorem c_Fields_copyFrom : Ctr y_Fields_copyFrom b_Fields_copyFrom 2 none 1 26 0 0 sp_Fields_copyFrom := by
  refine ctr_of (FT := ft_Fields) (GT := gt_Fields_copyFrom) (CT := ct_Fields_copyFrom) (sw := sw_Fields_copyFrom) (rt := 2) (pr := pr_Fields_copyFrom) (by decide) [] (fun _ _ _ _ _ _ _ _ _ _ _ => False) 40 ⟨fun h => absurd h (by decide), fun h => absurd h (by decide), fun _ => rfl, fun h => absurd h (by decide)⟩ dk_Fields_copyFrom fo_Fields go_Fields_copyFrom co_Fields_copyFrom (fun a k h hk => by unfold gt_Fields_copyFrom at h; split at h <;> first | exact ⟨by decide, by decide⟩ | (cases h; done) | (cases h; exact absurd hk (by decide))) (fun q hq h => absurd h (nt_Fields_copyFrom q hq)) (fun av σ K kx h => by rw [sRR_len h]; decide) ?_ ?_
  · intro av σ K kx hok hSp
    obtain ⟨q0, q1, rfl, hp⟩ := sRR_inv hSp
    obtain ⟨k0, e0, i0⟩ := q0
    obtain ⟨k1, e1, i1⟩ := q1
    obtain ⟨h0, h1, hI, h3⟩ := hp
    have j1 := IV_F hI h0 e0 i0
    have j2 := IV_F hI h1 e1 i1
    all_goals (rcases h0 with h0 | h0 | h0)
    all_goals (dsimp only at h0; subst h0)
    all_goals (rcases h1 with h1 | h1 | h1)
    all_goals (dsimp only at h1; subst h1)
    all_goals (repeat' (first | (with_reducible assumption) | (with_reducible refine IV_upd ?_ ?_) | (with_reducible refine IV_cpy ?_ (fun _ _ _ _ => trivial)) | (refine And.intro ?_ ?_) | (intro _)))
    all_goals first | (first | rfl | decide | (simp only [nrm, strm, by8] at * <;> omega) | (simp [upd4, cpy4, nrm, strm, by8] at * <;> omega)) | (exact h3) | (refine h3 _ ?_ ?_ <;> (repeat' (first | assumption | exact trivial | exact Un_rf | exact hI 4 _ _ _ | exact hI 9 _ _ _ | exact hI 22 _ _ _ | (refine ixr_by8 ?_ ?_) | (refine IV_upd ?_ ?_) | (refine Un_upd rfl ?_) | (refine IV_cpy ?_ (fun _ _ _ _ => trivial)) | (refine Un_cpy rfl ?_) | (apply Un_tr; rotate_left; assumption; rfl) | (refine And.intro ?_ ?_))) <;> (first | rfl | decide | (simp only [nrm, strm, by8] at * <;> omega) | (simp [upd4, cpy4, nrm, strm, by8] at * <;> omega))) | (apply h3 <;> (repeat' (first | assumption | exact trivial | exact Un_rf | exact hI 4 _ _ _ | exact hI 9 _ _ _ | exact hI 22 _ _ _ | (refine ixr_by8 ?_ ?_) | (refine IV_upd ?_ ?_) | (refine Un_upd rfl ?_) | (refine IV_cpy ?_ (fun _ _ _ _ => trivial)) | (refine Un_cpy rfl ?_) | (apply Un_tr; rotate_left; assumption; rfl) | (refine And.intro ?_ ?_))) <;> (first | rfl | decide | (simp only [nrm, strm, by8] at * <;> omega) | (simp [upd4, cpy4, nrm, strm, by8] at * <;> omega))) | ((repeat' (first | assumption | exact trivial | exact Un_rf | exact hI 4 _ _ _ | exact hI 9 _ _ _ | exact hI 22 _ _ _ | (refine ixr_by8 ?_ ?_) | (refine IV_upd ?_ ?_) | (refine Un_upd rfl ?_) | (refine IV_cpy ?_ (fun _ _ _ _ => trivial)) | (refine Un_cpy rfl ?_) | (apply Un_tr; rotate_left; assumption; rfl) | (refine And.intro ?_ ?_))) <;> (first | rfl | decide | (simp only [nrm, strm, by8] at * <;> omega) | (simp [upd4, cpy4, nrm, strm, by8] at * <;> omega)))
  · intro av σ K kx n pc L st σ' nc ns _ _ h
    exact (h : False).elim
