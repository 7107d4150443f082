def ft_Frame (a : Nat) : Option (Nat × Nat × Nat) := match a with
  | 9 => some (5, 0, 2)
  | 15 => some (5, 1, 0)
  | _ => none
theorem fo_Frame : ∀ a v, ft_Frame a = some v → FldOK R_Frame a v := by
  intro a v h
  unfold ft_Frame at h
  split at h
  · cases h; exact fl_Frame _ _ _ _ (by decide) (by decide +kernel) (by decide)
  · cases h; exact fl_Frame _ _ _ _ (by decide) (by decide +kernel) (by decide)
  · cases h
def gt_Frame_add (a : Nat) : Option Nat := match a with
  | _ => none
theorem go_Frame_add : ∀ a v, gt_Frame_add a = some v → StaOK R_Frame a v := by
  intro a v h
  unfold gt_Frame_add at h
  cases h
def pr_Frame_add : List Ent := [(0, 5, 0, 0, 0), (1, 39, 15, 0, 0), (4, 5, 0, 0, 0), (5, 39, 9, 0, 0), (8, 44, 0, 0, 0), (9, 35, 0, 0, 32), (12, 5, 0, 0, 0), (13, 39, 9, 0, 0), (16, 5, 0, 0, 0), (17, 39, 15, 0, 0), (20, 3, 1, 0, 0), (21, 42, 0, 0, 0), (22, 5, 0, 0, 0), (23, 23, 0, 0, 0), (24, 39, 15, 0, 0), (27, 0, 0, 1, 0), (28, 12, 0, 0, 0), (29, 40, 15, 0, 0), (32, 49, 0, 0, 0)]
def sw_Frame_add : List Swt := []
theorem dk_Frame_add : ∀ q ∈ pr_Frame_add, decode b_Frame_add q.1 = .ok (dec sw_Frame_add q) ∧ okE q = true := by decide +kernel
theorem nt_Frame_add : ∀ q ∈ pr_Frame_add, ¬ q.2.1 = 55 := by decide +kernel
def ct_Frame_add (a : Nat) : Option (Nat × Nat × CSp × Nat × Nat) := match a with
  | _ => none
theorem co_Frame_add : ∀ a v, ct_Frame_add a = some v → StcOK R_Frame 0 0 a v := by
  intro a v h
  unfold ct_Frame_add at h
  cases h
/-- Frame_add -/
def sp_Frame_add : CSp := sRI (fun q x σ K _ => q.1 = 8 ∧ IV σ ∧ by8 x ∧ ∀ σ', IV σ' → Un [8, 9] σ σ' → K none σ')
set_option maxHeartbeats 4000000 in
set_option maxRecDepth 100000 in
theorem c_Frame_add : Ctr y_Frame_add b_Frame_add 2 none 0 0 0 0 sp_Frame_add := by
  refine ctr_of (FT := ft_Frame) (GT := gt_Frame_add) (CT := ct_Frame_add) (sw := sw_Frame_add) (rt := 2) (pr := pr_Frame_add) (by decide) [] (fun _ _ _ _ _ _ _ _ _ _ _ => False) 30 ⟨fun h => absurd h (by decide), fun h => absurd h (by decide), fun _ => rfl, fun h => absurd h (by decide)⟩ dk_Frame_add fo_Frame go_Frame_add co_Frame_add (fun a k h hk => by unfold gt_Frame_add at h; cases h) (fun q hq h => absurd h (nt_Frame_add q hq)) (fun av σ K kx h => by rw [sRI_len h]; decide) ?_ ?_
  · intro av σ K kx hok hSp
    obtain ⟨q0, x0, rfl, hp⟩ := sRI_inv hSp
    obtain ⟨k0, e0, i0⟩ := q0
    obtain ⟨h0, hI, h2, h3⟩ := hp
    dsimp only at h0; subst h0
    have i1 : 0 ≤ σ 8 e0 i0 1 ∧ σ 8 e0 i0 1 ≤ 44 := hI 8 e0 i0 1
    all_goals (repeat' (first | (with_reducible assumption) | (with_reducible refine IV_upd ?_ ?_) | (with_reducible refine IV_cpy ?_ (fun _ _ _ _ => trivial)) | (refine And.intro ?_ ?_) | (intro _)))
    all_goals first | (first | rfl | decide | (simp only [nrm, strm, by8] at * <;> omega) | (simp [upd4, cpy4, nrm, strm, by8] at * <;> omega)) | (exact h3) | (refine h3 _ ?_ ?_ <;> (repeat' (first | assumption | exact trivial | exact Un_rf | exact hI 4 _ _ _ | exact hI 9 _ _ _ | exact hI 22 _ _ _ | (refine ixr_by8 ?_ ?_) | (refine IV_upd ?_ ?_) | (refine Un_upd rfl ?_) | (refine IV_cpy ?_ (fun _ _ _ _ => trivial)) | (refine Un_cpy rfl ?_) | (apply Un_tr; rotate_left; assumption; rfl) | (refine And.intro ?_ ?_))) <;> (first | rfl | decide | (simp only [nrm, strm, by8] at * <;> omega) | (simp [upd4, cpy4, nrm, strm, by8] at * <;> omega))) | (apply h3 <;> (repeat' (first | assumption | exact trivial | exact Un_rf | exact hI 4 _ _ _ | exact hI 9 _ _ _ | exact hI 22 _ _ _ | (refine ixr_by8 ?_ ?_) | (refine IV_upd ?_ ?_) | (refine Un_upd rfl ?_) | (refine IV_cpy ?_ (fun _ _ _ _ => trivial)) | (refine Un_cpy rfl ?_) | (apply Un_tr; rotate_left; assumption; rfl) | (refine And.intro ?_ ?_))) <;> (first | rfl | decide | (simp only [nrm, strm, by8] at * <;> omega) | (simp [upd4, cpy4, nrm, strm, by8] at * <;> omega))) | ((repeat' (first | assumption | exact trivial | exact Un_rf | exact hI 4 _ _ _ | exact hI 9 _ _ _ | exact hI 22 _ _ _ | (refine ixr_by8 ?_ ?_) | (refine IV_upd ?_ ?_) | (refine Un_upd rfl ?_) | (refine IV_cpy ?_ (fun _ _ _ _ => trivial)) | (refine Un_cpy rfl ?_) | (apply Un_tr; rotate_left; assumption; rfl) | (refine And.intro ?_ ?_))) <;> (first | rfl | decide | (simp only [nrm, strm, by8] at * <;> omega) | (simp [upd4, cpy4, nrm, strm, by8] at * <;> omega)))
  · intro av σ K kx n pc L st σ' nc ns _ _ h
    exact (h : False).elim
def gt_Frame_clear (a : Nat) : Option Nat := match a with
  | _ => none
theorem go_Frame_clear : ∀ a v, gt_Frame_clear a = some v → StaOK R_Frame a v := by
  intro a v h
  unfold gt_Frame_clear at h
  cases h
def pr_Frame_clear : List Ent := [(0, 5, 0, 0, 0), (1, 0, 0, 0, 0), (2, 40, 15, 0, 0), (5, 49, 0, 0, 0)]
def sw_Frame_clear : List Swt := []
theorem dk_Frame_clear : ∀ q ∈ pr_Frame_clear, decode b_Frame_clear q.1 = .ok (dec sw_Frame_clear q) ∧ okE q = true := by decide +kernel
theorem nt_Frame_clear : ∀ q ∈ pr_Frame_clear, ¬ q.2.1 = 55 := by decide +kernel
def ct_Frame_clear (a : Nat) : Option (Nat × Nat × CSp × Nat × Nat) := match a with
  | _ => none
theorem co_Frame_clear : ∀ a v, ct_Frame_clear a = some v → StcOK R_Frame 0 0 a v := by
  intro a v h
  unfold ct_Frame_clear at h
  cases h
/-- Frame_clear -/
def sp_Frame_clear : CSp := sR (fun q σ K _ => q.1 = 8 ∧ IV σ ∧ ∀ σ', IV σ' → Un [8, 9] σ σ' → K none σ')
set_option maxHeartbeats 4000000 in
set_option maxRecDepth 100000 in
theorem c_Frame_clear : Ctr y_Frame_clear b_Frame_clear 1 none 0 0 0 0 sp_Frame_clear := by
  refine ctr_of (FT := ft_Frame) (GT := gt_Frame_clear) (CT := ct_Frame_clear) (sw := sw_Frame_clear) (rt := 2) (pr := pr_Frame_clear) (by decide) [] (fun _ _ _ _ _ _ _ _ _ _ _ => False) 20 ⟨fun h => absurd h (by decide), fun h => absurd h (by decide), fun _ => rfl, fun h => absurd h (by decide)⟩ dk_Frame_clear fo_Frame go_Frame_clear co_Frame_clear (fun a k h hk => by unfold gt_Frame_clear at h; cases h) (fun q hq h => absurd h (nt_Frame_clear q hq)) (fun av σ K kx h => by rw [sR_len h]; decide) ?_ ?_
  · intro av σ K kx hok hSp
    obtain ⟨q0, rfl, hp⟩ := sR_inv hSp
    obtain ⟨k0, e0, i0⟩ := q0
    obtain ⟨h0, hI, h2⟩ := hp
    dsimp only at h0; subst h0
    all_goals (repeat' (first | (with_reducible assumption) | (with_reducible refine IV_upd ?_ ?_) | (with_reducible refine IV_cpy ?_ (fun _ _ _ _ => trivial)) | (refine And.intro ?_ ?_) | (intro _)))
    all_goals first | (first | rfl | decide | (simp only [nrm, strm, by8] at * <;> omega) | (simp [upd4, cpy4, nrm, strm, by8] at * <;> omega)) | (exact h2) | (refine h2 _ ?_ ?_ <;> (repeat' (first | assumption | exact trivial | exact Un_rf | exact hI 4 _ _ _ | exact hI 9 _ _ _ | exact hI 22 _ _ _ | (refine ixr_by8 ?_ ?_) | (refine IV_upd ?_ ?_) | (refine Un_upd rfl ?_) | (refine IV_cpy ?_ (fun _ _ _ _ => trivial)) | (refine Un_cpy rfl ?_) | (apply Un_tr; rotate_left; assumption; rfl) | (refine And.intro ?_ ?_))) <;> (first | rfl | decide | (simp only [nrm, strm, by8] at * <;> omega) | (simp [upd4, cpy4, nrm, strm, by8] at * <;> omega))) | (apply h2 <;> (repeat' (first | assumption | exact trivial | exact Un_rf | exact hI 4 _ _ _ | exact hI 9 _ _ _ | exact hI 22 _ _ _ | (refine ixr_by8 ?_ ?_) | (refine IV_upd ?_ ?_) | (refine Un_upd rfl ?_) | (refine IV_cpy ?_ (fun _ _ _ _ => trivial)) | (refine Un_cpy rfl ?_) | (apply Un_tr; rotate_left; assumption; rfl) | (refine And.intro ?_ ?_))) <;> (first | rfl | decide | (simp only [nrm, strm, by8] at * <;> omega) | (simp [upd4, cpy4, nrm, strm, by8] at * <;> omega))) | ((repeat' (first | assumption | exact trivial | exact Un_rf | exact hI 4 _ _ _ | exact hI 9 _ _ _ | exact hI 22 _ _ _ | (refine ixr_by8 ?_ ?_) | (refine IV_upd ?_ ?_) | (refine Un_upd rfl ?_) | (refine IV_cpy ?_ (fun _ _ _ _ => trivial)) | (refine Un_cpy rfl ?_) | (apply Un_tr; rotate_left; assumption; rfl) | (refine And.intro ?_ ?_))) <;> (first | rfl | decide | (simp only [nrm, strm, by8] at * <;> omega) | (simp [upd4, cpy4, nrm, strm, by8] at * <;> omega)))
  · intro av σ K kx n pc L st σ' nc ns _ _ h
    exact (h : False).elim
def gt_Frame_length (a : Nat) : Option Nat := match a with
  | _ => none
theorem go_Frame_length : ∀ a v, gt_Frame_length a = some v → StaOK R_Frame a v := by
  intro a v h
  unfold gt_Frame_length at h
  cases h
def pr_Frame_length : List Ent := [(0, 5, 0, 0, 0), (1, 39, 9, 0, 0), (4, 0, 0, 0, 0), (5, 41, 0, 0, 0), (6, 48, 0, 0, 0)]
def sw_Frame_length : List Swt := []
theorem dk_Frame_length : ∀ q ∈ pr_Frame_length, decode b_Frame_length q.1 = .ok (dec sw_Frame_length q) ∧ okE q = true := by decide +kernel
theorem nt_Frame_length : ∀ q ∈ pr_Frame_length, ¬ q.2.1 = 55 := by decide +kernel
def ct_Frame_length (a : Nat) : Option (Nat × Nat × CSp × Nat × Nat) := match a with
  | _ => none
theorem co_Frame_length : ∀ a v, ct_Frame_length a = some v → StcOK R_Frame 0 0 a v := by
  intro a v h
  unfold ct_Frame_length at h
  cases h
/-- Frame_length -/
def sp_Frame_length : CSp := sR (fun q σ K _ => q.1 = 8 ∧ K (some (.inl (σ 9 q.2.1 q.2.2 0))) σ)
set_option maxHeartbeats 4000000 in
set_option maxRecDepth 100000 in
theorem c_Frame_length : Ctr y_Frame_length b_Frame_length 1 (some .int) 0 0 0 0 sp_Frame_length := by
  refine ctr_of (FT := ft_Frame) (GT := gt_Frame_length) (CT := ct_Frame_length) (sw := sw_Frame_length) (rt := 0) (pr := pr_Frame_length) (by decide) [] (fun _ _ _ _ _ _ _ _ _ _ _ => False) 20 ⟨fun _ => rfl, fun h => absurd h (by decide), fun h => absurd h (by decide), fun h => absurd h (by decide)⟩ dk_Frame_length fo_Frame go_Frame_length co_Frame_length (fun a k h hk => by unfold gt_Frame_length at h; cases h) (fun q hq h => absurd h (nt_Frame_length q hq)) (fun av σ K kx h => by rw [sR_len h]; decide) ?_ ?_
  · intro av σ K kx hok hSp
    obtain ⟨q0, rfl, hp⟩ := sR_inv hSp
    obtain ⟨k0, e0, i0⟩ := q0
    obtain ⟨h0, h1⟩ := hp
    dsimp only at h0; subst h0
    all_goals (repeat' (first | (with_reducible assumption) | (with_reducible refine IV_upd ?_ ?_) | (with_reducible refine IV_cpy ?_ (fun _ _ _ _ => trivial)) | (refine And.intro ?_ ?_) | (intro _)))
    all_goals first | (first | rfl | decide | (simp only [nrm, strm, by8] at * <;> omega) | (simp [upd4, cpy4, nrm, strm, by8] at * <;> omega)) | (exact h1 (by first | assumption | (first | rfl | decide | (simp only [nrm, strm, by8] at * <;> omega) | (simp [upd4, cpy4, nrm, strm, by8] at * <;> omega)))) | (exact h1) | (refine h1 _ ?_ ?_ <;> (repeat' (first | assumption | exact trivial | exact Un_rf | exact hI 4 _ _ _ | exact hI 9 _ _ _ | exact hI 22 _ _ _ | (refine ixr_by8 ?_ ?_) | (refine IV_upd ?_ ?_) | (refine Un_upd rfl ?_) | (refine IV_cpy ?_ (fun _ _ _ _ => trivial)) | (refine Un_cpy rfl ?_) | (apply Un_tr; rotate_left; assumption; rfl) | (refine And.intro ?_ ?_))) <;> (first | rfl | decide | (simp only [nrm, strm, by8] at * <;> omega) | (simp [upd4, cpy4, nrm, strm, by8] at * <;> omega))) | (apply h1 <;> (repeat' (first | assumption | exact trivial | exact Un_rf | exact hI 4 _ _ _ | exact hI 9 _ _ _ | exact hI 22 _ _ _ | (refine ixr_by8 ?_ ?_) | (refine IV_upd ?_ ?_) | (refine Un_upd rfl ?_) | (refine IV_cpy ?_ (fun _ _ _ _ => trivial)) | (refine Un_cpy rfl ?_) | (apply Un_tr; rotate_left; assumption; rfl) | (refine And.intro ?_ ?_))) <;> (first | rfl | decide | (simp only [nrm, strm, by8] at * <;> omega) | (simp [upd4, cpy4, nrm, strm, by8] at * <;> omega))) | ((repeat' (first | assumption | exact trivial | exact Un_rf | exact hI 4 _ _ _ | exact hI 9 _ _ _ | exact hI 22 _ _ _ | (refine ixr_by8 ?_ ?_) | (refine IV_upd ?_ ?_) | (refine Un_upd rfl ?_) | (refine IV_cpy ?_ (fun _ _ _ _ => trivial)) | (refine Un_cpy rfl ?_) | (apply Un_tr; rotate_left; assumption; rfl) | (refine And.intro ?_ ?_))) <;> (first | rfl | decide | (simp only [nrm, strm, by8] at * <;> omega) | (simp [upd4, cpy4, nrm, strm, by8] at * <;> omega)))
  · intro av σ K kx n pc L st σ' nc ns _ _ h
    exact (h : False).elim
def gt_Frame_type (a : Nat) : Option Nat := match a with
  | _ => none
theorem go_Frame_type : ∀ a v, gt_Frame_type a = some v → StaOK R_Frame a v := by
  intro a v h
  unfold gt_Frame_type at h
  cases h
def pr_Frame_type : List Ent := [(0, 5, 0, 0, 0), (1, 39, 9, 0, 0), (4, 0, 0, 1, 0), (5, 41, 0, 0, 0), (6, 48, 0, 0, 0)]
def sw_Frame_type : List Swt := []
theorem dk_Frame_type : ∀ q ∈ pr_Frame_type, decode b_Frame_type q.1 = .ok (dec sw_Frame_type q) ∧ okE q = true := by decide +kernel
theorem nt_Frame_type : ∀ q ∈ pr_Frame_type, ¬ q.2.1 = 55 := by decide +kernel
def ct_Frame_type (a : Nat) : Option (Nat × Nat × CSp × Nat × Nat) := match a with
  | _ => none
theorem co_Frame_type : ∀ a v, ct_Frame_type a = some v → StcOK R_Frame 0 0 a v := by
  intro a v h
  unfold ct_Frame_type at h
  cases h
/-- Frame_type -/
def sp_Frame_type : CSp := sR (fun q σ K _ => q.1 = 8 ∧ K (some (.inl (σ 9 q.2.1 q.2.2 1))) σ)
set_option maxHeartbeats 4000000 in
set_option maxRecDepth 100000 in
theorem c_Frame_type : Ctr y_Frame_type b_Frame_type 1 (some .int) 0 0 0 0 sp_Frame_type := by
  refine ctr_of (FT := ft_Frame) (GT := gt_Frame_type) (CT := ct_Frame_type) (sw := sw_Frame_type) (rt := 0) (pr := pr_Frame_type) (by decide) [] (fun _ _ _ _ _ _ _ _ _ _ _ => False) 20 ⟨fun _ => rfl, fun h => absurd h (by decide), fun h => absurd h (by decide), fun h => absurd h (by decide)⟩ dk_Frame_type fo_Frame go_Frame_type co_Frame_type (fun a k h hk => by unfold gt_Frame_type at h; cases h) (fun q hq h => absurd h (nt_Frame_type q hq)) (fun av σ K kx h => by rw [sR_len h]; decide) ?_ ?_
  · intro av σ K kx hok hSp
    obtain ⟨q0, rfl, hp⟩ := sR_inv hSp
    obtain ⟨k0, e0, i0⟩ := q0
    obtain ⟨h0, h1⟩ := hp
    dsimp only at h0; subst h0
    all_goals (repeat' (first | (with_reducible assumption) | (with_reducible refine IV_upd ?_ ?_) | (with_reducible refine IV_cpy ?_ (fun _ _ _ _ => trivial)) | (refine And.intro ?_ ?_) | (intro _)))
    all_goals first | (first | rfl | decide | (simp only [nrm, strm, by8] at * <;> omega) | (simp [upd4, cpy4, nrm, strm, by8] at * <;> omega)) | (exact h1 (by first | assumption | (first | rfl | decide | (simp only [nrm, strm, by8] at * <;> omega) | (simp [upd4, cpy4, nrm, strm, by8] at * <;> omega)))) | (exact h1) | (refine h1 _ ?_ ?_ <;> (repeat' (first | assumption | exact trivial | exact Un_rf | exact hI 4 _ _ _ | exact hI 9 _ _ _ | exact hI 22 _ _ _ | (refine ixr_by8 ?_ ?_) | (refine IV_upd ?_ ?_) | (refine Un_upd rfl ?_) | (refine IV_cpy ?_ (fun _ _ _ _ => trivial)) | (refine Un_cpy rfl ?_) | (apply Un_tr; rotate_left; assumption; rfl) | (refine And.intro ?_ ?_))) <;> (first | rfl | decide | (simp only [nrm, strm, by8] at * <;> omega) | (simp [upd4, cpy4, nrm, strm, by8] at * <;> omega))) | (apply h1 <;> (repeat' (first | assumption | exact trivial | exact Un_rf | exact hI 4 _ _ _ | exact hI 9 _ _ _ | exact hI 22 _ _ _ | (refine ixr_by8 ?_ ?_) | (refine IV_upd ?_ ?_) | (refine Un_upd rfl ?_) | (refine IV_cpy ?_ (fun _ _ _ _ => trivial)) | (refine Un_cpy rfl ?_) | (apply Un_tr; rotate_left; assumption; rfl) | (refine And.intro ?_ ?_))) <;> (first | rfl | decide | (simp only [nrm, strm, by8] at * <;> omega) | (simp [upd4, cpy4, nrm, strm, by8] at * <;> omega))) | ((repeat' (first | assumption | exact trivial | exact Un_rf | exact hI 4 _ _ _ | exact hI 9 _ _ _ | exact hI 22 _ _ _ | (refine ixr_by8 ?_ ?_) | (refine IV_upd ?_ ?_) | (refine Un_upd rfl ?_) | (refine IV_cpy ?_ (fun _ _ _ _ => trivial)) | (refine Un_cpy rfl ?_) | (apply Un_tr; rotate_left; assumption; rfl) | (refine And.intro ?_ ?_))) <;> (first | rfl | decide | (simp only [nrm, strm, by8] at * <;> omega) | (simp [upd4, cpy4, nrm, strm, by8] at * <;> omega)))
  · intro av σ K kx n pc L st σ' nc ns _ _ h
    exact (h : False).elim
def gt_Frame_streamNumber (a : Nat) : Option Nat := match a with
  | _ => none
theorem go_Frame_streamNumber : ∀ a v, gt_Frame_streamNumber a = some v → StaOK R_Frame a v := by
  intro a v h
  unfold gt_Frame_streamNumber at h
  cases h
def pr_Frame_streamNumber : List Ent := [(0, 5, 0, 0, 0), (1, 39, 9, 0, 0), (4, 0, 0, 3, 0), (5, 41, 0, 0, 0), (6, 48, 0, 0, 0)]
def sw_Frame_streamNumber : List Swt := []
theorem dk_Frame_streamNumber : ∀ q ∈ pr_Frame_streamNumber, decode b_Frame_streamNumber q.1 = .ok (dec sw_Frame_streamNumber q) ∧ okE q = true := by decide +kernel
theorem nt_Frame_streamNumber : ∀ q ∈ pr_Frame_streamNumber, ¬ q.2.1 = 55 := by decide +kernel
def ct_Frame_streamNumber (a : Nat) : Option (Nat × Nat × CSp × Nat × Nat) := match a with
  | _ => none
theorem co_Frame_streamNumber : ∀ a v, ct_Frame_streamNumber a = some v → StcOK R_Frame 0 0 a v := by
  intro a v h
  unfold ct_Frame_streamNumber at h
  cases h
/-- Frame_streamNumber -/
def sp_Frame_streamNumber : CSp := sR (fun q σ K _ => q.1 = 8 ∧ K (some (.inl (σ 9 q.2.1 q.2.2 3))) σ)
set_option maxHeartbeats 4000000 in
set_option maxRecDepth 100000 in
theorem c_Frame_streamNumber : Ctr y_Frame_streamNumber b_Frame_streamNumber 1 (some .int) 0 0 0 0 sp_Frame_streamNumber := by
  refine ctr_of (FT := ft_Frame) (GT := gt_Frame_streamNumber) (CT := ct_Frame_streamNumber) (sw := sw_Frame_streamNumber) (rt := 0) (pr := pr_Frame_streamNumber) (by decide) [] (fun _ _ _ _ _ _ _ _ _ _ _ => False) 20 ⟨fun _ => rfl, fun h => absurd h (by decide), fun h => absurd h (by decide), fun h => absurd h (by decide)⟩ dk_Frame_streamNumber fo_Frame go_Frame_streamNumber co_Frame_streamNumber (fun a k h hk => by unfold gt_Frame_streamNumber at h; cases h) (fun q hq h => absurd h (nt_Frame_streamNumber q hq)) (fun av σ K kx h => by rw [sR_len h]; decide) ?_ ?_
  · intro av σ K kx hok hSp
    obtain ⟨q0, rfl, hp⟩ := sR_inv hSp
    obtain ⟨k0, e0, i0⟩ := q0
    obtain ⟨h0, h1⟩ := hp
    dsimp only at h0; subst h0
    all_goals (repeat' (first | (with_reducible assumption) | (with_reducible refine IV_upd ?_ ?_) | (with_reducible refine IV_cpy ?_ (fun _ _ _ _ => trivial)) | (refine And.intro ?_ ?_) | (intro _)))
    all_goals first | (first | rfl | decide | (simp only [nrm, strm, by8] at * <;> omega) | (simp [upd4, cpy4, nrm, strm, by8] at * <;> omega)) | (exact h1 (by first | assumption | (first | rfl | decide | (simp only [nrm, strm, by8] at * <;> omega) | (simp [upd4, cpy4, nrm, strm, by8] at * <;> omega)))) | (exact h1) | (refine h1 _ ?_ ?_ <;> (repeat' (first | assumption | exact trivial | exact Un_rf | exact hI 4 _ _ _ | exact hI 9 _ _ _ | exact hI 22 _ _ _ | (refine ixr_by8 ?_ ?_) | (refine IV_upd ?_ ?_) | (refine Un_upd rfl ?_) | (refine IV_cpy ?_ (fun _ _ _ _ => trivial)) | (refine Un_cpy rfl ?_) | (apply Un_tr; rotate_left; assumption; rfl) | (refine And.intro ?_ ?_))) <;> (first | rfl | decide | (simp only [nrm, strm, by8] at * <;> omega) | (simp [upd4, cpy4, nrm, strm, by8] at * <;> omega))) | (apply h1 <;> (repeat' (first | assumption | exact trivial | exact Un_rf | exact hI 4 _ _ _ | exact hI 9 _ _ _ | exact hI 22 _ _ _ | (refine ixr_by8 ?_ ?_) | (refine IV_upd ?_ ?_) | (refine Un_upd rfl ?_) | (refine IV_cpy ?_ (fun _ _ _ _ => trivial)) | (refine Un_cpy rfl ?_) | (apply Un_tr; rotate_left; assumption; rfl) | (refine And.intro ?_ ?_))) <;> (first | rfl | decide | (simp only [nrm, strm, by8] at * <;> omega) | (simp [upd4, cpy4, nrm, strm, by8] at * <;> omega))) | ((repeat' (first | assumption | exact trivial | exact Un_rf | exact hI 4 _ _ _ | exact hI 9 _ _ _ | exact hI 22 _ _ _ | (refine ixr_by8 ?_ ?_) | (refine IV_upd ?_ ?_) | (refine Un_upd rfl ?_) | (refine IV_cpy ?_ (fun _ _ _ _ => trivial)) | (refine Un_cpy rfl ?_) | (apply Un_tr; rotate_left; assumption; rfl) | (refine And.intro ?_ ?_))) <;> (first | rfl | decide | (simp only [nrm, strm, by8] at * <;> omega) | (simp [upd4, cpy4, nrm, strm, by8] at * <;> omega)))
  · intro av σ K kx n pc L st σ' nc ns _ _ h
    exact (h : False).elim
def gt_Frame_isFlagged (a : Nat) : Option Nat := match a with
  | _ => none
theorem go_Frame_isFlagged : ∀ a v, gt_Frame_isFlagged a = some v → StaOK R_Frame a v := by
  intro a v h
  unfold gt_Frame_isFlagged at h
  cases h
def pr_Frame_isFlagged : List Ent := [(0, 5, 0, 0, 0), (1, 39, 9, 0, 0), (4, 0, 0, 2, 0), (5, 41, 0, 0, 0), (6, 0, 0, 1, 0), (7, 18, 0, 0, 0), (8, 26, 0, 0, 15), (11, 0, 0, 1, 0), (12, 38, 0, 0, 16), (15, 0, 0, 0, 0), (16, 48, 0, 0, 0)]
def sw_Frame_isFlagged : List Swt := []
theorem dk_Frame_isFlagged : ∀ q ∈ pr_Frame_isFlagged, decode b_Frame_isFlagged q.1 = .ok (dec sw_Frame_isFlagged q) ∧ okE q = true := by decide +kernel
theorem nt_Frame_isFlagged : ∀ q ∈ pr_Frame_isFlagged, ¬ q.2.1 = 55 := by decide +kernel
def ct_Frame_isFlagged (a : Nat) : Option (Nat × Nat × CSp × Nat × Nat) := match a with
  | _ => none
theorem co_Frame_isFlagged : ∀ a v, ct_Frame_isFlagged a = some v → StcOK R_Frame 0 0 a v := by
  intro a v h
  unfold ct_Frame_isFlagged at h
  cases h
/-- Frame_isFlagged -/
def sp_Frame_isFlagged : CSp := sR (fun q σ K _ => q.1 = 8 ∧ K (some (.inl 0)) σ ∧ K (some (.inl 1)) σ)
set_option maxHeartbeats 4000000 in
set_option maxRecDepth 100000 in
theorem c_Frame_isFlagged : Ctr y_Frame_isFlagged b_Frame_isFlagged 1 (some .boolean) 0 0 0 0 sp_Frame_isFlagged := by
  refine ctr_of (FT := ft_Frame) (GT := gt_Frame_isFlagged) (CT := ct_Frame_isFlagged) (sw := sw_Frame_isFlagged) (rt := 1) (pr := pr_Frame_isFlagged) (by decide) [] (fun _ _ _ _ _ _ _ _ _ _ _ => False) 30 ⟨fun h => absurd h (by decide), fun _ => rfl, fun h => absurd h (by decide), fun h => absurd h (by decide)⟩ dk_Frame_isFlagged fo_Frame go_Frame_isFlagged co_Frame_isFlagged (fun a k h hk => by unfold gt_Frame_isFlagged at h; cases h) (fun q hq h => absurd h (nt_Frame_isFlagged q hq)) (fun av σ K kx h => by rw [sR_len h]; decide) ?_ ?_
  · intro av σ K kx hok hSp
    obtain ⟨q0, rfl, hp⟩ := sR_inv hSp
    obtain ⟨k0, e0, i0⟩ := q0
    obtain ⟨h0, h1, h2⟩ := hp
    dsimp only at h0; subst h0
    all_goals (repeat' (first | (with_reducible assumption) | (with_reducible refine IV_upd ?_ ?_) | (with_reducible refine IV_cpy ?_ (fun _ _ _ _ => trivial)) | (refine And.intro ?_ ?_) | (intro _)))
    all_goals first | (first | rfl | decide | (simp only [nrm, strm, by8] at * <;> omega) | (simp [upd4, cpy4, nrm, strm, by8] at * <;> omega)) | (exact h1 (by first | assumption | (first | rfl | decide | (simp only [nrm, strm, by8] at * <;> omega) | (simp [upd4, cpy4, nrm, strm, by8] at * <;> omega)))) | (exact h2 (by first | assumption | (first | rfl | decide | (simp only [nrm, strm, by8] at * <;> omega) | (simp [upd4, cpy4, nrm, strm, by8] at * <;> omega)))) | (exact h1) | (exact h2) | (refine h1 _ ?_ ?_ <;> (repeat' (first | assumption | exact trivial | exact Un_rf | exact hI 4 _ _ _ | exact hI 9 _ _ _ | exact hI 22 _ _ _ | (refine ixr_by8 ?_ ?_) | (refine IV_upd ?_ ?_) | (refine Un_upd rfl ?_) | (refine IV_cpy ?_ (fun _ _ _ _ => trivial)) | (refine Un_cpy rfl ?_) | (apply Un_tr; rotate_left; assumption; rfl) | (refine And.intro ?_ ?_))) <;> (first | rfl | decide | (simp only [nrm, strm, by8] at * <;> omega) | (simp [upd4, cpy4, nrm, strm, by8] at * <;> omega))) | (refine h2 _ ?_ ?_ <;> (repeat' (first | assumption | exact trivial | exact Un_rf | exact hI 4 _ _ _ | exact hI 9 _ _ _ | exact hI 22 _ _ _ | (refine ixr_by8 ?_ ?_) | (refine IV_upd ?_ ?_) | (refine Un_upd rfl ?_) | (refine IV_cpy ?_ (fun _ _ _ _ => trivial)) | (refine Un_cpy rfl ?_) | (apply Un_tr; rotate_left; assumption; rfl) | (refine And.intro ?_ ?_))) <;> (first | rfl | decide | (simp only [nrm, strm, by8] at * <;> omega) | (simp [upd4, cpy4, nrm, strm, by8] at * <;> omega))) | (apply h1 <;> (repeat' (first | assumption | exact trivial | exact Un_rf | exact hI 4 _ _ _ | exact hI 9 _ _ _ | exact hI 22 _ _ _ | (refine ixr_by8 ?_ ?_) | (refine IV_upd ?_ ?_) | (refine Un_upd rfl ?_) | (refine IV_cpy ?_ (fun _ _ _ _ => trivial)) | (refine Un_cpy rfl ?_) | (apply Un_tr; rotate_left; assumption; rfl) | (refine And.intro ?_ ?_))) <;> (first | rfl | decide | (simp only [nrm, strm, by8] at * <;> omega) | (simp [upd4, cpy4, nrm, strm, by8] at * <;> omega))) | (apply h2 <;> (repeat' (first | assumption | exact trivial | exact Un_rf | exact hI 4 _ _ _ | exact hI 9 _ _ _ | exact hI 22 _ _ _ | (refine ixr_by8 ?_ ?_) | (refine IV_upd ?_ ?_) | (refine Un_upd rfl ?_) | (refine IV_cpy ?_ (fun _ _ _ _ => trivial)) | (refine Un_cpy rfl ?_) | (apply Un_tr; rotate_left; assumption; rfl) | (refine And.intro ?_ ?_))) <;> (first | rfl | decide | (simp only [nrm, strm, by8] at * <;> omega) | (simp [upd4, cpy4, nrm, strm, by8] at * <;> omega))) | ((repeat' (first | assumption | exact trivial | exact Un_rf | exact hI 4 _ _ _ | exact hI 9 _ _ _ | exact hI 22 _ _ _ | (refine ixr_by8 ?_ ?_) | (refine IV_upd ?_ ?_) | (refine Un_upd rfl ?_) | (refine IV_cpy ?_ (fun _ _ _ _ => trivial)) | (refine Un_cpy rfl ?_) | (apply Un_tr; rotate_left; assumption; rfl) | (refine And.intro ?_ ?_))) <;> (first | rfl | decide | (simp only [nrm, strm, by8] at * <;> omega) | (simp [upd4, cpy4, nrm, strm, by8] at * <;> omega)))
  · intro av σ K kx n pc L st σ' nc ns _ _ h
    exact (h : False).elim
def gt_Frame_isTooLong (a : Nat) : Option Nat := match a with
  | _ => none
theorem go_Frame_isTooLong : ∀ a v, gt_Frame_isTooLong a = some v → StaOK R_Frame a v := by
  intro a v h
  unfold gt_Frame_isTooLong at h
  cases h
def pr_Frame_isTooLong : List Ent := [(0, 5, 0, 0, 0), (1, 39, 15, 0, 0), (4, 31, 0, 0, 20), (7, 5, 0, 0, 0), (8, 46, 19, 0, 0), (11, 1, 0, 40, 0), (13, 37, 0, 0, 20), (16, 0, 0, 1, 0), (17, 38, 0, 0, 21), (20, 0, 0, 0, 0), (21, 48, 0, 0, 0)]
def sw_Frame_isTooLong : List Swt := []
theorem dk_Frame_isTooLong : ∀ q ∈ pr_Frame_isTooLong, decode b_Frame_isTooLong q.1 = .ok (dec sw_Frame_isTooLong q) ∧ okE q = true := by decide +kernel
theorem nt_Frame_isTooLong : ∀ q ∈ pr_Frame_isTooLong, ¬ q.2.1 = 55 := by decide +kernel
def ct_Frame_isTooLong (a : Nat) : Option (Nat × Nat × CSp × Nat × Nat) := match a with
  | 19 => some (1, 5, sp_Frame_length, 0, 0)
  | _ => none
theorem co_Frame_isTooLong : ∀ a v, ct_Frame_isTooLong a = some v → StcOK R_Frame 1 20 a v := by
  intro a v h
  unfold ct_Frame_isTooLong at h
  split at h
  · cases h; exact ⟨y_Frame_length, b_Frame_length, 1, (some .int), 0, 0, 0, c_Frame_length, by decide, by decide +kernel, by decide +kernel, by decide +kernel, Or.inl ⟨rfl, by decide, by decide +kernel, by decide +kernel, _, _, rfl, by decide +kernel⟩⟩
  · cases h
/-- Frame_isTooLong -/
def sp_Frame_isTooLong : CSp := sR (fun q σ K _ => q.1 = 8 ∧ K (some (.inl 0)) σ ∧ K (some (.inl 1)) σ)
set_option maxHeartbeats 4000000 in
set_option maxRecDepth 100000 in
theorem c_Frame_isTooLong : Ctr y_Frame_isTooLong b_Frame_isTooLong 1 (some .boolean) 1 20 0 0 sp_Frame_isTooLong := by
  refine ctr_of (FT := ft_Frame) (GT := gt_Frame_isTooLong) (CT := ct_Frame_isTooLong) (sw := sw_Frame_isTooLong) (rt := 1) (pr := pr_Frame_isTooLong) (by decide) [] (fun _ _ _ _ _ _ _ _ _ _ _ => False) 30 ⟨fun h => absurd h (by decide), fun _ => rfl, fun h => absurd h (by decide), fun h => absurd h (by decide)⟩ dk_Frame_isTooLong fo_Frame go_Frame_isTooLong co_Frame_isTooLong (fun a k h hk => by unfold gt_Frame_isTooLong at h; cases h) (fun q hq h => absurd h (nt_Frame_isTooLong q hq)) (fun av σ K kx h => by rw [sR_len h]; decide) ?_ ?_
  · intro av σ K kx hok hSp
    obtain ⟨q0, rfl, hp⟩ := sR_inv hSp
    obtain ⟨k0, e0, i0⟩ := q0
    obtain ⟨h0, h1, h2⟩ := hp
    dsimp only at h0; subst h0
    all_goals (repeat' (first | (with_reducible assumption) | (with_reducible refine IV_upd ?_ ?_) | (with_reducible refine IV_cpy ?_ (fun _ _ _ _ => trivial)) | (refine And.intro ?_ ?_) | (intro _)))
    all_goals first | (first | rfl | decide | (simp only [nrm, strm, by8] at * <;> omega) | (simp [upd4, cpy4, nrm, strm, by8] at * <;> omega)) | (exact h1 (by first | assumption | (first | rfl | decide | (simp only [nrm, strm, by8] at * <;> omega) | (simp [upd4, cpy4, nrm, strm, by8] at * <;> omega)))) | (exact h2 (by first | assumption | (first | rfl | decide | (simp only [nrm, strm, by8] at * <;> omega) | (simp [upd4, cpy4, nrm, strm, by8] at * <;> omega)))) | (exact h1) | (exact h2) | (refine h1 _ ?_ ?_ <;> (repeat' (first | assumption | exact trivial | exact Un_rf | exact hI 4 _ _ _ | exact hI 9 _ _ _ | exact hI 22 _ _ _ | (refine ixr_by8 ?_ ?_) | (refine IV_upd ?_ ?_) | (refine Un_upd rfl ?_) | (refine IV_cpy ?_ (fun _ _ _ _ => trivial)) | (refine Un_cpy rfl ?_) | (apply Un_tr; rotate_left; assumption; rfl) | (refine And.intro ?_ ?_))) <;> (first | rfl | decide | (simp only [nrm, strm, by8] at * <;> omega) | (simp [upd4, cpy4, nrm, strm, by8] at * <;> omega))) | (refine h2 _ ?_ ?_ <;> (repeat' (first | assumption | exact trivial | exact Un_rf | exact hI 4 _ _ _ | exact hI 9 _ _ _ | exact hI 22 _ _ _ | (refine ixr_by8 ?_ ?_) | (refine IV_upd ?_ ?_) | (refine Un_upd rfl ?_) | (refine IV_cpy ?_ (fun _ _ _ _ => trivial)) | (refine Un_cpy rfl ?_) | (apply Un_tr; rotate_left; assumption; rfl) | (refine And.intro ?_ ?_))) <;> (first | rfl | decide | (simp only [nrm, strm, by8] at * <;> omega) | (simp [upd4, cpy4, nrm, strm, by8] at * <;> omega))) | (apply h1 <;> (repeat' (first | assumption | exact trivial | exact Un_rf | exact hI 4 _ _ _ | exact hI 9 _ _ _ | exact hI 22 _ _ _ | (refine ixr_by8 ?_ ?_) | (refine IV_upd ?_ ?_) | (refine Un_upd rfl ?_) | (refine IV_cpy ?_ (fun _ _ _ _ => trivial)) | (refine Un_cpy rfl ?_) | (apply Un_tr; rotate_left; assumption; rfl) | (refine And.intro ?_ ?_))) <;> (first | rfl | decide | (simp only [nrm, strm, by8] at * <;> omega) | (simp [upd4, cpy4, nrm, strm, by8] at * <;> omega))) | (apply h2 <;> (repeat' (first | assumption | exact trivial | exact Un_rf | exact hI 4 _ _ _ | exact hI 9 _ _ _ | exact hI 22 _ _ _ | (refine ixr_by8 ?_ ?_) | (refine IV_upd ?_ ?_) | (refine Un_upd rfl ?_) | (refine IV_cpy ?_ (fun _ _ _ _ => trivial)) | (refine Un_cpy rfl ?_) | (apply Un_tr; rotate_left; assumption; rfl) | (refine And.intro ?_ ?_))) <;> (first | rfl | decide | (simp only [nrm, strm, by8] at * <;> omega) | (simp [upd4, cpy4, nrm, strm, by8] at * <;> omega))) | ((repeat' (first | assumption | exact trivial | exact Un_rf | exact hI 4 _ _ _ | exact hI 9 _ _ _ | exact hI 22 _ _ _ | (refine ixr_by8 ?_ ?_) | (refine IV_upd ?_ ?_) | (refine Un_upd rfl ?_) | (refine IV_cpy ?_ (fun _ _ _ _ => trivial)) | (refine Un_cpy rfl ?_) | (apply Un_tr; rotate_left; assumption; rfl) | (refine And.intro ?_ ?_))) <;> (first | rfl | decide | (simp only [nrm, strm, by8] at * <;> omega) | (simp [upd4, cpy4, nrm, strm, by8] at * <;> omega)))
  · intro av σ K kx n pc L st σ' nc ns _ _ h
    exact (h : False).elim
def gt_Frame_isWhole (a : Nat) : Option Nat := match a with
  | _ => none
theorem go_Frame_isWhole : ∀ a v, gt_Frame_isWhole a = some v → StaOK R_Frame a v := by
  intro a v h
  unfold gt_Frame_isWhole at h
  cases h
def pr_Frame_isWhole : List Ent := [(0, 5, 0, 0, 0), (1, 39, 15, 0, 0), (4, 0, 0, 4, 0), (5, 34, 0, 0, 25), (8, 5, 0, 0, 0), (9, 39, 15, 0, 0), (12, 0, 0, 4, 0), (13, 5, 0, 0, 0), (14, 46, 19, 0, 0), (17, 12, 0, 0, 0), (18, 33, 0, 0, 25), (21, 0, 0, 1, 0), (22, 38, 0, 0, 26), (25, 0, 0, 0, 0), (26, 48, 0, 0, 0)]
def sw_Frame_isWhole : List Swt := []
theorem dk_Frame_isWhole : ∀ q ∈ pr_Frame_isWhole, decode b_Frame_isWhole q.1 = .ok (dec sw_Frame_isWhole q) ∧ okE q = true := by decide +kernel
theorem nt_Frame_isWhole : ∀ q ∈ pr_Frame_isWhole, ¬ q.2.1 = 55 := by decide +kernel
def ct_Frame_isWhole (a : Nat) : Option (Nat × Nat × CSp × Nat × Nat) := match a with
  | 19 => some (1, 5, sp_Frame_length, 0, 0)
  | _ => none
theorem co_Frame_isWhole : ∀ a v, ct_Frame_isWhole a = some v → StcOK R_Frame 1 20 a v := by
  intro a v h
  unfold ct_Frame_isWhole at h
  split at h
  · cases h; exact ⟨y_Frame_length, b_Frame_length, 1, (some .int), 0, 0, 0, c_Frame_length, by decide, by decide +kernel, by decide +kernel, by decide +kernel, Or.inl ⟨rfl, by decide, by decide +kernel, by decide +kernel, _, _, rfl, by decide +kernel⟩⟩
  · cases h
/-- Frame_isWhole -/
def sp_Frame_isWhole : CSp := sR (fun q σ K _ => q.1 = 8 ∧ K (some (.inl 0)) σ ∧ K (some (.inl 1)) σ)
set_option maxHeartbeats 4000000 in
set_option maxRecDepth 100000 in
theorem c_Frame_isWhole : Ctr y_Frame_isWhole b_Frame_isWhole 1 (some .boolean) 1 20 0 0 sp_Frame_isWhole := by
  refine ctr_of (FT := ft_Frame) (GT := gt_Frame_isWhole) (CT := ct_Frame_isWhole) (sw := sw_Frame_isWhole) (rt := 1) (pr := pr_Frame_isWhole) (by decide) [] (fun _ _ _ _ _ _ _ _ _ _ _ => False) 30 ⟨fun h => absurd h (by decide), fun _ => rfl, fun h => absurd h (by decide), fun h => absurd h (by decide)⟩ dk_Frame_isWhole fo_Frame go_Frame_isWhole co_Frame_isWhole (fun a k h hk => by unfold gt_Frame_isWhole at h; cases h) (fun q hq h => absurd h (nt_Frame_isWhole q hq)) (fun av σ K kx h => by rw [sR_len h]; decide) ?_ ?_
  · intro av σ K kx hok hSp
    obtain ⟨q0, rfl, hp⟩ := sR_inv hSp
    obtain ⟨k0, e0, i0⟩ := q0
    obtain ⟨h0, h1, h2⟩ := hp
    dsimp only at h0; subst h0
    all_goals (repeat' (first | (with_reducible assumption) | (with_reducible refine IV_upd ?_ ?_) | (with_reducible refine IV_cpy ?_ (fun _ _ _ _ => trivial)) | (refine And.intro ?_ ?_) | (intro _)))
    all_goals first | (first | rfl | decide | (simp only [nrm, strm, by8] at * <;> omega) | (simp [upd4, cpy4, nrm, strm, by8] at * <;> omega)) | (exact h1 (by first | assumption | (first | rfl | decide | (simp only [nrm, strm, by8] at * <;> omega) | (simp [upd4, cpy4, nrm, strm, by8] at * <;> omega)))) | (exact h2 (by first | assumption | (first | rfl | decide | (simp only [nrm, strm, by8] at * <;> omega) | (simp [upd4, cpy4, nrm, strm, by8] at * <;> omega)))) | (exact h1) | (exact h2) | (refine h1 _ ?_ ?_ <;> (repeat' (first | assumption | exact trivial | exact Un_rf | exact hI 4 _ _ _ | exact hI 9 _ _ _ | exact hI 22 _ _ _ | (refine ixr_by8 ?_ ?_) | (refine IV_upd ?_ ?_) | (refine Un_upd rfl ?_) | (refine IV_cpy ?_ (fun _ _ _ _ => trivial)) | (refine Un_cpy rfl ?_) | (apply Un_tr; rotate_left; assumption; rfl) | (refine And.intro ?_ ?_))) <;> (first | rfl | decide | (simp only [nrm, strm, by8] at * <;> omega) | (simp [upd4, cpy4, nrm, strm, by8] at * <;> omega))) | (refine h2 _ ?_ ?_ <;> (repeat' (first | assumption | exact trivial | exact Un_rf | exact hI 4 _ _ _ | exact hI 9 _ _ _ | exact hI 22 _ _ _ | (refine ixr_by8 ?_ ?_) | (refine IV_upd ?_ ?_) | (refine Un_upd rfl ?_) | (refine IV_cpy ?_ (fun _ _ _ _ => trivial)) | (refine Un_cpy rfl ?_) | (apply Un_tr; rotate_left; assumption; rfl) | (refine And.intro ?_ ?_))) <;> (first | rfl | decide | (simp only [nrm, strm, by8] at * <;> omega) | (simp [upd4, cpy4, nrm, strm, by8] at * <;> omega))) | (apply h1 <;> (repeat' (first | assumption | exact trivial | exact Un_rf | exact hI 4 _ _ _ | exact hI 9 _ _ _ | exact hI 22 _ _ _ | (refine ixr_by8 ?_ ?_) | (refine IV_upd ?_ ?_) | (refine Un_upd rfl ?_) | (refine IV_cpy ?_ (fun _ _ _ _ => trivial)) | (refine Un_cpy rfl ?_) | (apply Un_tr; rotate_left; assumption; rfl) | (refine And.intro ?_ ?_))) <;> (first | rfl | decide | (simp only [nrm, strm, by8] at * <;> omega) | (simp [upd4, cpy4, nrm, strm, by8] at * <;> omega))) | (apply h2 <;> (repeat' (first | assumption | exact trivial | exact Un_rf | exact hI 4 _ _ _ | exact hI 9 _ _ _ | exact hI 22 _ _ _ | (refine ixr_by8 ?_ ?_) | (refine IV_upd ?_ ?_) | (refine Un_upd rfl ?_) | (refine IV_cpy ?_ (fun _ _ _ _ => trivial)) | (refine Un_cpy rfl ?_) | (apply Un_tr; rotate_left; assumption; rfl) | (refine And.intro ?_ ?_))) <;> (first | rfl | decide | (simp only [nrm, strm, by8] at * <;> omega) | (simp [upd4, cpy4, nrm, strm, by8] at * <;> omega))) | ((repeat' (first | assumption | exact trivial | exact Un_rf | exact hI 4 _ _ _ | exact hI 9 _ _ _ | exact hI 22 _ _ _ | (refine ixr_by8 ?_ ?_) | (refine IV_upd ?_ ?_) | (refine Un_upd rfl ?_) | (refine IV_cpy ?_ (fun _ _ _ _ => trivial)) | (refine Un_cpy rfl ?_) | (apply Un_tr; rotate_left; assumption; rfl) | (refine And.intro ?_ ?_))) <;> (first | rfl | decide | (simp only [nrm, strm, by8] at * <;> omega) | (simp [upd4, cpy4, nrm, strm, by8] at * <;> omega)))
  · intro av σ K kx n pc L st σ' nc ns _ _ h
    exact (h : False).elim
def gt_Frame_at (a : Nat) : Option Nat := match a with
  | _ => none
theorem go_Frame_at : ∀ a v, gt_Frame_at a = some v → StaOK R_Frame a v := by
  intro a v h
  unfold gt_Frame_at at h
  cases h
def pr_Frame_at : List Ent := [(0, 3, 1, 0, 0), (1, 28, 0, 0, 21), (4, 3, 1, 0, 0), (5, 1, 0, 40, 0), (7, 35, 0, 0, 21), (10, 5, 0, 0, 0), (11, 39, 9, 0, 0), (14, 0, 0, 4, 0), (15, 3, 1, 0, 0), (16, 12, 0, 0, 0), (17, 41, 0, 0, 0), (18, 38, 0, 0, 22), (21, 0, 0, 0, 0), (22, 48, 0, 0, 0)]
def sw_Frame_at : List Swt := []
theorem dk_Frame_at : ∀ q ∈ pr_Frame_at, decode b_Frame_at q.1 = .ok (dec sw_Frame_at q) ∧ okE q = true := by decide +kernel
theorem nt_Frame_at : ∀ q ∈ pr_Frame_at, ¬ q.2.1 = 55 := by decide +kernel
def ct_Frame_at (a : Nat) : Option (Nat × Nat × CSp × Nat × Nat) := match a with
  | _ => none
theorem co_Frame_at : ∀ a v, ct_Frame_at a = some v → StcOK R_Frame 0 0 a v := by
  intro a v h
  unfold ct_Frame_at at h
  cases h
/-- Frame_at -/
def sp_Frame_at : CSp := sRI (fun q x σ K _ => q.1 = 8 ∧ IV σ ∧ ∀ r, by8 r → K (some (.inl r)) σ)
set_option maxHeartbeats 4000000 in
set_option maxRecDepth 100000 in
theorem c_Frame_at : Ctr y_Frame_at b_Frame_at 2 (some .int) 0 0 0 0 sp_Frame_at := by
  refine ctr_of (FT := ft_Frame) (GT := gt_Frame_at) (CT := ct_Frame_at) (sw := sw_Frame_at) (rt := 0) (pr := pr_Frame_at) (by decide) [] (fun _ _ _ _ _ _ _ _ _ _ _ => False) 30 ⟨fun _ => rfl, fun h => absurd h (by decide), fun h => absurd h (by decide), fun h => absurd h (by decide)⟩ dk_Frame_at fo_Frame go_Frame_at co_Frame_at (fun a k h hk => by unfold gt_Frame_at at h; cases h) (fun q hq h => absurd h (nt_Frame_at q hq)) (fun av σ K kx h => by rw [sRI_len h]; decide) ?_ ?_
  · intro av σ K kx hok hSp
    obtain ⟨q0, x0, rfl, hp⟩ := sRI_inv hSp
    obtain ⟨k0, e0, i0⟩ := q0
    obtain ⟨h0, hI, h2⟩ := hp
    dsimp only at h0; subst h0
    all_goals (repeat' (first | (with_reducible assumption) | (with_reducible refine IV_upd ?_ ?_) | (with_reducible refine IV_cpy ?_ (fun _ _ _ _ => trivial)) | (refine And.intro ?_ ?_) | (intro _)))
    all_goals first | (first | rfl | decide | (simp only [nrm, strm, by8] at * <;> omega) | (simp [upd4, cpy4, nrm, strm, by8] at * <;> omega)) | (exact h2) | (refine h2 _ ?_ ?_ <;> (repeat' (first | assumption | exact trivial | exact Un_rf | exact hI 4 _ _ _ | exact hI 9 _ _ _ | exact hI 22 _ _ _ | (refine ixr_by8 ?_ ?_) | (refine IV_upd ?_ ?_) | (refine Un_upd rfl ?_) | (refine IV_cpy ?_ (fun _ _ _ _ => trivial)) | (refine Un_cpy rfl ?_) | (apply Un_tr; rotate_left; assumption; rfl) | (refine And.intro ?_ ?_))) <;> (first | rfl | decide | (simp only [nrm, strm, by8] at * <;> omega) | (simp [upd4, cpy4, nrm, strm, by8] at * <;> omega))) | (apply h2 <;> (repeat' (first | assumption | exact trivial | exact Un_rf | exact hI 4 _ _ _ | exact hI 9 _ _ _ | exact hI 22 _ _ _ | (refine ixr_by8 ?_ ?_) | (refine IV_upd ?_ ?_) | (refine Un_upd rfl ?_) | (refine IV_cpy ?_ (fun _ _ _ _ => trivial)) | (refine Un_cpy rfl ?_) | (apply Un_tr; rotate_left; assumption; rfl) | (refine And.intro ?_ ?_))) <;> (first | rfl | decide | (simp only [nrm, strm, by8] at * <;> omega) | (simp [upd4, cpy4, nrm, strm, by8] at * <;> omega))) | ((repeat' (first | assumption | exact trivial | exact Un_rf | exact hI 4 _ _ _ | exact hI 9 _ _ _ | exact hI 22 _ _ _ | (refine ixr_by8 ?_ ?_) | (refine IV_upd ?_ ?_) | (refine Un_upd rfl ?_) | (refine IV_cpy ?_ (fun _ _ _ _ => trivial)) | (refine Un_cpy rfl ?_) | (apply Un_tr; rotate_left; assumption; rfl) | (refine And.intro ?_ ?_))) <;> (first | rfl | decide | (simp only [nrm, strm, by8] at * <;> omega) | (simp [upd4, cpy4, nrm, strm, by8] at * <;> omega)))
  · intro av σ K kx n pc L st σ' nc ns _ _ h
    exact (h : False).elim
def gt_Frame_sum (a : Nat) : Option Nat := match a with
  | _ => none
theorem go_Frame_sum : ∀ a v, gt_Frame_sum a = some v → StaOK R_Frame a v := by
  intro a v h
  unfold gt_Frame_sum at h
  cases h
def pr_Frame_sum : List Ent := [(0, 0, 0, 0, 0), (1, 7, 1, 0, 0), (2, 0, 0, 4, 0), (3, 7, 2, 0, 0), (4, 3, 2, 0, 0), (5, 5, 0, 0, 0), (6, 39, 15, 0, 0), (9, 35, 0, 0, 27), (12, 3, 1, 0, 0), (13, 5, 0, 0, 0), (14, 39, 9, 0, 0), (17, 3, 2, 0, 0), (18, 41, 0, 0, 0), (19, 12, 0, 0, 0), (20, 7, 1, 0, 0), (21, 11, 2, 1, 0), (24, 38, 0, 0, 4), (27, 3, 1, 0, 0), (28, 48, 0, 0, 0)]
def sw_Frame_sum : List Swt := []
theorem dk_Frame_sum : ∀ q ∈ pr_Frame_sum, decode b_Frame_sum q.1 = .ok (dec sw_Frame_sum q) ∧ okE q = true := by decide +kernel
theorem nt_Frame_sum : ∀ q ∈ pr_Frame_sum, ¬ q.2.1 = 55 := by decide +kernel
def ct_Frame_sum (a : Nat) : Option (Nat × Nat × CSp × Nat × Nat) := match a with
  | _ => none
theorem co_Frame_sum : ∀ a v, ct_Frame_sum a = some v → StcOK R_Frame 0 0 a v := by
  intro a v h
  unfold ct_Frame_sum at h
  cases h
/-- Frame_sum -/
def sp_Frame_sum : CSp := sR (fun q σ K _ => q.1 = 8 ∧ IV σ ∧ ∀ r, K (some (.inl r)) σ)
set_option maxHeartbeats 4000000 in
set_option maxRecDepth 100000 in
theorem c_Frame_sum : Ctr y_Frame_sum b_Frame_sum 3 (some .int) 0 0 0 0 sp_Frame_sum := by
  refine ctr_of (FT := ft_Frame) (GT := gt_Frame_sum) (CT := ct_Frame_sum) (sw := sw_Frame_sum) (rt := 0) (pr := pr_Frame_sum) (by decide) [4] (fun av σ _ _ n pc L st σ' nc ns => ∃ e i s k, av = [.inr (8, e, i)] ∧ pc = 4 ∧ L = [some (.inr (8, e, i)), some (.inl s), some (.inl k)] ∧ st = [] ∧ σ' = σ ∧ nc = 0 ∧ ns = 0 ∧ 4 ≤ k ∧ k ≤ 44 ∧ n = (44 - k).toNat) 30 ⟨fun _ => rfl, fun h => absurd h (by decide), fun h => absurd h (by decide), fun h => absurd h (by decide)⟩ dk_Frame_sum fo_Frame go_Frame_sum co_Frame_sum (fun a k h hk => by unfold gt_Frame_sum at h; cases h) (fun q hq h => absurd h (nt_Frame_sum q hq)) (fun av σ K kx h => by rw [sR_len h]; decide) ?_ ?_
  · intro av σ K kx hok hSp
    obtain ⟨q0, rfl, hp⟩ := sR_inv hSp
    obtain ⟨k0, e0, i0⟩ := q0
    obtain ⟨h0, hI, h2⟩ := hp
    dsimp only at h0; subst h0
    exact ⟨40, e0, i0, 0, 4, rfl, rfl, rfl, rfl, rfl, rfl, rfl, by omega, by omega, rfl⟩
  · intro av σ K kx n pc L st σ' nc ns hok hSp hJ
    obtain ⟨e, i, s, k, rfl, rfl, rfl, rfl, rfl, rfl, rfl, h0, h6, hn⟩ := hJ
    obtain ⟨-, hI, hk⟩ : (8 : Nat) = 8 ∧ IV σ' ∧ ∀ r, K (some (.inl r)) σ' := hSp
    have i1 : 0 ≤ σ' 8 e i 1 ∧ σ' 8 e i 1 ≤ 44 := hI 8 e i 1
    refine And.intro (fun h => ?_) (fun h => And.intro ?_ ?_)
    · exact hk _
    · simp only [nrm] at h ⊢
      omega
    · refine ⟨(44 - (k + 1)).toNat, ?_, e, i, _, k + 1, rfl, rfl, rfl, rfl, rfl, rfl, rfl, by omega, ?_, rfl⟩
      · simp only [nrm] at h; omega
      · simp only [nrm] at h; omega
def gt_Frame_isWellFormed (a : Nat) : Option Nat := match a with
  | _ => none
theorem go_Frame_isWellFormed : ∀ a v, gt_Frame_isWellFormed a = some v → StaOK R_Frame a v := by
  intro a v h
  unfold gt_Frame_isWellFormed at h
  cases h
def pr_Frame_isWellFormed : List Ent := [(0, 5, 0, 0, 0), (1, 46, 19, 0, 0), (4, 7, 1, 0, 0), (5, 5, 0, 0, 0), (6, 46, 23, 0, 0), (9, 27, 0, 0, 16), (12, 0, 0, 1, 0), (13, 38, 0, 0, 17), (16, 0, 0, 0, 0), (17, 7, 2, 0, 0), (18, 5, 0, 0, 0), (19, 46, 26, 0, 0), (22, 51, 0, 0, 0), (72, 5, 0, 0, 0), (73, 46, 23, 0, 0), (76, 47, 29, 0, 0), (79, 48, 0, 0, 0), (80, 5, 0, 0, 0), (81, 46, 23, 0, 0), (84, 47, 29, 0, 0), (87, 26, 0, 0, 99), (90, 3, 1, 0, 0), (91, 0, 0, 1, 0), (92, 33, 0, 0, 99), (95, 0, 0, 1, 0), (96, 38, 0, 0, 100), (99, 0, 0, 0, 0), (100, 48, 0, 0, 0), (101, 3, 2, 0, 0), (102, 26, 0, 0, 125), (105, 3, 1, 0, 0), (106, 5, 0, 0, 0), (107, 46, 33, 0, 0), (110, 26, 0, 0, 117), (113, 0, 0, 0, 0), (114, 38, 0, 0, 118), (117, 0, 0, 2, 0), (118, 33, 0, 0, 125), (121, 0, 0, 1, 0), (122, 38, 0, 0, 126), (125, 0, 0, 0, 0), (126, 48, 0, 0, 0), (127, 3, 2, 0, 0), (128, 26, 0, 0, 140), (131, 3, 1, 0, 0), (132, 0, 0, 1, 0), (133, 33, 0, 0, 140), (136, 0, 0, 1, 0), (137, 38, 0, 0, 141), (140, 0, 0, 0, 0), (141, 48, 0, 0, 0), (142, 3, 2, 0, 0), (143, 26, 0, 0, 155), (146, 3, 1, 0, 0), (147, 0, 0, 2, 0), (148, 33, 0, 0, 155), (151, 0, 0, 1, 0), (152, 38, 0, 0, 156), (155, 0, 0, 0, 0), (156, 48, 0, 0, 0), (157, 3, 2, 0, 0), (158, 27, 0, 0, 171), (161, 5, 0, 0, 0), (162, 46, 23, 0, 0), (165, 47, 29, 0, 0), (168, 26, 0, 0, 180), (171, 3, 1, 0, 0), (172, 0, 0, 1, 0), (173, 33, 0, 0, 180), (176, 0, 0, 1, 0), (177, 38, 0, 0, 181), (180, 0, 0, 0, 0), (181, 48, 0, 0, 0), (182, 0, 0, 1, 0), (183, 48, 0, 0, 0)]
def sw_Frame_isWellFormed : List Swt := [(0, [72, 72, 182, 80, 101, 182, 127, 142, 157], 182, 50)]
theorem dk_Frame_isWellFormed : ∀ q ∈ pr_Frame_isWellFormed, decode b_Frame_isWellFormed q.1 = .ok (dec sw_Frame_isWellFormed q) ∧ okE q = true := by decide +kernel
theorem nt_Frame_isWellFormed : ∀ q ∈ pr_Frame_isWellFormed, ¬ q.2.1 = 55 := by decide +kernel
def ct_Frame_isWellFormed (a : Nat) : Option (Nat × Nat × CSp × Nat × Nat) := match a with
  | 19 => some (1, 5, sp_Frame_length, 0, 0)
  | 23 => some (1, 5, sp_Frame_streamNumber, 0, 0)
  | 26 => some (1, 5, sp_Frame_type, 0, 0)
  | 29 => some (1, 1000, sp_FrameStreams_isStream, 0, 0)
  | 33 => some (1, 5, sp_Frame_isFlagged, 0, 0)
  | _ => none
theorem co_Frame_isWellFormed : ∀ a v, ct_Frame_isWellFormed a = some v → StcOK R_Frame 1 20 a v := by
  intro a v h
  unfold ct_Frame_isWellFormed at h
  split at h
  · cases h; exact ⟨y_Frame_length, b_Frame_length, 1, (some .int), 0, 0, 0, c_Frame_length, by decide, by decide +kernel, by decide +kernel, by decide +kernel, Or.inl ⟨rfl, by decide, by decide +kernel, by decide +kernel, _, _, rfl, by decide +kernel⟩⟩
  · cases h; exact ⟨y_Frame_streamNumber, b_Frame_streamNumber, 1, (some .int), 0, 0, 0, c_Frame_streamNumber, by decide, by decide +kernel, by decide +kernel, by decide +kernel, Or.inl ⟨rfl, by decide, by decide +kernel, by decide +kernel, _, _, rfl, by decide +kernel⟩⟩
  · cases h; exact ⟨y_Frame_type, b_Frame_type, 1, (some .int), 0, 0, 0, c_Frame_type, by decide, by decide +kernel, by decide +kernel, by decide +kernel, Or.inl ⟨rfl, by decide, by decide +kernel, by decide +kernel, _, _, rfl, by decide +kernel⟩⟩
  · cases h; exact ⟨y_FrameStreams_isStream, b_FrameStreams_isStream, 1, (some .boolean), 0, 0, 1, c_FrameStreams_isStream, by decide, by decide +kernel, by decide +kernel, by decide +kernel, (by first | exact Or.inr (Or.inl ⟨rfl, rfl, by decide +kernel, by decide +kernel⟩) | exact Or.inr (Or.inr ⟨rfl, rfl, ⟨"FrameStreams", by decide +kernel⟩, by decide +kernel⟩))⟩
  · cases h; exact ⟨y_Frame_isFlagged, b_Frame_isFlagged, 1, (some .boolean), 0, 0, 0, c_Frame_isFlagged, by decide, by decide +kernel, by decide +kernel, by decide +kernel, Or.inl ⟨rfl, by decide, by decide +kernel, by decide +kernel, _, _, rfl, by decide +kernel⟩⟩
  · cases h
/-- Frame_isWellFormed -/
def sp_Frame_isWellFormed : CSp := sR (fun q σ K _ => q.1 = 8 ∧ K (some (.inl 0)) σ ∧ K (some (.inl 1)) σ)
set_option maxHeartbeats 4000000 in
set_option maxRecDepth 100000 in
theorem c_Frame_isWellFormed : Ctr y_Frame_isWellFormed b_Frame_isWellFormed 3 (some .boolean) 1 20 0 0 sp_Frame_isWellFormed := by
  refine ctr_of (FT := ft_Frame) (GT := gt_Frame_isWellFormed) (CT := ct_Frame_isWellFormed) (sw := sw_Frame_isWellFormed) (rt := 1) (pr := pr_Frame_isWellFormed) (by decide) [] (fun _ _ _ _ _ _ _ _ _ _ _ => False) 90 ⟨fun h => absurd h (by decide), fun _ => rfl, fun h => absurd h (by decide), fun h => absurd h (by decide)⟩ dk_Frame_isWellFormed fo_Frame go_Frame_isWellFormed co_Frame_isWellFormed (fun a k h hk => by unfold gt_Frame_isWellFormed at h; cases h) (fun q hq h => absurd h (nt_Frame_isWellFormed q hq)) (fun av σ K kx h => by rw [sR_len h]; decide) ?_ ?_
  · intro av σ K kx hok hSp
    obtain ⟨q0, rfl, hp⟩ := sR_inv hSp
    obtain ⟨k0, e0, i0⟩ := q0
    obtain ⟨h0, h1, h2⟩ := hp
    dsimp only at h0; subst h0
    all_goals (repeat' (first | (with_reducible assumption) | (with_reducible refine IV_upd ?_ ?_) | (with_reducible refine IV_cpy ?_ (fun _ _ _ _ => trivial)) | (refine And.intro ?_ ?_) | (intro _)))
    all_goals first | (first | rfl | decide | (simp only [nrm, strm, by8] at * <;> omega) | (simp [upd4, cpy4, nrm, strm, by8] at * <;> omega)) | (exact h1 (by first | assumption | (first | rfl | decide | (simp only [nrm, strm, by8] at * <;> omega) | (simp [upd4, cpy4, nrm, strm, by8] at * <;> omega)))) | (exact h2 (by first | assumption | (first | rfl | decide | (simp only [nrm, strm, by8] at * <;> omega) | (simp [upd4, cpy4, nrm, strm, by8] at * <;> omega)))) | (exact h1) | (exact h2) | (refine h1 _ ?_ ?_ <;> (repeat' (first | assumption | exact trivial | exact Un_rf | exact hI 4 _ _ _ | exact hI 9 _ _ _ | exact hI 22 _ _ _ | (refine ixr_by8 ?_ ?_) | (refine IV_upd ?_ ?_) | (refine Un_upd rfl ?_) | (refine IV_cpy ?_ (fun _ _ _ _ => trivial)) | (refine Un_cpy rfl ?_) | (apply Un_tr; rotate_left; assumption; rfl) | (refine And.intro ?_ ?_))) <;> (first | rfl | decide | (simp only [nrm, strm, by8] at * <;> omega) | (simp [upd4, cpy4, nrm, strm, by8] at * <;> omega))) | (refine h2 _ ?_ ?_ <;> (repeat' (first | assumption | exact trivial | exact Un_rf | exact hI 4 _ _ _ | exact hI 9 _ _ _ | exact hI 22 _ _ _ | (refine ixr_by8 ?_ ?_) | (refine IV_upd ?_ ?_) | (refine Un_upd rfl ?_) | (refine IV_cpy ?_ (fun _ _ _ _ => trivial)) | (refine Un_cpy rfl ?_) | (apply Un_tr; rotate_left; assumption; rfl) | (refine And.intro ?_ ?_))) <;> (first | rfl | decide | (simp only [nrm, strm, by8] at * <;> omega) | (simp [upd4, cpy4, nrm, strm, by8] at * <;> omega))) | (apply h1 <;> (repeat' (first | assumption | exact trivial | exact Un_rf | exact hI 4 _ _ _ | exact hI 9 _ _ _ | exact hI 22 _ _ _ | (refine ixr_by8 ?_ ?_) | (refine IV_upd ?_ ?_) | (refine Un_upd rfl ?_) | (refine IV_cpy ?_ (fun _ _ _ _ => trivial)) | (refine Un_cpy rfl ?_) | (apply Un_tr; rotate_left; assumption; rfl) | (refine And.intro ?_ ?_))) <;> (first | rfl | decide | (simp only [nrm, strm, by8] at * <;> omega) | (simp [upd4, cpy4, nrm, strm, by8] at * <;> omega))) | (apply h2 <;> (repeat' (first | assumption | exact trivial | exact Un_rf | exact hI 4 _ _ _ | exact hI 9 _ _ _ | exact hI 22 _ _ _ | (refine ixr_by8 ?_ ?_) | (refine IV_upd ?_ ?_) | (refine Un_upd rfl ?_) | (refine IV_cpy ?_ (fun _ _ _ _ => trivial)) | (refine Un_cpy rfl ?_) | (apply Un_tr; rotate_left; assumption; rfl) | (refine And.intro ?_ ?_))) <;> (first | rfl | decide | (simp only [nrm, strm, by8] at * <;> omega) | (simp [upd4, cpy4, nrm, strm, by8] at * <;> omega))) | ((repeat' (first | assumption | exact trivial | exact Un_rf | exact hI 4 _ _ _ | exact hI 9 _ _ _ | exact hI 22 _ _ _ | (refine ixr_by8 ?_ ?_) | (refine IV_upd ?_ ?_) | (refine Un_upd rfl ?_) | (refine IV_cpy ?_ (fun _ _ _ _ => trivial)) | (refine Un_cpy rfl ?_) | (apply Un_tr; rotate_left; assumption; rfl) | (refine And.intro ?_ ?_))) <;> (first | rfl | decide | (simp only [nrm, strm, by8] at * <;> omega) | (simp [upd4, cpy4, nrm, strm, by8] at * <;> omega)))
  · intro av σ K kx n pc L st σ' nc ns _ _ h
    exact (h : False).elim
