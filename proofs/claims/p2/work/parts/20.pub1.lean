def rI (x : Int) : Prop := -2147483648 ≤ x ∧ x ≤ 2147483647
theorem un_op {σ σ1 : Sg} {e i : Nat} (hU : Un [13, 18, 19, 20, 21, 22] σ σ1) (h : σ 7 e i 10 ≤ 6) : σ1 7 e i 10 ≤ 6 := by
  rw [hU 7 e i 10 rfl]; exact h
theorem un_st {σ σ1 : Sg} {e i : Nat} (hU : Un [13, 18, 19, 20, 21, 22] σ σ1) (h : ¬ nrm (σ 32 e i 1) = 0) (h2 : nrm (σ1 32 e i 1) = 0) : False := by
  rw [hU 32 e i 1 rfl] at h2; exact h h2
/-- a text with one letter more -/
def addl (t x : Int) : Int := ior t (isl (x - 97 + 1) (5 * tl t))
abbrev UA : List Nat := [3, 4, 7, 8, 9, 10, 11, 12, 13, 14, 15, 16, 17, 18, 19, 20, 21, 22, 23, 24, 25, 26, 27, 28, 29, 30, 32, 33, 34, 35, 36, 37]
def XE (E : String) : Prop := E = exn 1 ∨ E = exn 2 ∨ E = exn 3 ∨ E = exn 4
def pubK (σ : Sg) (K : Option AV → Sg → Prop) : Prop := ∀ r σ', IV σ' → Un UA σ σ' → K (some (.inl r)) σ'
def pubX (σ : Sg) (kx : String → Sg → Prop) : Prop := ∀ E σ', XE E → IV σ' → Un UA σ σ' → kx E σ'
theorem px1 {σ σ' : Sg} {kx : String → Sg → Prop} (h : pubX σ kx) (hI : IV σ') (hU : Un UA σ σ') : kx (exn 1) σ' := h _ _ (Or.inl rfl) hI hU
theorem px2 {σ σ' : Sg} {kx : String → Sg → Prop} (h : pubX σ kx) (hI : IV σ') (hU : Un UA σ σ') : kx (exn 2) σ' := h _ _ (Or.inr (Or.inl rfl)) hI hU
theorem px3 {σ σ' : Sg} {kx : String → Sg → Prop} (h : pubX σ kx) (hI : IV σ') (hU : Un UA σ σ') : kx (exn 3) σ' := h _ _ (Or.inr (Or.inr (Or.inl rfl))) hI hU
theorem px4 {σ σ' : Sg} {kx : String → Sg → Prop} (h : pubX σ kx) (hI : IV σ') (hU : Un UA σ σ') : kx (exn 4) σ' := h _ _ (Or.inr (Or.inr (Or.inr rfl))) hI hU
theorem pk {σ σ' : Sg} {K : Option AV → Sg → Prop} {r : Int} (h : pubK σ K) (hI : IV σ') (hU : Un UA σ σ') : K (some (.inl r)) σ' := h r σ' hI hU
def gt_FrameStreams_letter (a : Nat) : Option Nat := match a with
  | _ => none
theorem go_FrameStreams_letter : ∀ a v, gt_FrameStreams_letter a = some v → StaOK R_FrameStreams a v := by
  intro a v h
  unfold gt_FrameStreams_letter at h
  cases h
def pr_FrameStreams_letter : List Ent := [(0, 3, 1, 0, 0), (1, 0, 0, 0, 0), (2, 1, 0, 7, 0), (4, 47, 25, 0, 0), (7, 3, 2, 0, 0), (8, 1, 0, 97, 0), (10, 1, 0, 122, 0), (12, 47, 25, 0, 0), (15, 5, 0, 0, 0), (16, 39, 9, 0, 0), (19, 3, 1, 0, 0), (20, 41, 0, 0, 0), (21, 47, 31, 0, 0), (24, 1, 0, 6, 0), (26, 35, 0, 0, 33), (29, 0, 0, 1, 0), (30, 38, 0, 0, 34), (33, 0, 0, 0, 0), (34, 47, 35, 0, 0), (37, 5, 0, 0, 0), (38, 39, 9, 0, 0), (41, 3, 1, 0, 0), (42, 5, 0, 0, 0), (43, 39, 9, 0, 0), (46, 3, 1, 0, 0), (47, 41, 0, 0, 0), (48, 3, 2, 0, 0), (49, 47, 39, 0, 0), (52, 42, 0, 0, 0), (53, 5, 0, 0, 0), (54, 39, 9, 0, 0), (57, 3, 1, 0, 0), (58, 41, 0, 0, 0), (59, 47, 31, 0, 0), (62, 48, 0, 0, 0)]
def sw_FrameStreams_letter : List Swt := []
theorem dk_FrameStreams_letter : ∀ q ∈ pr_FrameStreams_letter, decode b_FrameStreams_letter q.1 = .ok (dec sw_FrameStreams_letter q) ∧ okE q = true := by decide +kernel
theorem nt_FrameStreams_letter : ∀ q ∈ pr_FrameStreams_letter, ¬ q.2.1 = 55 := by decide +kernel
def ct_FrameStreams_letter (a : Nat) : Option (Nat × Nat × CSp × Nat × Nat) := match a with
  | 25 => some (3, 1000, sp_FrameStreams_requireWithin, 1, 6)
  | 31 => some (1, 1000, sp_Letters_length, 0, 0)
  | 35 => some (1, 1000, sp_FrameStreams_requireState, 1, 6)
  | 39 => some (2, 1000, sp_Letters_append, 0, 0)
  | _ => none
theorem co_FrameStreams_letter : ∀ a v, ct_FrameStreams_letter a = some v → StcOK R_FrameStreams 8 131 a v := by
  intro a v h
  unfold ct_FrameStreams_letter at h
  split at h
  · cases h; exact ⟨y_FrameStreams_requireWithin, b_FrameStreams_requireWithin, 3, none, 7, 109, 3, c_FrameStreams_requireWithin, by decide, by decide +kernel, by decide +kernel, by decide +kernel, (by first | exact Or.inr (Or.inl ⟨rfl, rfl, by decide +kernel, by decide +kernel⟩) | exact Or.inr (Or.inr ⟨rfl, rfl, ⟨"FrameStreams", by decide +kernel⟩, by decide +kernel⟩))⟩
  · cases h; exact ⟨y_Letters_length, b_Letters_length, 2, (some .int), 0, 0, 1, c_Letters_length, by decide, by decide +kernel, by decide +kernel, by decide +kernel, (by first | exact Or.inr (Or.inl ⟨rfl, rfl, by decide +kernel, by decide +kernel⟩) | exact Or.inr (Or.inr ⟨rfl, rfl, ⟨"FrameStreams", by decide +kernel⟩, by decide +kernel⟩))⟩
  · cases h; exact ⟨y_FrameStreams_requireState, b_FrameStreams_requireState, 1, none, 6, 89, 1, c_FrameStreams_requireState, by decide, by decide +kernel, by decide +kernel, by decide +kernel, (by first | exact Or.inr (Or.inl ⟨rfl, rfl, by decide +kernel, by decide +kernel⟩) | exact Or.inr (Or.inr ⟨rfl, rfl, ⟨"FrameStreams", by decide +kernel⟩, by decide +kernel⟩))⟩
  · cases h; exact ⟨y_Letters_append, b_Letters_append, 2, (some .int), 1, 21, 2, c_Letters_append, by decide, by decide +kernel, by decide +kernel, by decide +kernel, (by first | exact Or.inr (Or.inl ⟨rfl, rfl, by decide +kernel, by decide +kernel⟩) | exact Or.inr (Or.inr ⟨rfl, rfl, ⟨"FrameStreams", by decide +kernel⟩, by decide +kernel⟩))⟩
  · cases h
/-- FrameStreams_letter -/
def sp_FrameStreams_letter : CSp := sRII (fun q x0 x1 σ K kx => q.1 = 0 ∧ IV σ ∧ ((0 ≤ nrm x0 ∧ nrm x0 ≤ 7) ∧ (97 ≤ nrm x1 ∧ nrm x1 ≤ 122) → tl (σ 1 0 0 (nrm x0).toNat) < 6 → K (some (.inl (tl (upd4 σ 1 0 0 (nrm x0).toNat (addl (σ 1 0 0 (nrm x0).toNat) x1) 1 0 0 (nrm x0).toNat)))) (upd4 σ 1 0 0 (nrm x0).toNat (addl (σ 1 0 0 (nrm x0).toNat) x1))) ∧ ((0 ≤ nrm x0 ∧ nrm x0 ≤ 7) ∧ (97 ≤ nrm x1 ∧ nrm x1 ≤ 122) → 6 ≤ tl (σ 1 0 0 (nrm x0).toNat) → kx (exn 4) σ) ∧ (¬ ((0 ≤ nrm x0 ∧ nrm x0 ≤ 7) ∧ (97 ≤ nrm x1 ∧ nrm x1 ≤ 122)) → kx (exn 1) σ))
set_option maxHeartbeats 4000000 in
set_option maxRecDepth 100000 in
theorem c_FrameStreams_letter : Ctr y_FrameStreams_letter b_FrameStreams_letter 3 (some .int) 8 131 3 18 sp_FrameStreams_letter := by
  refine ctr_of (FT := ft_FrameStreams) (GT := gt_FrameStreams_letter) (CT := ct_FrameStreams_letter) (sw := sw_FrameStreams_letter) (rt := 0) (pr := pr_FrameStreams_letter) (by decide) [] (fun _ _ _ _ _ _ _ _ _ _ _ => False) 50 ⟨fun _ => rfl, fun h => absurd h (by decide), fun h => absurd h (by decide), fun h => absurd h (by decide)⟩ dk_FrameStreams_letter fo_FrameStreams go_FrameStreams_letter co_FrameStreams_letter (fun a k h hk => by unfold gt_FrameStreams_letter at h; cases h) (fun q hq h => absurd h (nt_FrameStreams_letter q hq)) (fun av σ K kx h => by rw [sRII_len h]; decide) ?_ ?_
  · intro av σ K kx hok hSp
    obtain ⟨q0, x0, x1, rfl, hp⟩ := sRII_inv hSp
    obtain ⟨k0, e0, i0⟩ := q0
    obtain ⟨h0, hI, h2, h3, h4⟩ := hp
    dsimp only at h0; subst h0
    have t1 := tl_rg (σ 1 0 0 (nrm x0).toNat)
    all_goals (repeat' (first | (with_reducible assumption) | (with_reducible (apply by8_9; assumption)) | (with_reducible (apply by8_4; assumption)) | (with_reducible (apply by8_22; assumption)) | (with_reducible (apply by8_g; assumption)) | (with_reducible refine IV_upd ?_ ?_) | (with_reducible refine IV_cpy ?_ (fun _ _ _ _ => trivial)) | (refine And.intro ?_ ?_) | (intro _)))
    all_goals first | (exact h2 (by (first | rfl | decide | exact Or.inl rfl | exact Or.inr (Or.inl rfl) | exact Or.inr (Or.inr rfl) | (simp only [nrm, strm, by8] at * <;> omega) | (simp [upd4, cpy4, nrm, strm, by8] at * <;> omega))) (by (first | rfl | decide | exact Or.inl rfl | exact Or.inr (Or.inl rfl) | exact Or.inr (Or.inr rfl) | (simp only [nrm, strm, by8] at * <;> omega) | (simp [upd4, cpy4, nrm, strm, by8] at * <;> omega)))) | (exact h3 (by (first | rfl | decide | exact Or.inl rfl | exact Or.inr (Or.inl rfl) | exact Or.inr (Or.inr rfl) | (simp only [nrm, strm, by8] at * <;> omega) | (simp [upd4, cpy4, nrm, strm, by8] at * <;> omega))) (by (first | rfl | decide | exact Or.inl rfl | exact Or.inr (Or.inl rfl) | exact Or.inr (Or.inr rfl) | (simp only [nrm, strm, by8] at * <;> omega) | (simp [upd4, cpy4, nrm, strm, by8] at * <;> omega)))) | (exact h4 (by (first | rfl | decide | exact Or.inl rfl | exact Or.inr (Or.inl rfl) | exact Or.inr (Or.inr rfl) | (simp only [nrm, strm, by8] at * <;> omega) | (simp [upd4, cpy4, nrm, strm, by8] at * <;> omega)))) | (first | rfl | decide | exact Or.inl rfl | exact Or.inr (Or.inl rfl) | exact Or.inr (Or.inr rfl) | (simp only [nrm, strm, by8] at * <;> omega) | (simp [upd4, cpy4, nrm, strm, by8] at * <;> omega))
  · intro av σ K kx n pc L st σ' nc ns _ _ h
    exact (h : False).elim
def gt_FrameStreams_wipe (a : Nat) : Option Nat := match a with
  | _ => none
theorem go_FrameStreams_wipe : ∀ a v, gt_FrameStreams_wipe a = some v → StaOK R_FrameStreams a v := by
  intro a v h
  unfold gt_FrameStreams_wipe at h
  cases h
def pr_FrameStreams_wipe : List Ent := [(0, 3, 1, 0, 0), (1, 0, 0, 0, 0), (2, 1, 0, 7, 0), (4, 47, 25, 0, 0), (7, 5, 0, 0, 0), (8, 39, 9, 0, 0), (11, 3, 1, 0, 0), (12, 41, 0, 0, 0), (13, 47, 31, 0, 0), (16, 7, 2, 0, 0), (17, 5, 0, 0, 0), (18, 39, 9, 0, 0), (21, 3, 1, 0, 0), (22, 0, 0, 0, 0), (23, 42, 0, 0, 0), (24, 3, 2, 0, 0), (25, 48, 0, 0, 0)]
def sw_FrameStreams_wipe : List Swt := []
theorem dk_FrameStreams_wipe : ∀ q ∈ pr_FrameStreams_wipe, decode b_FrameStreams_wipe q.1 = .ok (dec sw_FrameStreams_wipe q) ∧ okE q = true := by decide +kernel
theorem nt_FrameStreams_wipe : ∀ q ∈ pr_FrameStreams_wipe, ¬ q.2.1 = 55 := by decide +kernel
def ct_FrameStreams_wipe (a : Nat) : Option (Nat × Nat × CSp × Nat × Nat) := match a with
  | 25 => some (3, 1000, sp_FrameStreams_requireWithin, 1, 6)
  | 31 => some (1, 1000, sp_Letters_length, 0, 0)
  | _ => none
theorem co_FrameStreams_wipe : ∀ a v, ct_FrameStreams_wipe a = some v → StcOK R_FrameStreams 8 131 a v := by
  intro a v h
  unfold ct_FrameStreams_wipe at h
  split at h
  · cases h; exact ⟨y_FrameStreams_requireWithin, b_FrameStreams_requireWithin, 3, none, 7, 109, 3, c_FrameStreams_requireWithin, by decide, by decide +kernel, by decide +kernel, by decide +kernel, (by first | exact Or.inr (Or.inl ⟨rfl, rfl, by decide +kernel, by decide +kernel⟩) | exact Or.inr (Or.inr ⟨rfl, rfl, ⟨"FrameStreams", by decide +kernel⟩, by decide +kernel⟩))⟩
  · cases h; exact ⟨y_Letters_length, b_Letters_length, 2, (some .int), 0, 0, 1, c_Letters_length, by decide, by decide +kernel, by decide +kernel, by decide +kernel, (by first | exact Or.inr (Or.inl ⟨rfl, rfl, by decide +kernel, by decide +kernel⟩) | exact Or.inr (Or.inr ⟨rfl, rfl, ⟨"FrameStreams", by decide +kernel⟩, by decide +kernel⟩))⟩
  · cases h
/-- FrameStreams_wipe -/
def sp_FrameStreams_wipe : CSp := sRI (fun q x0 σ K kx => q.1 = 0 ∧ IV σ ∧ (0 ≤ nrm x0 ∧ nrm x0 ≤ 7 → K (some (.inl (tl (σ 1 0 0 (nrm x0).toNat)))) (upd4 σ 1 0 0 (nrm x0).toNat 0)) ∧ (¬ (0 ≤ nrm x0 ∧ nrm x0 ≤ 7) → kx (exn 1) σ))
set_option maxHeartbeats 4000000 in
set_option maxRecDepth 100000 in
theorem c_FrameStreams_wipe : Ctr y_FrameStreams_wipe b_FrameStreams_wipe 3 (some .int) 8 131 1 6 sp_FrameStreams_wipe := by
  refine ctr_of (FT := ft_FrameStreams) (GT := gt_FrameStreams_wipe) (CT := ct_FrameStreams_wipe) (sw := sw_FrameStreams_wipe) (rt := 0) (pr := pr_FrameStreams_wipe) (by decide) [] (fun _ _ _ _ _ _ _ _ _ _ _ => False) 30 ⟨fun _ => rfl, fun h => absurd h (by decide), fun h => absurd h (by decide), fun h => absurd h (by decide)⟩ dk_FrameStreams_wipe fo_FrameStreams go_FrameStreams_wipe co_FrameStreams_wipe (fun a k h hk => by unfold gt_FrameStreams_wipe at h; cases h) (fun q hq h => absurd h (nt_FrameStreams_wipe q hq)) (fun av σ K kx h => by rw [sRI_len h]; decide) ?_ ?_
  · intro av σ K kx hok hSp
    obtain ⟨q0, x0, rfl, hp⟩ := sRI_inv hSp
    obtain ⟨k0, e0, i0⟩ := q0
    obtain ⟨h0, hI, h2, h3⟩ := hp
    dsimp only at h0; subst h0
    all_goals (repeat' (first | (with_reducible assumption) | (with_reducible (apply by8_9; assumption)) | (with_reducible (apply by8_4; assumption)) | (with_reducible (apply by8_22; assumption)) | (with_reducible (apply by8_g; assumption)) | (with_reducible refine IV_upd ?_ ?_) | (with_reducible refine IV_cpy ?_ (fun _ _ _ _ => trivial)) | (refine And.intro ?_ ?_) | (intro _)))
    all_goals first | (exact h2 (by (first | rfl | decide | exact Or.inl rfl | exact Or.inr (Or.inl rfl) | exact Or.inr (Or.inr rfl) | (simp only [nrm, strm, by8] at * <;> omega) | (simp [upd4, cpy4, nrm, strm, by8] at * <;> omega)))) | (exact h3 (by (first | rfl | decide | exact Or.inl rfl | exact Or.inr (Or.inl rfl) | exact Or.inr (Or.inr rfl) | (simp only [nrm, strm, by8] at * <;> omega) | (simp [upd4, cpy4, nrm, strm, by8] at * <;> omega)))) | (first | rfl | decide | exact Or.inl rfl | exact Or.inr (Or.inl rfl) | exact Or.inr (Or.inr rfl) | (simp only [nrm, strm, by8] at * <;> omega) | (simp [upd4, cpy4, nrm, strm, by8] at * <;> omega))
  · intro av σ K kx n pc L st σ' nc ns _ _ h
    exact (h : False).elim
def gt_FrameStreams_ping (a : Nat) : Option Nat := match a with
  | _ => none
theorem go_FrameStreams_ping : ∀ a v, gt_FrameStreams_ping a = some v → StaOK R_FrameStreams a v := by
  intro a v h
  unfold gt_FrameStreams_ping at h
  cases h
def pr_FrameStreams_ping : List Ent := [(0, 3, 1, 0, 0), (1, 0, 0, 0, 0), (2, 0, 0, 1, 0), (3, 47, 25, 0, 0), (6, 3, 2, 0, 0), (7, 0, 0, 0, 0), (8, 2, 0, 255, 0), (11, 47, 25, 0, 0), (14, 5, 0, 0, 0), (15, 39, 15, 0, 0), (18, 3, 1, 0, 0), (19, 43, 0, 0, 0), (20, 0, 0, 1, 0), (21, 46, 87, 0, 0), (24, 47, 35, 0, 0), (27, 5, 0, 0, 0), (28, 39, 15, 0, 0), (31, 3, 1, 0, 0), (32, 43, 0, 0, 0), (33, 1, 0, 6, 0), (35, 0, 0, 0, 0), (36, 0, 0, 0, 0), (37, 3, 2, 0, 0), (38, 46, 106, 0, 0), (41, 24, 0, 0, 0), (42, 0, 0, 0, 0), (43, 48, 0, 0, 0)]
def sw_FrameStreams_ping : List Swt := []
theorem dk_FrameStreams_ping : ∀ q ∈ pr_FrameStreams_ping, decode b_FrameStreams_ping q.1 = .ok (dec sw_FrameStreams_ping q) ∧ okE q = true := by decide +kernel
theorem nt_FrameStreams_ping : ∀ q ∈ pr_FrameStreams_ping, ¬ q.2.1 = 55 := by decide +kernel
def ct_FrameStreams_ping (a : Nat) : Option (Nat × Nat × CSp × Nat × Nat) := match a with
  | 25 => some (3, 1000, sp_FrameStreams_requireWithin, 1, 6)
  | 35 => some (1, 1000, sp_FrameStreams_requireState, 1, 6)
  | 87 => some (2, 3, sp_End_maySend, 0, 0)
  | 106 => some (5, 3, sp_End_sendByte, 0, 0)
  | _ => none
theorem co_FrameStreams_ping : ∀ a v, ct_FrameStreams_ping a = some v → StcOK R_FrameStreams 8 131 a v := by
  intro a v h
  unfold ct_FrameStreams_ping at h
  split at h
  · cases h; exact ⟨y_FrameStreams_requireWithin, b_FrameStreams_requireWithin, 3, none, 7, 109, 3, c_FrameStreams_requireWithin, by decide, by decide +kernel, by decide +kernel, by decide +kernel, (by first | exact Or.inr (Or.inl ⟨rfl, rfl, by decide +kernel, by decide +kernel⟩) | exact Or.inr (Or.inr ⟨rfl, rfl, ⟨"FrameStreams", by decide +kernel⟩, by decide +kernel⟩))⟩
  · cases h; exact ⟨y_FrameStreams_requireState, b_FrameStreams_requireState, 1, none, 6, 89, 1, c_FrameStreams_requireState, by decide, by decide +kernel, by decide +kernel, by decide +kernel, (by first | exact Or.inr (Or.inl ⟨rfl, rfl, by decide +kernel, by decide +kernel⟩) | exact Or.inr (Or.inr ⟨rfl, rfl, ⟨"FrameStreams", by decide +kernel⟩, by decide +kernel⟩))⟩
  · cases h; exact ⟨y_End_maySend, b_End_maySend, 2, (some .boolean), 1, 21, 1, c_End_maySend, by decide, by decide +kernel, by decide +kernel, by decide +kernel, Or.inl ⟨rfl, by decide, by decide +kernel, by decide +kernel, _, _, rfl, by decide +kernel⟩⟩
  · cases h; exact ⟨y_End_sendByte, b_End_sendByte, 5, (some .int), 2, 45, 4, c_End_sendByte, by decide, by decide +kernel, by decide +kernel, by decide +kernel, Or.inl ⟨rfl, by decide, by decide +kernel, by decide +kernel, _, _, rfl, by decide +kernel⟩⟩
  · cases h
/-- FrameStreams_ping -/
def sp_FrameStreams_ping : CSp := sRII (fun q x0 x1 σ K kx => q.1 = 0 ∧ (rI x0 ∧ rI x1) ∧ IV σ ∧ pubK σ K ∧ pubX σ kx)
set_option maxHeartbeats 4000000 in
set_option maxRecDepth 100000 in
theorem c_FrameStreams_ping : Ctr y_FrameStreams_ping b_FrameStreams_ping 3 (some .int) 8 131 3 18 sp_FrameStreams_ping := by
  refine ctr_of (FT := ft_FrameStreams) (GT := gt_FrameStreams_ping) (CT := ct_FrameStreams_ping) (sw := sw_FrameStreams_ping) (rt := 0) (pr := pr_FrameStreams_ping) (by decide) [] (fun _ _ _ _ _ _ _ _ _ _ _ => False) 40 ⟨fun _ => rfl, fun h => absurd h (by decide), fun h => absurd h (by decide), fun h => absurd h (by decide)⟩ dk_FrameStreams_ping fo_FrameStreams go_FrameStreams_ping co_FrameStreams_ping (fun a k h hk => by unfold gt_FrameStreams_ping at h; cases h) (fun q hq h => absurd h (nt_FrameStreams_ping q hq)) (fun av σ K kx h => by rw [sRII_len h]; decide) ?_ ?_
  · intro av σ K kx hok hSp
    obtain ⟨q0, x0, x1, rfl, hp⟩ := sRII_inv hSp
    obtain ⟨k0, e0, i0⟩ := q0
    obtain ⟨h0, hr, hI, hpk, hpx⟩ := hp
    dsimp only at h0; subst h0
    simp only [rI] at hr
    all_goals (repeat' (first | (with_reducible assumption) | (with_reducible (apply by8_9; assumption)) | (with_reducible (apply by8_4; assumption)) | (with_reducible (apply by8_22; assumption)) | (with_reducible (apply by8_g; assumption)) | (with_reducible refine IV_upd ?_ ?_) | (with_reducible refine IV_cpy ?_ (fun _ _ _ _ => trivial)) | (refine And.intro ?_ ?_) | (intro _)))
    all_goals first | (refine pk hpk ?_ ?_ <;> (repeat' (first | assumption | exact trivial | exact Un_rf | (apply by8_4; assumption) | (apply by8_9; assumption) | (apply by8_22; assumption) | (apply by8_g; assumption) | (refine by8_13 ?_) | (apply rg34_of <;> assumption) | (refine rg_max ?_ ?_) | (apply rg_34; assumption) | (refine ixr_by8 ?_ ?_) | (refine IV_upd ?_ ?_) | (refine Un_upd rfl ?_) | (refine IV_cpy ?_ (fun _ _ _ _ => trivial)) | (refine Un_cpy rfl ?_) | (apply Un_tr; rotate_left; assumption; rfl) | (refine And.intro ?_ ?_))) <;> (first | rfl | decide | exact Or.inl rfl | exact Or.inr (Or.inl rfl) | exact Or.inr (Or.inr rfl) | (simp only [nrm, strm, by8] at * <;> omega) | (simp [upd4, cpy4, nrm, strm, by8] at * <;> omega))) | (refine px1 hpx ?_ ?_ <;> (repeat' (first | assumption | exact trivial | exact Un_rf | (apply by8_4; assumption) | (apply by8_9; assumption) | (apply by8_22; assumption) | (apply by8_g; assumption) | (refine by8_13 ?_) | (apply rg34_of <;> assumption) | (refine rg_max ?_ ?_) | (apply rg_34; assumption) | (refine ixr_by8 ?_ ?_) | (refine IV_upd ?_ ?_) | (refine Un_upd rfl ?_) | (refine IV_cpy ?_ (fun _ _ _ _ => trivial)) | (refine Un_cpy rfl ?_) | (apply Un_tr; rotate_left; assumption; rfl) | (refine And.intro ?_ ?_))) <;> (first | rfl | decide | exact Or.inl rfl | exact Or.inr (Or.inl rfl) | exact Or.inr (Or.inr rfl) | (simp only [nrm, strm, by8] at * <;> omega) | (simp [upd4, cpy4, nrm, strm, by8] at * <;> omega))) | (refine px2 hpx ?_ ?_ <;> (repeat' (first | assumption | exact trivial | exact Un_rf | (apply by8_4; assumption) | (apply by8_9; assumption) | (apply by8_22; assumption) | (apply by8_g; assumption) | (refine by8_13 ?_) | (apply rg34_of <;> assumption) | (refine rg_max ?_ ?_) | (apply rg_34; assumption) | (refine ixr_by8 ?_ ?_) | (refine IV_upd ?_ ?_) | (refine Un_upd rfl ?_) | (refine IV_cpy ?_ (fun _ _ _ _ => trivial)) | (refine Un_cpy rfl ?_) | (apply Un_tr; rotate_left; assumption; rfl) | (refine And.intro ?_ ?_))) <;> (first | rfl | decide | exact Or.inl rfl | exact Or.inr (Or.inl rfl) | exact Or.inr (Or.inr rfl) | (simp only [nrm, strm, by8] at * <;> omega) | (simp [upd4, cpy4, nrm, strm, by8] at * <;> omega))) | (refine px3 hpx ?_ ?_ <;> (repeat' (first | assumption | exact trivial | exact Un_rf | (apply by8_4; assumption) | (apply by8_9; assumption) | (apply by8_22; assumption) | (apply by8_g; assumption) | (refine by8_13 ?_) | (apply rg34_of <;> assumption) | (refine rg_max ?_ ?_) | (apply rg_34; assumption) | (refine ixr_by8 ?_ ?_) | (refine IV_upd ?_ ?_) | (refine Un_upd rfl ?_) | (refine IV_cpy ?_ (fun _ _ _ _ => trivial)) | (refine Un_cpy rfl ?_) | (apply Un_tr; rotate_left; assumption; rfl) | (refine And.intro ?_ ?_))) <;> (first | rfl | decide | exact Or.inl rfl | exact Or.inr (Or.inl rfl) | exact Or.inr (Or.inr rfl) | (simp only [nrm, strm, by8] at * <;> omega) | (simp [upd4, cpy4, nrm, strm, by8] at * <;> omega))) | (refine px4 hpx ?_ ?_ <;> (repeat' (first | assumption | exact trivial | exact Un_rf | (apply by8_4; assumption) | (apply by8_9; assumption) | (apply by8_22; assumption) | (apply by8_g; assumption) | (refine by8_13 ?_) | (apply rg34_of <;> assumption) | (refine rg_max ?_ ?_) | (apply rg_34; assumption) | (refine ixr_by8 ?_ ?_) | (refine IV_upd ?_ ?_) | (refine Un_upd rfl ?_) | (refine IV_cpy ?_ (fun _ _ _ _ => trivial)) | (refine Un_cpy rfl ?_) | (apply Un_tr; rotate_left; assumption; rfl) | (refine And.intro ?_ ?_))) <;> (first | rfl | decide | exact Or.inl rfl | exact Or.inr (Or.inl rfl) | exact Or.inr (Or.inr rfl) | (simp only [nrm, strm, by8] at * <;> omega) | (simp [upd4, cpy4, nrm, strm, by8] at * <;> omega))) | (first | rfl | decide | exact Or.inl rfl | exact Or.inr (Or.inl rfl) | exact Or.inr (Or.inr rfl) | (simp only [nrm, strm, by8] at * <;> omega) | (simp [upd4, cpy4, nrm, strm, by8] at * <;> omega)) | ((repeat' (first | assumption | exact trivial | exact Un_rf | (apply by8_4; assumption) | (apply by8_9; assumption) | (apply by8_22; assumption) | (apply by8_g; assumption) | (refine by8_13 ?_) | (apply rg34_of <;> assumption) | (refine rg_max ?_ ?_) | (apply rg_34; assumption) | (refine ixr_by8 ?_ ?_) | (refine IV_upd ?_ ?_) | (refine Un_upd rfl ?_) | (refine IV_cpy ?_ (fun _ _ _ _ => trivial)) | (refine Un_cpy rfl ?_) | (apply Un_tr; rotate_left; assumption; rfl) | (refine And.intro ?_ ?_))) <;> (first | rfl | decide | exact Or.inl rfl | exact Or.inr (Or.inl rfl) | exact Or.inr (Or.inr rfl) | (simp only [nrm, strm, by8] at * <;> omega) | (simp [upd4, cpy4, nrm, strm, by8] at * <;> omega)))
  · intro av σ K kx n pc L st σ' nc ns _ _ h
    exact (h : False).elim
def gt_FrameStreams_alter (a : Nat) : Option Nat := match a with
  | _ => none
theorem go_FrameStreams_alter : ∀ a v, gt_FrameStreams_alter a = some v → StaOK R_FrameStreams a v := by
  intro a v h
  unfold gt_FrameStreams_alter at h
  cases h
def pr_FrameStreams_alter : List Ent := [(0, 3, 1, 0, 0), (1, 0, 0, 0, 0), (2, 0, 0, 1, 0), (3, 47, 25, 0, 0), (6, 3, 2, 0, 0), (7, 28, 0, 0, 14), (10, 0, 0, 1, 0), (11, 38, 0, 0, 15), (14, 0, 0, 0, 0), (15, 47, 147, 0, 0), (18, 3, 3, 0, 0), (19, 0, 0, 0, 0), (20, 2, 0, 255, 0), (23, 47, 25, 0, 0), (26, 5, 0, 0, 0), (27, 39, 15, 0, 0), (30, 3, 1, 0, 0), (31, 43, 0, 0, 0), (32, 46, 119, 0, 0), (35, 10, 4, 0, 0), (37, 3, 2, 0, 0), (38, 6, 4, 0, 0), (40, 46, 123, 0, 0), (43, 35, 0, 0, 50), (46, 0, 0, 1, 0), (47, 38, 0, 0, 51), (50, 0, 0, 0, 0), (51, 47, 129, 0, 0), (54, 6, 4, 0, 0), (56, 3, 2, 0, 0), (57, 3, 3, 0, 0), (58, 46, 150, 0, 0), (61, 48, 0, 0, 0)]
def sw_FrameStreams_alter : List Swt := []
theorem dk_FrameStreams_alter : ∀ q ∈ pr_FrameStreams_alter, decode b_FrameStreams_alter q.1 = .ok (dec sw_FrameStreams_alter q) ∧ okE q = true := by decide +kernel
theorem nt_FrameStreams_alter : ∀ q ∈ pr_FrameStreams_alter, ¬ q.2.1 = 55 := by decide +kernel
def ct_FrameStreams_alter (a : Nat) : Option (Nat × Nat × CSp × Nat × Nat) := match a with
  | 25 => some (3, 1000, sp_FrameStreams_requireWithin, 1, 6)
  | 119 => some (1, 3, sp_End_coming, 0, 0)
  | 123 => some (1, 8, sp_Wire_count, 0, 0)
  | 129 => some (1, 1000, sp_FrameStreams_requireThere, 1, 6)
  | 147 => some (1, 1000, sp_FrameStreams_requireArgument, 1, 6)
  | 150 => some (3, 8, sp_Wire_flip, 0, 0)
  | _ => none
theorem co_FrameStreams_alter : ∀ a v, ct_FrameStreams_alter a = some v → StcOK R_FrameStreams 8 131 a v := by
  intro a v h
  unfold ct_FrameStreams_alter at h
  split at h
  · cases h; exact ⟨y_FrameStreams_requireWithin, b_FrameStreams_requireWithin, 3, none, 7, 109, 3, c_FrameStreams_requireWithin, by decide, by decide +kernel, by decide +kernel, by decide +kernel, (by first | exact Or.inr (Or.inl ⟨rfl, rfl, by decide +kernel, by decide +kernel⟩) | exact Or.inr (Or.inr ⟨rfl, rfl, ⟨"FrameStreams", by decide +kernel⟩, by decide +kernel⟩))⟩
  · cases h; exact ⟨y_End_coming, b_End_coming, 1, (some (.object "FrameStreams$Wire")), 0, 0, 0, c_End_coming, by decide, by decide +kernel, by decide +kernel, by decide +kernel, Or.inl ⟨rfl, by decide, by decide +kernel, by decide +kernel, _, _, rfl, by decide +kernel⟩⟩
  · cases h; exact ⟨y_Wire_count, b_Wire_count, 1, (some .int), 0, 0, 0, c_Wire_count, by decide, by decide +kernel, by decide +kernel, by decide +kernel, Or.inl ⟨rfl, by decide, by decide +kernel, by decide +kernel, _, _, rfl, by decide +kernel⟩⟩
  · cases h; exact ⟨y_FrameStreams_requireThere, b_FrameStreams_requireThere, 1, none, 6, 89, 1, c_FrameStreams_requireThere, by decide, by decide +kernel, by decide +kernel, by decide +kernel, (by first | exact Or.inr (Or.inl ⟨rfl, rfl, by decide +kernel, by decide +kernel⟩) | exact Or.inr (Or.inr ⟨rfl, rfl, ⟨"FrameStreams", by decide +kernel⟩, by decide +kernel⟩))⟩
  · cases h; exact ⟨y_FrameStreams_requireArgument, b_FrameStreams_requireArgument, 1, none, 6, 89, 1, c_FrameStreams_requireArgument, by decide, by decide +kernel, by decide +kernel, by decide +kernel, (by first | exact Or.inr (Or.inl ⟨rfl, rfl, by decide +kernel, by decide +kernel⟩) | exact Or.inr (Or.inr ⟨rfl, rfl, ⟨"FrameStreams", by decide +kernel⟩, by decide +kernel⟩))⟩
  · cases h; exact ⟨y_Wire_flip, b_Wire_flip, 4, (some .int), 0, 0, 2, c_Wire_flip, by decide, by decide +kernel, by decide +kernel, by decide +kernel, Or.inl ⟨rfl, by decide, by decide +kernel, by decide +kernel, _, _, rfl, by decide +kernel⟩⟩
  · cases h
/-- FrameStreams_alter -/
def sp_FrameStreams_alter : CSp := sRIII (fun q x0 x1 x2 σ K kx => q.1 = 0 ∧ (rI x0 ∧ rI x1 ∧ rI x2) ∧ IV σ ∧ pubK σ K ∧ pubX σ kx)
set_option maxHeartbeats 4000000 in
set_option maxRecDepth 100000 in
theorem c_FrameStreams_alter : Ctr y_FrameStreams_alter b_FrameStreams_alter 5 (some .int) 8 131 4 24 sp_FrameStreams_alter := by
  refine ctr_of (FT := ft_FrameStreams) (GT := gt_FrameStreams_alter) (CT := ct_FrameStreams_alter) (sw := sw_FrameStreams_alter) (rt := 0) (pr := pr_FrameStreams_alter) (by decide) [] (fun _ _ _ _ _ _ _ _ _ _ _ => False) 50 ⟨fun _ => rfl, fun h => absurd h (by decide), fun h => absurd h (by decide), fun h => absurd h (by decide)⟩ dk_FrameStreams_alter fo_FrameStreams go_FrameStreams_alter co_FrameStreams_alter (fun a k h hk => by unfold gt_FrameStreams_alter at h; cases h) (fun q hq h => absurd h (nt_FrameStreams_alter q hq)) (fun av σ K kx h => by rw [sRIII_len h]; decide) ?_ ?_
  · intro av σ K kx hok hSp
    obtain ⟨q0, x0, x1, x2, rfl, hp⟩ := sRIII_inv hSp
    obtain ⟨k0, e0, i0⟩ := q0
    obtain ⟨h0, hr, hI, hpk, hpx⟩ := hp
    dsimp only at h0; subst h0
    simp only [rI] at hr
    all_goals (repeat' (first | (with_reducible assumption) | (with_reducible (apply by8_9; assumption)) | (with_reducible (apply by8_4; assumption)) | (with_reducible (apply by8_22; assumption)) | (with_reducible (apply by8_g; assumption)) | (with_reducible refine IV_upd ?_ ?_) | (with_reducible refine IV_cpy ?_ (fun _ _ _ _ => trivial)) | (refine And.intro ?_ ?_) | (intro _)))
    all_goals first | (refine pk hpk ?_ ?_ <;> (repeat' (first | assumption | exact trivial | exact Un_rf | (apply by8_4; assumption) | (apply by8_9; assumption) | (apply by8_22; assumption) | (apply by8_g; assumption) | (refine by8_13 ?_) | (apply rg34_of <;> assumption) | (refine rg_max ?_ ?_) | (apply rg_34; assumption) | (refine ixr_by8 ?_ ?_) | (refine IV_upd ?_ ?_) | (refine Un_upd rfl ?_) | (refine IV_cpy ?_ (fun _ _ _ _ => trivial)) | (refine Un_cpy rfl ?_) | (apply Un_tr; rotate_left; assumption; rfl) | (refine And.intro ?_ ?_))) <;> (first | rfl | decide | exact Or.inl rfl | exact Or.inr (Or.inl rfl) | exact Or.inr (Or.inr rfl) | (simp only [nrm, strm, by8] at * <;> omega) | (simp [upd4, cpy4, nrm, strm, by8] at * <;> omega))) | (refine px1 hpx ?_ ?_ <;> (repeat' (first | assumption | exact trivial | exact Un_rf | (apply by8_4; assumption) | (apply by8_9; assumption) | (apply by8_22; assumption) | (apply by8_g; assumption) | (refine by8_13 ?_) | (apply rg34_of <;> assumption) | (refine rg_max ?_ ?_) | (apply rg_34; assumption) | (refine ixr_by8 ?_ ?_) | (refine IV_upd ?_ ?_) | (refine Un_upd rfl ?_) | (refine IV_cpy ?_ (fun _ _ _ _ => trivial)) | (refine Un_cpy rfl ?_) | (apply Un_tr; rotate_left; assumption; rfl) | (refine And.intro ?_ ?_))) <;> (first | rfl | decide | exact Or.inl rfl | exact Or.inr (Or.inl rfl) | exact Or.inr (Or.inr rfl) | (simp only [nrm, strm, by8] at * <;> omega) | (simp [upd4, cpy4, nrm, strm, by8] at * <;> omega))) | (refine px2 hpx ?_ ?_ <;> (repeat' (first | assumption | exact trivial | exact Un_rf | (apply by8_4; assumption) | (apply by8_9; assumption) | (apply by8_22; assumption) | (apply by8_g; assumption) | (refine by8_13 ?_) | (apply rg34_of <;> assumption) | (refine rg_max ?_ ?_) | (apply rg_34; assumption) | (refine ixr_by8 ?_ ?_) | (refine IV_upd ?_ ?_) | (refine Un_upd rfl ?_) | (refine IV_cpy ?_ (fun _ _ _ _ => trivial)) | (refine Un_cpy rfl ?_) | (apply Un_tr; rotate_left; assumption; rfl) | (refine And.intro ?_ ?_))) <;> (first | rfl | decide | exact Or.inl rfl | exact Or.inr (Or.inl rfl) | exact Or.inr (Or.inr rfl) | (simp only [nrm, strm, by8] at * <;> omega) | (simp [upd4, cpy4, nrm, strm, by8] at * <;> omega))) | (refine px3 hpx ?_ ?_ <;> (repeat' (first | assumption | exact trivial | exact Un_rf | (apply by8_4; assumption) | (apply by8_9; assumption) | (apply by8_22; assumption) | (apply by8_g; assumption) | (refine by8_13 ?_) | (apply rg34_of <;> assumption) | (refine rg_max ?_ ?_) | (apply rg_34; assumption) | (refine ixr_by8 ?_ ?_) | (refine IV_upd ?_ ?_) | (refine Un_upd rfl ?_) | (refine IV_cpy ?_ (fun _ _ _ _ => trivial)) | (refine Un_cpy rfl ?_) | (apply Un_tr; rotate_left; assumption; rfl) | (refine And.intro ?_ ?_))) <;> (first | rfl | decide | exact Or.inl rfl | exact Or.inr (Or.inl rfl) | exact Or.inr (Or.inr rfl) | (simp only [nrm, strm, by8] at * <;> omega) | (simp [upd4, cpy4, nrm, strm, by8] at * <;> omega))) | (refine px4 hpx ?_ ?_ <;> (repeat' (first | assumption | exact trivial | exact Un_rf | (apply by8_4; assumption) | (apply by8_9; assumption) | (apply by8_22; assumption) | (apply by8_g; assumption) | (refine by8_13 ?_) | (apply rg34_of <;> assumption) | (refine rg_max ?_ ?_) | (apply rg_34; assumption) | (refine ixr_by8 ?_ ?_) | (refine IV_upd ?_ ?_) | (refine Un_upd rfl ?_) | (refine IV_cpy ?_ (fun _ _ _ _ => trivial)) | (refine Un_cpy rfl ?_) | (apply Un_tr; rotate_left; assumption; rfl) | (refine And.intro ?_ ?_))) <;> (first | rfl | decide | exact Or.inl rfl | exact Or.inr (Or.inl rfl) | exact Or.inr (Or.inr rfl) | (simp only [nrm, strm, by8] at * <;> omega) | (simp [upd4, cpy4, nrm, strm, by8] at * <;> omega))) | (first | rfl | decide | exact Or.inl rfl | exact Or.inr (Or.inl rfl) | exact Or.inr (Or.inr rfl) | (simp only [nrm, strm, by8] at * <;> omega) | (simp [upd4, cpy4, nrm, strm, by8] at * <;> omega)) | ((repeat' (first | assumption | exact trivial | exact Un_rf | (apply by8_4; assumption) | (apply by8_9; assumption) | (apply by8_22; assumption) | (apply by8_g; assumption) | (refine by8_13 ?_) | (apply rg34_of <;> assumption) | (refine rg_max ?_ ?_) | (apply rg_34; assumption) | (refine ixr_by8 ?_ ?_) | (refine IV_upd ?_ ?_) | (refine Un_upd rfl ?_) | (refine IV_cpy ?_ (fun _ _ _ _ => trivial)) | (refine Un_cpy rfl ?_) | (apply Un_tr; rotate_left; assumption; rfl) | (refine And.intro ?_ ?_))) <;> (first | rfl | decide | exact Or.inl rfl | exact Or.inr (Or.inl rfl) | exact Or.inr (Or.inr rfl) | (simp only [nrm, strm, by8] at * <;> omega) | (simp [upd4, cpy4, nrm, strm, by8] at * <;> omega)))
  · intro av σ K kx n pc L st σ' nc ns _ _ h
    exact (h : False).elim
def gt_FrameStreams_stream (a : Nat) : Option Nat := match a with
  | _ => none
theorem go_FrameStreams_stream : ∀ a v, gt_FrameStreams_stream a = some v → StaOK R_FrameStreams a v := by
  intro a v h
  unfold gt_FrameStreams_stream at h
  cases h
def pr_FrameStreams_stream : List Ent := [(0, 3, 1, 0, 0), (1, 0, 0, 0, 0), (2, 0, 0, 1, 0), (3, 47, 25, 0, 0), (6, 3, 2, 0, 0), (7, 47, 61, 0, 0), (10, 3, 3, 0, 0), (11, 0, 0, 0, 0), (12, 0, 0, 5, 0), (13, 47, 25, 0, 0), (16, 3, 2, 0, 0), (17, 27, 0, 0, 30), (20, 3, 3, 0, 0), (21, 0, 0, 1, 0), (22, 32, 0, 0, 30), (25, 3, 3, 0, 0), (26, 0, 0, 2, 0), (27, 33, 0, 0, 34), (30, 0, 0, 1, 0), (31, 38, 0, 0, 35), (34, 0, 0, 0, 0), (35, 8, 4, 0, 0), (37, 4, 4, 0, 0), (39, 26, 0, 0, 59), (42, 5, 0, 0, 0), (43, 39, 15, 0, 0), (46, 3, 1, 0, 0), (47, 43, 0, 0, 0), (48, 3, 2, 0, 0), (49, 46, 68, 0, 0), (52, 3, 3, 0, 0), (53, 46, 153, 0, 0), (56, 38, 0, 0, 60), (59, 0, 0, 0, 0), (60, 48, 0, 0, 0)]
def sw_FrameStreams_stream : List Swt := []
theorem dk_FrameStreams_stream : ∀ q ∈ pr_FrameStreams_stream, decode b_FrameStreams_stream q.1 = .ok (dec sw_FrameStreams_stream q) ∧ okE q = true := by decide +kernel
theorem nt_FrameStreams_stream : ∀ q ∈ pr_FrameStreams_stream, ¬ q.2.1 = 55 := by decide +kernel
def ct_FrameStreams_stream (a : Nat) : Option (Nat × Nat × CSp × Nat × Nat) := match a with
  | 25 => some (3, 1000, sp_FrameStreams_requireWithin, 1, 6)
  | 61 => some (1, 1000, sp_FrameStreams_requireStreamOrConnection, 1, 6)
  | 68 => some (2, 3, sp_End_find, 0, 0)
  | 153 => some (2, 6, sp_Stream_tell, 0, 0)
  | _ => none
theorem co_FrameStreams_stream : ∀ a v, ct_FrameStreams_stream a = some v → StcOK R_FrameStreams 8 131 a v := by
  intro a v h
  unfold ct_FrameStreams_stream at h
  split at h
  · cases h; exact ⟨y_FrameStreams_requireWithin, b_FrameStreams_requireWithin, 3, none, 7, 109, 3, c_FrameStreams_requireWithin, by decide, by decide +kernel, by decide +kernel, by decide +kernel, (by first | exact Or.inr (Or.inl ⟨rfl, rfl, by decide +kernel, by decide +kernel⟩) | exact Or.inr (Or.inr ⟨rfl, rfl, ⟨"FrameStreams", by decide +kernel⟩, by decide +kernel⟩))⟩
  · cases h; exact ⟨y_FrameStreams_requireStreamOrConnection, b_FrameStreams_requireStreamOrConnection, 1, none, 7, 109, 1, c_FrameStreams_requireStreamOrConnection, by decide, by decide +kernel, by decide +kernel, by decide +kernel, (by first | exact Or.inr (Or.inl ⟨rfl, rfl, by decide +kernel, by decide +kernel⟩) | exact Or.inr (Or.inr ⟨rfl, rfl, ⟨"FrameStreams", by decide +kernel⟩, by decide +kernel⟩))⟩
  · cases h; exact ⟨y_End_find, b_End_find, 2, (some (.object "FrameStreams$Stream")), 1, 20, 1, c_End_find, by decide, by decide +kernel, by decide +kernel, by decide +kernel, Or.inl ⟨rfl, by decide, by decide +kernel, by decide +kernel, _, _, rfl, by decide +kernel⟩⟩
  · cases h; exact ⟨y_Stream_tell, b_Stream_tell, 2, (some .int), 1, 20, 1, c_Stream_tell, by decide, by decide +kernel, by decide +kernel, by decide +kernel, Or.inl ⟨rfl, by decide, by decide +kernel, by decide +kernel, _, _, rfl, by decide +kernel⟩⟩
  · cases h
/-- FrameStreams_stream -/
def sp_FrameStreams_stream : CSp := sRIII (fun q x0 x1 x2 σ K kx => q.1 = 0 ∧ (rI x0 ∧ rI x1 ∧ rI x2) ∧ IV σ ∧ pubK σ K ∧ pubX σ kx)
set_option maxHeartbeats 4000000 in
set_option maxRecDepth 100000 in
theorem c_FrameStreams_stream : Ctr y_FrameStreams_stream b_FrameStreams_stream 5 (some .int) 8 131 3 18 sp_FrameStreams_stream := by
  refine ctr_of (FT := ft_FrameStreams) (GT := gt_FrameStreams_stream) (CT := ct_FrameStreams_stream) (sw := sw_FrameStreams_stream) (rt := 0) (pr := pr_FrameStreams_stream) (by decide) [] (fun _ _ _ _ _ _ _ _ _ _ _ => False) 50 ⟨fun _ => rfl, fun h => absurd h (by decide), fun h => absurd h (by decide), fun h => absurd h (by decide)⟩ dk_FrameStreams_stream fo_FrameStreams go_FrameStreams_stream co_FrameStreams_stream (fun a k h hk => by unfold gt_FrameStreams_stream at h; cases h) (fun q hq h => absurd h (nt_FrameStreams_stream q hq)) (fun av σ K kx h => by rw [sRIII_len h]; decide) ?_ ?_
  · intro av σ K kx hok hSp
    obtain ⟨q0, x0, x1, x2, rfl, hp⟩ := sRIII_inv hSp
    obtain ⟨k0, e0, i0⟩ := q0
    obtain ⟨h0, hr, hI, hpk, hpx⟩ := hp
    dsimp only at h0; subst h0
    simp only [rI] at hr
    all_goals (repeat' (first | (with_reducible assumption) | (with_reducible (apply by8_9; assumption)) | (with_reducible (apply by8_4; assumption)) | (with_reducible (apply by8_22; assumption)) | (with_reducible (apply by8_g; assumption)) | (with_reducible refine IV_upd ?_ ?_) | (with_reducible refine IV_cpy ?_ (fun _ _ _ _ => trivial)) | (refine And.intro ?_ ?_) | (intro _)))
    all_goals first | (refine pk hpk ?_ ?_ <;> (repeat' (first | assumption | exact trivial | exact Un_rf | (apply by8_4; assumption) | (apply by8_9; assumption) | (apply by8_22; assumption) | (apply by8_g; assumption) | (refine by8_13 ?_) | (apply rg34_of <;> assumption) | (refine rg_max ?_ ?_) | (apply rg_34; assumption) | (refine ixr_by8 ?_ ?_) | (refine IV_upd ?_ ?_) | (refine Un_upd rfl ?_) | (refine IV_cpy ?_ (fun _ _ _ _ => trivial)) | (refine Un_cpy rfl ?_) | (apply Un_tr; rotate_left; assumption; rfl) | (refine And.intro ?_ ?_))) <;> (first | rfl | decide | exact Or.inl rfl | exact Or.inr (Or.inl rfl) | exact Or.inr (Or.inr rfl) | (simp only [nrm, strm, by8] at * <;> omega) | (simp [upd4, cpy4, nrm, strm, by8] at * <;> omega))) | (refine px1 hpx ?_ ?_ <;> (repeat' (first | assumption | exact trivial | exact Un_rf | (apply by8_4; assumption) | (apply by8_9; assumption) | (apply by8_22; assumption) | (apply by8_g; assumption) | (refine by8_13 ?_) | (apply rg34_of <;> assumption) | (refine rg_max ?_ ?_) | (apply rg_34; assumption) | (refine ixr_by8 ?_ ?_) | (refine IV_upd ?_ ?_) | (refine Un_upd rfl ?_) | (refine IV_cpy ?_ (fun _ _ _ _ => trivial)) | (refine Un_cpy rfl ?_) | (apply Un_tr; rotate_left; assumption; rfl) | (refine And.intro ?_ ?_))) <;> (first | rfl | decide | exact Or.inl rfl | exact Or.inr (Or.inl rfl) | exact Or.inr (Or.inr rfl) | (simp only [nrm, strm, by8] at * <;> omega) | (simp [upd4, cpy4, nrm, strm, by8] at * <;> omega))) | (refine px2 hpx ?_ ?_ <;> (repeat' (first | assumption | exact trivial | exact Un_rf | (apply by8_4; assumption) | (apply by8_9; assumption) | (apply by8_22; assumption) | (apply by8_g; assumption) | (refine by8_13 ?_) | (apply rg34_of <;> assumption) | (refine rg_max ?_ ?_) | (apply rg_34; assumption) | (refine ixr_by8 ?_ ?_) | (refine IV_upd ?_ ?_) | (refine Un_upd rfl ?_) | (refine IV_cpy ?_ (fun _ _ _ _ => trivial)) | (refine Un_cpy rfl ?_) | (apply Un_tr; rotate_left; assumption; rfl) | (refine And.intro ?_ ?_))) <;> (first | rfl | decide | exact Or.inl rfl | exact Or.inr (Or.inl rfl) | exact Or.inr (Or.inr rfl) | (simp only [nrm, strm, by8] at * <;> omega) | (simp [upd4, cpy4, nrm, strm, by8] at * <;> omega))) | (refine px3 hpx ?_ ?_ <;> (repeat' (first | assumption | exact trivial | exact Un_rf | (apply by8_4; assumption) | (apply by8_9; assumption) | (apply by8_22; assumption) | (apply by8_g; assumption) | (refine by8_13 ?_) | (apply rg34_of <;> assumption) | (refine rg_max ?_ ?_) | (apply rg_34; assumption) | (refine ixr_by8 ?_ ?_) | (refine IV_upd ?_ ?_) | (refine Un_upd rfl ?_) | (refine IV_cpy ?_ (fun _ _ _ _ => trivial)) | (refine Un_cpy rfl ?_) | (apply Un_tr; rotate_left; assumption; rfl) | (refine And.intro ?_ ?_))) <;> (first | rfl | decide | exact Or.inl rfl | exact Or.inr (Or.inl rfl) | exact Or.inr (Or.inr rfl) | (simp only [nrm, strm, by8] at * <;> omega) | (simp [upd4, cpy4, nrm, strm, by8] at * <;> omega))) | (refine px4 hpx ?_ ?_ <;> (repeat' (first | assumption | exact trivial | exact Un_rf | (apply by8_4; assumption) | (apply by8_9; assumption) | (apply by8_22; assumption) | (apply by8_g; assumption) | (refine by8_13 ?_) | (apply rg34_of <;> assumption) | (refine rg_max ?_ ?_) | (apply rg_34; assumption) | (refine ixr_by8 ?_ ?_) | (refine IV_upd ?_ ?_) | (refine Un_upd rfl ?_) | (refine IV_cpy ?_ (fun _ _ _ _ => trivial)) | (refine Un_cpy rfl ?_) | (apply Un_tr; rotate_left; assumption; rfl) | (refine And.intro ?_ ?_))) <;> (first | rfl | decide | exact Or.inl rfl | exact Or.inr (Or.inl rfl) | exact Or.inr (Or.inr rfl) | (simp only [nrm, strm, by8] at * <;> omega) | (simp [upd4, cpy4, nrm, strm, by8] at * <;> omega))) | (first | rfl | decide | exact Or.inl rfl | exact Or.inr (Or.inl rfl) | exact Or.inr (Or.inr rfl) | (simp only [nrm, strm, by8] at * <;> omega) | (simp [upd4, cpy4, nrm, strm, by8] at * <;> omega)) | ((repeat' (first | assumption | exact trivial | exact Un_rf | (apply by8_4; assumption) | (apply by8_9; assumption) | (apply by8_22; assumption) | (apply by8_g; assumption) | (refine by8_13 ?_) | (apply rg34_of <;> assumption) | (refine rg_max ?_ ?_) | (apply rg_34; assumption) | (refine ixr_by8 ?_ ?_) | (refine IV_upd ?_ ?_) | (refine Un_upd rfl ?_) | (refine IV_cpy ?_ (fun _ _ _ _ => trivial)) | (refine Un_cpy rfl ?_) | (apply Un_tr; rotate_left; assumption; rfl) | (refine And.intro ?_ ?_))) <;> (first | rfl | decide | exact Or.inl rfl | exact Or.inr (Or.inl rfl) | exact Or.inr (Or.inr rfl) | (simp only [nrm, strm, by8] at * <;> omega) | (simp [upd4, cpy4, nrm, strm, by8] at * <;> omega)))
  · intro av σ K kx n pc L st σ' nc ns _ _ h
    exact (h : False).elim
def gt_FrameStreams_end (a : Nat) : Option Nat := match a with
  | _ => none
theorem go_FrameStreams_end : ∀ a v, gt_FrameStreams_end a = some v → StaOK R_FrameStreams a v := by
  intro a v h
  unfold gt_FrameStreams_end at h
  cases h
def pr_FrameStreams_end : List Ent := [(0, 3, 1, 0, 0), (1, 0, 0, 0, 0), (2, 0, 0, 1, 0), (3, 47, 25, 0, 0), (6, 3, 2, 0, 0), (7, 0, 0, 0, 0), (8, 1, 0, 10, 0), (10, 47, 25, 0, 0), (13, 5, 0, 0, 0), (14, 39, 15, 0, 0), (17, 3, 1, 0, 0), (18, 43, 0, 0, 0), (19, 3, 2, 0, 0), (20, 46, 168, 0, 0), (23, 48, 0, 0, 0)]
def sw_FrameStreams_end : List Swt := []
theorem dk_FrameStreams_end : ∀ q ∈ pr_FrameStreams_end, decode b_FrameStreams_end q.1 = .ok (dec sw_FrameStreams_end q) ∧ okE q = true := by decide +kernel
theorem nt_FrameStreams_end : ∀ q ∈ pr_FrameStreams_end, ¬ q.2.1 = 55 := by decide +kernel
def ct_FrameStreams_end (a : Nat) : Option (Nat × Nat × CSp × Nat × Nat) := match a with
  | 25 => some (3, 1000, sp_FrameStreams_requireWithin, 1, 6)
  | 168 => some (2, 3, sp_End_tell, 0, 0)
  | _ => none
theorem co_FrameStreams_end : ∀ a v, ct_FrameStreams_end a = some v → StcOK R_FrameStreams 8 131 a v := by
  intro a v h
  unfold ct_FrameStreams_end at h
  split at h
  · cases h; exact ⟨y_FrameStreams_requireWithin, b_FrameStreams_requireWithin, 3, none, 7, 109, 3, c_FrameStreams_requireWithin, by decide, by decide +kernel, by decide +kernel, by decide +kernel, (by first | exact Or.inr (Or.inl ⟨rfl, rfl, by decide +kernel, by decide +kernel⟩) | exact Or.inr (Or.inr ⟨rfl, rfl, ⟨"FrameStreams", by decide +kernel⟩, by decide +kernel⟩))⟩
  · cases h; exact ⟨y_End_tell, b_End_tell, 2, (some .int), 3, 62, 1, c_End_tell, by decide, by decide +kernel, by decide +kernel, by decide +kernel, Or.inl ⟨rfl, by decide, by decide +kernel, by decide +kernel, _, _, rfl, by decide +kernel⟩⟩
  · cases h
/-- FrameStreams_end -/
def sp_FrameStreams_end : CSp := sRII (fun q x0 x1 σ K kx => q.1 = 0 ∧ (rI x0 ∧ rI x1) ∧ IV σ ∧ pubK σ K ∧ pubX σ kx)
set_option maxHeartbeats 4000000 in
set_option maxRecDepth 100000 in
theorem c_FrameStreams_end : Ctr y_FrameStreams_end b_FrameStreams_end 3 (some .int) 8 131 2 12 sp_FrameStreams_end := by
  refine ctr_of (FT := ft_FrameStreams) (GT := gt_FrameStreams_end) (CT := ct_FrameStreams_end) (sw := sw_FrameStreams_end) (rt := 0) (pr := pr_FrameStreams_end) (by decide) [] (fun _ _ _ _ _ _ _ _ _ _ _ => False) 30 ⟨fun _ => rfl, fun h => absurd h (by decide), fun h => absurd h (by decide), fun h => absurd h (by decide)⟩ dk_FrameStreams_end fo_FrameStreams go_FrameStreams_end co_FrameStreams_end (fun a k h hk => by unfold gt_FrameStreams_end at h; cases h) (fun q hq h => absurd h (nt_FrameStreams_end q hq)) (fun av σ K kx h => by rw [sRII_len h]; decide) ?_ ?_
  · intro av σ K kx hok hSp
    obtain ⟨q0, x0, x1, rfl, hp⟩ := sRII_inv hSp
    obtain ⟨k0, e0, i0⟩ := q0
    obtain ⟨h0, hr, hI, hpk, hpx⟩ := hp
    dsimp only at h0; subst h0
    simp only [rI] at hr
    all_goals (repeat' (first | (with_reducible assumption) | (with_reducible (apply by8_9; assumption)) | (with_reducible (apply by8_4; assumption)) | (with_reducible (apply by8_22; assumption)) | (with_reducible (apply by8_g; assumption)) | (with_reducible refine IV_upd ?_ ?_) | (with_reducible refine IV_cpy ?_ (fun _ _ _ _ => trivial)) | (refine And.intro ?_ ?_) | (intro _)))
    all_goals first | (refine pk hpk ?_ ?_ <;> (repeat' (first | assumption | exact trivial | exact Un_rf | (apply by8_4; assumption) | (apply by8_9; assumption) | (apply by8_22; assumption) | (apply by8_g; assumption) | (refine by8_13 ?_) | (apply rg34_of <;> assumption) | (refine rg_max ?_ ?_) | (apply rg_34; assumption) | (refine ixr_by8 ?_ ?_) | (refine IV_upd ?_ ?_) | (refine Un_upd rfl ?_) | (refine IV_cpy ?_ (fun _ _ _ _ => trivial)) | (refine Un_cpy rfl ?_) | (apply Un_tr; rotate_left; assumption; rfl) | (refine And.intro ?_ ?_))) <;> (first | rfl | decide | exact Or.inl rfl | exact Or.inr (Or.inl rfl) | exact Or.inr (Or.inr rfl) | (simp only [nrm, strm, by8] at * <;> omega) | (simp [upd4, cpy4, nrm, strm, by8] at * <;> omega))) | (refine px1 hpx ?_ ?_ <;> (repeat' (first | assumption | exact trivial | exact Un_rf | (apply by8_4; assumption) | (apply by8_9; assumption) | (apply by8_22; assumption) | (apply by8_g; assumption) | (refine by8_13 ?_) | (apply rg34_of <;> assumption) | (refine rg_max ?_ ?_) | (apply rg_34; assumption) | (refine ixr_by8 ?_ ?_) | (refine IV_upd ?_ ?_) | (refine Un_upd rfl ?_) | (refine IV_cpy ?_ (fun _ _ _ _ => trivial)) | (refine Un_cpy rfl ?_) | (apply Un_tr; rotate_left; assumption; rfl) | (refine And.intro ?_ ?_))) <;> (first | rfl | decide | exact Or.inl rfl | exact Or.inr (Or.inl rfl) | exact Or.inr (Or.inr rfl) | (simp only [nrm, strm, by8] at * <;> omega) | (simp [upd4, cpy4, nrm, strm, by8] at * <;> omega))) | (refine px2 hpx ?_ ?_ <;> (repeat' (first | assumption | exact trivial | exact Un_rf | (apply by8_4; assumption) | (apply by8_9; assumption) | (apply by8_22; assumption) | (apply by8_g; assumption) | (refine by8_13 ?_) | (apply rg34_of <;> assumption) | (refine rg_max ?_ ?_) | (apply rg_34; assumption) | (refine ixr_by8 ?_ ?_) | (refine IV_upd ?_ ?_) | (refine Un_upd rfl ?_) | (refine IV_cpy ?_ (fun _ _ _ _ => trivial)) | (refine Un_cpy rfl ?_) | (apply Un_tr; rotate_left; assumption; rfl) | (refine And.intro ?_ ?_))) <;> (first | rfl | decide | exact Or.inl rfl | exact Or.inr (Or.inl rfl) | exact Or.inr (Or.inr rfl) | (simp only [nrm, strm, by8] at * <;> omega) | (simp [upd4, cpy4, nrm, strm, by8] at * <;> omega))) | (refine px3 hpx ?_ ?_ <;> (repeat' (first | assumption | exact trivial | exact Un_rf | (apply by8_4; assumption) | (apply by8_9; assumption) | (apply by8_22; assumption) | (apply by8_g; assumption) | (refine by8_13 ?_) | (apply rg34_of <;> assumption) | (refine rg_max ?_ ?_) | (apply rg_34; assumption) | (refine ixr_by8 ?_ ?_) | (refine IV_upd ?_ ?_) | (refine Un_upd rfl ?_) | (refine IV_cpy ?_ (fun _ _ _ _ => trivial)) | (refine Un_cpy rfl ?_) | (apply Un_tr; rotate_left; assumption; rfl) | (refine And.intro ?_ ?_))) <;> (first | rfl | decide | exact Or.inl rfl | exact Or.inr (Or.inl rfl) | exact Or.inr (Or.inr rfl) | (simp only [nrm, strm, by8] at * <;> omega) | (simp [upd4, cpy4, nrm, strm, by8] at * <;> omega))) | (refine px4 hpx ?_ ?_ <;> (repeat' (first | assumption | exact trivial | exact Un_rf | (apply by8_4; assumption) | (apply by8_9; assumption) | (apply by8_22; assumption) | (apply by8_g; assumption) | (refine by8_13 ?_) | (apply rg34_of <;> assumption) | (refine rg_max ?_ ?_) | (apply rg_34; assumption) | (refine ixr_by8 ?_ ?_) | (refine IV_upd ?_ ?_) | (refine Un_upd rfl ?_) | (refine IV_cpy ?_ (fun _ _ _ _ => trivial)) | (refine Un_cpy rfl ?_) | (apply Un_tr; rotate_left; assumption; rfl) | (refine And.intro ?_ ?_))) <;> (first | rfl | decide | exact Or.inl rfl | exact Or.inr (Or.inl rfl) | exact Or.inr (Or.inr rfl) | (simp only [nrm, strm, by8] at * <;> omega) | (simp [upd4, cpy4, nrm, strm, by8] at * <;> omega))) | (first | rfl | decide | exact Or.inl rfl | exact Or.inr (Or.inl rfl) | exact Or.inr (Or.inr rfl) | (simp only [nrm, strm, by8] at * <;> omega) | (simp [upd4, cpy4, nrm, strm, by8] at * <;> omega)) | ((repeat' (first | assumption | exact trivial | exact Un_rf | (apply by8_4; assumption) | (apply by8_9; assumption) | (apply by8_22; assumption) | (apply by8_g; assumption) | (refine by8_13 ?_) | (apply rg34_of <;> assumption) | (refine rg_max ?_ ?_) | (apply rg_34; assumption) | (refine ixr_by8 ?_ ?_) | (refine IV_upd ?_ ?_) | (refine Un_upd rfl ?_) | (refine IV_cpy ?_ (fun _ _ _ _ => trivial)) | (refine Un_cpy rfl ?_) | (apply Un_tr; rotate_left; assumption; rfl) | (refine And.intro ?_ ?_))) <;> (first | rfl | decide | exact Or.inl rfl | exact Or.inr (Or.inl rfl) | exact Or.inr (Or.inr rfl) | (simp only [nrm, strm, by8] at * <;> omega) | (simp [upd4, cpy4, nrm, strm, by8] at * <;> omega)))
  · intro av σ K kx n pc L st σ' nc ns _ _ h
    exact (h : False).elim
