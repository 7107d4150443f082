/-! the good words of the tables; those of the nest -/
def GWS : List Cond := lw_tbl.filter goodWord
def isNw (w : Cond) : Bool := match w with
  | .fieldLinkNest .. => true
  | .methodLinkNest .. => true
  | .declares .. => true
  | .castable .. => true
  | _ => false
def NWS : List Cond := lw_tbl.filter isNw
theorem GWS_good (w : Cond) (h : w ∈ GWS) : goodWord w = true := (List.mem_filter.mp h).2
theorem GWS_of {w : Cond} (h : w ∈ lw_tbl) (g : goodWord w = true) : w ∈ GWS := List.mem_filter.mpr ⟨h, g⟩
theorem NWS_on (w : Cond) (h : w ∈ NWS) : w.onTables = true := by
  have h2 := (List.mem_filter.mp h).2
  cases w <;> first | rfl | (simp [isNw] at h2)
/-! the places' shapes -/
abbrev Shp : Type := (Nat × List (Option (Nat × Nat))) ⊕ (Nat × Nat × Nat × Nat)
def SH (k : Nat) : Shp := match k with
  | 0 => .inl (0, [some (1, 2), some (2, 2)])
  | 1 => .inr (0, 8, (0, 0))
  | 2 => .inr (2, 2, (7, 3))
  | 3 => .inl (8, [some (4, 0), none, none])
  | 4 => .inr (0, 240, (0, 0))
  | 7 => .inl (3, [none, some (3, 0), some (3, 1), some (8, 0), some (10, 0), some (13, 0), some (23, 0), some (31, 0), some (33, 0), some (34, 0), none, none, none, none, none])
  | 8 => .inl (5, [some (9, 0), none])
  | 9 => .inr (0, 44, (0, 0))
  | 10 => .inl (4, [some (11, 0), some (12, 0), none])
  | 11 => .inr (0, 5, (0, 0))
  | 12 => .inr (0, 5, (0, 0))
  | 13 => .inl (2, [some (14, 0), some (18, 0), some (22, 0), none])
  | 14 => .inl (7, [some (15, 0), some (16, 0), some (17, 0), none, none, none])
  | 15 => .inr (0, 8, (0, 0))
  | 16 => .inr (0, 8, (0, 0))
  | 17 => .inr (0, 8, (0, 0))
  | 18 => .inl (7, [some (19, 0), some (20, 0), some (21, 0), none, none, none])
  | 19 => .inr (0, 8, (0, 0))
  | 20 => .inr (0, 8, (0, 0))
  | 21 => .inr (0, 8, (0, 0))
  | 22 => .inr (0, 76, (0, 0))
  | 23 => .inl (1, [some (8, 0), some (24, 0), some (28, 0), none, none, none])
  | 24 => .inl (7, [some (25, 0), some (26, 0), some (27, 0), none, none, none])
  | 25 => .inr (0, 8, (0, 0))
  | 26 => .inr (0, 8, (0, 0))
  | 27 => .inr (0, 8, (0, 0))
  | 28 => .inl (4, [some (29, 0), some (30, 0), none])
  | 29 => .inr (0, 5, (0, 0))
  | 30 => .inr (0, 5, (0, 0))
  | 31 => .inr (3, 8, (32, 4))
  | 32 => .inl (6, [some (35, 0), none, none, none, none, none])
  | 33 => .inr (0, 3, (0, 0))
  | 34 => .inr (0, 3, (0, 0))
  | 35 => .inl (4, [some (36, 0), some (37, 0), none])
  | 36 => .inr (0, 5, (0, 0))
  | 37 => .inr (0, 5, (0, 0))
  | 100 => .inl (9, [none, some (101, 2), some (102, 2), some (103, 2), some (104, 2), some (105, 2), some (106, 2), some (107, 2), some (108, 2), some (109, 2), some (110, 2), some (111, 2), some (112, 2), some (113, 2), some (114, 2), some (115, 2), some (116, 2), some (117, 2), some (118, 2), some (119, 2), none, some (121, 2), some (122, 2), some (123, 2), some (124, 2), some (125, 2), some (126, 2), some (127, 2), some (128, 2), some (129, 2), none, none, some (132, 2), some (133, 2), none, none])
  | 101 => .inr (0, 48, (0, 0))
  | 102 => .inr (0, 8, (0, 0))
  | 103 => .inr (0, 2, (0, 0))
  | 104 => .inr (0, 140, (0, 0))
  | 105 => .inr (0, 4, (0, 0))
  | 106 => .inr (0, 4, (0, 0))
  | 107 => .inr (0, 560, (0, 0))
  | 108 => .inr (0, 2, (0, 0))
  | 109 => .inr (0, 480, (0, 0))
  | 110 => .inr (0, 2, (0, 0))
  | 111 => .inr (0, 100, (0, 0))
  | 112 => .inr (0, 6, (0, 0))
  | 113 => .inr (0, 6, (0, 0))
  | 114 => .inr (0, 2, (0, 0))
  | 115 => .inr (0, 2, (0, 0))
  | 116 => .inr (0, 2, (0, 0))
  | 117 => .inr (0, 2, (0, 0))
  | 118 => .inr (0, 2, (0, 0))
  | 119 => .inr (0, 2, (0, 0))
  | 121 => .inr (0, 14, (0, 0))
  | 122 => .inr (0, 14, (0, 0))
  | 123 => .inr (0, 14, (0, 0))
  | 124 => .inr (0, 14, (0, 0))
  | 125 => .inr (0, 14, (0, 0))
  | 126 => .inr (0, 14, (0, 0))
  | 127 => .inr (0, 980, (0, 0))
  | 128 => .inr (0, 14, (0, 0))
  | 129 => .inr (0, 120, (0, 0))
  | 132 => .inr (0, 70, (0, 0))
  | 133 => .inr (0, 142, (0, 0))
  | 140 => .inr (1, 1, (0, 0))
  | 200 => .inr (9, 3, (0, 0))
  | 201 => .inr (9, 3, (0, 0))
  | 202 => .inr (9, 5, (0, 0))
  | 203 => .inr (9, 5, (0, 0))
  | _ => .inl (999, [])
def EL (k : Nat) : Nat := match k with
  | 0 => 1
  | 1 => 1
  | 2 => 1
  | 3 => 2
  | 4 => 2
  | 7 => 2
  | 8 => 2
  | 9 => 2
  | 10 => 2
  | 11 => 2
  | 12 => 2
  | 13 => 2
  | 14 => 2
  | 15 => 2
  | 16 => 2
  | 17 => 2
  | 18 => 2
  | 19 => 2
  | 20 => 2
  | 21 => 2
  | 22 => 2
  | 23 => 2
  | 24 => 2
  | 25 => 2
  | 26 => 2
  | 27 => 2
  | 28 => 2
  | 29 => 2
  | 30 => 2
  | 31 => 2
  | 32 => 2
  | 33 => 2
  | 34 => 2
  | 35 => 2
  | 36 => 2
  | 37 => 2
  | 100 => 1
  | 101 => 1
  | 102 => 1
  | 103 => 1
  | 104 => 1
  | 105 => 1
  | 106 => 1
  | 107 => 1
  | 108 => 1
  | 109 => 1
  | 110 => 1
  | 111 => 1
  | 112 => 1
  | 113 => 1
  | 114 => 1
  | 115 => 1
  | 116 => 1
  | 117 => 1
  | 118 => 1
  | 119 => 1
  | 121 => 1
  | 122 => 1
  | 123 => 1
  | 124 => 1
  | 125 => 1
  | 126 => 1
  | 127 => 1
  | 128 => 1
  | 129 => 1
  | 132 => 1
  | 133 => 1
  | 140 => 1
  | 200 => 1
  | 201 => 1
  | 202 => 1
  | 203 => 1
  | _ => 0
def IL (k : Nat) : Nat := match k with
  | 0 => 1
  | 1 => 1
  | 2 => 1
  | 3 => 1
  | 4 => 1
  | 7 => 1
  | 8 => 1
  | 9 => 1
  | 10 => 1
  | 11 => 1
  | 12 => 1
  | 13 => 1
  | 14 => 1
  | 15 => 1
  | 16 => 1
  | 17 => 1
  | 18 => 1
  | 19 => 1
  | 20 => 1
  | 21 => 1
  | 22 => 1
  | 23 => 1
  | 24 => 1
  | 25 => 1
  | 26 => 1
  | 27 => 1
  | 28 => 1
  | 29 => 1
  | 30 => 1
  | 31 => 1
  | 32 => 8
  | 33 => 1
  | 34 => 1
  | 35 => 8
  | 36 => 8
  | 37 => 8
  | 100 => 1
  | 101 => 1
  | 102 => 1
  | 103 => 1
  | 104 => 1
  | 105 => 1
  | 106 => 1
  | 107 => 1
  | 108 => 1
  | 109 => 1
  | 110 => 1
  | 111 => 1
  | 112 => 1
  | 113 => 1
  | 114 => 1
  | 115 => 1
  | 116 => 1
  | 117 => 1
  | 118 => 1
  | 119 => 1
  | 121 => 1
  | 122 => 1
  | 123 => 1
  | 124 => 1
  | 125 => 1
  | 126 => 1
  | 127 => 1
  | 128 => 1
  | 129 => 1
  | 132 => 1
  | 133 => 1
  | 140 => 1
  | 200 => 1
  | 201 => 1
  | 202 => 1
  | 203 => 1
  | _ => 0
def isSt (k : Nat) : Bool := Nat.ble 200 k && Nat.ble k 203
def sv (k j : Nat) : Int := match k with
  | 200 => ([3, 16, 2] : List Int).getD j 0
  | 201 => ([6, 60, 7] : List Int).getD j 0
  | 202 => ([13, 13, 16, 19, 19] : List Int).getD j 0
  | 203 => ([20647, 21168, 0, 367, 494] : List Int).getD j 0
  | _ => 0
def PLs : List (Nat × Nat × Nat) := [(0, 0, 0), (1, 0, 0), (2, 0, 0), (3, 0, 0), (3, 1, 0), (4, 0, 0), (4, 1, 0), (7, 0, 0), (7, 1, 0), (8, 0, 0), (8, 1, 0), (9, 0, 0), (9, 1, 0), (10, 0, 0), (10, 1, 0), (11, 0, 0), (11, 1, 0), (12, 0, 0), (12, 1, 0), (13, 0, 0), (13, 1, 0), (14, 0, 0), (14, 1, 0), (15, 0, 0), (15, 1, 0), (16, 0, 0), (16, 1, 0), (17, 0, 0), (17, 1, 0), (18, 0, 0), (18, 1, 0), (19, 0, 0), (19, 1, 0), (20, 0, 0), (20, 1, 0), (21, 0, 0), (21, 1, 0), (22, 0, 0), (22, 1, 0), (23, 0, 0), (23, 1, 0), (24, 0, 0), (24, 1, 0), (25, 0, 0), (25, 1, 0), (26, 0, 0), (26, 1, 0), (27, 0, 0), (27, 1, 0), (28, 0, 0), (28, 1, 0), (29, 0, 0), (29, 1, 0), (30, 0, 0), (30, 1, 0), (31, 0, 0), (31, 1, 0), (32, 0, 0), (32, 0, 1), (32, 0, 2), (32, 0, 3), (32, 0, 4), (32, 0, 5), (32, 0, 6), (32, 0, 7), (32, 1, 0), (32, 1, 1), (32, 1, 2), (32, 1, 3), (32, 1, 4), (32, 1, 5), (32, 1, 6), (32, 1, 7), (33, 0, 0), (33, 1, 0), (34, 0, 0), (34, 1, 0), (35, 0, 0), (35, 0, 1), (35, 0, 2), (35, 0, 3), (35, 0, 4), (35, 0, 5), (35, 0, 6), (35, 0, 7), (35, 1, 0), (35, 1, 1), (35, 1, 2), (35, 1, 3), (35, 1, 4), (35, 1, 5), (35, 1, 6), (35, 1, 7), (36, 0, 0), (36, 0, 1), (36, 0, 2), (36, 0, 3), (36, 0, 4), (36, 0, 5), (36, 0, 6), (36, 0, 7), (36, 1, 0), (36, 1, 1), (36, 1, 2), (36, 1, 3), (36, 1, 4), (36, 1, 5), (36, 1, 6), (36, 1, 7), (37, 0, 0), (37, 0, 1), (37, 0, 2), (37, 0, 3), (37, 0, 4), (37, 0, 5), (37, 0, 6), (37, 0, 7), (37, 1, 0), (37, 1, 1), (37, 1, 2), (37, 1, 3), (37, 1, 4), (37, 1, 5), (37, 1, 6), (37, 1, 7), (100, 0, 0), (101, 0, 0), (102, 0, 0), (103, 0, 0), (104, 0, 0), (105, 0, 0), (106, 0, 0), (107, 0, 0), (108, 0, 0), (109, 0, 0), (110, 0, 0), (111, 0, 0), (112, 0, 0), (113, 0, 0), (114, 0, 0), (115, 0, 0), (116, 0, 0), (117, 0, 0), (118, 0, 0), (119, 0, 0), (121, 0, 0), (122, 0, 0), (123, 0, 0), (124, 0, 0), (125, 0, 0), (126, 0, 0), (127, 0, 0), (128, 0, 0), (129, 0, 0), (132, 0, 0), (133, 0, 0), (140, 0, 0)]
def STL : List (Nat × String × String) := [(200, "FrameStreams", "FIRST_SETTINGS"), (201, "FrameStreams", "GREATEST_SETTINGS"), (202, "FrameStreams$Table", "FIXED_NAMES"), (203, "FrameStreams$Table", "FIXED_VALUES")]
def TY (cA : Nat → ClassId) : List (ClassId × FieldType) := [(cA 0, .int), (cA 1, .long), (cA 2, .object "FrameStreams$End"), (cA 3, .object "FrameStreams$Stream")]
theorem PL_nd : PLs.Nodup := by decide +kernel
theorem PL_inj (i j : Nat) (q : Nat × Nat × Nat) (hi : PLs[i]? = some q) (hj : PLs[j]? = some q) : i = j := by
  obtain ⟨h1, e1⟩ := List.getElem?_eq_some_iff.mp hi
  obtain ⟨h2, e2⟩ := List.getElem?_eq_some_iff.mp hj
  exact (List.getElem_inj PL_nd).mp (e1.trans e2.symm)
theorem EL_b (k e : Nat) (h : e < EL k) : e < 2 ∧ (k < 141 ∨ isSt k = true) := by
  unfold EL at h
  split at h <;> first | exact ⟨by omega, Or.inl (by decide)⟩ | exact ⟨by omega, Or.inr rfl⟩ | exact absurd h (Nat.not_lt_zero _)
theorem IL_b (k i : Nat) (h : i < IL k) : i < 8 := by
  unfold IL at h
  split at h <;> omega
theorem PL_chk : (List.range 141).all (fun k => (List.range 2).all (fun e => (List.range 8).all (fun i => !(Nat.blt e (EL k)) || !(Nat.blt i (IL k)) || decide ((k, e, i) ∈ PLs)))) = true := by decide +kernel
theorem PL_all (k : Nat) (hk : k < 141) (e : Nat) (he : e < 2) (i : Nat) (hi : i < 8) (h1 : e < EL k) (h2 : i < IL k) : (k, e, i) ∈ PLs := by
  have a1 := List.all_eq_true.mp PL_chk k (List.mem_range.mpr hk)
  have a2 := List.all_eq_true.mp a1 e (List.mem_range.mpr he)
  have a3 := List.all_eq_true.mp a2 i (List.mem_range.mpr hi)
  have b1 : Nat.blt e (EL k) = true := Nat.ble_eq_true_of_le h1
  have b2 : Nat.blt i (IL k) = true := Nat.ble_eq_true_of_le h2
  rw [b1, b2] at a3
  simpa using a3
theorem PL_mem (k e i : Nat) (h1 : e < EL k) (h2 : i < IL k) (h3 : isSt k = false) : (k, e, i) ∈ PLs := by
  obtain ⟨h4, h5⟩ := EL_b k e h1
  rcases h5 with h5 | h5
  · exact PL_all k h5 e h4 i (IL_b k i h2) h1 h2
  · rw [h3] at h5; cases h5
theorem isSt_x {k : Nat} (h0 : ¬ k = 200) (h1 : ¬ k = 201) (h2 : ¬ k = 202) (h3 : ¬ k = 203) : isSt k = false := by
  unfold isSt
  rw [Bool.and_eq_false_iff]
  rcases Nat.lt_or_ge k 200 with h | h
  · left
    cases hb : Nat.ble 200 k
    · rfl
    · have := Nat.le_of_ble_eq_true hb; omega
  · right
    cases hb : Nat.ble k 203
    · rfl
    · have := Nat.le_of_ble_eq_true hb; omega
theorem isSt_o {k ci : Nat} {sl : List (Option (Nat × Nat))} (h : SH k = .inl (ci, sl)) : isSt k = false := by
  unfold SH at h
  split at h <;> first | rfl | (cases h; done) | (cases h; exact isSt_x (by assumption) (by assumption) (by assumption) (by assumption))
theorem isSt_i {k n : Nat} {r : Nat × Nat} (h : SH k = .inr (0, n, r)) : isSt k = false := by
  unfold SH at h
  split at h <;> first | rfl | (cases h; done)
theorem isSt_r {k t n : Nat} {r : Nat × Nat} (h : SH k = .inr (t + 2, n, r)) (ht : t ≤ 6) : isSt k = false := by
  unfold SH at h
  split at h <;> first | rfl | (cases h; done) | (cases h; omega)
theorem isSt_s {k n : Nat} {r : Nat × Nat} (h : SH k = .inr (9, n, r)) : isSt k = true := by
  unfold SH at h
  split at h <;> first | rfl | (cases h; done)
theorem SH_c {k ci : Nat} {sl : List (Option (Nat × Nat))} (h : SH k = .inl (ci, sl)) : ¬ ci = 1000 := by
  unfold SH at h
  split at h <;> first | (cases h; done) | (cases h; decide)
theorem TY_r (cA : Nat → ClassId) {k t n : Nat} {r : Nat × Nat} (h : SH k = .inr (t + 2, n, r)) (ht : t ≤ 6) : ∃ (t0 : Nat) (C : String), (TY cA)[t0]? = some (cA (t + 2), .object C) := by
  unfold SH at h
  split at h <;> first | (cases h; done) | (cases h; exact ⟨2, _, rfl⟩) | (cases h; exact ⟨3, _, rfl⟩) | (cases h; omega)
