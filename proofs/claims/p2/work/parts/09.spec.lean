abbrev PO : Type := Option AV → Sg → Prop
abbrev PX : Type := String → Sg → Prop
def sR (P : Pl → Sg → PO → PX → Prop) : CSp := fun av σ K kx => match av with
  | [.inr q0] => P q0 σ K kx
  | _ => False
theorem sR_inv {P : Pl → Sg → PO → PX → Prop} {av : List AV} {σ : Sg} {K : PO} {kx : PX} (h : sR P av σ K kx) : ∃ (q0 : Pl), av = [.inr q0] ∧ P q0 σ K kx := by
  rcases av with _ | ⟨q0 | q0, _ | ⟨z, av⟩⟩
  all_goals first | exact (h : False).elim | exact ⟨q0, rfl, h⟩
theorem sR_len {P : Pl → Sg → PO → PX → Prop} {av : List AV} {σ : Sg} {K : PO} {kx : PX} (h : sR P av σ K kx) : av.length = 1 := by
  obtain ⟨q0, e, -⟩ := sR_inv h
  rw [e]; rfl
def sRI (P : Pl → Int → Sg → PO → PX → Prop) : CSp := fun av σ K kx => match av with
  | [.inr q0, .inl x0] => P q0 x0 σ K kx
  | _ => False
theorem sRI_inv {P : Pl → Int → Sg → PO → PX → Prop} {av : List AV} {σ : Sg} {K : PO} {kx : PX} (h : sRI P av σ K kx) : ∃ (q0 : Pl) (x0 : Int), av = [.inr q0, .inl x0] ∧ P q0 x0 σ K kx := by
  rcases av with _ | ⟨q0 | q0, _ | ⟨x0 | x0, _ | ⟨z, av⟩⟩⟩
  all_goals first | exact (h : False).elim | exact ⟨q0, x0, rfl, h⟩
theorem sRI_len {P : Pl → Int → Sg → PO → PX → Prop} {av : List AV} {σ : Sg} {K : PO} {kx : PX} (h : sRI P av σ K kx) : av.length = 2 := by
  obtain ⟨q0, x0, e, -⟩ := sRI_inv h
  rw [e]; rfl
def sRII (P : Pl → Int → Int → Sg → PO → PX → Prop) : CSp := fun av σ K kx => match av with
  | [.inr q0, .inl x0, .inl x1] => P q0 x0 x1 σ K kx
  | _ => False
theorem sRII_inv {P : Pl → Int → Int → Sg → PO → PX → Prop} {av : List AV} {σ : Sg} {K : PO} {kx : PX} (h : sRII P av σ K kx) : ∃ (q0 : Pl) (x0 : Int) (x1 : Int), av = [.inr q0, .inl x0, .inl x1] ∧ P q0 x0 x1 σ K kx := by
  rcases av with _ | ⟨q0 | q0, _ | ⟨x0 | x0, _ | ⟨x1 | x1, _ | ⟨z, av⟩⟩⟩⟩
  all_goals first | exact (h : False).elim | exact ⟨q0, x0, x1, rfl, h⟩
theorem sRII_len {P : Pl → Int → Int → Sg → PO → PX → Prop} {av : List AV} {σ : Sg} {K : PO} {kx : PX} (h : sRII P av σ K kx) : av.length = 3 := by
  obtain ⟨q0, x0, x1, e, -⟩ := sRII_inv h
  rw [e]; rfl
def sRIII (P : Pl → Int → Int → Int → Sg → PO → PX → Prop) : CSp := fun av σ K kx => match av with
  | [.inr q0, .inl x0, .inl x1, .inl x2] => P q0 x0 x1 x2 σ K kx
  | _ => False
theorem sRIII_inv {P : Pl → Int → Int → Int → Sg → PO → PX → Prop} {av : List AV} {σ : Sg} {K : PO} {kx : PX} (h : sRIII P av σ K kx) : ∃ (q0 : Pl) (x0 : Int) (x1 : Int) (x2 : Int), av = [.inr q0, .inl x0, .inl x1, .inl x2] ∧ P q0 x0 x1 x2 σ K kx := by
  rcases av with _ | ⟨q0 | q0, _ | ⟨x0 | x0, _ | ⟨x1 | x1, _ | ⟨x2 | x2, _ | ⟨z, av⟩⟩⟩⟩⟩
  all_goals first | exact (h : False).elim | exact ⟨q0, x0, x1, x2, rfl, h⟩
theorem sRIII_len {P : Pl → Int → Int → Int → Sg → PO → PX → Prop} {av : List AV} {σ : Sg} {K : PO} {kx : PX} (h : sRIII P av σ K kx) : av.length = 4 := by
  obtain ⟨q0, x0, x1, x2, e, -⟩ := sRIII_inv h
  rw [e]; rfl
def sRIIII (P : Pl → Int → Int → Int → Int → Sg → PO → PX → Prop) : CSp := fun av σ K kx => match av with
  | [.inr q0, .inl x0, .inl x1, .inl x2, .inl x3] => P q0 x0 x1 x2 x3 σ K kx
  | _ => False
theorem sRIIII_inv {P : Pl → Int → Int → Int → Int → Sg → PO → PX → Prop} {av : List AV} {σ : Sg} {K : PO} {kx : PX} (h : sRIIII P av σ K kx) : ∃ (q0 : Pl) (x0 : Int) (x1 : Int) (x2 : Int) (x3 : Int), av = [.inr q0, .inl x0, .inl x1, .inl x2, .inl x3] ∧ P q0 x0 x1 x2 x3 σ K kx := by
  rcases av with _ | ⟨q0 | q0, _ | ⟨x0 | x0, _ | ⟨x1 | x1, _ | ⟨x2 | x2, _ | ⟨x3 | x3, _ | ⟨z, av⟩⟩⟩⟩⟩⟩
  all_goals first | exact (h : False).elim | exact ⟨q0, x0, x1, x2, x3, rfl, h⟩
theorem sRIIII_len {P : Pl → Int → Int → Int → Int → Sg → PO → PX → Prop} {av : List AV} {σ : Sg} {K : PO} {kx : PX} (h : sRIIII P av σ K kx) : av.length = 5 := by
  obtain ⟨q0, x0, x1, x2, x3, e, -⟩ := sRIIII_inv h
  rw [e]; rfl
def sRIIIII (P : Pl → Int → Int → Int → Int → Int → Sg → PO → PX → Prop) : CSp := fun av σ K kx => match av with
  | [.inr q0, .inl x0, .inl x1, .inl x2, .inl x3, .inl x4] => P q0 x0 x1 x2 x3 x4 σ K kx
  | _ => False
theorem sRIIIII_inv {P : Pl → Int → Int → Int → Int → Int → Sg → PO → PX → Prop} {av : List AV} {σ : Sg} {K : PO} {kx : PX} (h : sRIIIII P av σ K kx) : ∃ (q0 : Pl) (x0 : Int) (x1 : Int) (x2 : Int) (x3 : Int) (x4 : Int), av = [.inr q0, .inl x0, .inl x1, .inl x2, .inl x3, .inl x4] ∧ P q0 x0 x1 x2 x3 x4 σ K kx := by
  rcases av with _ | ⟨q0 | q0, _ | ⟨x0 | x0, _ | ⟨x1 | x1, _ | ⟨x2 | x2, _ | ⟨x3 | x3, _ | ⟨x4 | x4, _ | ⟨z, av⟩⟩⟩⟩⟩⟩⟩
  all_goals first | exact (h : False).elim | exact ⟨q0, x0, x1, x2, x3, x4, rfl, h⟩
theorem sRIIIII_len {P : Pl → Int → Int → Int → Int → Int → Sg → PO → PX → Prop} {av : List AV} {σ : Sg} {K : PO} {kx : PX} (h : sRIIIII P av σ K kx) : av.length = 6 := by
  obtain ⟨q0, x0, x1, x2, x3, x4, e, -⟩ := sRIIIII_inv h
  rw [e]; rfl
def sRIIIIII (P : Pl → Int → Int → Int → Int → Int → Int → Sg → PO → PX → Prop) : CSp := fun av σ K kx => match av with
  | [.inr q0, .inl x0, .inl x1, .inl x2, .inl x3, .inl x4, .inl x5] => P q0 x0 x1 x2 x3 x4 x5 σ K kx
  | _ => False
theorem sRIIIIII_inv {P : Pl → Int → Int → Int → Int → Int → Int → Sg → PO → PX → Prop} {av : List AV} {σ : Sg} {K : PO} {kx : PX} (h : sRIIIIII P av σ K kx) : ∃ (q0 : Pl) (x0 : Int) (x1 : Int) (x2 : Int) (x3 : Int) (x4 : Int) (x5 : Int), av = [.inr q0, .inl x0, .inl x1, .inl x2, .inl x3, .inl x4, .inl x5] ∧ P q0 x0 x1 x2 x3 x4 x5 σ K kx := by
  rcases av with _ | ⟨q0 | q0, _ | ⟨x0 | x0, _ | ⟨x1 | x1, _ | ⟨x2 | x2, _ | ⟨x3 | x3, _ | ⟨x4 | x4, _ | ⟨x5 | x5, _ | ⟨z, av⟩⟩⟩⟩⟩⟩⟩⟩
  all_goals first | exact (h : False).elim | exact ⟨q0, x0, x1, x2, x3, x4, x5, rfl, h⟩
theorem sRIIIIII_len {P : Pl → Int → Int → Int → Int → Int → Int → Sg → PO → PX → Prop} {av : List AV} {σ : Sg} {K : PO} {kx : PX} (h : sRIIIIII P av σ K kx) : av.length = 7 := by
  obtain ⟨q0, x0, x1, x2, x3, x4, x5, e, -⟩ := sRIIIIII_inv h
  rw [e]; rfl
def sRR (P : Pl → Pl → Sg → PO → PX → Prop) : CSp := fun av σ K kx => match av with
  | [.inr q0, .inr q1] => P q0 q1 σ K kx
  | _ => False
theorem sRR_inv {P : Pl → Pl → Sg → PO → PX → Prop} {av : List AV} {σ : Sg} {K : PO} {kx : PX} (h : sRR P av σ K kx) : ∃ (q0 : Pl) (q1 : Pl), av = [.inr q0, .inr q1] ∧ P q0 q1 σ K kx := by
  rcases av with _ | ⟨q0 | q0, _ | ⟨q1 | q1, _ | ⟨z, av⟩⟩⟩
  all_goals first | exact (h : False).elim | exact ⟨q0, q1, rfl, h⟩
theorem sRR_len {P : Pl → Pl → Sg → PO → PX → Prop} {av : List AV} {σ : Sg} {K : PO} {kx : PX} (h : sRR P av σ K kx) : av.length = 2 := by
  obtain ⟨q0, q1, e, -⟩ := sRR_inv h
  rw [e]; rfl
def sRRI (P : Pl → Pl → Int → Sg → PO → PX → Prop) : CSp := fun av σ K kx => match av with
  | [.inr q0, .inr q1, .inl x0] => P q0 q1 x0 σ K kx
  | _ => False
theorem sRRI_inv {P : Pl → Pl → Int → Sg → PO → PX → Prop} {av : List AV} {σ : Sg} {K : PO} {kx : PX} (h : sRRI P av σ K kx) : ∃ (q0 : Pl) (q1 : Pl) (x0 : Int), av = [.inr q0, .inr q1, .inl x0] ∧ P q0 q1 x0 σ K kx := by
  rcases av with _ | ⟨q0 | q0, _ | ⟨q1 | q1, _ | ⟨x0 | x0, _ | ⟨z, av⟩⟩⟩⟩
  all_goals first | exact (h : False).elim | exact ⟨q0, q1, x0, rfl, h⟩
theorem sRRI_len {P : Pl → Pl → Int → Sg → PO → PX → Prop} {av : List AV} {σ : Sg} {K : PO} {kx : PX} (h : sRRI P av σ K kx) : av.length = 3 := by
  obtain ⟨q0, q1, x0, e, -⟩ := sRRI_inv h
  rw [e]; rfl
def sI (P : Int → Sg → PO → PX → Prop) : CSp := fun av σ K kx => match av with
  | [.inl x0] => P x0 σ K kx
  | _ => False
theorem sI_inv {P : Int → Sg → PO → PX → Prop} {av : List AV} {σ : Sg} {K : PO} {kx : PX} (h : sI P av σ K kx) : ∃ (x0 : Int), av = [.inl x0] ∧ P x0 σ K kx := by
  rcases av with _ | ⟨x0 | x0, _ | ⟨z, av⟩⟩
  all_goals first | exact (h : False).elim | exact ⟨x0, rfl, h⟩
theorem sI_len {P : Int → Sg → PO → PX → Prop} {av : List AV} {σ : Sg} {K : PO} {kx : PX} (h : sI P av σ K kx) : av.length = 1 := by
  obtain ⟨x0, e, -⟩ := sI_inv h
  rw [e]; rfl
def sII (P : Int → Int → Sg → PO → PX → Prop) : CSp := fun av σ K kx => match av with
  | [.inl x0, .inl x1] => P x0 x1 σ K kx
  | _ => False
theorem sII_inv {P : Int → Int → Sg → PO → PX → Prop} {av : List AV} {σ : Sg} {K : PO} {kx : PX} (h : sII P av σ K kx) : ∃ (x0 : Int) (x1 : Int), av = [.inl x0, .inl x1] ∧ P x0 x1 σ K kx := by
  rcases av with _ | ⟨x0 | x0, _ | ⟨x1 | x1, _ | ⟨z, av⟩⟩⟩
  all_goals first | exact (h : False).elim | exact ⟨x0, x1, rfl, h⟩
theorem sII_len {P : Int → Int → Sg → PO → PX → Prop} {av : List AV} {σ : Sg} {K : PO} {kx : PX} (h : sII P av σ K kx) : av.length = 2 := by
  obtain ⟨x0, x1, e, -⟩ := sII_inv h
  rw [e]; rfl
def sIII (P : Int → Int → Int → Sg → PO → PX → Prop) : CSp := fun av σ K kx => match av with
  | [.inl x0, .inl x1, .inl x2] => P x0 x1 x2 σ K kx
  | _ => False
theorem sIII_inv {P : Int → Int → Int → Sg → PO → PX → Prop} {av : List AV} {σ : Sg} {K : PO} {kx : PX} (h : sIII P av σ K kx) : ∃ (x0 : Int) (x1 : Int) (x2 : Int), av = [.inl x0, .inl x1, .inl x2] ∧ P x0 x1 x2 σ K kx := by
  rcases av with _ | ⟨x0 | x0, _ | ⟨x1 | x1, _ | ⟨x2 | x2, _ | ⟨z, av⟩⟩⟩⟩
  all_goals first | exact (h : False).elim | exact ⟨x0, x1, x2, rfl, h⟩
theorem sIII_len {P : Int → Int → Int → Sg → PO → PX → Prop} {av : List AV} {σ : Sg} {K : PO} {kx : PX} (h : sIII P av σ K kx) : av.length = 3 := by
  obtain ⟨x0, x1, x2, e, -⟩ := sIII_inv h
  rw [e]; rfl

/-- the range of a slot -/
def rg (k j : Nat) (x : Int) : Prop := match k with
  | 3 => match j with
    | 1 => 0 ≤ x ∧ x ≤ 239
    | 2 => 0 ≤ x ∧ x ≤ 240
    | _ => True
  | 4 => 0 ≤ x ∧ x ≤ 255
  | 7 => match j with
    | 10 => 0 ≤ x ∧ x ≤ 7
    | 11 => 0 ≤ x ∧ x ≤ 255
    | _ => True
  | 8 => match j with
    | 1 => 0 ≤ x ∧ x ≤ 44
    | _ => True
  | 9 => 0 ≤ x ∧ x ≤ 255
  | 10 => match j with
    | 2 => 0 ≤ x ∧ x ≤ 5
    | _ => True
  | 28 => match j with
    | 2 => 0 ≤ x ∧ x ≤ 5
    | _ => True
  | 35 => match j with
    | 2 => 0 ≤ x ∧ x ≤ 5
    | _ => True
  | 13 => match j with
    | 3 => 0 ≤ x ∧ x ≤ 76
    | _ => True
  | 14 => match j with
    | 3 => 0 ≤ x ∧ x ≤ 8
    | _ => True
  | 18 => match j with
    | 3 => 0 ≤ x ∧ x ≤ 8
    | _ => True
  | 24 => match j with
    | 3 => 0 ≤ x ∧ x ≤ 8
    | _ => True
  | 22 => 0 ≤ x ∧ x ≤ 255
  | 100 => match j with
    | 20 => 0 ≤ x ∧ x ≤ 7
    | 30 => 0 ≤ x ∧ x ≤ 120
    | 31 => 0 ≤ x ∧ x ≤ 5
    | 34 => 0 ≤ x ∧ x ≤ 50
    | 35 => 0 ≤ x ∧ x ≤ 255
    | _ => True
  | 101 => 0 ≤ x ∧ x ≤ 255
  | 102 => 0 ≤ x ∧ x ≤ 6
  | 103 => 0 ≤ x ∧ x ≤ 5
  | 104 => (0 ≤ x ∧ x ≤ 255) ∧ (2 ≤ j % 14 ∨ x ≤ 6)
  | 105 => 0 ≤ x ∧ x ≤ 10
  | 106 => 0 ≤ x ∧ x ≤ 60
  | 107 => (0 ≤ x ∧ x ≤ 255) ∧ (2 ≤ j % 14 ∨ x ≤ 6)
  | 108 => 0 ≤ x ∧ x ≤ 240
  | 109 => 0 ≤ x ∧ x ≤ 255
  | 110 => 0 ≤ x ∧ x ≤ 44
  | 111 => 0 ≤ x ∧ x ≤ 255
  | 113 => (0 ≤ x ∧ x ≤ 255) ∧ (1 ≤ j % 3 ∨ x ≤ 6)
  | 119 => 0 ≤ x ∧ x ≤ 255
  | 121 => 0 ≤ x ∧ x ≤ 4
  | 126 => 0 ≤ x ∧ x ≤ 5
  | 127 => 2 ≤ j % 14 ∨ (0 ≤ x ∧ x ≤ 6)
  | 128 => (0 ≤ x ∧ x ≤ 255) ∧ (2 ≤ j % 14 ∨ x ≤ 6)
  | 129 => 0 ≤ x ∧ x ≤ 255
  | 132 => (0 ≤ x ∧ x ≤ 255) ∧ (2 ≤ j % 14 ∨ x ≤ 6)
  | 133 => (0 ≤ x ∧ x ≤ 255) ∧ (2 ≤ j % 14 ∨ x ≤ 6 ∨ 140 ≤ j) ∧ (x ≤ 10 ∨ ¬ j = 140) ∧ (x ≤ 60 ∨ ¬ j = 141)
  | 34 => 0 ≤ x ∧ x ≤ 60
  | _ => True
def IV (σ : Sg) : Prop := ∀ k e i j, rg k j (σ k e i j)
/-- nothing but the kinds ks has changed -/
def Un (ks : List Nat) (σ σ' : Sg) : Prop := ∀ k e i j, elemN ks k = false → σ' k e i j = σ k e i j
theorem IV_upd {σ : Sg} {k e i j : Nat} {v : Int} (h : IV σ) (hv : rg k j v) : IV (upd4 σ k e i j v) := by
  intro k' e' i' j'
  by_cases hc : k' = k ∧ e' = e ∧ i' = i ∧ j' = j
  · obtain ⟨rfl, rfl, rfl, rfl⟩ := hc
    rw [upd4_at]; exact hv
  · simp only [upd4, hc, if_false]; exact h _ _ _ _
theorem IV_cpy {σ : Sg} {ks es is sp kd ed i9 dp n : Nat} (h : IV σ) (hv : ∀ j j' x, rg ks j x → rg kd j' x) : IV (cpy4 σ ks es is sp kd ed i9 dp n) := by
  intro k' e' i' j'
  by_cases hc : (k' = kd ∧ e' = ed ∧ i' = i9) ∧ dp ≤ j' ∧ j' < dp + n
  · have hk : k' = kd := hc.1.1
    simp only [cpy4, hc, and_self, if_true]; rw [← hk] at hv; exact hk ▸ hv _ _ _ (h _ _ _ _)
  · simp only [cpy4, hc, if_false]; exact h _ _ _ _
theorem Un_rf {ks : List Nat} {σ : Sg} : Un ks σ σ := fun _ _ _ _ _ => rfl
theorem Un_upd {ks : List Nat} {σ σ' : Sg} {k e i j : Nat} {v : Int} (hk : elemN ks k = true) (h : Un ks σ σ') : Un ks σ (upd4 σ' k e i j v) := by
  intro k' e' i' j' hn
  by_cases hc : k' = k ∧ e' = e ∧ i' = i ∧ j' = j
  · obtain ⟨rfl, -⟩ := hc
    rw [hk] at hn; cases hn
  · simp only [upd4, hc, if_false]; exact h _ _ _ _ hn
theorem Un_cpy {ks : List Nat} {σ σ' : Sg} {k0 es is sp kd ed id dp n : Nat} (hk : elemN ks kd = true) (h : Un ks σ σ') : Un ks σ (cpy4 σ' k0 es is sp kd ed id dp n) := by
  intro k' e' i' j' hn
  by_cases hc : (k' = kd ∧ e' = ed ∧ i' = id) ∧ dp ≤ j' ∧ j' < dp + n
  · obtain ⟨⟨rfl, -, -⟩, -⟩ := hc
    rw [hk] at hn; cases hn
  · simp only [cpy4, hc, if_false]; exact h _ _ _ _ hn
theorem elemN_sub {ks ks' : List Nat} (hs : ks.all (elemN ks') = true) : ∀ k, elemN ks' k = false → elemN ks k = false := by
  intro k h
  induction ks with
  | nil => rfl
  | cons a r ih =>
    rw [List.all_cons, Bool.and_eq_true] at hs
    unfold elemN
    rcases hb : Nat.beq a k with _ | _
    · exact ih hs.2
    · have := Nat.eq_of_beq_eq_true hb
      subst this
      rw [hs.1] at h; cases h
theorem Un_tr {ks ks' : List Nat} {σ σ1 σ2 : Sg} (h : Un ks σ σ1) (h2 : Un ks' σ1 σ2) (hs : ks'.all (elemN ks) = true) : Un ks σ σ2 := fun k e i j hn => (h2 k e i j (elemN_sub hs k hn)).trans (h k e i j hn)
theorem Un_wk {ks ks' : List Nat} {σ σ1 : Sg} (h : Un ks' σ σ1) (hs : ks'.all (elemN ks) = true) : Un ks σ σ1 := fun k e i j hn => h k e i j (elemN_sub hs k hn)
