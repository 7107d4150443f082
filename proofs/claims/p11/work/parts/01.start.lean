/-! a start that meets the premises, but for the class of the cell of FIRST_SETTINGS -/
/-- a second class of arrays of int, at the end of the table, with a method clone() of its own: one byte that is no instruction -/
def od_cls : Class := { start1.cArr "no name" 23 .int with methods := #[Lib.HandJ.method "clone" "()Ljava/lang/Object;" [] (some (.object "java/lang/Object")) 0x1 1 ⟨#[0xff]⟩] }
def od_heap : Heap := start1.about.heap.setIfInBounds 4 { cls := 29, slots := #[.int 3, .int 16, .int 2], vm := .none }
def od_st : State := { start1.about with vm := { start1.about.vm with classes := start1.about.vm.classes.push od_cls }, heap := od_heap }
theorem od_narrow : (Cond.and given_1 narrow_1).before start1.args0 od_st = true := by decide +kernel
theorem od_fits : heapFits od_st = true := by decide +kernel
def od_chk (tb : Tables) (e : Env) : Nat → State → Bool
  | 0, s => !(Nat.beq s.frames.length 1) && !(decide (s.status = .running))
  | n + 1, s => !(Nat.beq s.frames.length 1) && (match s.status, s.curStatus?, s.alone with
    | .running, some .runnable, true => od_chk tb e n (stepThread tb e s).1
    | _, _, _ => true)
theorem od_sound (tb : Tables) (e : Env) : ∀ (n : Nat) (s : State), od_chk tb e n s = true → ∀ k, (stepsAlone tb e k s).frames.length ≠ 1
  | 0, s, h, k => by
    unfold od_chk at h
    rw [Bool.and_eq_true] at h
    have h1 : s.frames.length ≠ 1 := fun hc => by rw [hc] at h; exact absurd h.1 (by decide)
    have h2 : s.status ≠ .running := fun hc => by have := h.2; simp [hc] at this
    cases k with
    | zero => exact h1
    | succ k =>
      unfold stepsAlone
      split
      · rename_i hr _ _
        exact absurd hr h2
      · exact h1
  | n + 1, s, h, k => by
    unfold od_chk at h
    rw [Bool.and_eq_true] at h
    have h1 : s.frames.length ≠ 1 := fun hc => by rw [hc] at h; exact absurd h.1 (by decide)
    have h2 := h.2
    cases k with
    | zero => exact h1
    | succ k =>
      unfold stepsAlone
      split
      · rename_i hr h3 h4
        rw [hr, h3, h4] at h2
        exact od_sound tb e n _ h2 k
      · exact h1
