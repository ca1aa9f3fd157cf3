/-- a text folded, as the reference does it -/
def folds (xs : List Int32) : List Int32 := (pts xs xs.length 0).foldl (foldPt 400) []
/-- a right name -/
def nmOK (xs : List Int32) : Prop := (1 ≤ xs.length ∧ xs.length ≤ 60) ∧ ¬ isD xs 0 xs.length ∧ (∀ q, q < xs.length → ¬ xs.getD q 0 = 0 ∧ ¬ xs.getD q 0 = 47) ∧ wr xs xs.length 0 = -1
theorem wr_neg {xs : List Int32} {to b : Nat} : ∀ n, (wrF xs to n b = -1 ∨ ∃ q : Nat, q < to ∧ wrF xs to n b = nI q) := by
  intro n
  induction n generalizing b with
  | zero => exact Or.inl rfl
  | succ n ih =>
    unfold wrF
    by_cases h : to ≤ b
    · rw [if_pos h]; exact Or.inl rfl
    · rw [if_neg h]
      by_cases h2 : ptC xs b to = -1
      · rw [if_pos h2]; exact Or.inr ⟨b, by omega, rfl⟩
      · rw [if_neg h2]; exact ih
theorem wr_lt {xs : List Int32} {to b : Nat} (ht : to < 2 ^ 31) (h : wr xs to b < 0) : wr xs to b = -1 := by
  rcases wr_neg (xs := xs) (to := to) (b := b) (to - b + 1) with e | ⟨q, hq, e⟩
  · exact e
  · exact absurd (show nI q < 0 from e ▸ h) (nI_pos (by omega))
theorem wr_nlt {xs : List Int32} {to b : Nat} (h : ¬ wr xs to b < 0) : ¬ wr xs to b = -1 := fun e => h (by rw [e]; decide)
