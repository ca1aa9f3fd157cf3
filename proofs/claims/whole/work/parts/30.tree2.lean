theorem fr_none {F : Nat → Nat → Int32} {T : Tre} {v : Nat} (hR : RT F T) (h : F 2 v = 0) : T v = none := by
  cases hT : T v with
  | none => rfl
  | some n => exact absurd ((hR.2 v n hT).2.1.symm.trans h) (by decide)
theorem fr_some {F : Nat → Nat → Int32} {T : Tre} {v : Nat} (hR : RT F T) (hv : v < 200) (h : ¬ F 2 v = 0) : ∃ n, T v = some n := by
  cases hT : T v with
  | none => exact absurd (hR.1 v hv hT) h
  | some n => exact ⟨n, rfl⟩
