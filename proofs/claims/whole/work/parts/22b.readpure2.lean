theorem om_0 : ∀ n, n < 256 → n < 128 → octMore (nI n) = nI 0 := by decide +kernel
theorem om_1 : ∀ n, n < 256 → 194 ≤ n ∧ n ≤ 223 → octMore (nI n) = nI 1 := by decide +kernel
theorem om_2 : ∀ n, n < 256 → 224 ≤ n ∧ n ≤ 239 → octMore (nI n) = nI 2 := by decide +kernel
theorem om_3 : ∀ n, n < 256 → 240 ≤ n ∧ n ≤ 244 → octMore (nI n) = nI 3 := by decide +kernel
theorem om_m : ∀ n, n < 256 → 128 ≤ n ∧ (n < 194 ∨ 223 < n) ∧ (n < 224 ∨ 239 < n) ∧ (n < 240 ∨ 244 < n) → octMore (nI n) = -1 := by decide +kernel
theorem nI_m1 {b : Nat} (h : b < 2 ^ 31) : ¬ nI b = -1 := fun e => absurd (show nI b < 0 by rw [e]; decide) (nI_pos h)
theorem Ls.put {F F' : Nat → Nat → Int32} {z z' : Nat → Int32} {ka kz cap : Nat} {xs : List Int32} {v : Int32} (h : Ls F z ka kz cap xs) (hF : F' = uF F ka (upd (F ka) xs.length v)) (hz : z' kz = nI (xs.length + 1)) (hc : xs.length < cap) : Ls F' z' ka kz cap (xs ++ [v]) := by
  refine ⟨by rw [hz, List.length_append]; rfl, by rw [List.length_append]; exact hc, fun i hi => ?_⟩
  rw [List.length_append] at hi
  rw [hF, uF_s]
  by_cases e : i = xs.length
  · rw [e, upd_eq, getD_e]
  · have hi2 : i < xs.length := by have : i < xs.length + 1 := hi; omega
    rw [upd_ne e, getD_l hi2]; exact h.2.2 i hi2
