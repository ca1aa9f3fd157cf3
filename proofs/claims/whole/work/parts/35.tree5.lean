theorem det_step {E : List Int32} {f : Nat → Int32} {b i q0 : Nat} (h : ∀ q, q < E.length → f (b + q) = if q < i then E.getD q 0 else if q < q0 then E.getD (q + 1) 0 else E.getD q 0) (hi : i ≤ q0) (hq : q0 + 1 < E.length) : ∀ q, q < E.length → upd f (b + q0) (f (b + q0 + 1)) (b + q) = if q < i then E.getD q 0 else if q < q0 + 1 then E.getD (q + 1) 0 else E.getD q 0 := by
  intro q hql
  by_cases e : q = q0
  · rw [e, upd_eq, show b + q0 + 1 = b + (q0 + 1) by omega, h (q0 + 1) hq, if_neg (by omega), if_neg (by omega), if_neg (by omega), if_pos (by omega)]
  · rw [upd_ne (by omega), h q hql]
    by_cases h1 : q < i
    · rw [if_pos h1, if_pos h1]
    · rw [if_neg h1, if_neg h1]
      by_cases h2 : q < q0
      · rw [if_pos h2, if_pos (by omega)]
      · rw [if_neg h2, if_neg (by omega)]
