/-! A ROW: its object r, its array b, room cap, what it holds -/
def Rw (G : me_G) (w : Me) (r b cap : Nat) (xs : List Int32) : Prop :=
  w r = some (eO 1 [.ref b, .int (nI xs.length)]) ∧ xs.length ≤ cap ∧ cap < 1000 ∧ r ≠ b ∧ ∃ f : Nat → Int32, w b = some (eI G cap f) ∧ ∀ i, i < xs.length → f i = xs.getD i 0
/-- what at(k) answers -/
def ra (xs : List Int32) (k : Int32) : Int32 := if k < 0 then -1 else if k < nI xs.length then xs.getD k.toNatClampNeg 0 else -1
theorem Rw.of {G : me_G} {w w' : Me} {r b cap : Nat} {xs : List Int32} (h : Rw G w r b cap xs) (h1 : w' r = w r) (h2 : w' b = w b) : Rw G w' r b cap xs := by
  obtain ⟨g1, g2, g3, g4, f, g5, g6⟩ := h
  exact ⟨by rw [h1]; exact g1, g2, g3, g4, f, by rw [h2]; exact g5, g6⟩
theorem Rw.len {G : me_G} {w : Me} {r b cap : Nat} {xs : List Int32} (h : Rw G w r b cap xs) : xs.length < 1000 := Nat.lt_of_le_of_lt h.2.1 h.2.2.1
theorem nI_lt_of {x : Int32} {n : Nat} (hn : n < 2 ^ 31) (h0 : ¬ x < 0) (h1 : x < nI n) : x.toNatClampNeg < n ∧ x = nI x.toNatClampNeg := by
  obtain ⟨j, hj, rfl⟩ := nI_of h0
  rw [nI_clamp hj]
  exact ⟨(nI_ltI hj hn).mp h1, rfl⟩
theorem ix_lt {x : Int32} {n cap : Nat} (h0 : ¬ x < 0) (h1 : x < nI n) (hn : n ≤ cap) (hc : cap < 1000) : vp_in x cap := by
  obtain ⟨h2, h3⟩ := nI_lt_of (by omega) h0 h1
  rw [h3]
  exact vp_in_nI (by omega) (by omega)
theorem ra_neg {xs : List Int32} {k : Int32} (h : k < 0) : ra xs k = -1 := if_pos h
theorem ra_big {xs : List Int32} {k : Int32} (h : ¬ k < nI xs.length) : ra xs k = -1 := by
  unfold ra
  by_cases h0 : k < 0
  · rw [if_pos h0]
  · rw [if_neg h0, if_neg h]
theorem ra_in {xs : List Int32} {k : Int32} (h0 : ¬ k < 0) (h : k < nI xs.length) : ra xs k = xs.getD k.toNatClampNeg 0 := by
  unfold ra
  rw [if_neg h0, if_pos h]
theorem ra_nat {xs : List Int32} {i : Nat} (h : i < xs.length) (hl : xs.length < 1000) : ra xs (nI i) = xs.getD i 0 := by
  rw [ra_in (nI_pos (by omega)) (nI_lt h (by omega)), nI_clamp (by omega)]
