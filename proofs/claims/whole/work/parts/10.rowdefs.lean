/-! A ROW: its object r, its array b, room cap, what it holds -/
def Rw (G : me_G) (w : Me) (r b cap : Nat) (xs : List Int32) : Prop :=
  w r = some (eO 1 [.ref b, .int (nI xs.length)]) ∧ xs.length ≤ cap ∧ cap < 1000 ∧ r ≠ b ∧ ∃ f : Nat → Int32, w b = some (eI G cap f) ∧ ∀ i, i < xs.length → f i = xs.getD i 0
/-- what at(k) answers -/
def ra (xs : List Int32) (k : Int32) : Int32 := if k < 0 then -1 else if k < nI xs.length then xs.getD k.toNatClampNeg 0 else -1
theorem Rw.of {G : me_G} {w w' : Me} {r b cap : Nat} {xs : List Int32} (h : Rw G w r b cap xs) (h1 : w' r = w r) (h2 : w' b = w b) : Rw G w' r b cap xs := by
  obtain ⟨g1, g2, g3, g4, f, g5, g6⟩ := h
  exact ⟨by rw [h1]; exact g1, g2, g3, g4, f, by rw [h2]; exact g5, g6⟩
theorem Rw.len {G : me_G} {w : Me} {r b cap : Nat} {xs : List Int32} (h : Rw G w r b cap xs) : xs.length < 1000 := Nat.lt_of_le_of_lt h.2.1 h.2.2.1
theorem nI_lt_of {x : Int32} {n : Nat} (hn : n < 2 ^ 31) (h0 : ¬ x < 0) (h1 : x < nI n) : x.toNatClampNeg < n ∧ x = nI x.toNatClampNeg := by
  obtain ⟨j, hj, rfl⟩ := nI_of h0
  rw [nI_clamp hj]
  exact ⟨(nI_ltI hj hn).mp h1, rfl⟩
theorem ix_lt {x : Int32} {n cap : Nat} (h0 : ¬ x < 0) (h1 : x < nI n) (hn : n ≤ cap) (hc : cap < 1000) : vp_in x cap := by
  obtain ⟨h2, h3⟩ := nI_lt_of (by omega) h0 h1
  rw [h3]
  exact vp_in_nI (by omega) (by omega)
theorem ra_neg {xs : List Int32} {k : Int32} (h : k < 0) : ra xs k = -1 := if_pos h
theorem ra_big {xs : List Int32} {k : Int32} (h : ¬ k < nI xs.length) : ra xs k = -1 := by
  unfold ra
  by_cases h0 : k < 0
  · rw [if_pos h0]
  · rw [if_neg h0, if_neg h]
theorem ra_in {xs : List Int32} {k : Int32} (h0 : ¬ k < 0) (h : k < nI xs.length) : ra xs k = xs.getD k.toNatClampNeg 0 := by
  unfold ra
  rw [if_neg h0, if_pos h]
theorem ra_nat {xs : List Int32} {i : Nat} (h : i < xs.length) (hl : xs.length < 1000) : ra xs (nI i) = xs.getD i 0 := by
  rw [ra_in (nI_pos (by omega)) (nI_lt h (by omega)), nI_clamp (by omega)]
theorem upd_eq {f : Nat → Int32} {k : Nat} {x : Int32} : upd f k x k = x := by simp [upd]
theorem upd_ne {f : Nat → Int32} {k j : Nat} {x : Int32} (h : j ≠ k) : upd f k x j = f j := by simp [upd, h]
/-- insert(j, item) -/
def rIns (cap : Nat) (xs : List Int32) (j : Nat) (item : Int32) : List Int32 := if cap ≤ xs.length then xs else xs.take j ++ item :: xs.drop j
theorem rIns_len {cap : Nat} {xs : List Int32} {j : Nat} {item : Int32} (h : ¬ cap ≤ xs.length) (hj : j ≤ xs.length) : (rIns cap xs j item).length = xs.length + 1 := by
  unfold rIns; rw [if_neg h]; simp; omega
theorem rIns_get {cap : Nat} {xs : List Int32} {j : Nat} {item : Int32} (h : ¬ cap ≤ xs.length) (hj : j ≤ xs.length) (q : Nat) (hq : q < xs.length + 1) : (rIns cap xs j item).getD q 0 = if q < j then xs.getD q 0 else if q = j then item else xs.getD (q - 1) 0 := by
  unfold rIns
  rw [if_neg h, List.getD_eq_getElem?_getD]
  have ht : (xs.take j).length = j := by simp; omega
  by_cases h1 : q < j
  · rw [if_pos h1, List.getElem?_append_left (by omega), List.getElem?_take_of_lt h1, ← List.getD_eq_getElem?_getD]
  · rw [if_neg h1, List.getElem?_append_right (by omega), ht]
    by_cases h2 : q = j
    · rw [if_pos h2, h2, Nat.sub_self]; rfl
    · rw [if_neg h2, show q - j = (q - j - 1) + 1 by omega, List.getElem?_cons_succ, List.getElem?_drop, ← List.getD_eq_getElem?_getD, show j + (q - j - 1) = q - 1 by omega]
theorem ins_step {f f1 : Nat → Int32} {i n : Nat} (h : ∀ q, f1 q = if i < q ∧ q ≤ n then f (q - 1) else f q) (hi : 0 < i) (hn : i ≤ n) : ∀ q, upd f1 i (f1 (i - 1)) q = if i - 1 < q ∧ q ≤ n then f (q - 1) else f q := by
  intro q
  by_cases hq : q = i
  · rw [hq, upd_eq, h, if_neg (by omega), if_pos (by omega)]
  · rw [upd_ne hq, h]
    by_cases h2 : i < q ∧ q ≤ n
    · rw [if_pos h2, if_pos (by omega)]
    · rw [if_neg h2, if_neg (by omega)]
theorem ins_no {G : me_G} {w : Me} {r b cap : Nat} {xs : List Int32} {j : Nat} {item : Int32} (h : Rw G w r b cap xs) (hc : cap ≤ xs.length) : Rw G w r b cap (rIns cap xs j item) ∧ Ch w w r b := by
  unfold rIns; rw [if_pos hc]; exact ⟨h, fun _ _ _ => rfl⟩
theorem ins_done {G : me_G} {w w1 : Me} {r b cap : Nat} {xs : List Int32} {j : Nat} {item : Int32} {f f1 : Nat → Int32} (hrb : r ≠ b) (hlt : cap < 1000) (hc : ¬ cap ≤ xs.length) (hj : j ≤ xs.length) (hf : ∀ i, i < xs.length → f i = xs.getD i 0) (hff : ∀ q, f1 q = if j < q ∧ q ≤ xs.length then f (q - 1) else f q) (hfr : ∀ q, q ≠ b → w1 q = w q) :
    Rw G (me_u (me_u w1 b (eI G cap (upd f1 j item))) r (eO 1 [.ref b, .int (nI (xs.length + 1))])) r b cap (rIns cap xs j item) ∧ Ch w (me_u (me_u w1 b (eI G cap (upd f1 j item))) r (eO 1 [.ref b, .int (nI (xs.length + 1))])) r b := by
  refine ⟨⟨by rw [rIns_len hc hj]; exact me_us _ _ _, by rw [rIns_len hc hj]; omega, hlt, hrb, _, (me_un (Ne.symm hrb)).trans (me_us _ _ _), ?_⟩, fun q h1 h2 => (me_un h1).trans ((me_un h2).trans (hfr q h2))⟩
  intro q hq
  rw [rIns_len hc hj] at hq
  rw [rIns_get hc hj q hq]
  by_cases h1 : q = j
  · rw [h1, upd_eq, if_neg (by omega), if_pos rfl]
  · rw [upd_ne h1, hff]
    by_cases h2 : q < j
    · rw [if_neg (by omega), if_pos h2]; exact hf q (by omega)
    · rw [if_pos (by omega), if_neg h2, if_neg h1]; exact hf (q - 1) (by omega)
