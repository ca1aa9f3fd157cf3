/-- the octets are . or .. alone -/
abbrev isD (xs : List Int32) (f t : Nat) : Prop := (t - f = 1 ∨ t - f = 2) ∧ xs.getD f 0 = 46 ∧ xs.getD (t - 1) 0 = 46
/-- octets more, joined to a point -/
def conts : List Int32 → Nat → Int32 → Option Int32
  | _, 0, v => some v
  | [], _ + 1, _ => none
  | d :: ds, n + 1, v => if d < 128 then none else if d ≤ 191 then conts ds n ((v <<< ((6 : Int32) &&& 31)) ||| (d &&& 63)) else none
theorem drop_c {xs : List Int32} {j : Nat} (h : j < xs.length) : xs.drop j = xs.getD j 0 :: xs.drop (j + 1) := by
  rw [List.drop_eq_getElem_cons h, List.getD_eq_getElem?_getD, List.getElem?_eq_getElem h]; rfl
theorem conts_s {xs : List Int32} {j n : Nat} {v : Int32} (h : j < xs.length) : conts (xs.drop j) (n + 1) v = if xs.getD j 0 < 128 then none else if xs.getD j 0 ≤ 191 then conts (xs.drop (j + 1)) n ((v <<< ((6 : Int32) &&& 31)) ||| (xs.getD j 0 &&& 63)) else none := by
  rw [drop_c h, conts]
theorem conts_0 {l : List Int32} {v : Int32} : conts l 0 v = some v := by cases l <;> rfl
/-- a point that is refused though its octets are -/
abbrev bad (v : Int32) (k : Nat) : Prop := (¬ v < 55296 ∧ ¬ 57343 < v) ∨ 1114111 < v ∨ ¬ octOf v = nI (k + 1)
def hd (x : Int32) (k : Nat) : Int32 := if k = 0 then x else x &&& ((63 : Int32) >>> (nI k &&& 31))
def ptK (xs : List Int32) (place to k : Nat) (x : Int32) : Int32 := if to ≤ place + k then -1 else match conts (xs.drop (place + 1)) k (hd x k) with
  | none => -1
  | some v => if bad v k then -1 else v
/-- the point that begins at a place and ends before another one; -1 when none does -/
def ptC (xs : List Int32) (place to : Nat) : Int32 := if octMore (xs.getD place 0) < 0 then -1 else ptK xs place to (octMore (xs.getD place 0)).toNatClampNeg (xs.getD place 0)
theorem octMore_r (x : Int32) : octMore x = -1 ∨ octMore x = nI 0 ∨ octMore x = nI 1 ∨ octMore x = nI 2 ∨ octMore x = nI 3 := by
  unfold octMore octMore_12 octMore_28 octMore_44 octMore_62
  repeat' split
  all_goals first | exact Or.inl rfl | exact Or.inr (Or.inl rfl) | exact Or.inr (Or.inr (Or.inl rfl)) | exact Or.inr (Or.inr (Or.inr (Or.inl rfl))) | exact Or.inr (Or.inr (Or.inr (Or.inr rfl)))
theorem octMore_k {x r : Int32} (hr : r = octMore x) (h : ¬ r < 0) : ∃ k : Nat, k ≤ 3 ∧ r = nI k := by
  rcases octMore_r x with e | e | e | e | e
  · exact absurd (by rw [hr, e]; decide) h
  · exact ⟨0, by omega, by rw [hr, e]⟩
  · exact ⟨1, by omega, by rw [hr, e]⟩
  · exact ⟨2, by omega, by rw [hr, e]⟩
  · exact ⟨3, by omega, by rw [hr, e]⟩
theorem ptC_k {xs : List Int32} {place to k : Nat} {x : Int32} (hx : x = xs.getD place 0) (hk : nI k = octMore x) (h3 : k ≤ 3) : ptC xs place to = ptK xs place to k x := by
  unfold ptC
  rw [← hx, ← hk, if_neg (nI_pos (by omega)), nI_clamp (by omega)]
theorem ptC_n {xs : List Int32} {place to : Nat} {x r : Int32} (hx : x = xs.getD place 0) (hr : r = octMore x) (h : r < 0) : ptC xs place to = -1 := by
  unfold ptC
  rw [← hx, ← hr, if_pos h]
theorem ptK_n {xs : List Int32} {place to k : Nat} {x : Int32} (h : ¬ to ≤ place + k) (hc : conts (xs.drop (place + 1)) k (hd x k) = none) : ptK xs place to k x = -1 := by
  unfold ptK; rw [if_neg h, hc]
theorem ptK_s {xs : List Int32} {place to k : Nat} {x v : Int32} (h : ¬ to ≤ place + k) (hc : conts (xs.drop (place + 1)) k (hd x k) = some v) : ptK xs place to k x = if bad v k then -1 else v := by
  unfold ptK; rw [if_neg h, hc]
/-- where a text is wrong, from place b on; -1 when it is right -/
def wrF (xs : List Int32) (to : Nat) : Nat → Nat → Int32
  | 0, _ => -1
  | n + 1, b => if to ≤ b then -1 else if ptC xs b to = -1 then nI b else wrF xs to n (b + (octOf (ptC xs b to)).toNatClampNeg)
theorem octOf_r (x : Int32) : ∃ k : Nat, 1 ≤ k ∧ k ≤ 4 ∧ octOf x = nI k := by
  unfold octOf
  repeat' split
  · exact ⟨4, by omega, by omega, rfl⟩
  · exact ⟨3, by omega, by omega, rfl⟩
  · exact ⟨2, by omega, by omega, rfl⟩
  · exact ⟨1, by omega, by omega, rfl⟩
theorem wrF_more (xs : List Int32) (to : Nat) : ∀ (n b m : Nat), to - b < n → n ≤ m → wrF xs to n b = wrF xs to m b
  | 0, _, _, h, _ => by omega
  | n + 1, b, 0, _, h => by omega
  | n + 1, b, m + 1, h, h2 => by
    obtain ⟨k, k1, k4, k3⟩ := octOf_r (ptC xs b to)
    unfold wrF
    by_cases h3 : to ≤ b
    · rw [if_pos h3, if_pos h3]
    · rw [if_neg h3, if_neg h3]
      by_cases h4 : ptC xs b to = -1
      · rw [if_pos h4, if_pos h4]
      · rw [if_neg h4, if_neg h4, k3, nI_clamp (by omega)]
        exact wrF_more xs to n (b + k) m (by omega) (by omega)
def wr (xs : List Int32) (to b : Nat) : Int32 := wrF xs to (to - b + 1) b
theorem wr_end {xs : List Int32} {to b : Nat} (h : to ≤ b) : wr xs to b = -1 := by unfold wr wrF; rw [if_pos h]
theorem wr_bad {xs : List Int32} {to b : Nat} (h : ¬ to ≤ b) (h2 : ptC xs b to = -1) : wr xs to b = nI b := by unfold wr wrF; rw [if_neg h, if_pos h2]
theorem wr_go {xs : List Int32} {to b k : Nat} (h : ¬ to ≤ b) (h2 : ¬ ptC xs b to = -1) (hk : octOf (ptC xs b to) = nI k) (h4 : k < 100) : wr xs to b = wr xs to (b + k) := by
  obtain ⟨k', k1, k2, k3⟩ := octOf_r (ptC xs b to)
  have e : k = k' := (nI_eq (by omega) (by omega)).mp (hk.symm.trans k3)
  subst e
  unfold wr
  rw [wrF, if_neg h, if_neg h2, hk, nI_clamp (by omega)]
  exact (wrF_more xs to _ _ _ (by omega) (by omega)).symm
