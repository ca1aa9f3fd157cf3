/-! THE CLASS: its addresses: ad 0 j its own (0 the object, 1 to 6 three rows, 7 the slots), ad (k + 1) j node k's (0 the object, 1 to 8 four rows); R: what the rows hold, N: the numbers of a node -/
def capR : Nat → Nat → Nat
  | 0, 5 => 60
  | 0, _ => 200
  | _ + 1, 1 => 60
  | _ + 1, 3 => 60
  | _ + 1, _ => 40
def rowJ : Nat → Nat → Prop
  | 0, j => j = 1 ∨ j = 3 ∨ j = 5
  | _ + 1, j => j = 1 ∨ j = 3 ∨ j = 5 ∨ j = 7
def usJ (a j : Nat) : Prop := j < 9 ∧ (a = 0 → j < 8)
theorem rowJ_us {a j : Nat} (h : rowJ a j) : usJ a j ∧ usJ a (j + 1) ∧ (j = 1 ∨ j = 3 ∨ j = 5 ∨ j = 7) ∧ (a = 0 → j < 6) := by
  cases a with
  | zero => unfold rowJ at h; unfold usJ; omega
  | succ a => unfold rowJ at h; unfold usJ; omega
def FN (G : me_G) (B0 : Nat) (D : Nat → Prop) (w : Me) (ad : Nat → Nat → Nat) (ex : Nat → Bool) (R : Nat → Nat → List Int32) (N : Nat → Nat → Int32) (cnt : Int32) : Prop :=
  w (ad 0 0) = some (eO 2 [.ref (ad 0 1), .ref (ad 0 3), .ref (ad 0 5), .ref (ad 0 7), .int cnt]) ∧
  (∃ f : Nat → Option Nat, w (ad 0 7) = some (eN G 200 f) ∧ ∀ k, k < 200 → f k = if ex (k + 1) then some (ad (k + 1) 0) else none) ∧
  (∀ k, ex (k + 1) = true → w (ad (k + 1) 0) = some (eO 0 [.ref (ad (k + 1) 1), .ref (ad (k + 1) 3), .ref (ad (k + 1) 5), .ref (ad (k + 1) 7), .int (N (k + 1) 0), .int (N (k + 1) 1), .int (N (k + 1) 2)])) ∧
  (∀ a j, ex a = true → rowJ a j → Rw G w (ad a j) (ad a (j + 1)) (capR a j) (R a j)) ∧
  ex 0 = true ∧
  (∀ a j b i, ex a = true → ex b = true → usJ a j → usJ b i → ad a j = ad b i → a = b ∧ j = i) ∧
  (∀ a j, ex a = true → usJ a j → B0 ≤ ad a j ∧ D (ad a j))
def updR (R : Nat → Nat → List Int32) (a j : Nat) (xs : List Int32) : Nat → Nat → List Int32 := fun b i => if b = a ∧ i = j then xs else R b i
theorem updR_s {R : Nat → Nat → List Int32} {a j : Nat} {xs : List Int32} : updR R a j xs a j = xs := if_pos ⟨rfl, rfl⟩
theorem updR_n {R : Nat → Nat → List Int32} {a j b i : Nat} {xs : List Int32} (h : ¬ (b = a ∧ i = j)) : updR R a j xs b i = R b i := if_neg h
def updN (N : Nat → Nat → Int32) (a j : Nat) (x : Int32) : Nat → Nat → Int32 := fun b i => if b = a ∧ i = j then x else N b i
theorem updN_s {N : Nat → Nat → Int32} {a j : Nat} {x : Int32} : updN N a j x a j = x := if_pos ⟨rfl, rfl⟩
theorem updN_n {N : Nat → Nat → Int32} {a j b i : Nat} {x : Int32} (h : ¬ (b = a ∧ i = j)) : updN N a j x b i = N b i := if_neg h
/-- what is not the class's is as it was -/
def FDr (D : Nat → Prop) (w w1 : Me) : Prop := ∀ q, ¬ D q → w1 q = w q
theorem FDr.rf {D : Nat → Prop} {w : Me} : FDr D w w := fun _ _ => rfl
theorem FDr.tr {D : Nat → Prop} {w w1 w2 : Me} (h : FDr D w w1) (h2 : FDr D w1 w2) : FDr D w w2 := fun q x => (h2 q x).trans (h q x)
theorem FDr.at {D : Nat → Prop} {w w1 : Me} {a : Nat} {e : va_E} (h : FDr D w w1) (ha : D a) : FDr D w (me_u w1 a e) := fun q x => (me_un (fun y => x (by rw [y]; exact ha))).trans (h q x)
theorem FDr.ch {D : Nat → Prop} {w w1 w2 : Me} {r b : Nat} (h : FDr D w w1) (hr : D r) (hb : D b) (hc : Ch w1 w2 r b) : FDr D w w2 := fun q x => (hc q (fun y => x (by rw [y]; exact hr)) (fun y => x (by rw [y]; exact hb))).trans (h q x)
section FNL
variable {G : me_G} {B0 : Nat} {D : Nat → Prop} {w w1 : Me} {ad : Nat → Nat → Nat} {ex : Nat → Bool} {R : Nat → Nat → List Int32} {N : Nat → Nat → Int32} {cnt : Int32}
theorem FN.ne (h : FN G B0 D w ad ex R N cnt) {a j b i : Nat} (ha : ex a = true) (hb : ex b = true) (ua : usJ a j) (ub : usJ b i) (hn : ¬ (a = b ∧ j = i)) : ad a j ≠ ad b i := fun e => hn (h.2.2.2.2.2.1 a j b i ha hb ua ub e)
theorem FN.bb (h : FN G B0 D w ad ex R N cnt) {a j : Nat} (ha : ex a = true) (ua : usJ a j) : B0 ≤ ad a j := (h.2.2.2.2.2.2 a j ha ua).1
theorem FN.dd (h : FN G B0 D w ad ex R N cnt) {a j : Nat} (ha : ex a = true) (ua : usJ a j) : D (ad a j) := (h.2.2.2.2.2.2 a j ha ua).2
theorem FN.rw0 (h : FN G B0 D w ad ex R N cnt) (a j : Nat) {xs : List Int32} (ha : ex a = true) (hj : rowJ a j) (e : R a j = xs) : Rw G w (ad a j) (ad a (j + 1)) (capR a j) xs := e ▸ h.2.2.2.1 a j ha hj
/-- a row has changed -/
theorem FN.row (h : FN G B0 D w ad ex R N cnt) {a j : Nat} {xs : List Int32} (ha : ex a = true) (hj : rowJ a j) (hR : Rw G w1 (ad a j) (ad a (j + 1)) (capR a j) xs) (hc : Ch w w1 (ad a j) (ad a (j + 1))) : FN G B0 D w1 ad ex (updR R a j xs) N cnt := by
  obtain ⟨u1, u2, u3, u4⟩ := rowJ_us hj
  have h0 := h.2.2.2.2.1
  have x0 : ∀ (b i : Nat), ex b = true → usJ b i → ¬ (b = a ∧ (i = j ∨ i = j + 1)) → w1 (ad b i) = w (ad b i) := fun b i hb ub hn => hc _ (h.ne hb ha ub u1 (by omega)) (h.ne hb ha ub u2 (by omega))
  refine ⟨(x0 0 0 h0 ⟨by omega, by omega⟩ (by omega)).trans h.1, ?_, fun k hk => (x0 (k + 1) 0 hk ⟨by omega, by omega⟩ (by omega)).trans (h.2.2.1 k hk), fun b i hb hi => ?_, h0, h.2.2.2.2.2.1, h.2.2.2.2.2.2⟩
  · obtain ⟨f, f1, f2⟩ := h.2.1
    exact ⟨f, (x0 0 7 h0 ⟨by omega, by omega⟩ (by omega)).trans f1, f2⟩
  · by_cases e : b = a ∧ i = j
    · obtain ⟨rfl, rfl⟩ := e
      rw [updR_s]; exact hR
    · rw [updR_n e]
      obtain ⟨v1, v2, v3, v4⟩ := rowJ_us hi
      exact (h.2.2.2.1 b i hb hi).of (x0 b i hb v1 (by omega)) (x0 b (i + 1) hb v2 (by omega))
/-- a node's number has changed -/
theorem FN.num (h : FN G B0 D w ad ex R N cnt) {k : Nat} (hk : ex (k + 1) = true) {N1 : Nat → Nat → Int32} (hN : ∀ b i, b ≠ k + 1 → N1 b i = N b i) : FN G B0 D (me_u w (ad (k + 1) 0) (eO 0 [.ref (ad (k + 1) 1), .ref (ad (k + 1) 3), .ref (ad (k + 1) 5), .ref (ad (k + 1) 7), .int (N1 (k + 1) 0), .int (N1 (k + 1) 1), .int (N1 (k + 1) 2)])) ad ex R N1 cnt := by
  have h0 := h.2.2.2.2.1
  have x0 : ∀ (b i : Nat), ex b = true → usJ b i → ¬ (b = k + 1 ∧ i = 0) → me_u w (ad (k + 1) 0) (eO 0 [.ref (ad (k + 1) 1), .ref (ad (k + 1) 3), .ref (ad (k + 1) 5), .ref (ad (k + 1) 7), .int (N1 (k + 1) 0), .int (N1 (k + 1) 1), .int (N1 (k + 1) 2)]) (ad b i) = w (ad b i) := fun b i hb ub hn => me_un (h.ne hb hk ub ⟨by omega, by omega⟩ hn)
  refine ⟨(x0 0 0 h0 ⟨by omega, by omega⟩ (by omega)).trans h.1, ?_, fun b hb => ?_, fun b i hb hi => ?_, h0, h.2.2.2.2.2.1, h.2.2.2.2.2.2⟩
  · obtain ⟨f, f1, f2⟩ := h.2.1
    exact ⟨f, (x0 0 7 h0 ⟨by omega, by omega⟩ (by omega)).trans f1, f2⟩
  · by_cases e : b = k
    · subst e; exact me_us _ _ _
    · rw [x0 (b + 1) 0 hb ⟨by omega, by omega⟩ (by omega), hN (b + 1) 0 (by omega), hN (b + 1) 1 (by omega), hN (b + 1) 2 (by omega)]; exact h.2.2.1 b hb
  · obtain ⟨v1, v2, v3, v4⟩ := rowJ_us hi
    exact (h.2.2.2.1 b i hb hi).of (x0 b i hb v1 (by omega)) (x0 b (i + 1) hb v2 (by omega))
/-- the count has changed -/
theorem FN.scnt (h : FN G B0 D w ad ex R N cnt) {c : Int32} : FN G B0 D (me_u w (ad 0 0) (eO 2 [.ref (ad 0 1), .ref (ad 0 3), .ref (ad 0 5), .ref (ad 0 7), .int c])) ad ex R N c := by
  have h0 := h.2.2.2.2.1
  have x0 : ∀ (b i : Nat), ex b = true → usJ b i → ¬ (b = 0 ∧ i = 0) → me_u w (ad 0 0) (eO 2 [.ref (ad 0 1), .ref (ad 0 3), .ref (ad 0 5), .ref (ad 0 7), .int c]) (ad b i) = w (ad b i) := fun b i hb ub hn => me_un (h.ne hb h0 ub ⟨by omega, by omega⟩ hn)
  refine ⟨me_us _ _ _, ?_, fun b hb => ?_, fun b i hb hi => ?_, h0, h.2.2.2.2.2.1, h.2.2.2.2.2.2⟩
  · obtain ⟨f, f1, f2⟩ := h.2.1
    exact ⟨f, (x0 0 7 h0 ⟨by omega, by omega⟩ (by omega)).trans f1, f2⟩
  · rw [x0 (b + 1) 0 hb ⟨by omega, by omega⟩ (by omega)]; exact h.2.2.1 b hb
  · obtain ⟨v1, v2, v3, v4⟩ := rowJ_us hi
    exact (h.2.2.2.1 b i hb hi).of (x0 b i hb v1 (by omega)) (x0 b (i + 1) hb v2 (by omega))
/-- what the class's cells hold is all -/
theorem FN.mv (h : FN G B0 D w ad ex R N cnt) (hD : ∀ q, D q → w1 q = w q) : FN G B0 D w1 ad ex R N cnt := by
  have h0 := h.2.2.2.2.1
  have x0 : ∀ (b i : Nat), ex b = true → usJ b i → w1 (ad b i) = w (ad b i) := fun b i hb ub => hD _ (h.dd hb ub)
  refine ⟨(x0 0 0 h0 ⟨by omega, by omega⟩).trans h.1, ?_, fun b hb => (x0 (b + 1) 0 hb ⟨by omega, by omega⟩).trans (h.2.2.1 b hb), fun b i hb hi => ?_, h0, h.2.2.2.2.2.1, h.2.2.2.2.2.2⟩
  · obtain ⟨f, f1, f2⟩ := h.2.1
    exact ⟨f, (x0 0 7 h0 ⟨by omega, by omega⟩).trans f1, f2⟩
  · obtain ⟨v1, v2, v3, v4⟩ := rowJ_us hi
    exact (h.2.2.2.1 b i hb hi).of (x0 b i hb v1) (x0 b (i + 1) hb v2)
end FNL
/-- the class holds the tree; Bn: the entries by name -/
def CT (ex : Nat → Bool) (R : Nat → Nat → List Int32) (N : Nat → Nat → Int32) (T : Tre) (Bn : Nat → List Int32) : Prop :=
  (∀ k, k < 200 → T k = none → ex (k + 1) = true → N (k + 1) 0 = 0) ∧
  ∀ k n, T k = some n → k < 200 ∧ ex (k + 1) = true ∧ N (k + 1) 0 = 1 ∧ N (k + 1) 1 = n.1 ∧ N (k + 1) 2 = n.2.1 ∧ R (k + 1) 1 = n.2.2.1 ∧ R (k + 1) 3 = n.2.2.2.1 ∧ R (k + 1) 5 = n.2.2.2.2 ∧ R (k + 1) 7 = Bn k
/-- rows of its own do not matter to the tree -/
theorem CT.own {ex : Nat → Bool} {R R1 : Nat → Nat → List Int32} {N : Nat → Nat → Int32} {T : Tre} {Bn : Nat → List Int32} (h : CT ex R N T Bn) (e : ∀ k j, R1 (k + 1) j = R (k + 1) j) : CT ex R1 N T Bn := by
  refine ⟨h.1, fun k n hn => ?_⟩
  rw [e, e, e, e]; exact h.2 k n hn
