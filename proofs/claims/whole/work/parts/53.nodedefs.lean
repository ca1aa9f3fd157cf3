/-! ONE NODE: its nine addresses b, what its rows hold, its numbers -/
def ND (G : me_G) (B0 : Nat) (w : Me) (b : Nat → Nat) (Rr : Nat → List Int32) (Nn : Nat → Int32) : Prop :=
  w (b 0) = some (eO 0 [.ref (b 1), .ref (b 3), .ref (b 5), .ref (b 7), .int (Nn 0), .int (Nn 1), .int (Nn 2)]) ∧
  (∀ j, rowJ 1 j → Rw G w (b j) (b (j + 1)) (capR 1 j) (Rr j)) ∧ (∀ i j, i < 9 → j < 9 → b i = b j → i = j) ∧ ∀ j, j < 9 → B0 ≤ b j
/-- nothing but the node's cells has changed -/
def FrB (w w1 : Me) (b : Nat → Nat) : Prop := ∀ q, (∀ j, j < 9 → q ≠ b j) → w1 q = w q
theorem FrB.rf {w : Me} {b : Nat → Nat} : FrB w w b := fun _ _ => rfl
theorem FrB.ch {w w1 w2 : Me} {b : Nat → Nat} {i j : Nat} (h : FrB w w1 b) (hi : i < 9) (hj : j < 9) (hc : Ch w1 w2 (b i) (b j)) : FrB w w2 b := fun q hq => (hc q (hq i hi) (hq j hj)).trans (h q hq)
theorem FrB.at {w w1 : Me} {b : Nat → Nat} {e : va_E} (h : FrB w w1 b) : FrB w (me_u w1 (b 0) e) b := fun q hq => (me_un (hq 0 (by omega))).trans (h q hq)
section NDL
variable {G : me_G} {B0 : Nat} {w w1 : Me} {b : Nat → Nat} {Rr : Nat → List Int32} {Nn : Nat → Int32}
theorem ND.ne (h : ND G B0 w b Rr Nn) {i j : Nat} (hi : i < 9) (hj : j < 9) (hn : i ≠ j) : b i ≠ b j := fun e => hn (h.2.2.1 i j hi hj e)
theorem rowJ1 {j : Nat} (h : rowJ 1 j) : j < 8 ∧ (j = 1 ∨ j = 3 ∨ j = 5 ∨ j = 7) := by unfold rowJ at h; omega
theorem ND.row (h : ND G B0 w b Rr Nn) {j : Nat} {xs : List Int32} (hj : rowJ 1 j) (hR : Rw G w1 (b j) (b (j + 1)) (capR 1 j) xs) (hc : Ch w w1 (b j) (b (j + 1))) : ND G B0 w1 b (fun i => if i = j then xs else Rr i) Nn := by
  have j1 := rowJ1 hj
  refine ⟨(hc _ (h.ne (by omega) (by omega) (by omega)) (h.ne (by omega) (by omega) (by omega))).trans h.1, fun i hi => ?_, h.2.2.1, h.2.2.2⟩
  have i1 := rowJ1 hi
  show Rw G w1 (b i) (b (i + 1)) (capR 1 i) (if i = j then xs else Rr i)
  by_cases e : i = j
  · subst e; rw [if_pos rfl]; exact hR
  · rw [if_neg e]
    exact (h.2.1 i hi).of (hc _ (h.ne (by omega) (by omega) (by omega)) (h.ne (by omega) (by omega) (by omega))) (hc _ (h.ne (by omega) (by omega) (by omega)) (h.ne (by omega) (by omega) (by omega)))
theorem ND.num (h : ND G B0 w b Rr Nn) {N1 : Nat → Int32} : ND G B0 (me_u w (b 0) (eO 0 [.ref (b 1), .ref (b 3), .ref (b 5), .ref (b 7), .int (N1 0), .int (N1 1), .int (N1 2)])) b Rr N1 := by
  refine ⟨me_us _ _ _, fun i hi => ?_, h.2.2.1, h.2.2.2⟩
  have i1 := rowJ1 hi
  exact (h.2.1 i hi).of (me_un (h.ne (by omega) (by omega) (by omega))) (me_un (h.ne (by omega) (by omega) (by omega)))
theorem ND.to (h : ND G B0 w b Rr Nn) {R1 : Nat → List Int32} {N1 : Nat → Int32} (h1 : ∀ j, rowJ 1 j → R1 j = Rr j) (h2 : ∀ i, i < 3 → N1 i = Nn i) : ND G B0 w b R1 N1 := by
  refine ⟨by rw [h2 0 (by omega), h2 1 (by omega), h2 2 (by omega)]; exact h.1, fun j hj => by rw [h1 j hj]; exact h.2.1 j hj, h.2.2⟩
end NDL
section FNN
variable {G : me_G} {B0 : Nat} {D : Nat → Prop} {w w1 : Me} {ad : Nat → Nat → Nat} {ex : Nat → Bool} {R : Nat → Nat → List Int32} {N : Nat → Nat → Int32} {cnt : Int32}
theorem capR_s {k j : Nat} : capR (k + 1) j = capR 1 j := by
  unfold capR
  split <;> first | rfl | simp_all
theorem FN.nd (h : FN G B0 D w ad ex R N cnt) {k : Nat} (hk : ex (k + 1) = true) : ND G B0 w (ad (k + 1)) (R (k + 1)) (N (k + 1)) := by
  refine ⟨h.2.2.1 k hk, fun j hj => ?_, fun i j hi hj e => (h.2.2.2.2.2.1 (k + 1) i (k + 1) j hk hk ⟨hi, by omega⟩ ⟨hj, by omega⟩ e).2, fun j hj => h.bb hk ⟨hj, by omega⟩⟩
  rw [← capR_s (k := k)]; exact h.2.2.2.1 (k + 1) j hk hj
/-- a node has changed -/
theorem FN.node (h : FN G B0 D w ad ex R N cnt) {k : Nat} (hk : ex (k + 1) = true) {Rr : Nat → List Int32} {Nn : Nat → Int32} (hn : ND G B0 w1 (ad (k + 1)) Rr Nn) (hf : FrB w w1 (ad (k + 1))) : FN G B0 D w1 ad ex (fun a j => if a = k + 1 then Rr j else R a j) (fun a j => if a = k + 1 then Nn j else N a j) cnt := by
  have h0 := h.2.2.2.2.1
  have x0 : ∀ (b i : Nat), ex b = true → usJ b i → b ≠ k + 1 → w1 (ad b i) = w (ad b i) := fun b i hb ub hn => hf _ (fun j hj => h.ne hb hk ub ⟨hj, by omega⟩ (by omega))
  refine ⟨(x0 0 0 h0 ⟨by omega, by omega⟩ (by omega)).trans h.1, ?_, fun c hc => ?_, fun c i hc hi => ?_, h0, h.2.2.2.2.2.1, h.2.2.2.2.2.2⟩
  · obtain ⟨f, f1, f2⟩ := h.2.1
    exact ⟨f, (x0 0 7 h0 ⟨by omega, by omega⟩ (by omega)).trans f1, f2⟩
  · by_cases e : c = k
    · subst e; simp only [if_true]; exact hn.1
    · have e1 : c + 1 ≠ k + 1 := by omega
      simp only [if_neg e1]; rw [x0 (c + 1) 0 hc ⟨by omega, by omega⟩ e1]; exact h.2.2.1 c hc
  · by_cases e : c = k + 1
    · subst e; simp only [if_true]; rw [capR_s]; exact hn.2.1 i hi
    · simp only [if_neg e]
      obtain ⟨v1, v2, -, -⟩ := rowJ_us hi
      exact (h.2.2.2.1 c i hc hi).of (x0 c i hc v1 e) (x0 c (i + 1) hc v2 e)
theorem FN.dr (h : FN G B0 D w ad ex R N cnt) {k : Nat} (hk : ex (k + 1) = true) {w0 : Me} (hD : FDr D w0 w) (hf : FrB w w1 (ad (k + 1))) : FDr D w0 w1 := fun q hq => (hf q (fun j hj e => hq (by rw [e]; exact h.dd hk ⟨hj, by omega⟩))).trans (hD q hq)
/-- every used address holds a cell -/
theorem FN.sm1 (h : FN G B0 D w ad ex R N cnt) {a j : Nat} (ha : ex a = true) (hu : usJ a j) : ∃ e, w (ad a j) = some e := by
  obtain ⟨u1, u2⟩ := hu
  cases a with
  | zero =>
    rcases (show j = 0 ∨ j = 1 ∨ j = 2 ∨ j = 3 ∨ j = 4 ∨ j = 5 ∨ j = 6 ∨ j = 7 by omega) with rfl | rfl | rfl | rfl | rfl | rfl | rfl | rfl
    · exact ⟨_, h.1⟩
    · exact ⟨_, (h.2.2.2.1 0 1 ha (Or.inl rfl)).1⟩
    · exact (h.2.2.2.1 0 1 ha (Or.inl rfl)).bsome
    · exact ⟨_, (h.2.2.2.1 0 3 ha (Or.inr (Or.inl rfl))).1⟩
    · exact (h.2.2.2.1 0 3 ha (Or.inr (Or.inl rfl))).bsome
    · exact ⟨_, (h.2.2.2.1 0 5 ha (Or.inr (Or.inr rfl))).1⟩
    · exact (h.2.2.2.1 0 5 ha (Or.inr (Or.inr rfl))).bsome
    · obtain ⟨f, f1, -⟩ := h.2.1; exact ⟨_, f1⟩
  | succ a =>
    rcases (show j = 0 ∨ j = 1 ∨ j = 2 ∨ j = 3 ∨ j = 4 ∨ j = 5 ∨ j = 6 ∨ j = 7 ∨ j = 8 by omega) with rfl | rfl | rfl | rfl | rfl | rfl | rfl | rfl | rfl
    · exact ⟨_, h.2.2.1 a ha⟩
    · exact ⟨_, (h.2.2.2.1 _ 1 ha (Or.inl rfl)).1⟩
    · exact (h.2.2.2.1 _ 1 ha (Or.inl rfl)).bsome
    · exact ⟨_, (h.2.2.2.1 _ 3 ha (Or.inr (Or.inl rfl))).1⟩
    · exact (h.2.2.2.1 _ 3 ha (Or.inr (Or.inl rfl))).bsome
    · exact ⟨_, (h.2.2.2.1 _ 5 ha (Or.inr (Or.inr (Or.inl rfl)))).1⟩
    · exact (h.2.2.2.1 _ 5 ha (Or.inr (Or.inr (Or.inl rfl)))).bsome
    · exact ⟨_, (h.2.2.2.1 _ 7 ha (Or.inr (Or.inr (Or.inr rfl)))).1⟩
    · exact (h.2.2.2.1 _ 7 ha (Or.inr (Or.inr (Or.inr rfl)))).bsome
/-- a node is new -/
theorem FN.new (h : FN G B0 D w ad ex R N cnt) {k : Nat} (hk : k < 200) (hxk : ex (k + 1) = false) {b : Nat → Nat} {Rr : Nat → List Int32} {Nn : Nat → Int32} (hn : ND G B0 w1 b Rr Nn) (hb : ∀ j, j < 9 → w (b j) = none) (hD : ∀ j, j < 9 → D (b j)) (hf : ∀ q, w q ≠ none → w1 q = w q) {f : Nat → Option Nat} (hsl : w1 (ad 0 7) = some (eN G 200 f)) (hfs : ∀ k, k < 200 → f k = if ex (k + 1) then some (ad (k + 1) 0) else none) :
    FN G B0 D (me_u w1 (ad 0 7) (eN G 200 (va_up f k (some (b 0))))) (fun a => if a = k + 1 then b else ad a) (fun a => if a = k + 1 then true else ex a) (fun a j => if a = k + 1 then Rr j else R a j) (fun a j => if a = k + 1 then Nn j else N a j) cnt := by
  have h0 := h.2.2.2.2.1
  have bne : ∀ a i j, ex a = true → usJ a i → j < 9 → ad a i ≠ b j := fun a i j ha hu hj e => by
    obtain ⟨x, hx⟩ := h.sm1 ha hu
    rw [e, hb j hj] at hx; cases hx
  have x1 : ∀ (c i : Nat), ex c = true → usJ c i → w1 (ad c i) = w (ad c i) := fun c i hc hu => hf _ (by obtain ⟨x, hx⟩ := h.sm1 hc hu; rw [hx]; simp)
  have x0 : ∀ (c i : Nat), ex c = true → usJ c i → ¬ (c = 0 ∧ i = 7) → me_u w1 (ad 0 7) (eN G 200 (va_up f k (some (b 0)))) (ad c i) = w (ad c i) := fun c i hc hu hne => (me_un (h.ne hc h0 hu ⟨by omega, by omega⟩ hne)).trans (x1 c i hc hu)
  have y0 : ∀ j, j < 9 → me_u w1 (ad 0 7) (eN G 200 (va_up f k (some (b 0)))) (b j) = w1 (b j) := fun j hj => me_un (Ne.symm (bne 0 7 j h0 ⟨by omega, by omega⟩ hj))
  have k0 : (0 : Nat) ≠ k + 1 := by omega
  have exk : ∀ a, a ≠ k + 1 → (if a = k + 1 then true else ex a) = true → ex a = true := fun a ha q => by rw [if_neg ha] at q; exact q
  refine ⟨?_, ⟨va_up f k (some (b 0)), ?_, fun c hc => ?_⟩, fun c hc => ?_, fun c i hc hi => ?_, ?_, fun a j c i ha hc hu hv e => ?_, fun a j ha hu => ?_⟩
  · simp only [if_neg k0]; exact (x0 0 0 h0 ⟨by omega, by omega⟩ (by omega)).trans h.1
  · simp only [if_neg k0]; exact me_us _ _ _
  · by_cases e : c = k
    · subst e; simp only [if_true]; simp [va_up]
    · have e1 : c + 1 ≠ k + 1 := by omega
      simp only [if_neg e1]; rw [← hfs c hc]; simp [va_up, e]
  · by_cases e : c = k
    · subst e; simp only [if_true]; exact (y0 0 (by omega)).trans hn.1
    · have e1 : c + 1 ≠ k + 1 := by omega
      have hc2 := exk (c + 1) e1 hc
      simp only [if_neg e1]; exact (x0 (c + 1) 0 hc2 ⟨by omega, by omega⟩ (by omega)).trans (h.2.2.1 c hc2)
  · obtain ⟨v1, v2, v3, v4⟩ := rowJ_us hi
    by_cases e : c = k + 1
    · subst e; simp only [if_true]; rw [capR_s]; exact (hn.2.1 i hi).of (y0 i (by have := v1.1; omega)) (y0 (i + 1) (by have := v2.1; omega))
    · have hc2 := exk c e hc
      simp only [if_neg e]; exact (h.2.2.2.1 c i hc2 hi).of (x0 c i hc2 v1 (by omega)) (x0 c (i + 1) hc2 v2 (by omega))
  · simp only [if_neg k0]; exact h0
  · by_cases ea : a = k + 1
    · by_cases ec : c = k + 1
      · subst ea; subst ec
        simp only [if_true] at e
        exact ⟨rfl, hn.2.2.1 j i hu.1 hv.1 e⟩
      · have hc2 := exk c ec hc
        subst ea
        simp only [if_true, if_neg ec] at e
        exact absurd e.symm (bne c i j hc2 hv hu.1)
    · have ha2 := exk a ea ha
      by_cases ec : c = k + 1
      · subst ec
        simp only [if_true, if_neg ea] at e
        exact absurd e (bne a j i ha2 hu hv.1)
      · simp only [if_neg ea, if_neg ec] at e
        exact h.2.2.2.2.2.1 a j c i ha2 (exk c ec hc) hu hv e
  · by_cases ea : a = k + 1
    · simp only [if_pos ea]; exact ⟨hn.2.2.2 j hu.1, hD j hu.1⟩
    · simp only [if_neg ea]; exact h.2.2.2.2.2.2 a j (exk a ea ha) hu
end FNN
theorem FrN.rw {G : me_G} {w w1 : Me} {p r b cap : Nat} {xs : List Int32} (h : FrN w w1 p) (hR : Rw G w r b cap xs) (hr : r ≠ p) (hb : b ≠ p) : Rw G w1 r b cap xs := by
  obtain ⟨e, he⟩ := hR.bsome
  exact hR.of (h r (by rw [hR.1]; simp) hr) (h b (by rw [he]; simp) hb)
theorem Rw.new {G : me_G} {w : Me} {r b cap : Nat} {f : Nat → Int32} (h1 : w r = some (eO 1 [.ref b, .int 0])) (h2 : w b = some (eI G cap f)) (hc : cap < 1000) (hn : r ≠ b) : Rw G w r b cap [] := ⟨h1, Nat.zero_le _, hc, hn, f, h2, fun i hi => absurd hi (Nat.not_lt_zero i)⟩
