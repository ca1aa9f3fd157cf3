/-! NEW THINGS: what was there is as it was, but for the object that is made -/
def FrN (w w1 : Me) (r : Nat) : Prop := ∀ q, w q ≠ none → q ≠ r → w1 q = w q
theorem FrN.rf {w : Me} {r : Nat} : FrN w w r := fun _ _ _ => rfl
theorem FrN.wr {w w1 : Me} {r : Nat} {e : va_E} (h : FrN w w1 r) : FrN w (me_u w1 r e) r := fun q h1 h2 => (me_un h2).trans (h q h1 h2)
theorem FrN.wp {w w1 : Me} {r p : Nat} {e : va_E} (h : FrN w w1 r) (hp : w p = none) : FrN w (me_u w1 p e) r := fun q h1 h2 => (me_un (fun x => h1 (by rw [x]; exact hp))).trans (h q h1 h2)
theorem FrN.no0 {w w1 : Me} {r p : Nat} {e : va_E} (h : FrN w w1 r) (hq : w1 p = none) (hr : w1 r = some e) : w p = none := by
  cases hp : w p with
  | none => rfl
  | some x =>
    have hne : p ≠ r := fun y => by rw [y, hr] at hq; cases hq
    have := h p (by rw [hp]; simp) hne
    rw [hq, hp] at this; cases this
theorem FrN.tr {w w1 w2 : Me} {r p : Nat} (h : FrN w w1 r) (hp : w p = none) (h2 : FrN w1 w2 p) : FrN w w2 r := fun q h3 h4 => by
  have e := h q h3 h4
  rw [h2 q (by rw [e]; exact h3) (fun x => h3 (by rw [x]; exact hp))]; exact e
theorem FrN.at {w w1 : Me} {r q : Nat} {e : va_E} (h : FrN w w1 r) (hq : w q = some e) (hn : q ≠ r) : w1 q = some e := (h q (by rw [hq]; simp) hn).trans hq
theorem Rw.bsome {G : me_G} {w : Me} {r b cap : Nat} {xs : List Int32} (h : Rw G w r b cap xs) : ∃ e, w b = some e := by
  obtain ⟨-, -, -, -, f, hf, -⟩ := h; exact ⟨_, hf⟩
theorem Rw.bne {G : me_G} {w : Me} {r b cap q : Nat} {xs : List Int32} (h : Rw G w r b cap xs) (hq : w q = none) : b ≠ q := by
  obtain ⟨e, he⟩ := h.bsome; exact me_ne hq he
/-- place of a field in the list of arrays -/
def ixA : Nat → Nat
  | 0 => 0
  | 2 => 1
  | 3 => 2
  | 4 => 3
  | 5 => 4
  | 6 => 5
  | 7 => 6
  | 8 => 7
  | 9 => 8
  | 10 => 9
  | 11 => 10
  | 14 => 11
  | 16 => 12
  | 18 => 13
  | _ => 14
theorem ixA_inj : ∀ i ∈ mdA, ∀ j ∈ mdA, ixA i = ixA j → i = j := by decide
theorem ixA_lt : ∀ i ∈ mdA, ixA i < 15 := by decide
theorem nodup_getD {L : List Nat} (h : L.Nodup) {i j : Nat} (hi : i < L.length) (hj : j < L.length) (e : L.getD i 0 = L.getD j 0) : i = j := by
  rw [List.getD_eq_getElem?_getD, List.getD_eq_getElem?_getD, List.getElem?_eq_getElem hi, List.getElem?_eq_getElem hj] at e
  exact (List.getElem_inj h).mp e
theorem md_inj {L : List Nat} (h : L.Nodup) (hl : L.length = 15) : ∀ i ∈ mdA, ∀ j ∈ mdA, L.getD (ixA i) 0 = L.getD (ixA j) 0 → i = j := fun i hi j hj e =>
  ixA_inj i hi j hj (nodup_getD h (by have := ixA_lt i hi; omega) (by have := ixA_lt j hj; omega) e)
theorem mem_getD {L : List Nat} {i : Nat} (hi : i < L.length) : L.getD i 0 ∈ L := by
  rw [List.getD_eq_getElem?_getD, List.getElem?_eq_getElem hi]; exact List.getElem_mem hi
/-- the arrays of a new reference -/
def F0M : Nat → Nat → Int32
  | 2 => upd (fun _ => 0) 0 1
  | 3 => upd (fun _ => 0) 0 1
  | 4 => upd (fun _ => 0) 0 (-1)
  | _ => fun _ => 0
/-- the tree of a new object: the root alone -/
def T0 : Tre := fun v => if v = 0 then some (1, -1, [], [], []) else none
theorem RT0 : RT F0M T0 := by
  refine ⟨fun v hv hn => ?_, fun v n hn => ?_⟩
  · unfold T0 at hn
    by_cases h : v = 0
    · rw [if_pos h] at hn; cases hn
    · show upd (fun _ => 0) 0 1 v = 0; rw [upd_ne h]
  · unfold T0 at hn
    by_cases h : v = 0
    · rw [if_pos h] at hn; cases hn
      subst h
      exact ⟨by omega, by decide, by decide, by decide, ⟨rfl, Nat.zero_le _, fun i hi => absurd hi (Nat.not_lt_zero i)⟩, ⟨rfl, Nat.zero_le _, fun i hi => absurd hi (Nat.not_lt_zero i)⟩, rfl, Nat.zero_le _, fun i hi => absurd hi (Nat.not_lt_zero i)⟩
    · rw [if_neg h] at hn; cases hn
theorem TI0 : TI T0 := by
  have h0 : ∀ v n, T0 v = some n → v = 0 ∧ n = (1, -1, [], [], []) := fun v n hn => by
    unfold T0 at hn
    by_cases h : v = 0
    · rw [if_pos h] at hn; cases hn; exact ⟨h, rfl⟩
    · rw [if_neg h] at hn; cases hn
  refine ⟨⟨(1, -1, [], [], []), rfl, rfl, rfl, rfl, rfl⟩, fun v n hn => ?_, fun v n hn hv => absurd (h0 v n hn).1 hv, ⟨fun _ => 0, fun u n hn hu => absurd (h0 u n hn).1 hu⟩⟩
  obtain ⟨rfl, rfl⟩ := h0 v n hn
  exact ⟨by omega, Nat.zero_le _, List.nodup_nil, (fun e he => absurd he List.not_mem_nil), (fun e he => absurd he List.not_mem_nil)⟩
