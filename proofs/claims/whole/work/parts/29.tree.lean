/-! THE TREE, as a meaning: a node is a directory (1) or a leaf (0), its parent, its name, that folded, its entries -/
abbrev Nod : Type := Int32 × Int32 × List Int32 × List Int32 × List Int32
abbrev Tre : Type := Nat → Option Nod
def NodF (F : Nat → Nat → Int32) (v : Nat) (n : Nod) : Prop :=
  F 2 v = 1 ∧ F 3 v = n.1 ∧ F 4 v = n.2.1 ∧ (F 6 v = nI n.2.2.1.length ∧ n.2.2.1.length ≤ 60 ∧ ∀ i, i < n.2.2.1.length → F 5 (60 * v + i) = n.2.2.1.getD i 0) ∧ (F 8 v = nI n.2.2.2.1.length ∧ n.2.2.2.1.length ≤ 60 ∧ ∀ i, i < n.2.2.2.1.length → F 7 (60 * v + i) = n.2.2.2.1.getD i 0) ∧ (F 10 v = nI n.2.2.2.2.length ∧ n.2.2.2.2.length ≤ 40 ∧ ∀ i, i < n.2.2.2.2.length → F 9 (40 * v + i) = n.2.2.2.2.getD i 0)
/-- the reference's arrays hold the tree -/
def RT (F : Nat → Nat → Int32) (T : Tre) : Prop := (∀ v, v < 200 → T v = none → F 2 v = 0) ∧ ∀ v n, T v = some n → v < 200 ∧ NodF F v n
theorem RT.of {F F' : Nat → Nat → Int32} {T : Tre} (h : RT F T) (e : ∀ k, k ∈ [2, 3, 4, 5, 6, 7, 8, 9, 10] → F' k = F k) : RT F' T := by
  refine ⟨fun v hv hn => by rw [e 2 (by decide)]; exact h.1 v hv hn, fun v n hn => ⟨(h.2 v n hn).1, ?_⟩⟩
  obtain ⟨a1, a2, a3, a4, a5, a6⟩ := (h.2 v n hn).2
  unfold NodF
  rw [e 2 (by decide), e 3 (by decide), e 4 (by decide), e 5 (by decide), e 6 (by decide), e 7 (by decide), e 8 (by decide), e 9 (by decide), e 10 (by decide)]
  exact ⟨a1, a2, a3, a4, a5, a6⟩
/-- the node of a number -/
def at32 (T : Tre) (v : Int32) : Option Nod := if v < 0 then none else if 200 ≤ v then none else T v.toNatClampNeg
theorem at32_n {T : Tre} {k : Nat} (h : k < 200) : at32 T (nI k) = T k := by
  unfold at32
  rw [if_neg (nI_pos (by omega)), if_neg (show ¬ (200 : Int32) ≤ nI k from nI_ge (a := k) (b := 200) (by omega) (by omega)), nI_clamp (by omega)]
theorem at32_s {T : Tre} {v : Int32} {n : Nod} (h : at32 T v = some n) : ∃ k : Nat, k < 200 ∧ v = nI k ∧ T k = some n := by
  unfold at32 at h
  by_cases h1 : v < 0
  · rw [if_pos h1] at h; cases h
  · rw [if_neg h1] at h
    by_cases h2 : 200 ≤ v
    · rw [if_pos h2] at h; cases h
    · rw [if_neg h2] at h
      obtain ⟨a1, a2⟩ := nI_lt_of (n := 200) (by omega) h1 (Int32.not_le.mp h2)
      exact ⟨_, a1, a2, h⟩
/-- noNode, noDirectory -/
def noN (T : Tre) (v : Int32) : Int32 := match at32 T v with
  | none => 1
  | some _ => 0
def noD (T : Tre) (v : Int32) : Int32 := match at32 T v with
  | none => 1
  | some n => if n.1 = 0 then 1 else 0
theorem noN_neg {T : Tre} {v : Int32} (h : v < 0) : noN T v = 1 := by unfold noN at32; rw [if_pos h]
theorem noN_big {T : Tre} {v : Int32} (h1 : ¬ v < 0) (h : 200 ≤ v) : noN T v = 1 := by unfold noN at32; rw [if_neg h1, if_pos h]
theorem noN_0 {F : Nat → Nat → Int32} {T : Tre} {k : Nat} (hR : RT F T) (hk : k < 200) (h : F 2 k = 0) : noN T (nI k) = 1 := by
  unfold noN
  rw [at32_n hk]
  cases hT : T k with
  | none => rfl
  | some n => exact absurd ((hR.2 k n hT).2.1.symm.trans h) (by decide)
theorem noN_1 {F : Nat → Nat → Int32} {T : Tre} {k : Nat} (hR : RT F T) (hk : k < 200) (h : ¬ F 2 k = 0) : noN T (nI k) = 0 := by
  unfold noN
  rw [at32_n hk]
  cases hT : T k with
  | none => exact absurd (hR.1 k hk hT) h
  | some n => rfl
theorem noD_1 {T : Tre} {v : Int32} (h : noN T v = 1) : noD T v = 1 := by
  unfold noN at h; unfold noD
  cases hT : at32 T v with
  | none => rfl
  | some n => rw [hT] at h; exact absurd (show (0 : Int32) = 1 from h) (by decide)
theorem noN_s {T : Tre} {v : Int32} (h : ¬ noN T v = 1) : ∃ (k : Nat) (n : Nod), k < 200 ∧ v = nI k ∧ T k = some n := by
  unfold noN at h
  cases hT : at32 T v with
  | none => rw [hT] at h; exact absurd rfl h
  | some n => obtain ⟨k, a, b, c⟩ := at32_s hT; exact ⟨k, n, a, b, c⟩
theorem noN_r {T : Tre} (v : Int32) : noN T v = 1 ∨ noN T v = 0 := by
  unfold noN
  cases at32 T v with
  | none => exact Or.inl rfl
  | some n => exact Or.inr rfl
theorem noD_n {T : Tre} {k : Nat} {n : Nod} (hk : k < 200) (h : T k = some n) : noD T (nI k) = if n.1 = 0 then 1 else 0 := by
  unfold noD; rw [at32_n hk, h]
/-- the least free number -/
def frF (T : Tre) : Nat → Nat → Int32
  | 0, _ => -1
  | n + 1, v => match T v with
    | none => nI v
    | some _ => frF T n (v + 1)
theorem frF_n {T : Tre} {n v : Nat} (h : T v = none) : frF T (n + 1) v = nI v := by unfold frF; rw [h]
theorem frF_s {T : Tre} {n v : Nat} {x : Nod} (h : T v = some x) : frF T (n + 1) v = frF T n (v + 1) := by rw [frF, h]
/-- the folded name of a node's number -/
def folOf (T : Tre) (e : Int32) : List Int32 := match T e.toNatClampNeg with
  | none => []
  | some n => n.2.2.2.1
theorem folOf_n {T : Tre} {j : Nat} {n : Nod} (hj : j < 2 ^ 31) (h : T j = some n) : folOf T (nI j) = n.2.2.2.1 := by unfold folOf; rw [nI_clamp hj, h]
/-- the entry whose folded name is X, but one -/
def elk (T : Tre) (X : List Int32) (bt : Int32) : List Int32 → Int32
  | [] => -1
  | e :: es => if ¬ e = bt ∧ folOf T e = X then e else elk T X bt es
theorem list_ext {xs ys : List Int32} (hl : xs.length = ys.length) (h : ∀ i, i < xs.length → xs.getD i 0 = ys.getD i 0) : xs = ys := by
  apply List.ext_getElem hl
  intro i h1 h2
  have := h i h1
  rw [List.getD_eq_getElem?_getD, List.getD_eq_getElem?_getD, List.getElem?_eq_getElem h1, List.getElem?_eq_getElem h2] at this
  exact this
