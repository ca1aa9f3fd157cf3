def sEntry (T : Tre) (d k : Int32) : Int32 := match at32 T d with
  | none => -5
  | some n => if n.1 = 0 then -5 else ra n.2.2.2.2 k
def sLetter (T : Tre) (v which k : Int32) : Int32 := match at32 T v with
  | none => -5
  | some n => if which = 0 then ra n.2.2.1 k else ra n.2.2.2.1 k
/-- how deep, with so much breath -/
def dF (T : Tre) : Nat → Nat → Nat
  | 0, _ => 0
  | n + 1, u => if u = 0 then 0 else dF T n (parN T u) + 1
def sAbout (T : Tre) (fuel : Nat) (v what : Int32) : Int32 := match at32 T v with
  | none => -5
  | some n => if what = 0 then (if n.1 = 0 then 0 else 1) else if what = 1 then n.2.1 else if what = 2 then nI n.2.2.2.2.length else if what = 3 then nI n.2.2.1.length else if what = 4 then nI n.2.2.2.1.length else nI (dF T fuel v.toNatClampNeg)
theorem sEntry_no {T : Tre} {d k : Int32} (h : noD T d = 1) : sEntry T d k = -5 := by
  unfold noD at h; unfold sEntry
  cases hT : at32 T d with
  | none => rfl
  | some n =>
    rw [hT] at h
    by_cases h1 : n.1 = 0
    · show (if n.1 = 0 then (-5 : Int32) else _) = _; rw [if_pos h1]
    · exfalso
      have h : (if n.1 = 0 then (1 : Int32) else 0) = 1 := h
      rw [if_neg h1] at h; exact absurd h (by decide)
theorem noD_r {T : Tre} (v : Int32) : noD T v = 1 ∨ noD T v = 0 := by
  unfold noD
  cases at32 T v with
  | none => exact Or.inl rfl
  | some n => show (if n.1 = 0 then (1 : Int32) else 0) = 1 ∨ (if n.1 = 0 then (1 : Int32) else 0) = 0; split; exact Or.inl rfl; exact Or.inr rfl
theorem noD_s {T : Tre} {v : Int32} (h : ¬ noD T v = 1) : ∃ (k : Nat) (n : Nod), k < 200 ∧ v = nI k ∧ T k = some n ∧ ¬ n.1 = 0 := by
  unfold noD at h
  cases hT : at32 T v with
  | none => rw [hT] at h; exact absurd rfl h
  | some n =>
    rw [hT] at h
    have h : ¬ (if n.1 = 0 then (1 : Int32) else 0) = 1 := h
    obtain ⟨k, a, b, c⟩ := at32_s hT
    by_cases h1 : n.1 = 0
    · rw [if_pos h1] at h; exact absurd rfl h
    · exact ⟨k, n, a, b, c, h1⟩
theorem sEntry_n {T : Tre} {j : Nat} {n : Nod} {k : Int32} (hj : j < 200) (h : T j = some n) (h1 : ¬ n.1 = 0) : sEntry T (nI j) k = ra n.2.2.2.2 k := by
  unfold sEntry; rw [at32_n hj, h]; show (if n.1 = 0 then (-5 : Int32) else _) = _; rw [if_neg h1]
theorem sLetter_no {T : Tre} {v which k : Int32} (h : noN T v = 1) : sLetter T v which k = -5 := by
  unfold noN at h; unfold sLetter
  cases hT : at32 T v with
  | none => rfl
  | some n => rw [hT] at h; exact absurd (show (0 : Int32) = 1 from h) (by decide)
theorem sLetter_n {T : Tre} {j : Nat} {n : Nod} {which k : Int32} (hj : j < 200) (h : T j = some n) : sLetter T (nI j) which k = if which = 0 then ra n.2.2.1 k else ra n.2.2.2.1 k := by
  unfold sLetter; rw [at32_n hj, h]
theorem sAbout_no {T : Tre} {f : Nat} {v what : Int32} (h : noN T v = 1) : sAbout T f v what = -5 := by
  unfold noN at h; unfold sAbout
  cases hT : at32 T v with
  | none => rfl
  | some n => rw [hT] at h; exact absurd (show (0 : Int32) = 1 from h) (by decide)
theorem sAbout_n {T : Tre} {f : Nat} {j : Nat} {n : Nod} {what : Int32} (hj : j < 200) (h : T j = some n) : sAbout T f (nI j) what = if what = 0 then (if n.1 = 0 then 0 else 1) else if what = 1 then n.2.1 else if what = 2 then nI n.2.2.2.2.length else if what = 3 then nI n.2.2.1.length else if what = 4 then nI n.2.2.2.1.length else nI (dF T f j) := by
  unfold sAbout; rw [at32_n hj, h, nI_clamp (by omega)]
/-- how many nodes -/
def cntF (T : Tre) : Nat → Nat
  | 0 => 0
  | n + 1 => cntF T n + (if (T n).isSome then 1 else 0)
theorem cntF_le (T : Tre) : ∀ n, cntF T n ≤ n
  | 0 => Nat.le_refl 0
  | n + 1 => by unfold cntF; have := cntF_le T n; split <;> omega
theorem n05 {x : Int32} (h1 : ¬ x < 0) (h2 : x ≤ 5) : ∃ k : Nat, k ≤ 5 ∧ x = nI k := nI_of2 (M := 5) (n := 5) (by decide) h1 h2
theorem n01 {x : Int32} (h1 : ¬ x < 0) (h2 : x ≤ 1) : ∃ k : Nat, k ≤ 1 ∧ x = nI k := nI_of2 (M := 1) (n := 1) (by decide) h1 h2
theorem n18 {x : Int32} (h1 : ¬ x < 1) (h2 : ¬ 8 < x) : ∃ k : Nat, 1 ≤ k ∧ k ≤ 8 ∧ x = nI k := by
  have e1 : (1 : Int32).toInt = 1 := by decide
  have e0 : (0 : Int32).toInt = 0 := by decide
  have h0 : ¬ x < 0 := fun q => h1 (Int32.lt_iff_toInt_lt.mpr (by have := Int32.lt_iff_toInt_lt.mp q; omega))
  obtain ⟨k, hk, rfl⟩ := nI_of2 (M := 8) (n := 8) (by decide) h0 (Int32.not_lt.mp h2)
  exact ⟨k, Nat.not_lt.mp (fun q => h1 (nI_lt (b := 1) q (by omega))), hk, rfl⟩
