/-- parent's number -/
def parN (T : Tre) (u : Nat) : Nat := match T u with
  | none => 0
  | some n => n.2.1.toNatClampNeg
/-- the way up from u comes through v -/
def wF (T : Tre) (v : Nat) : Nat → Nat → Int32
  | 0, _ => 0
  | n + 1, u => if u = v then 1 else if u = 0 then 0 else wF T v n (parN T u)
/-- the tree has no ring: a number that falls from a node to its parent -/
def NoRing (T : Tre) (dp : Nat → Nat) : Prop := ∀ u n, T u = some n → u ≠ 0 → ∃ (p : Nat) (m : Nod), p < 200 ∧ n.2.1 = nI p ∧ T p = some m ∧ dp p < dp u
theorem parN_s {T : Tre} {u p : Nat} {n : Nod} (h : T u = some n) (hp : n.2.1 = nI p) (h2 : p < 200) : parN T u = p := by
  unfold parN; rw [h]; show n.2.1.toNatClampNeg = p; rw [hp, nI_clamp (by omega)]
theorem wF_more {T : Tre} {dp : Nat → Nat} (hd : NoRing T dp) (v : Nat) : ∀ (n m u : Nat), (∃ x, T u = some x) → dp u < n → n ≤ m → wF T v n u = wF T v m u
  | 0, _, _, _, h, _ => by omega
  | n + 1, 0, _, _, _, h => by omega
  | n + 1, m + 1, u, ⟨x, hx⟩, h1, h2 => by
    unfold wF
    by_cases h : u = v
    · rw [if_pos h, if_pos h]
    · rw [if_neg h, if_neg h]
      by_cases h0 : u = 0
      · rw [if_pos h0, if_pos h0]
      · rw [if_neg h0, if_neg h0]
        obtain ⟨p, y, p1, p2, p3, p4⟩ := hd u x hx h0
        rw [parN_s hx p2 p1]
        exact wF_more hd v n m p ⟨y, p3⟩ (by omega) (by omega)
/-- the lesser first, the shorter first, if it begins the other -/
def ltL (xs ys : List Int32) : Int32 := if cmpL xs ys < 0 then 1 else 0
theorem icmp_lt {x y : Int32} : icmp x y < 0 ↔ x < y := by
  unfold icmp
  by_cases h : x < y
  · rw [if_pos h]; exact ⟨fun _ => h, fun _ => by decide⟩
  · rw [if_neg h]
    by_cases h2 : x = y
    · rw [if_pos h2]; exact ⟨fun q => absurd q (by decide), fun q => absurd q h⟩
    · rw [if_neg h2]; exact ⟨fun q => absurd q (by decide), fun q => absurd q h⟩
