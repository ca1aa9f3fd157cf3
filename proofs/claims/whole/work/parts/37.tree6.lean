theorem RT.sm {F F' : Nat → Nat → Int32} {T : Tre} {ks : List Nat} (h : RT F T) (hs : SameF F F' ks) (hd : ∀ k ∈ [2, 3, 4, 5, 6, 7, 8, 9, 10], k ∉ ks) : RT F' T := h.of (fun k hk => hs k (hd k hk))
/-- every entry is a node that is there -/
def EntOK (T : Tre) : Prop := ∀ v n, T v = some n → ∀ i, i < n.2.2.2.2.length → ∃ (j : Nat) (m : Nod), j < 200 ∧ n.2.2.2.2.getD i 0 = nI j ∧ T j = some m
theorem dF_s {T : Tre} {u p n : Nat} {x : Nod} (h0 : u ≠ 0) (hT : T u = some x) (hp : x.2.1 = nI p) (h2 : p < 200) : dF T (n + 1) u = dF T n p + 1 := by
  rw [dF, if_neg h0, parN_s hT hp h2]
theorem dF_0 {T : Tre} {n : Nat} : dF T n 0 = 0 := by cases n <;> rfl
theorem dF_le (T : Tre) : ∀ n u, dF T n u ≤ n
  | 0, _ => Nat.le_refl 0
  | n + 1, u => by
    unfold dF
    split
    · omega
    · have := dF_le T n (parN T u); omega
/-- octet i of a long, as the reference takes it -/
def octR (oc : Int64) (i : Nat) : Int32 := ((oc >>> ((nI (8 * i)).toInt64 &&& 63)) &&& 255).toInt32
def octsR (oc : Int64) (m : Nat) : List Int32 := (List.range m).map (octR oc)
theorem octsR_len (oc : Int64) (m : Nat) : (octsR oc m).length = m := by simp [octsR]
theorem octsR_get {oc : Int64} {m i : Nat} (h : i < m) : (octsR oc m).getD i 0 = octR oc i := by
  simp [octsR, List.getD_eq_getElem?_getD, h]
theorem Ls.app {F F' : Nat → Nat → Int32} {z z' : Nat → Int32} {ka kz cap : Nat} {xs ys : List Int32} (h : Ls F z ka kz cap xs) (hlo : ∀ q, q < xs.length → F' ka q = F ka q) (hhi : ∀ i, i < ys.length → F' ka (xs.length + i) = ys.getD i 0) (hz : z' kz = nI (xs.length + ys.length)) (hc : xs.length + ys.length ≤ cap) : Ls F' z' ka kz cap (xs ++ ys) := by
  refine ⟨by rw [hz, List.length_append], by rw [List.length_append]; exact hc, fun i hi => ?_⟩
  rw [List.length_append] at hi
  by_cases e : i < xs.length
  · rw [getD_l e, hlo i e]; exact h.2.2 i e
  · have e2 : i = xs.length + (i - xs.length) := by omega
    rw [e2, hhi (i - xs.length) (by omega), List.getD_eq_getElem?_getD, List.getD_eq_getElem?_getD, List.getElem?_append_right (by omega)]
    congr 2; omega
theorem g5 (k : Nat) (h : k ≤ 5) : ¬ nI k < 0 ∧ ¬ 5 < nI k := ⟨nI_pos (by omega), nI_nlt (a := 5) (b := k) (by omega) (by omega)⟩
