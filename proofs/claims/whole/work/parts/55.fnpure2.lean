section FNP
variable {G : me_G} {B0 : Nat} {D : Nat → Prop} {w w1 : Me} {ad : Nat → Nat → Nat} {ex ex1 : Nat → Bool} {R R1 : Nat → Nat → List Int32} {N N1 : Nat → Nat → Int32} {cnt : Int32} {T : Tre} {Bn : Nat → List Int32}
theorem FN.putn (h : FN G B0 D w ad ex R N cnt) {k : Nat} (hk : ex (k + 1) = true) (i : Nat) (hi : i < 3) (x : Int32) : FN G B0 D (me_u w (ad (k + 1) 0) (eO 0 [.ref (ad (k + 1) 1), .ref (ad (k + 1) 3), .ref (ad (k + 1) 5), .ref (ad (k + 1) 7), .int (if i = 0 then x else N (k + 1) 0), .int (if i = 1 then x else N (k + 1) 1), .int (if i = 2 then x else N (k + 1) 2)])) ad ex R (updN N (k + 1) i x) cnt := by
  have e : ∀ j, updN N (k + 1) i x (k + 1) j = if i = j then x else N (k + 1) j := fun j => by
    by_cases q : i = j
    · subst q; rw [updN_s, if_pos rfl]
    · rw [updN_n (by omega), if_neg q]
  have := h.num hk (N1 := updN N (k + 1) i x) (fun b j hb => updN_n (by omega))
  rw [e, e, e] at this
  exact this
theorem CT.set (h : CT ex R N T Bn) {v : Nat} {on : Option Nod} {B : List Int32} (hv : v < 200) (ho : ∀ k, k ≠ v → ex1 (k + 1) = ex (k + 1) ∧ (∀ i, i < 3 → N1 (k + 1) i = N (k + 1) i) ∧ ∀ j, rowJ 1 j → R1 (k + 1) j = R (k + 1) j) (h0 : on = none → ex1 (v + 1) = true → N1 (v + 1) 0 = 0)
    (h1 : ∀ n, on = some n → ex1 (v + 1) = true ∧ N1 (v + 1) 0 = 1 ∧ N1 (v + 1) 1 = n.1 ∧ N1 (v + 1) 2 = n.2.1 ∧ R1 (v + 1) 1 = n.2.2.1 ∧ R1 (v + 1) 3 = n.2.2.2.1 ∧ R1 (v + 1) 5 = n.2.2.2.2 ∧ R1 (v + 1) 7 = B) : CT ex1 R1 N1 (setT T v on) (fun k => if k = v then B else Bn k) := by
  refine ⟨fun k hk hn hx => ?_, fun k n hn => ?_⟩
  · by_cases e : k = v
    · subst e; rw [setT_s] at hn; exact h0 hn hx
    · rw [setT_n e] at hn
      obtain ⟨o1, o2, o3⟩ := ho k e
      rw [o2 0 (by omega)]; exact h.1 k hk hn (o1 ▸ hx)
  · by_cases e : k = v
    · subst e; rw [setT_s] at hn
      simp only [if_true]; exact ⟨hv, h1 n hn⟩
    · rw [setT_n e] at hn
      obtain ⟨o1, o2, o3⟩ := ho k e
      simp only [if_neg e]
      rw [o1, o2 0 (by omega), o2 1 (by omega), o2 2 (by omega), o3 1 (Or.inl rfl), o3 3 (Or.inr (Or.inl rfl)), o3 5 (Or.inr (Or.inr (Or.inl rfl))), o3 7 (Or.inr (Or.inr (Or.inr rfl)))]
      exact h.2 k n hn
/-- as CT.set, the tree's change told otherwise -/
theorem CT.op (h : CT ex R N T Bn) {v : Nat} {n n1 : Nod} {B : List Int32} {f : Nod → Nod} (hT : T v = some n) (hf : f n = n1) (ho : ∀ k, k ≠ v → ex1 (k + 1) = ex (k + 1) ∧ (∀ i, i < 3 → N1 (k + 1) i = N (k + 1) i) ∧ ∀ j, rowJ 1 j → R1 (k + 1) j = R (k + 1) j)
    (h1 : ex1 (v + 1) = true ∧ N1 (v + 1) 0 = 1 ∧ N1 (v + 1) 1 = n1.1 ∧ N1 (v + 1) 2 = n1.2.1 ∧ R1 (v + 1) 1 = n1.2.2.1 ∧ R1 (v + 1) 3 = n1.2.2.2.1 ∧ R1 (v + 1) 5 = n1.2.2.2.2 ∧ R1 (v + 1) 7 = B) : CT ex1 R1 N1 (opT T v f) (fun k => if k = v then B else Bn k) := by
  rw [opT_e hT, hf]
  exact h.set (h.2 v n hT).1 ho (fun q => by cases q) (fun m q => by cases q; exact h1)
end FNP
def upB (Bn : Nat → List Int32) (p : Nat) (B : List Int32) : Nat → List Int32 := fun k => if k = p then B else Bn k
theorem upB_s {Bn : Nat → List Int32} {p : Nat} {B : List Int32} : upB Bn p B p = B := if_pos rfl
theorem upB_n {Bn : Nat → List Int32} {p k : Nat} {B : List Int32} (h : k ≠ p) : upB Bn p B k = Bn k := if_neg h
theorem rIns_lt {cap : Nat} {xs : List Int32} {x : Int32} (h : xs.length < cap) : rIns cap xs xs.length x = xs ++ [x] := by
  unfold rIns; rw [if_neg (by omega), List.take_length, List.drop_length]
/-- node k holds Rr, Nn now -/
theorem ND.end {G : me_G} {B0 : Nat} {D : Nat → Prop} {w w1 : Me} {ad : Nat → Nat → Nat} {ex : Nat → Bool} {R : Nat → Nat → List Int32} {N : Nat → Nat → Int32} {cnt : Int32} (h : FN G B0 D w ad ex R N cnt) {k : Nat} (hk : ex (k + 1) = true) {Rr : Nat → List Int32} {Nn : Nat → Int32} (hn : ND G B0 w1 (ad (k + 1)) Rr Nn) (hf : FrB w w1 (ad (k + 1))) :
    ∃ (R1 : Nat → Nat → List Int32) (N1 : Nat → Nat → Int32), FN G B0 D w1 ad ex R1 N1 cnt ∧ (∀ b i, b ≠ k + 1 → R1 b i = R b i) ∧ (∀ b i, b ≠ k + 1 → N1 b i = N b i) ∧ (∀ i, R1 (k + 1) i = Rr i) ∧ ∀ i, N1 (k + 1) i = Nn i :=
  ⟨_, _, h.node hk hn hf, fun b i hb => if_neg hb, fun b i hb => if_neg hb, fun i => if_pos rfl, fun i => if_pos rfl⟩
