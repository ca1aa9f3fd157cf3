theorem mem_idx : ∀ {E : List Int32} {x : Int32}, x ∈ E → ∃ t, t < E.length ∧ E.getD t 0 = x ∧ ∀ q, q < t → ¬ E.getD q 0 = x
  | [], _, h => by cases h
  | e :: es, x, h => by
    by_cases he : e = x
    · exact ⟨0, by simp, by simpa using he, fun q hq => by omega⟩
    · have h2 : x ∈ es := by
        rcases List.mem_cons.mp h with q | q
        · exact absurd q.symm he
        · exact q
      obtain ⟨t, t1, t2, t3⟩ := mem_idx h2
      refine ⟨t + 1, by simp; omega, by simpa using t2, fun q hq => ?_⟩
      cases q with
      | zero => simpa using he
      | succ q => have := t3 q (by omega); simpa using this
/-- how many nodes have a lesser number -/
def cntLt (T : Tre) (dp : Nat → Nat) (x : Nat) : Nat → Nat
  | 0 => 0
  | n + 1 => cntLt T dp x n + (if (T n).isSome ∧ dp n < x then 1 else 0)
theorem cntLt_le {T : Tre} {dp : Nat → Nat} {x y : Nat} (h : x ≤ y) : ∀ n, cntLt T dp x n ≤ cntLt T dp y n
  | 0 => Nat.le_refl _
  | n + 1 => by
    have := cntLt_le (T := T) (dp := dp) h n
    unfold cntLt
    by_cases h1 : (T n).isSome ∧ dp n < x
    · rw [if_pos h1, if_pos ⟨h1.1, by omega⟩]; omega
    · rw [if_neg h1]; omega
theorem cntLt_lt {T : Tre} {dp : Nat → Nat} {p y : Nat} (hp : (T p).isSome) (h : dp p < y) : ∀ n, p < n → cntLt T dp (dp p) n < cntLt T dp y n
  | 0, hn => by omega
  | n + 1, hn => by
    unfold cntLt
    by_cases e : n = p
    · subst e
      have := cntLt_le (T := T) (dp := dp) (Nat.le_of_lt h) n
      rw [if_neg (by omega), if_pos ⟨hp, h⟩]; omega
    · have := cntLt_lt hp h n (by omega)
      by_cases h1 : (T n).isSome ∧ dp n < dp p
      · rw [if_pos h1, if_pos ⟨h1.1, by omega⟩]; omega
      · rw [if_neg h1]; omega
theorem cntLt_n {T : Tre} {dp : Nat → Nat} {x : Nat} : ∀ n, cntLt T dp x n ≤ n
  | 0 => Nat.le_refl _
  | n + 1 => by unfold cntLt; have := cntLt_n (T := T) (dp := dp) (x := x) n; split <;> omega
theorem cntLt_b {T : Tre} {dp : Nat → Nat} {u : Nat} : ∀ n, u < n → cntLt T dp (dp u) n < n
  | 0, h => by omega
  | n + 1, h => by
    unfold cntLt
    by_cases e : n = u
    · subst e; rw [if_neg (by omega)]; have := cntLt_n (T := T) (dp := dp) (x := dp n) n; omega
    · have := cntLt_b (T := T) (dp := dp) (u := u) n (by omega); split <;> omega
theorem NoRing.small {T : Tre} {dp : Nat → Nat} (h : NoRing T dp) (hl : ∀ v n, T v = some n → v < 200) : ∃ dp2 : Nat → Nat, NoRing T dp2 ∧ ∀ u, dp2 u < 200 := by
  refine ⟨fun u => if (T u).isSome then cntLt T dp (dp u) 200 else 0, fun u n hn hu => ?_, fun u => ?_⟩
  · obtain ⟨p, m, p1, p2, p3, p4⟩ := h u n hn hu
    refine ⟨p, m, p1, p2, p3, ?_⟩
    show (if (T p).isSome then _ else _) < (if (T u).isSome then _ else _)
    rw [if_pos (by rw [p3]; rfl), if_pos (by rw [hn]; rfl)]
    exact cntLt_lt (by rw [p3]; rfl) p4 200 p1
  · show (if (T u).isSome then _ else _) < 200
    cases hT : T u with
    | none => rw [if_neg (by simp)]; omega
    | some n => rw [if_pos (by rfl)]; exact cntLt_b 200 (hl u n hT)
theorem TI.dp {T : Tre} (h : TI T) : ∃ dp : Nat → Nat, NoRing T dp ∧ ∀ u, dp u < 200 := by
  obtain ⟨dp, hd⟩ := h.2.2.2
  exact hd.small (fun v n hn => (h.2.1 v n hn).1)
theorem sPutT_f {T : Tre} {tp : List Int32} {d dr c : Int32} (h : sPutR T tp d = c) (hc : c < 0) : sPutT T tp d dr = T := by unfold sPutT; rw [h, if_pos hc]
theorem sRemT_f {T : Tre} {v c : Int32} (h : sRemR T v = c) (hc : c < 0) : sRemT T v = T := by unfold sRemT; rw [h, if_pos hc]
theorem sMovT_f {T : Tre} {tp : List Int32} {v d c : Int32} (h : sMovR T tp v d = c) (hc : c < 0) : sMovT T tp v d = T := by unfold sMovT; rw [h, if_pos hc]
theorem sPutT_s {T : Tre} {tp : List Int32} {k v : Nat} {dr : Int32} (h : sPutR T tp (nI k) = nI v) (hk : k < 200) (hv : v < 200) : sPutT T tp (nI k) dr = putT T v k dr tp := by
  unfold sPutT; rw [h, if_neg (nI_pos (by omega)), nI_clamp (by omega), nI_clamp (by omega)]
theorem sRemT_s {T : Tre} {k p : Nat} (h : sRemR T (nI k) = nI p) (hk : k < 200) (hp : p < 200) : sRemT T (nI k) = remT T k := by
  unfold sRemT; rw [h, if_neg (nI_pos (by omega)), nI_clamp (by omega)]
theorem sMovT_s {T : Tre} {tp : List Int32} {k d p : Nat} (h : sMovR T tp (nI k) (nI d) = nI p) (hk : k < 200) (hd : d < 200) (hp : p < 200) : sMovT T tp (nI k) (nI d) = movT T k d (mvN T tp (nI k)) := by
  unfold sMovT; rw [h, if_neg (nI_pos (by omega)), nI_clamp (by omega), nI_clamp (by omega)]
theorem nI_n0 {k : Nat} (hk : k < 200) (h : ¬ nI k = 0) : k ≠ 0 := fun e => h (by rw [e]; rfl)
theorem wF_r (T : Tre) (v : Nat) : ∀ (n u : Nat), wF T v n u = 0 ∨ wF T v n u = 1
  | 0, _ => Or.inl rfl
  | n + 1, u => by
    unfold wF
    split
    · exact Or.inr rfl
    · split
      · exact Or.inl rfl
      · exact wF_r T v n _
theorem elk_r {T : Tre} {X : List Int32} {bt : Int32} : ∀ {E : List Int32}, elk T X bt E = -1 ∨ (elk T X bt E ∈ E ∧ ¬ elk T X bt E = bt ∧ folOf T (elk T X bt E) = X)
  | [] => Or.inl rfl
  | e :: es => by
    unfold elk
    by_cases h : ¬ e = bt ∧ folOf T e = X
    · rw [if_pos h]; exact Or.inr ⟨List.mem_cons_self .., h⟩
    · rw [if_neg h]
      rcases elk_r (T := T) (X := X) (bt := bt) (E := es) with q | ⟨q1, q2⟩
      · exact Or.inl q
      · exact Or.inr ⟨List.mem_cons_of_mem _ q1, q2⟩
