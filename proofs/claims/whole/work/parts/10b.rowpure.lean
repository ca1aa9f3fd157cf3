theorem nI_min {a b : Nat} (ha : a < 2 ^ 31) (hb : b < 2 ^ 31) : (if nI b < nI a then nI b else nI a) = nI (min a b) := by
  by_cases h : b < a
  · rw [if_pos (nI_lt h ha), Nat.min_eq_right (by omega)]
  · rw [if_neg (nI_nlt (by omega) hb), Nat.min_eq_left (by omega)]
theorem nI_max {a b : Nat} (ha : a < 2 ^ 31) (hb : b < 2 ^ 31) : (if nI a < nI b then nI b else nI a) = nI (max a b) := by
  by_cases h : a < b
  · rw [if_pos (nI_lt h hb), Nat.max_eq_right (by omega)]
  · rw [if_neg (nI_nlt (by omega) ha), Nat.max_eq_left (by omega)]
/-- compareWith -/
def cmpL : List Int32 → List Int32 → Int32
  | [], [] => 0
  | [], _ :: _ => -1
  | _ :: _, [] => 1
  | a :: as, b :: bs => if a = b then cmpL as bs else icmp a b
theorem cmpL_at : ∀ (i : Nat) (xs ys : List Int32), i < xs.length → i < ys.length → (∀ q, q < i → xs.getD q 0 = ys.getD q 0) → ¬ xs.getD i 0 = ys.getD i 0 → cmpL xs ys = icmp (xs.getD i 0) (ys.getD i 0)
  | 0, a :: as, b :: bs, _, _, _, h => by simp at h; simp [cmpL, h]
  | i + 1, a :: as, b :: bs, h1, h2, h3, h4 => by
    have h0 : a = b := by have := h3 0 (by omega); simpa using this
    simp only [cmpL, if_pos h0]
    have := cmpL_at i as bs (by simpa using h1) (by simpa using h2) (fun q hq => by have := h3 (q + 1) (by omega); simpa using this) (by simpa using h4)
    simpa using this
  | _, [], _, h, _, _, _ => by simp at h
  | _, _, [], _, h, _, _ => by simp at h
theorem cmpL_end : ∀ (xs ys : List Int32), xs.length < 2 ^ 30 → ys.length < 2 ^ 30 → (∀ q, q < min xs.length ys.length → xs.getD q 0 = ys.getD q 0) → cmpL xs ys = icmp (nI xs.length) (nI ys.length)
  | [], [], _, _, _ => by decide
  | [], b :: bs, _, h, _ => by
    have : nI ([] : List Int32).length < nI (b :: bs).length := nI_lt (by simp) (by omega)
    unfold icmp
    rw [if_pos this]; rfl
  | a :: as, [], h, _, _ => by
    have h1 : ¬ nI (a :: as).length < nI ([] : List Int32).length := nI_nlt (by simp) (by omega)
    have h2 : ¬ nI (a :: as).length = nI ([] : List Int32).length := fun h3 => by have := (nI_eq (by omega) (by simp)).mp h3; simp at this
    unfold icmp
    rw [if_neg h1, if_neg h2]; rfl
  | a :: as, b :: bs, h1, h2, h3 => by
    have h0 : a = b := by have := h3 0 (by simp); simpa using this
    simp only [List.length_cons] at h1 h2 ⊢
    have e := cmpL_end as bs (by omega) (by omega) (fun q hq => by have := h3 (q + 1) (by simp; omega); simpa using this)
    simp only [cmpL, if_pos h0, e]
    unfold icmp
    have x1 : (nI as.length < nI bs.length) ↔ (nI (as.length + 1) < nI (bs.length + 1)) := by rw [nI_ltI (by omega) (by omega), nI_ltI (by omega) (by omega)]; omega
    have x2 : (nI as.length = nI bs.length) ↔ (nI (as.length + 1) = nI (bs.length + 1)) := by rw [nI_eq (by omega) (by omega), nI_eq (by omega) (by omega)]; omega
    simp only [x1, x2]
/-- takeOut -/
def rOut (xs : List Int32) (item : Int32) : List Int32 := xs.filter (fun x => decide (x ≠ item))
theorem take_s {xs : List Int32} {i : Nat} (h : i < xs.length) : xs.take (i + 1) = xs.take i ++ [xs.getD i 0] := by
  rw [List.take_add_one, List.getElem?_eq_getElem h]
  simp [List.getD_eq_getElem?_getD, List.getElem?_eq_getElem h]
theorem rOut_len {xs : List Int32} {item : Int32} {i : Nat} (h : i ≤ xs.length) : (rOut (xs.take i) item).length ≤ i := by
  have h1 := List.length_filter_le (fun x => decide (x ≠ item)) (xs.take i)
  have h2 : (xs.take i).length = i := by simp; omega
  unfold rOut; omega
theorem rOut_same {xs : List Int32} {item : Int32} {i : Nat} (h : i < xs.length) (he : xs.getD i 0 = item) : rOut (xs.take (i + 1)) item = rOut (xs.take i) item := by
  unfold rOut; rw [take_s h, List.filter_append, he]; simp
theorem rOut_more {xs : List Int32} {item : Int32} {i : Nat} (h : i < xs.length) (he : ¬ xs.getD i 0 = item) : rOut (xs.take (i + 1)) item = rOut (xs.take i) item ++ [xs.getD i 0] := by
  unfold rOut; rw [take_s h, List.filter_append]
  have : List.filter (fun x => decide (x ≠ item)) [xs.getD i 0] = [xs.getD i 0] := List.filter_cons_of_pos (by simpa using he)
  rw [this]
theorem getD_l {xs ys : List Int32} {q : Nat} (h : q < xs.length) : (xs ++ ys).getD q 0 = xs.getD q 0 := by
  rw [List.getD_eq_getElem?_getD, List.getElem?_append_left h, ← List.getD_eq_getElem?_getD]
theorem getD_e {xs : List Int32} {a : Int32} : (xs ++ [a]).getD xs.length 0 = a := by
  rw [List.getD_eq_getElem?_getD, List.getElem?_append_right (Nat.le_refl _), Nat.sub_self]; rfl
theorem rOut_put {xs : List Int32} {item : Int32} {i k : Nat} {f1 : Nat → Int32} (hk : k = (rOut (xs.take i) item).length) (h : i < xs.length) (he : ¬ xs.getD i 0 = item) (hlo : ∀ q, q < k → f1 q = (rOut (xs.take i) item).getD q 0) : ∀ q, q < k + 1 → upd f1 k (xs.getD i 0) q = (rOut (xs.take (i + 1)) item).getD q 0 := by
  intro q hq
  rw [rOut_more h he]
  by_cases h1 : q = k
  · rw [h1, upd_eq, hk, getD_e]
  · rw [upd_ne h1, getD_l (by omega)]; exact hlo q (by omega)
theorem out_done {G : me_G} {w w1 : Me} {r b cap : Nat} {xs : List Int32} {item : Int32} {i k : Nat} {f1 : Nat → Int32} (hrb : r ≠ b) (hlt : cap < 1000) (hcap : xs.length ≤ cap) (hi : i = xs.length) (hk : k = (rOut (xs.take i) item).length) (hlo : ∀ q, q < k → f1 q = (rOut (xs.take i) item).getD q 0) (hb1 : w1 b = some (eI G cap f1)) (hfr : ∀ q, q ≠ b → w1 q = w q) :
    Rw G (me_u w1 r (eO 1 [.ref b, .int (nI k)])) r b cap (rOut xs item) ∧ Ch w (me_u w1 r (eO 1 [.ref b, .int (nI k)])) r b := by
  subst hi
  have hle := rOut_len (item := item) (Nat.le_refl xs.length)
  rw [List.take_length] at hk hlo hle
  subst hk
  exact ⟨⟨me_us _ _ _, Nat.le_trans hle hcap, hlt, hrb, f1, (me_un (Ne.symm hrb)).trans hb1, hlo⟩, fun q h1 h2 => (me_un h1).trans (hfr q h2)⟩
theorem cpy_done {G : me_G} {w w1 : Me} {r b cap : Nat} {ys : List Int32} {i : Nat} {f1 : Nat → Int32} (hrb : r ≠ b) (hlt : cap < 1000) (hi : i = min ys.length cap) (hlo : ∀ q, q < i → f1 q = ys.getD q 0) (hb1 : w1 b = some (eI G cap f1)) (hr1 : w1 r = some (eO 1 [.ref b, .int (nI (min ys.length cap))])) (hfr : ∀ q, q ≠ r → q ≠ b → w1 q = w q) :
    Rw G w1 r b cap (ys.take cap) ∧ Ch w w1 r b := by
  have hl : (ys.take cap).length = min ys.length cap := by simp [Nat.min_comm]
  refine ⟨⟨by rw [hl]; exact hr1, by rw [hl]; omega, hlt, hrb, f1, hb1, fun q hq => ?_⟩, hfr⟩
  rw [hl] at hq
  rw [hlo q (by omega), List.getD_eq_getElem?_getD, List.getD_eq_getElem?_getD, List.getElem?_take_of_lt (by omega)]
