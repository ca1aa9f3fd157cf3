/-- all rows but these are as they were; all numbers of nodes but these -/
def SR (R R1 : Nat → Nat → List Int32) (ks : List (Nat × Nat)) : Prop := ∀ b i, (b, i) ∉ ks → R1 b i = R b i
theorem SR.rf {R : Nat → Nat → List Int32} {ks : List (Nat × Nat)} : SR R R ks := fun _ _ _ => rfl
theorem SR.wr {R R1 R2 : Nat → Nat → List Int32} {ks : List (Nat × Nat)} {a j : Nat} {xs : List Int32} (h : SR R R1 ks) (e : R2 = updR R1 a j xs) (hk : (a, j) ∈ ks) : SR R R2 ks := fun b i hb => by
  rw [e, updR_n (fun q => hb (by rw [q.1, q.2]; exact hk))]; exact h b i hb
theorem SR.tr {R R1 R2 : Nat → Nat → List Int32} {ks k2 : List (Nat × Nat)} (h : SR R R1 ks) (h2 : SR R1 R2 k2) (hk : ∀ x ∈ k2, x ∈ ks) : SR R R2 ks := fun b i hb => (h2 b i (fun q => hb (hk _ q))).trans (h b i hb)
def SN (N N1 : Nat → Nat → Int32) (ks : List (Nat × Nat)) : Prop := ∀ b i, (b, i) ∉ ks → N1 b i = N b i
theorem SN.rf {N : Nat → Nat → Int32} {ks : List (Nat × Nat)} : SN N N ks := fun _ _ _ => rfl
theorem SN.wr {N N1 N2 : Nat → Nat → Int32} {ks : List (Nat × Nat)} {a j : Nat} {x : Int32} (h : SN N N1 ks) (e : N2 = updN N1 a j x) (hk : (a, j) ∈ ks) : SN N N2 ks := fun b i hb => by
  rw [e, updN_n (fun q => hb (by rw [q.1, q.2]; exact hk))]; exact h b i hb
theorem CT.sr {ex : Nat → Bool} {R R1 : Nat → Nat → List Int32} {N : Nat → Nat → Int32} {T : Tre} {Bn : Nat → List Int32} (h : CT ex R N T Bn) {ks : List (Nat × Nat)} (hs : SR R R1 ks) (hk : ∀ x ∈ ks, x.1 = 0) : CT ex R1 N T Bn :=
  h.own (fun k j => hs (k + 1) j (fun q => by have := hk _ q; simp at this))
/-- what nodeAt, directoryAt answer -/
def NdP (T : Tre) (ad : Nat → Nat → Nat) (v : Int32) (r : Option Nat) : Prop := (at32 T v = none ∧ r = none) ∨ ∃ (k : Nat) (n : Nod), k < 200 ∧ v = nI k ∧ T k = some n ∧ r = some (ad (k + 1) 0)
def NdD (T : Tre) (ad : Nat → Nat → Nat) (v : Int32) (r : Option Nat) : Prop := (noD T v = 1 ∧ r = none) ∨ ∃ (k : Nat) (n : Nod), k < 200 ∧ v = nI k ∧ T k = some n ∧ ¬ n.1 = 0 ∧ noD T v = 0 ∧ r = some (ad (k + 1) 0)
theorem NdP.so {T : Tre} {ad : Nat → Nat → Nat} {k : Nat} {n : Nod} {r : Option Nat} (h : NdP T ad (nI k) r) (hk : k < 200) (hT : T k = some n) : r = some (ad (k + 1) 0) := by
  rcases h with ⟨h1, -⟩ | ⟨k2, n2, h2, e, hT2, er⟩
  · rw [at32_n hk, hT] at h1; cases h1
  · have := (nI_eq (a := k) (b := k2) (by omega) (by omega)).mp e
    subst this; exact er
theorem NdP.no {T : Tre} {ad : Nat → Nat → Nat} {v : Int32} {r : Option Nat} (h : NdP T ad v r) (h0 : at32 T v = none) : r = none := by
  rcases h with ⟨-, h1⟩ | ⟨k2, n2, h2, e, hT2, er⟩
  · exact h1
  · rw [e, at32_n h2, hT2] at h0; cases h0
theorem at32_neg {T : Tre} {v : Int32} (h : v < 0) : at32 T v = none := by unfold at32; rw [if_pos h]
theorem at32_big {T : Tre} {v : Int32} (h : ¬ v < 0) (h2 : ¬ v < 200) : at32 T v = none := by unfold at32; rw [if_neg h, if_pos (Int32.not_lt.mp h2)]
theorem noN_at {T : Tre} {v : Int32} (h : at32 T v = none) : noN T v = 1 := by unfold noN; rw [h]
theorem noN_at0 {T : Tre} {k : Nat} {n : Nod} (hk : k < 200) (h : T k = some n) : ¬ noN T (nI k) = 1 := by unfold noN; rw [at32_n hk, h]; exact (by decide : ¬ (0 : Int32) = 1)
theorem noD_at {T : Tre} {v : Int32} (h : at32 T v = none) : noD T v = 1 := noD_1 (noN_at h)
/-- equal rows -/
theorem icmp_0 {x y : Int32} : icmp x y = 0 ↔ x = y := by
  unfold icmp
  by_cases h : x < y
  · rw [if_pos h]; exact ⟨fun q => absurd q (by decide), fun q => absurd (q ▸ h) (Int32.lt_irrefl)⟩
  · rw [if_neg h]
    by_cases h2 : x = y
    · rw [if_pos h2]; exact ⟨fun _ => h2, fun _ => rfl⟩
    · rw [if_neg h2]; exact ⟨fun q => absurd q (by decide), fun q => absurd q h2⟩
theorem cmpL_0 : ∀ {xs ys : List Int32}, cmpL xs ys = 0 ↔ xs = ys
  | [], [] => ⟨fun _ => rfl, fun _ => rfl⟩
  | [], b :: bs => ⟨fun h => absurd (show (-1 : Int32) = 0 from h) (by decide), fun h => by cases h⟩
  | a :: as, [] => ⟨fun h => absurd (show (1 : Int32) = 0 from h) (by decide), fun h => by cases h⟩
  | a :: as, b :: bs => by
    by_cases h : a = b
    · simp only [cmpL, if_pos h]; rw [cmpL_0]; subst h; exact ⟨fun q => by rw [q], fun q => by cases q; rfl⟩
    · simp only [cmpL, if_neg h]; rw [icmp_0]; exact ⟨fun q => absurd q h, fun q => by cases q; exact absurd rfl h⟩
/-- where an entry goes by its name -/
def plB (T : Tre) (X : List Int32) : List Int32 → Nat
  | [] => 0
  | e :: es => if 0 < cmpL (folOf T e) X then 0 else plB T X es + 1
theorem plB_le (T : Tre) (X : List Int32) : ∀ B, plB T X B ≤ B.length
  | [] => Nat.le_refl _
  | e :: es => by
    unfold plB
    split
    · exact Nat.zero_le _
    · have := plB_le T X es; simp; omega
theorem nI_nm1 {j : Nat} (h : j < 2 ^ 31) : ¬ nI j = -1 := fun q => nI_pos (n := j) h (by rw [q]; decide)
theorem isD_piece {xs : List Int32} {f t : Nat} (h : t ≤ xs.length) (hft : f < t) : isD xs f t ↔ isD (pieceL xs f t) 0 (pieceL xs f t).length := by
  unfold isD
  rw [piece_len h, piece_get (by omega), piece_get (by omega), Nat.add_zero, Nat.sub_zero, show f + (t - f - 1) = t - 1 by omega]
theorem nmOK_piece {xs : List Int32} {f t : Nat} (h : t ≤ xs.length) (hft : f ≤ t) (h1000 : t < 1000) : nmOK (pieceL xs f t) ↔ (1 ≤ t - f ∧ t - f ≤ 60) ∧ ¬ isD xs f t ∧ (∀ q, q < t - f → ¬ xs.getD (f + q) 0 = 0 ∧ ¬ xs.getD (f + q) 0 = 47) ∧ wr xs t f = -1 := by
  have hl := piece_len (f := f) h
  obtain ⟨r1, -⟩ := wr_piece (f := f) h h1000 (t - f + 1) 0 (by omega)
  rw [Nat.add_zero] at r1
  unfold nmOK
  constructor
  · rintro ⟨a1, a2, a3, a4⟩
    rw [hl] at a1 a3 a4
    refine ⟨a1, fun q => a2 ((isD_piece h (by omega)).mp q), fun q hq => ?_, r1.mpr a4⟩
    have := a3 q hq; rw [piece_get hq] at this; exact this
  · rintro ⟨a1, a2, a3, a4⟩
    rw [hl]
    refine ⟨a1, fun q => a2 ((isD_piece h (by omega)).mpr (by rw [hl]; exact q)), fun q hq => ?_, r1.mp a4⟩
    rw [piece_get hq]; exact a3 q hq
