theorem x64 {x : Int32} (h1 : ¬ x < 192) (h2 : ¬ 255 < x) : ∃ k : Nat, k < 64 ∧ x = nI (192 + k) := by
  have e : (192 : Int32).toInt = 192 := by decide
  have e0 : (0 : Int32).toInt = 0 := by decide
  have h0 : ¬ x < 0 := fun q => h1 (Int32.lt_iff_toInt_lt.mpr (by have := Int32.lt_iff_toInt_lt.mp q; omega))
  obtain ⟨j, hj, rfl⟩ := nI_of h0
  have a1 : ¬ j < 192 := fun q => h1 (nI_lt (b := 192) q (by omega))
  have a2 : ¬ 255 < j := fun q => h2 (nI_lt (a := 255) q (by omega))
  exact ⟨j - 192, by omega, by rw [show 192 + (j - 192) = j by omega]⟩
theorem foldPt_no {cap : Nat} {xs : List Int32} {x : Int32} (h : x < 192 ∨ 255 < x) : foldPt cap xs x = inOrd cap xs (smA x) := by
  unfold foldPt
  by_cases h1 : x - 192 < 0
  · rw [if_pos h1]
  · rw [if_neg h1]
    by_cases h2 : nI 64 ≤ x - 192
    · rw [if_pos h2]
    · exfalso
      obtain ⟨a1, a2⟩ := nI_lt_of (n := 64) (by omega) h1 (Int32.not_le.mp h2)
      generalize (x - 192).toNatClampNeg = k at a1 a2
      have ex : x = nI (k + 192) := by
        have : x - 192 + 192 = x := Int32.sub_add_cancel x 192
        rw [← this, a2]; exact nI_add k 192
      rcases h with h | h
      · rw [ex] at h; have := (nI_ltI (a := k + 192) (b := 192) (by omega) (by omega)).mp h; omega
      · rw [ex] at h; have := (nI_ltI (a := 255) (b := k + 192) (by omega) (by omega)).mp h; omega
theorem foldPt_k {cap : Nat} {xs : List Int32} {k : Nat} (hk : k < 64) : foldPt cap xs (nI (192 + k)) = if kch 0 k = 95 then inOrd cap xs (smA (nI (192 + k))) else inOrd cap (inOrd cap xs (smA (kch 0 k))) (768 + kstep k) := by
  have hxk : nI (192 + k) - 192 = nI k := (pk_sub (a := 192 + k) (b := 192) (by omega)).trans (congrArg nI (by omega))
  unfold foldPt
  rw [hxk, if_neg (nI_pos (by omega)), if_neg (nI_ge (by omega) (by omega)), nI_clamp (by omega)]
