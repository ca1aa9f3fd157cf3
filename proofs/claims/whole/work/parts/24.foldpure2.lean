theorem mkClsR_e (x : Int32) : mkClsR x = mkCls x := rfl
theorem i32_lt {x : Int32} {c : Int32} : (x < c) ↔ x.toInt < c.toInt := Int32.lt_iff_toInt_lt
theorem i32_le {x : Int32} {c : Int32} : (c ≤ x) ↔ c.toInt ≤ x.toInt := Int32.le_iff_toInt_le
theorem sm_in : ∀ n, n < 1200 → smR (nI n) = smA (nI n) := by decide +kernel
theorem sm_neg {x : Int32} (h : x < 0) : smR x = smA x := by
  have hx : x.toInt < 0 := i32_lt.mp h
  have l : ∀ c : Nat, c < 2 ^ 31 → x < nI c := fun c hc => i32_lt.mpr (by rw [nI_toInt hc]; omega)
  have g : ∀ c : Nat, c < 2 ^ 31 → ¬ nI c < x := fun c hc => fun q => by have := i32_lt.mp q; rw [nI_toInt hc] at this; omega
  have n : ∀ c : Nat, c < 2 ^ 31 → ¬ x = nI c := fun c hc q => by rw [q, nI_toInt hc] at hx; omega
  have le : ∀ c : Nat, c < 2 ^ 31 → ¬ nI c ≤ x := fun c hc => fun q => by have := i32_le.mp q; rw [nI_toInt hc] at this; omega
  have e : smR x = x := by
    calc smR x = smR_12 x := if_pos (l 65 (by omega))
      _ = smR_33 x := if_pos (l 192 (by omega))
      _ = smR_54 x := if_pos (l 913 (by omega))
      _ = smR_73 x := if_pos (l 1040 (by omega))
      _ = smR_87 x := if_pos (l 256 (by omega))
      _ = smR_115 x := if_pos (l 330 (by omega))
      _ = smR_129 x := if_pos (l 313 (by omega))
      _ = smR_158 x := if_pos (l 377 (by omega))
      _ = smR_177 x := if_pos (l 1024 (by omega))
      _ = x := (if_neg (n 376 (by omega))).trans ((if_neg (n 962 (by omega))).trans ((if_neg (n 181 (by omega))).trans (if_neg (n 383 (by omega)))))
  have e2 : smA x = x := by
    calc smA x = smL x := if_neg (le 256 (by omega))
      _ = smL_12 x := if_pos (l 65 (by omega))
      _ = smL_37 x := if_pos (l 192 (by omega))
      _ = x := if_neg (n 181 (by omega))
  rw [e, e2]
theorem sm_big {x : Int32} (h : nI 1200 ≤ x) : smR x = smA x := by
  have hx : 1200 ≤ x.toInt := by have := i32_le.mp h; rw [nI_toInt (by omega)] at this; omega
  have l : ∀ c : Nat, c ≤ 1200 → ¬ x < nI c := fun c hc => fun q => by have := i32_lt.mp q; rw [nI_toInt (by omega)] at this; omega
  have g : ∀ c : Nat, c < 1200 → nI c < x := fun c hc => i32_lt.mpr (by rw [nI_toInt (by omega)]; omega)
  have n : ∀ c : Nat, c < 1200 → ¬ x = nI c := fun c hc q => by rw [q, nI_toInt (by omega)] at hx; omega
  have le : ∀ c : Nat, c ≤ 1200 → nI c ≤ x := fun c hc => i32_le.mpr (by rw [nI_toInt (by omega)]; omega)
  have xl : ∀ c : Nat, c < 1200 → ¬ x ≤ nI c := fun c hc => fun q => by have := Int32.le_iff_toInt_le.mp q; rw [nI_toInt (by omega)] at this; omega
  have e : smR x = x := by
    calc smR x = smR_12 x := (if_neg (l 65 (by omega))).trans (if_neg (xl 90 (by omega)))
      _ = smR_33 x := (if_neg (l 192 (by omega))).trans (if_pos (g 222 (by omega)))
      _ = smR_54 x := (if_neg (l 913 (by omega))).trans (if_pos (g 939 (by omega)))
      _ = smR_73 x := (if_neg (l 1040 (by omega))).trans (if_pos (g 1071 (by omega)))
      _ = smR_87 x := (if_neg (l 256 (by omega))).trans (if_neg (xl 303 (by omega)))
      _ = smR_115 x := (if_neg (l 330 (by omega))).trans (if_pos (g 375 (by omega)))
      _ = smR_129 x := (if_neg (l 313 (by omega))).trans (if_neg (xl 328 (by omega)))
      _ = smR_158 x := (if_neg (l 377 (by omega))).trans (if_pos (g 382 (by omega)))
      _ = smR_177 x := (if_neg (l 1024 (by omega))).trans (if_pos (g 1039 (by omega)))
      _ = x := (if_neg (n 376 (by omega))).trans ((if_neg (n 962 (by omega))).trans ((if_neg (n 181 (by omega))).trans (if_neg (n 383 (by omega)))))
  have e2 : smA x = x := by
    calc smA x = smA_60 x := (if_pos (le 256 (by omega))).trans ((if_pos (le 384 (by omega))).trans ((if_neg (n 962 (by omega))).trans ((if_neg (l 913 (by omega))).trans (if_pos (g 939 (by omega))))))
      _ = smA_80a x := (if_neg (l 1040 (by omega))).trans (if_pos (g 1071 (by omega)))
      _ = smA_116 x := (if_neg (l 1024 (by omega))).trans (if_pos (g 1039 (by omega)))
      _ = x := rfl
  rw [e, e2]
/-- the two make small alike -/
theorem sm_e (x : Int32) : smR x = smA x := by
  rcases pk_ix x (n := 1200) (by omega) with h | h | ⟨j, hj, rfl⟩
  · exact sm_neg h
  · exact sm_big h
  · exact sm_in j hj
def lettL : List Int64 := [4854670671852159297, 5280832617112225093, 6867795158814903903, 6872309779429414239, 7160549003415871841, 7595718147930678629, 6876837680419663455, 8745842546765559135]
def markL : List Int64 := [3917908699149119792, 3761122721911681328, 6860164423058731871, 6872265656640811103, 3917908699149119792, 3761122721911681328, 6860164423058731871, 3773789113009909855]
theorem let_k : ∀ k, k < 64 → ((lettL.getD (k / 8) 0 >>> ((nI (8 * (k % 8))).toInt64 &&& 63)) &&& 255).toInt32 = kch 0 k := by decide +kernel
theorem mar_k : ∀ k, k < 64 → ¬ kch 0 k = 95 → smR (mkOf ((markL.getD (k / 8) 0 >>> ((nI (8 * (k % 8))).toInt64 &&& 63)) &&& 255).toInt32) = 768 + kstep k := by decide +kernel
theorem rIns_gr {cap : Nat} {xs : List Int32} {j : Nat} {p : Int32} (hj : j ≤ xs.length) : (rIns cap xs j p).length ≤ xs.length + 1 := by
  by_cases h : cap ≤ xs.length
  · unfold rIns; rw [if_pos h]; omega
  · rw [rIns_len h hj]; omega
theorem inOrd_gr {cap : Nat} {xs : List Int32} {p : Int32} : (inOrd cap xs p).length ≤ xs.length + 1 := rIns_gr (plc_le _ _ _)
theorem foldPt_gr {cap : Nat} {xs : List Int32} {p : Int32} : (foldPt cap xs p).length ≤ xs.length + 2 := by
  unfold foldPt
  have h1 := @inOrd_gr cap xs (smA p)
  split
  · omega
  · split
    · omega
    · split
      · omega
      · have h2 := @inOrd_gr cap xs (smA (kch 0 (p - 192).toNatClampNeg))
        have h3 := @inOrd_gr cap (inOrd cap xs (smA (kch 0 (p - 192).toNatClampNeg))) (768 + kstep (p - 192).toNatClampNeg)
        omega
theorem Ls.ins {F F1 F2 : Nat → Nat → Int32} {z z2 : Nat → Int32} {ka kz cap : Nat} {xs : List Int32} {i : Nat} {v : Int32} (h : Ls F z ka kz cap xs) (hi : i ≤ xs.length) (hc : xs.length < cap) (hff : ∀ q, F1 ka q = if i < q ∧ q ≤ xs.length then F ka (q - 1) else F ka q) (hF : F2 = uF F1 ka (upd (F1 ka) i v)) (hz : z2 kz = nI (xs.length + 1)) : Ls F2 z2 ka kz cap (rIns cap xs i v) := by
  have hc' : ¬ cap ≤ xs.length := by omega
  refine ⟨by rw [hz, rIns_len hc' hi], by rw [rIns_len hc' hi]; omega, fun q hq => ?_⟩
  rw [rIns_len hc' hi] at hq
  rw [rIns_get hc' hi q hq, hF, uF_s]
  by_cases h1 : q = i
  · rw [h1, upd_eq, if_neg (by omega), if_pos rfl]
  · rw [upd_ne h1, hff]
    by_cases h2 : q < i
    · rw [if_neg (by omega), if_pos h2]; exact h.2.2 q (by omega)
    · rw [if_pos (by omega), if_neg h2, if_neg h1]; exact h.2.2 (q - 1) (by omega)
