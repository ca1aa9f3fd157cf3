/-- markStep(i), i within the text -/
def kstep (i : Nat) : Int32 := if kch 1 i - 48 < 0 then 0 else if kch 1 i - 48 < nI 7 then kq_steps.getD (kch 1 i - 48).toNatClampNeg 0 else 0
/-- where a mark goes -/
def plc (xs : List Int32) (own : Int32) : Nat → Nat
  | 0 => 0
  | n + 1 => if own ≤ 0 then n + 1 else if mkCls (xs.getD n 0) ≤ own then n + 1 else plc xs own n
theorem plc_le (xs : List Int32) (own : Int32) : ∀ n, plc xs own n ≤ n
  | 0 => Nat.le_refl 0
  | n + 1 => by
    unfold plc
    split
    · exact Nat.le_refl _
    · split
      · exact Nat.le_refl _
      · exact Nat.le_succ_of_le (plc_le xs own n)
theorem plc_own {xs : List Int32} {own : Int32} (h : own ≤ 0) : ∀ n, plc xs own n = n
  | 0 => rfl
  | n + 1 => by unfold plc; rw [if_pos h]
theorem plc_stop {xs : List Int32} {own : Int32} {i : Nat} (h0 : 0 < i) (h : mkCls (xs.getD (i - 1) 0) ≤ own) : plc xs own i = i := by
  obtain ⟨n, rfl⟩ : ∃ n, i = n + 1 := ⟨i - 1, by omega⟩
  rw [Nat.add_sub_cancel] at h
  unfold plc
  split
  · rfl
  · first | rfl | rw [if_pos h]
theorem plc_go {xs : List Int32} {own : Int32} {i : Nat} (h0 : 0 < i) (h1 : ¬ own ≤ 0) (h : ¬ mkCls (xs.getD (i - 1) 0) ≤ own) : plc xs own i = plc xs own (i - 1) := by
  obtain ⟨n, rfl⟩ : ∃ n, i = n + 1 := ⟨i - 1, by omega⟩
  rw [Nat.add_sub_cancel] at h
  rw [plc, if_neg h1, if_neg h, Nat.add_sub_cancel]
/-- addInOrder -/
def inOrd (cap : Nat) (xs : List Int32) (p : Int32) : List Int32 := rIns cap xs (plc xs (mkCls p) xs.length) p
/-- addFolded -/
def foldPt (cap : Nat) (xs : List Int32) (p : Int32) : List Int32 :=
  if p - 192 < 0 then inOrd cap xs (smA p) else if nI 64 ≤ p - 192 then inOrd cap xs (smA p) else if kch 0 (p - 192).toNatClampNeg = 95 then inOrd cap xs (smA p)
  else inOrd cap (inOrd cap xs (smA (kch 0 (p - 192).toNatClampNeg))) (768 + kstep (p - 192).toNatClampNeg)
/-- foldInto, n places from i on -/
def fldN (cap : Nat) (ys : List Int32) (t : Nat) : Nat → Nat → List Int32 → List Int32
  | 0, _, acc => acc
  | n + 1, i, acc => fldN cap ys t n (i + 1) (if ptC ys i t = -1 then acc else foldPt cap acc (ptC ys i t))
theorem fldN_s {cap : Nat} {ys : List Int32} {t i : Nat} {acc : List Int32} (h : i < t) : fldN cap ys t (t - i) i acc = fldN cap ys t (t - (i + 1)) (i + 1) (if ptC ys i t = -1 then acc else foldPt cap acc (ptC ys i t)) := by
  rw [show t - i = (t - (i + 1)) + 1 by omega, fldN]
theorem Ch.rf {w : Me} {r b : Nat} : Ch w w r b := fun _ _ _ => rfl
theorem Ch.tr {w w1 w2 : Me} {r b : Nat} (h1 : Ch w w1 r b) (h2 : Ch w1 w2 r b) : Ch w w2 r b := fun q a c => (h2 q a c).trans (h1 q a c)
theorem Ch.rw {G : me_G} {w w' : Me} {r b r2 b2 cap : Nat} {ys : List Int32} (h : Ch w w' r b) (hR : Rw G w r2 b2 cap ys) (n1 : r2 ≠ r) (n2 : r2 ≠ b) (n3 : b2 ≠ r) (n4 : b2 ≠ b) : Rw G w' r2 b2 cap ys := hR.of (h r2 n1 n2) (h b2 n3 n4)
