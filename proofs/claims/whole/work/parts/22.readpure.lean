theorem nI_or (a b : Nat) : nI a ||| nI b = nI (a ||| b) := by
  apply Int32.toBitVec_inj.mp
  show (nI a).toBitVec ||| (nI b).toBitVec = (nI (a ||| b)).toBitVec
  show BitVec.ofNat 32 a ||| BitVec.ofNat 32 b = BitVec.ofNat 32 (a ||| b)
  apply BitVec.eq_of_toNat_eq
  simp [BitVec.toNat_or, Nat.or_mod_two_pow]
theorem or6 {a d : Nat} (ha : a < 2 ^ 24) (hd : d < 2 ^ 31) : (nI a <<< ((6 : Int32) &&& 31)) ||| (nI d &&& 63) = nI (a * 64 + d % 64) := by
  rw [pk_andN (by omega) (m := 63) 6 (by decide), pk_shlN ((6 : Int32) &&& 31) 6 (by decide) (by omega), nI_or]
  have h := Nat.two_pow_add_eq_or_of_lt (i := 6) (b := d % 2 ^ 6) (Nat.mod_lt _ (by decide)) a
  rw [show a * 2 ^ 6 = 2 ^ 6 * a by omega, ← h]
/-- octets -/
def Oct (xs : List Int32) : Prop := ∀ i, i < xs.length → ∃ n : Nat, n < 256 ∧ xs.getD i 0 = nI n
/-- the least point of so many octets more -/
def leastR : Nat → Int32
  | 0 => 0
  | 1 => 128
  | 2 => 2048
  | _ => 65536
/-- what the reference refuses -/
abbrev badR (v : Int32) (k : Nat) : Prop := v < leastR k ∨ 1114111 < v ∨ (¬ v < 55296 ∧ ¬ 57343 < v)
theorem conts_b {xs : List Int32} (ho : Oct xs) : ∀ (k j a : Nat) (v : Int32), j + k ≤ xs.length → (a + 1) * 64 ^ k ≤ 2 ^ 24 → conts (xs.drop j) k (nI a) = some v → ∃ n : Nat, n < (a + 1) * 64 ^ k ∧ a * 64 ^ k ≤ n ∧ v = nI n
  | 0, j, a, v, _, _, h => by
    rw [conts_0] at h
    cases h
    exact ⟨a, by omega, by omega, rfl⟩
  | k + 1, j, a, v, hj, ha, h => by
    have hp : 0 < 64 ^ k := Nat.pow_pos (by omega)
    have hpk : 64 ^ (k + 1) = 64 * 64 ^ k := by rw [Nat.pow_succ]; omega
    rw [hpk] at ha ⊢
    obtain ⟨d, hd, hxd⟩ := ho j (by omega)
    rw [conts_s (by omega), hxd] at h
    have hm : d % 64 < 64 := Nat.mod_lt _ (by omega)
    have u1 : (a * 64 + d % 64 + 1) * 64 ^ k ≤ ((a + 1) * 64) * 64 ^ k := Nat.mul_le_mul_right _ (by omega)
    have u2 : (a * 64) * 64 ^ k ≤ (a * 64 + d % 64) * 64 ^ k := Nat.mul_le_mul_right _ (by omega)
    have u3 : ((a + 1) * 64) * 64 ^ k = (a + 1) * (64 * 64 ^ k) := Nat.mul_assoc _ _ _
    have u4 : (a * 64) * 64 ^ k = a * (64 * 64 ^ k) := Nat.mul_assoc _ _ _
    split at h
    · cases h
    · split at h
      · have ha24 : a < 2 ^ 24 := by
          have : (a + 1) * 1 ≤ (a + 1) * (64 * 64 ^ k) := Nat.mul_le_mul_left (a + 1) (by omega)
          omega
        rw [or6 ha24 (by omega)] at h
        obtain ⟨n, n1, n2, n3⟩ := conts_b ho k (j + 1) (a * 64 + d % 64) v (by omega) (by omega) h
        exact ⟨n, by omega, by omega, n3⟩
      · cases h
theorem octOf_n {n : Nat} (hn : n < 2 ^ 31) : octOf (nI n) = nI (if n < 128 then 1 else if n < 2048 then 2 else if n < 65536 then 3 else 4) := by
  have e : ∀ c : Nat, c < 2 ^ 31 → ((nI c ≤ nI n) ↔ c ≤ n) := fun c hc => nI_leI hc hn
  have e1 : ((128 : Int32) ≤ nI n) ↔ 128 ≤ n := e 128 (by omega)
  have e2 : ((2048 : Int32) ≤ nI n) ↔ 2048 ≤ n := e 2048 (by omega)
  have e3 : ((65536 : Int32) ≤ nI n) ↔ 65536 ≤ n := e 65536 (by omega)
  have g1 : (n < 128) ↔ ¬ 128 ≤ n := by omega
  have g2 : (n < 2048) ↔ ¬ 2048 ≤ n := by omega
  have g3 : (n < 65536) ↔ ¬ 65536 ≤ n := by omega
  unfold octOf
  simp only [e1, e2, e3, g1, g2, g3]
  by_cases h1 : 128 ≤ n <;> by_cases h2 : 2048 ≤ n <;> by_cases h3 : 65536 ≤ n <;> first | omega | (simp [h1, h2, h3]; done) | (simp [h1, h2, h3]; rfl)
/-- the two ways to refuse a point are one -/
theorem bad_R {n k : Nat} (h3 : k ≤ 3) (hn : n < 2 ^ 24) (hu : (k = 0 → n < 128) ∧ (k = 1 → n < 2048) ∧ (k = 2 → n < 65536)) : badR (nI n) k ↔ bad (nI n) k := by
  have lt : ∀ c : Nat, c < 2 ^ 31 → ((nI n < nI c) ↔ n < c) := fun c hc => nI_ltI (by omega) hc
  have e0 : (nI n < (0 : Int32)) ↔ n < 0 := lt 0 (by omega)
  have e1 : (nI n < (128 : Int32)) ↔ n < 128 := lt 128 (by omega)
  have e2 : (nI n < (2048 : Int32)) ↔ n < 2048 := lt 2048 (by omega)
  have e3 : (nI n < (65536 : Int32)) ↔ n < 65536 := lt 65536 (by omega)
  unfold badR bad
  rw [octOf_n (by omega), nI_eq (by split <;> (try split) <;> (try split) <;> omega) (by omega)]
  generalize ((1114111 : Int32) < nI n) = X
  generalize (¬ nI n < 55296 ∧ ¬ 57343 < nI n) = Y
  have key : nI n < leastR k ↔ ¬ (if n < 128 then 1 else if n < 2048 then 2 else if n < 65536 then 3 else 4) = k + 1 := by
    rcases (show k = 0 ∨ k = 1 ∨ k = 2 ∨ k = 3 by omega) with rfl | rfl | rfl | rfl
    · show nI n < 0 ↔ _
      rw [e0, if_pos (hu.1 rfl)]; omega
    · show nI n < 128 ↔ _
      have := hu.2.1 rfl
      rw [e1]; split <;> (try split) <;> omega
    · show nI n < 2048 ↔ _
      have := hu.2.2 rfl
      rw [e2]; split <;> (try split) <;> (try split) <;> omega
    · show nI n < 65536 ↔ _
      rw [e3]; split <;> (try split) <;> (try split) <;> omega
  rw [key]
  constructor
  · rintro (h | h | h)
    · exact Or.inr (Or.inr h)
    · exact Or.inr (Or.inl h)
    · exact Or.inl h
  · rintro (h | h | h)
    · exact Or.inr (Or.inr h)
    · exact Or.inr (Or.inl h)
    · exact Or.inl h
/-- the head's bits, a number -/
theorem hd_n {x k : Nat} (hx : x < 256) (h3 : k ≤ 3) : hd (nI x) k = nI (if k = 0 then x else x % 2 ^ (6 - k)) := by
  unfold hd
  rcases (show k = 0 ∨ k = 1 ∨ k = 2 ∨ k = 3 by omega) with rfl | rfl | rfl | rfl
  · rfl
  · rw [if_neg (by decide), show (63 : Int32) >>> (nI 1 &&& 31) = 31 by decide, pk_andN (by omega) 5 (by decide)]; rfl
  · rw [if_neg (by decide), show (63 : Int32) >>> (nI 2 &&& 31) = 15 by decide, pk_andN (by omega) 4 (by decide)]; rfl
  · rw [if_neg (by decide), show (63 : Int32) >>> (nI 3 &&& 31) = 7 by decide, pk_andN (by omega) 3 (by decide)]; rfl
/-- the reference's test, by the class's -/
theorem ref_pt {xs : List Int32} (ho : Oct xs) {b n k : Nat} {v : Int32} (hn : n = xs.length) (hb : b < n) (hk : octMore (xs.getD b 0) = nI k) (h3 : k ≤ 3) (h0 : k = 0 → xs.getD b 0 < 128) (hnk : ¬ n ≤ b + k) (hc : conts (xs.drop (b + 1)) k (hd (xs.getD b 0) k) = some v) :
    (badR v k → ptC xs b n = -1) ∧ (¬ badR v k → ptC xs b n = v ∧ octOf v = nI (k + 1) ∧ ¬ v = -1) := by
  obtain ⟨x, hx, ex⟩ := ho b (by omega)
  have hpt := ptC_k (xs := xs) (place := b) (to := n) rfl hk.symm h3
  rw [hpt, ptK_s hnk hc]
  rw [ex, hd_n hx h3] at hc
  have hx0 : k = 0 → x < 128 := fun e => by
    have := h0 e
    rw [ex] at this
    exact (nI_ltI (a := x) (b := 128) (by omega) (by omega)).mp this
  obtain ⟨m, m1, m2, rfl⟩ := conts_b ho k (b + 1) _ v (by omega) (by
    rcases (show k = 0 ∨ k = 1 ∨ k = 2 ∨ k = 3 by omega) with rfl | rfl | rfl | rfl
    · simp; omega
    · simp; omega
    · simp; omega
    · simp; omega) hc
  have hm : m < 2 ^ 24 ∧ ((k = 0 → m < 128) ∧ (k = 1 → m < 2048) ∧ (k = 2 → m < 65536)) := by
    rcases (show k = 0 ∨ k = 1 ∨ k = 2 ∨ k = 3 by omega) with rfl | rfl | rfl | rfl
    · simp at m1; have := hx0 rfl; omega
    · simp at m1; omega
    · simp at m1; omega
    · simp at m1; omega
  have hbad := bad_R h3 hm.1 hm.2
  refine ⟨fun h => if_pos (hbad.mp h), fun h => ?_⟩
  have h2 : ¬ bad (nI m) k := fun q => h (hbad.mpr q)
  refine ⟨if_neg h2, ?_, fun e => ?_⟩
  · by_cases q : octOf (nI m) = nI (k + 1)
    · exact q
    · exact absurd (Or.inr (Or.inr q)) h2
  · exact absurd (show nI m < 0 by rw [e]; decide) (nI_pos (by omega))
theorem ref_no {xs : List Int32} {b n k : Nat} (hk : octMore (xs.getD b 0) = nI k) (h3 : k ≤ 3) (hc : n ≤ b + k ∨ conts (xs.drop (b + 1)) k (hd (xs.getD b 0) k) = none) : ptC xs b n = -1 := by
  rw [ptC_k (xs := xs) (place := b) (to := n) rfl hk.symm h3]
  by_cases h : n ≤ b + k
  · unfold ptK; rw [if_pos h]
  · exact ptK_n h (hc.resolve_left h)
theorem ref_m1 {xs : List Int32} {b n : Nat} (h : octMore (xs.getD b 0) = -1) : ptC xs b n = -1 := ptC_n rfl rfl (by rw [h]; decide)
/-- the points of a text, from place b on, up to where it is wrong -/
def ptsF (xs : List Int32) (to : Nat) : Nat → Nat → List Int32
  | 0, _ => []
  | n + 1, b => if to ≤ b then [] else if ptC xs b to = -1 then [] else ptC xs b to :: ptsF xs to n (b + (octOf (ptC xs b to)).toNatClampNeg)
theorem ptsF_more (xs : List Int32) (to : Nat) : ∀ (n b m : Nat), to - b < n → n ≤ m → ptsF xs to n b = ptsF xs to m b
  | 0, _, _, h, _ => by omega
  | n + 1, b, 0, _, h => by omega
  | n + 1, b, m + 1, h, h2 => by
    obtain ⟨k, k1, k4, k3⟩ := octOf_r (ptC xs b to)
    unfold ptsF
    by_cases h3 : to ≤ b
    · rw [if_pos h3, if_pos h3]
    · rw [if_neg h3, if_neg h3]
      by_cases h4 : ptC xs b to = -1
      · rw [if_pos h4, if_pos h4]
      · rw [if_neg h4, if_neg h4, k3, nI_clamp (by omega), ptsF_more xs to n (b + k) m (by omega) (by omega)]
def pts (xs : List Int32) (to b : Nat) : List Int32 := ptsF xs to (to - b + 1) b
theorem pts_end {xs : List Int32} {to b : Nat} (h : to ≤ b) : pts xs to b = [] := by unfold pts ptsF; rw [if_pos h]
theorem pts_go {xs : List Int32} {to b k : Nat} (h : ¬ to ≤ b) (h2 : ¬ ptC xs b to = -1) (hk : octOf (ptC xs b to) = nI k) (h4 : k < 100) : pts xs to b = ptC xs b to :: pts xs to (b + k) := by
  obtain ⟨k', k1, k2, k3⟩ := octOf_r (ptC xs b to)
  have e : k = k' := (nI_eq (by omega) (by omega)).mp (hk.symm.trans k3)
  subst e
  unfold pts
  rw [ptsF, if_neg h, if_neg h2, hk, nI_clamp (by omega)]
  rw [ptsF_more xs to _ _ _ (Nat.lt_succ_self _) (show to - (b + k) + 1 ≤ to - b by omega)]
