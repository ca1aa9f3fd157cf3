/-! HOW LONG A FOLDED TEXT IS; the room does not matter; the places inside a point begin none -/
theorem pt_oct {xs : List Int32} {b to : Nat} (h : ¬ ptC xs b to = -1) : ∃ (k : Nat) (v : Int32), k ≤ 3 ∧ octMore (xs.getD b 0) = nI k ∧ octOf (ptC xs b to) = nI (k + 1) ∧ b + k < to ∧ conts (xs.drop (b + 1)) k (hd (xs.getD b 0) k) = some v := by
  by_cases hm : octMore (xs.getD b 0) < 0
  · exact absurd (ptC_n rfl rfl hm) h
  · obtain ⟨k, h3, hk⟩ := octMore_k rfl hm
    have e := ptC_k (xs := xs) (place := b) (to := to) rfl hk.symm h3
    rw [e] at h ⊢
    by_cases ht : to ≤ b + k
    · exact absurd (by unfold ptK; rw [if_pos ht]) h
    · cases hc : conts (xs.drop (b + 1)) k (hd (xs.getD b 0) k) with
      | none => exact absurd (ptK_n ht hc) h
      | some v =>
        rw [ptK_s ht hc] at h ⊢
        by_cases hb : bad v k
        · rw [if_pos hb] at h; exact absurd rfl h
        · rw [if_neg hb]
          refine ⟨k, v, h3, hk, ?_, by omega, hc⟩
          by_cases q : octOf v = nI (k + 1)
          · exact q
          · exact absurd (Or.inr (Or.inr q)) hb
theorem inOrd_len (cap : Nat) (X : List Int32) (p : Int32) : (inOrd cap X p).length ≤ X.length + 1 := by
  unfold inOrd
  by_cases h : cap ≤ X.length
  · unfold rIns; rw [if_pos h]; omega
  · rw [rIns_len h (plc_le ..)]; omega
theorem inOrd_cap {c1 c2 : Nat} {X : List Int32} {p : Int32} (h1 : X.length < c1) (h2 : X.length < c2) : inOrd c1 X p = inOrd c2 X p := by
  unfold inOrd rIns; rw [if_neg (by omega), if_neg (by omega)]
theorem oct2 {p : Int32} (h1 : ¬ p - 192 < 0) (h2 : ¬ nI 64 ≤ p - 192) : octOf p = nI 2 := by
  obtain ⟨a1, a2⟩ := nI_lt_of (n := 64) (by omega) h1 (Int32.not_le.mp h2)
  generalize (p - 192).toNatClampNeg = i at a1 a2
  have e : p = nI (i + 192) := by
    have : p = nI i + 192 := by rw [← a2]; exact (Int32.sub_add_cancel p 192).symm
    rw [this]; exact nI_add i 192
  rw [e, octOf_n (by omega), if_neg (by omega), if_pos (by omega)]
theorem foldPt_len {cap : Nat} {X : List Int32} {p : Int32} {k : Nat} (hk : octOf p = nI k) (h4 : k < 100) : (foldPt cap X p).length ≤ X.length + k := by
  have h1 : 1 ≤ k := by
    obtain ⟨k', k1, k2, k3⟩ := octOf_r p
    have := (nI_eq (a := k) (b := k') (by omega) (by omega)).mp (hk.symm.trans k3)
    omega
  unfold foldPt
  by_cases a1 : p - 192 < 0
  · rw [if_pos a1]; exact Nat.le_trans (inOrd_len ..) (by omega)
  · rw [if_neg a1]
    by_cases a2 : nI 64 ≤ p - 192
    · rw [if_pos a2]; exact Nat.le_trans (inOrd_len ..) (by omega)
    · rw [if_neg a2]
      by_cases a3 : kch 0 (p - 192).toNatClampNeg = 95
      · rw [if_pos a3]; exact Nat.le_trans (inOrd_len ..) (by omega)
      · rw [if_neg a3]
        have e := (nI_eq (a := k) (b := 2) (by omega) (by omega)).mp (hk.symm.trans (oct2 a1 a2))
        have b1 := inOrd_len cap X (smA (kch 0 (p - 192).toNatClampNeg))
        exact Nat.le_trans (inOrd_len ..) (by omega)
theorem foldPt_cap {c1 c2 : Nat} {X : List Int32} {p : Int32} {k : Nat} (hk : octOf p = nI k) (h4 : k < 100) (h1 : X.length + k ≤ c1) (h2 : X.length + k ≤ c2) : foldPt c1 X p = foldPt c2 X p := by
  have h0 : 1 ≤ k := by
    obtain ⟨k', k1, k2, k3⟩ := octOf_r p
    have := (nI_eq (a := k) (b := k') (by omega) (by omega)).mp (hk.symm.trans k3)
    omega
  unfold foldPt
  by_cases a1 : p - 192 < 0
  · rw [if_pos a1, if_pos a1]; exact inOrd_cap (by omega) (by omega)
  · rw [if_neg a1, if_neg a1]
    by_cases a2 : nI 64 ≤ p - 192
    · rw [if_pos a2, if_pos a2]; exact inOrd_cap (by omega) (by omega)
    · rw [if_neg a2, if_neg a2]
      by_cases a3 : kch 0 (p - 192).toNatClampNeg = 95
      · rw [if_pos a3, if_pos a3]; exact inOrd_cap (by omega) (by omega)
      · rw [if_neg a3, if_neg a3]
        have e := (nI_eq (a := k) (b := 2) (by omega) (by omega)).mp (hk.symm.trans (oct2 a1 a2))
        rw [inOrd_cap (c1 := c1) (c2 := c2) (X := X) (by omega) (by omega)]
        have b1 := inOrd_len c2 X (smA (kch 0 (p - 192).toNatClampNeg))
        exact inOrd_cap (by omega) (by omega)
theorem fold_len {xs : List Int32} {to cap : Nat} (h1000 : to < 1000) : ∀ (n b : Nat) (acc : List Int32), to - b < n → wr xs to b = -1 → ((pts xs to b).foldl (foldPt cap) acc).length ≤ acc.length + (to - b)
  | 0, _, _, h, _ => by omega
  | n + 1, b, acc, h, hw => by
    by_cases ht : to ≤ b
    · rw [pts_end ht]; show acc.length ≤ _; omega
    · by_cases hp : ptC xs b to = -1
      · rw [wr_bad ht hp] at hw
        exact absurd (show nI b < 0 by rw [hw]; decide) (nI_pos (by omega))
      · obtain ⟨k, v, h3, hk, ho, hlt, hc⟩ := pt_oct hp
        rw [wr_go ht hp ho (by omega)] at hw
        rw [pts_go ht hp ho (by omega), List.foldl_cons]
        have e1 := fold_len (cap := cap) h1000 n (b + (k + 1)) (foldPt cap acc (ptC xs b to)) (by omega) hw
        have e2 := foldPt_len (cap := cap) (X := acc) ho (by omega)
        omega
theorem folds_len {xs : List Int32} (hl : xs.length < 1000) (h : wr xs xs.length 0 = -1) : (folds xs).length ≤ xs.length := by
  have := fold_len (cap := 400) hl (xs.length + 1) 0 [] (by omega) h
  simpa [folds] using this
theorem fold_cap {xs : List Int32} {to c1 c2 : Nat} (h1000 : to < 1000) : ∀ (n b : Nat) (acc : List Int32), to - b < n → wr xs to b = -1 → acc.length + (to - b) ≤ c1 → acc.length + (to - b) ≤ c2 → (pts xs to b).foldl (foldPt c1) acc = (pts xs to b).foldl (foldPt c2) acc := by
  intro n
  induction n with
  | zero => intro b acc h; omega
  | succ n ih =>
    intro b acc h hw u1 u2
    by_cases ht : to ≤ b
    · rw [pts_end ht, List.foldl_nil, List.foldl_nil]
    · by_cases hp : ptC xs b to = -1
      · rw [wr_bad ht hp] at hw
        exact absurd (show nI b < 0 by rw [hw]; decide) (nI_pos (by omega))
      · obtain ⟨k, v, h3, hk, ho, hlt, hc⟩ := pt_oct hp
        rw [wr_go ht hp ho (by omega)] at hw
        rw [pts_go ht hp ho (by omega), List.foldl_cons, List.foldl_cons, foldPt_cap (c1 := c1) (c2 := c2) ho (by omega) (by omega) (by omega)]
        have e2 := foldPt_len (cap := c2) (X := acc) ho (by omega)
        exact ih (b + (k + 1)) _ (by omega) hw (by omega) (by omega)
theorem octMore_c : ∀ n : Nat, n < 256 → 128 ≤ n → n ≤ 191 → octMore (nI n) = -1 := by decide +kernel
theorem conts_in {xs : List Int32} : ∀ (k j : Nat) (v u : Int32), j + k ≤ xs.length → conts (xs.drop j) k v = some u → ∀ q, q < k → ¬ xs.getD (j + q) 0 < 128 ∧ xs.getD (j + q) 0 ≤ 191
  | 0, _, _, _, _, _, q, hq => by omega
  | k + 1, j, v, u, hl, h, q, hq => by
    rw [conts_s (by omega)] at h
    by_cases h1 : xs.getD j 0 < 128
    · rw [if_pos h1] at h; cases h
    · rw [if_neg h1] at h
      by_cases h2 : xs.getD j 0 ≤ 191
      · rw [if_pos h2] at h
        by_cases e : q = 0
        · rw [e]; exact ⟨h1, h2⟩
        · have := conts_in k (j + 1) _ u (by omega) h (q - 1) (by omega)
          rw [show j + 1 + (q - 1) = j + q by omega] at this; exact this
      · rw [if_neg h2] at h; cases h
theorem pt_inner {xs : List Int32} (ho : Oct xs) {b to k q : Nat} {v u : Int32} (hl : to ≤ xs.length) (hb : b + k < to) (hc : conts (xs.drop (b + 1)) k v = some u) (hq : q < k) : ptC xs (b + 1 + q) to = -1 := by
  obtain ⟨h1, h2⟩ := conts_in k (b + 1) v u (by omega) hc q hq
  obtain ⟨n, n1, n2⟩ := ho (b + 1 + q) (by omega)
  rw [n2] at h1 h2
  have e1 : 128 ≤ n := Nat.not_lt.mp (fun h => h1 (nI_lt (a := n) (b := 128) h (by omega)))
  have e2 : n ≤ 191 := (nI_leI (a := n) (b := 191) (by omega) (by omega)).mp h2
  exact ref_m1 (by rw [n2]; exact octMore_c n n1 e1 e2)
theorem fldN_skip {cap : Nat} {ys : List Int32} {t : Nat} : ∀ (k i : Nat) (acc : List Int32), i + k ≤ t → (∀ q, q < k → ptC ys (i + q) t = -1) → fldN cap ys t (t - i) i acc = fldN cap ys t (t - (i + k)) (i + k) acc
  | 0, _, _, _, _ => rfl
  | k + 1, i, acc, h, hp => by
    rw [fldN_s (by omega), if_pos (show ptC ys i t = -1 from hp 0 (by omega)), fldN_skip k (i + 1) acc (by omega) (fun q hq => by have := hp (q + 1) (by omega); rw [show i + (q + 1) = i + 1 + q by omega] at this; exact this), show i + 1 + k = i + (k + 1) by omega]
/-- the class folds as the reference does -/
theorem fldN_pts {cap : Nat} {ys : List Int32} {t : Nat} (ho : Oct ys) (hl : t ≤ ys.length) (h1000 : t < 1000) : ∀ (n b : Nat) (acc : List Int32), t - b < n → wr ys t b = -1 → fldN cap ys t (t - b) b acc = (pts ys t b).foldl (foldPt cap) acc
  | 0, _, _, h, _ => by omega
  | n + 1, b, acc, h, hw => by
    by_cases ht : t ≤ b
    · rw [pts_end ht, show t - b = 0 by omega]; rfl
    · by_cases hp : ptC ys b t = -1
      · rw [wr_bad ht hp] at hw
        exact absurd (show nI b < 0 by rw [hw]; decide) (nI_pos (by omega))
      · obtain ⟨k, v, h3, hk, hoc, hlt, hc⟩ := pt_oct hp
        rw [wr_go ht hp hoc (by omega)] at hw
        rw [pts_go ht hp hoc (by omega), List.foldl_cons, fldN_s (by omega), if_neg hp, fldN_skip k (b + 1) _ (by omega) (fun q hq => pt_inner ho hl hlt hc hq), show b + 1 + k = b + (k + 1) by omega]
        exact fldN_pts ho hl h1000 n (b + (k + 1)) _ (by omega) hw
theorem fldN_all {cap : Nat} {ys : List Int32} (ho : Oct ys) (hl : ys.length ≤ cap) (hc : cap ≤ 400) (hw : wr ys ys.length 0 = -1) : fldN cap ys ys.length (ys.length - 0) 0 [] = folds ys := by
  rw [fldN_pts ho (Nat.le_refl _) (by omega) (ys.length + 1) 0 [] (by omega) hw]
  exact fold_cap (by omega) (ys.length + 1) 0 [] (by omega) hw (by simpa using hl) (by simp; omega)
/-- a piece of a text, as a text of its own -/
def pieceL (xs : List Int32) (f t : Nat) : List Int32 := (xs.drop f).take (t - f)
theorem piece_len {xs : List Int32} {f t : Nat} (h : t ≤ xs.length) : (pieceL xs f t).length = t - f := by unfold pieceL; rw [List.length_take, List.length_drop]; omega
theorem piece_get {xs : List Int32} {f t i : Nat} (hi : i < t - f) : (pieceL xs f t).getD i 0 = xs.getD (f + i) 0 := by
  unfold pieceL; rw [List.getD_eq_getElem?_getD, List.getElem?_take_of_lt hi, List.getElem?_drop, ← List.getD_eq_getElem?_getD]
theorem piece_oct {xs : List Int32} {f t : Nat} (ho : Oct xs) (h : t ≤ xs.length) : Oct (pieceL xs f t) := fun i hi => by
  rw [piece_len h] at hi
  rw [piece_get hi]; exact ho (f + i) (by omega)
theorem piece_all {xs : List Int32} : pieceL xs 0 xs.length = xs := by unfold pieceL; simp
theorem conts_eq {xs ys : List Int32} : ∀ (k j i : Nat) (v : Int32), j + k ≤ xs.length → i + k ≤ ys.length → (∀ q, q < k → xs.getD (j + q) 0 = ys.getD (i + q) 0) → conts (xs.drop j) k v = conts (ys.drop i) k v
  | 0, _, _, _, _, _, _ => by rw [conts_0, conts_0]
  | k + 1, j, i, v, h1, h2, h => by
    rw [conts_s (by omega), conts_s (by omega), show xs.getD j 0 = ys.getD i 0 from h 0 (by omega), conts_eq (xs := xs) (ys := ys) k (j + 1) (i + 1) _ (by omega) (by omega) (fun q hq => by have := h (q + 1) (by omega); rw [show j + (q + 1) = j + 1 + q by omega, show i + (q + 1) = i + 1 + q by omega] at this; exact this)]
theorem ptC_piece {xs : List Int32} {f t i : Nat} (h : t ≤ xs.length) (hi : i < t - f) : ptC xs (f + i) t = ptC (pieceL xs f t) i (t - f) := by
  have e := piece_get (xs := xs) hi
  unfold ptC
  rw [← e]
  by_cases hm : octMore ((pieceL xs f t).getD i 0) < 0
  · rw [if_pos hm, if_pos hm]
  · rw [if_neg hm, if_neg hm]
    generalize (octMore ((pieceL xs f t).getD i 0)).toNatClampNeg = k
    unfold ptK
    by_cases hk : t ≤ f + i + k
    · rw [if_pos hk, if_pos (by omega)]
    · rw [if_neg hk, if_neg (by omega), conts_eq (xs := xs) (ys := pieceL xs f t) k (f + i + 1) (i + 1) _ (by omega) (by rw [piece_len h]; omega) (fun q hq => by rw [piece_get (by omega), show f + i + 1 + q = f + (i + 1 + q) by omega])]
theorem wr_piece {xs : List Int32} {f t : Nat} (h : t ≤ xs.length) (h1000 : t < 1000) : ∀ (n i : Nat), t - f - i < n → (wr xs t (f + i) = -1 ↔ wr (pieceL xs f t) (t - f) i = -1) ∧ (wr xs t (f + i) = -1 → pts xs t (f + i) = pts (pieceL xs f t) (t - f) i)
  | 0, _, h => by omega
  | n + 1, i, hn => by
    by_cases ht : t - f ≤ i
    · rw [wr_end (show t ≤ f + i by omega), wr_end ht, pts_end (show t ≤ f + i by omega), pts_end ht]; exact ⟨Iff.rfl, fun _ => rfl⟩
    · have e := ptC_piece (xs := xs) (f := f) (t := t) (i := i) h (by omega)
      by_cases hp : ptC xs (f + i) t = -1
      · rw [wr_bad (by omega) hp, wr_bad ht (by rw [← e]; exact hp)]
        have n1 : ¬ nI (f + i) = -1 := fun q => nI_pos (n := f + i) (by omega) (by rw [q]; decide)
        have n2 : ¬ nI i = -1 := fun q => nI_pos (n := i) (by omega) (by rw [q]; decide)
        exact ⟨⟨fun q => absurd q n1, fun q => absurd q n2⟩, fun q => absurd q n1⟩
      · obtain ⟨k, v, h3, hk, hoc, hlt, hc⟩ := pt_oct hp
        rw [wr_go (by omega) hp hoc (by omega), wr_go ht (by rw [← e]; exact hp) (by rw [← e]; exact hoc) (by omega), pts_go (by omega) hp hoc (by omega), pts_go ht (by rw [← e]; exact hp) (by rw [← e]; exact hoc) (by omega), ← e, Nat.add_assoc]
        obtain ⟨r1, r2⟩ := wr_piece (f := f) h h1000 n (i + (k + 1)) (by omega)
        exact ⟨r1, fun q => by rw [r2 q]⟩
/-- foldInto of a piece that is right -/
theorem fldN_piece {cap : Nat} {xs : List Int32} {f t : Nat} (ho : Oct xs) (h : t ≤ xs.length) (hft : f ≤ t) (h1000 : t < 1000) (hcap : t - f ≤ cap) (hc : cap ≤ 400) (hw : wr xs t f = -1) : fldN cap xs t (t - f) f [] = folds (pieceL xs f t) := by
  obtain ⟨r1, r2⟩ := wr_piece (f := f) h h1000 (t - f + 1) 0 (by omega)
  have hl := piece_len (f := f) h
  rw [Nat.add_zero] at r1 r2
  rw [fldN_pts ho h h1000 (t - f + 1) f [] (by omega) hw, r2 hw]
  unfold folds
  rw [hl]
  exact fold_cap (by omega) (t - f + 1) 0 [] (by omega) (r1.mp hw) (by simpa using hcap) (by simp; omega)
theorem frF_r (T : Tre) : ∀ (n v : Nat), frF T n v = -1 ∨ ∃ u, v ≤ u ∧ u < v + n ∧ frF T n v = nI u ∧ T u = none
  | 0, _ => Or.inl rfl
  | n + 1, v => by
    cases h : T v with
    | none => exact Or.inr ⟨v, by omega, by omega, frF_n h, h⟩
    | some x =>
      rw [frF_s h]
      rcases frF_r T n (v + 1) with e | ⟨u, u1, u2, u3, u4⟩
      · exact Or.inl e
      · exact Or.inr ⟨u, by omega, by omega, u3, u4⟩
theorem frF_k {T : Tre} {r : Int32} (hr : r = frF T 200 0) (h : ¬ r < 0) : ∃ u, u < 200 ∧ r = nI u ∧ T u = none := by
  rcases frF_r T 200 0 with e | ⟨u, u1, u2, u3, u4⟩
  · exact absurd (by rw [hr, e]; decide) h
  · exact ⟨u, by omega, hr.trans u3, u4⟩
theorem nmOK_fl {xs : List Int32} (h : nmOK xs) : (folds xs).length ≤ 60 := Nat.le_trans (folds_len (by have := h.1; omega) h.2.2.2) h.1.2
theorem Ls.sm {F F' : Nat → Nat → Int32} {z z' : Nat → Int32} {ka kz cap : Nat} {xs : List Int32} {ks kzs : List Nat} (h : Ls F z ka kz cap xs) (h1 : SameF F F' ks) (h2 : SameZ z z' kzs) (n1 : ka ∉ ks) (n2 : kz ∉ kzs) : Ls F' z' ka kz cap xs := h.of (h1 ka n1) (h2 kz n2)
