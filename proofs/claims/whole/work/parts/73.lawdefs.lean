/-! THE TREE OF EVERY RUN -/
theorem nmI_ok {xs : List Int32} (h : ¬ nmI xs = 0) : nmOK xs := Classical.byContradiction fun q => h (nmI_0 q)
theorem elk_m1 {T : Tre} (hI : TI T) {k : Nat} {n : Nod} (hT : T k = some n) {X : List Int32} {bt : Int32} (h : elk T X bt n.2.2.2.2 < 0) : elk T X bt n.2.2.2.2 = -1 := by
  rcases elk_r (T := T) (X := X) (bt := bt) (E := n.2.2.2.2) with e | ⟨e1, -, -⟩
  · exact e
  · obtain ⟨j, m, a, -, b, -⟩ := (hI.2.1 k n hT).2.2.2.1 _ e1
    rw [b] at h
    exact absurd h (nI_pos (by omega))
theorem sPut_ok {T : Tre} {Bn : Nat → List Int32} {tp : List Int32} {d dr : Int32} (hI : TI T) (hS : SB T Bn) (ho : Oct tp) : TI (sPutT T tp d dr) ∧ SB (sPutT T tp d dr) (sPutB T Bn tp d dr) := by
  by_cases hn : sPutR T tp d < 0
  · rw [sPutT_f rfl hn]
    unfold sPutB; rw [if_pos hn]; exact ⟨hI, hS⟩
  · obtain ⟨r, hr⟩ : ∃ r, r = sPutR T tp d := ⟨_, rfl⟩
    rw [← hr] at hn
    have hr2 := hr
    unfold sPutR at hr2
    by_cases h1 : noD T d = 1
    · rw [if_pos h1] at hr2; rw [hr2] at hn; exact absurd (by decide) hn
    · rw [if_neg h1] at hr2
      by_cases h2 : nmI tp = 0
      · rw [if_pos h2] at hr2; rw [hr2] at hn; exact absurd (by decide) hn
      · rw [if_neg h2] at hr2
        obtain ⟨k, n, hk, rfl, hT, -⟩ := noD_s h1
        rw [entsOf_n hk hT] at hr2
        by_cases h3 : elk T (folds tp) (-1) n.2.2.2.2 < 0
        · rw [if_neg (fun q => q h3)] at hr2
          by_cases h4 : frF T 200 0 < 0
          · rw [if_pos h4] at hr2; rw [hr2] at hn; exact absurd (by decide) hn
          · rw [if_neg h4] at hr2
            by_cases h5 : n.2.2.2.2.length = 40
            · rw [if_pos h5] at hr2; rw [hr2] at hn; exact absurd (by decide) hn
            · rw [if_neg h5] at hr2
              obtain ⟨u, hu, hru, hTu⟩ := frF_k hr2 hn
              have hR : sPutR T tp (nI k) = nI u := hr.symm.trans hru
              rw [sPutT_s hR hk hu, sPutB_s hR hk hu]
              exact put_ok hI hS hu hTu hT (nmI_ok h2) ho (by have := (hI.2.1 k n hT).2.1; omega) (elk_m1 hI hT h3)
        · rw [if_pos h3] at hr2; rw [hr2] at hn; exact absurd (by decide) hn
theorem sRem_ok {T : Tre} {Bn : Nat → List Int32} {v : Int32} (hI : TI T) (hS : SB T Bn) : TI (sRemT T v) ∧ SB (sRemT T v) (sRemB T Bn v) := by
  by_cases hn : sRemR T v < 0
  · unfold sRemT sRemB; rw [if_pos hn, if_pos hn]; exact ⟨hI, hS⟩
  · obtain ⟨r, hr⟩ : ∃ r, r = sRemR T v := ⟨_, rfl⟩
    rw [← hr] at hn
    have hr2 := hr
    unfold sRemR at hr2
    by_cases h0 : v = 0
    · rw [if_pos h0] at hr2; rw [hr2] at hn; exact absurd (by decide) hn
    · rw [if_neg h0] at hr2
      by_cases h1 : noN T v = 1
      · rw [if_pos h1] at hr2; rw [hr2] at hn; exact absurd (by decide) hn
      · rw [if_neg h1] at hr2
        obtain ⟨k, n, hk, rfl, hT⟩ := noN_s h1
        rw [entsOf_n hk hT, parOf_n hk hT] at hr2
        have hk0 : k ≠ 0 := fun q => h0 (by rw [q]; rfl)
        by_cases h2 : 0 < n.2.2.2.2.length
        · rw [if_pos h2] at hr2; rw [hr2] at hn; exact absurd (by decide) hn
        · rw [if_neg h2] at hr2
          obtain ⟨-, p, m, hp, hnp, hTp, -⟩ := hI.2.2.1 k n hT hk0
          have hR : sRemR T (nI k) = nI p := hr.symm.trans (hr2.trans hnp)
          rw [sRemT_s hR hk hp, sRemB_s hR hk hp]
          exact rem_ok hI hS hT hk0 hnp hp (List.length_eq_zero_iff.mp (by omega))
theorem sMov_ok {T : Tre} {Bn : Nat → List Int32} {tp : List Int32} {v d : Int32} (hI : TI T) (hS : SB T Bn) (ho : Oct tp) : (TI (sMovT T tp v d) ∧ SB (sMovT T tp v d) (sMovB T Bn tp v d)) ∧ cntF (sMovT T tp v d) 200 = cntF T 200 := by
  by_cases hn : sMovR T tp v d < 0
  · rw [sMovT_f rfl hn, sMovB_f rfl hn]; exact ⟨⟨hI, hS⟩, rfl⟩
  · obtain ⟨r, hr⟩ : ∃ r, r = sMovR T tp v d := ⟨_, rfl⟩
    rw [← hr] at hn
    have hr2 := hr
    unfold sMovR at hr2
    by_cases h0 : v = 0
    · rw [if_pos h0] at hr2; rw [hr2] at hn; exact absurd (by decide) hn
    · rw [if_neg h0] at hr2
      by_cases h1 : noN T v = 1
      · rw [if_pos h1] at hr2; rw [hr2] at hn; exact absurd (by decide) hn
      · rw [if_neg h1] at hr2
        by_cases h2 : noD T d = 1
        · rw [if_pos h2] at hr2; rw [hr2] at hn; exact absurd (by decide) hn
        · rw [if_neg h2] at hr2
          obtain ⟨k, n, hk, rfl, hT⟩ := noN_s h1
          obtain ⟨u, nu, hu, rfl, hTu, -⟩ := noD_s h2
          have hk0 : k ≠ 0 := fun q => h0 (by rw [q]; rfl)
          obtain ⟨⟨hok0, ho0, -⟩, p, m, hp, hnp, hTp, -⟩ := hI.2.2.1 k n hT hk0
          rw [entsOf_n hu hTu, parOf_n hk hT, nI_clamp (by omega), nI_clamp (by omega)] at hr2
          have hoN : Oct (mvN T tp (nI k)) := by
            unfold mvN
            by_cases e : tp.length = 0
            · rw [if_pos e, namOf_n hk hT]; exact ho0
            · rw [if_neg e]; exact ho
          by_cases h3 : nmI (mvN T tp (nI k)) = 0
          · rw [if_pos h3] at hr2; rw [hr2] at hn; exact absurd (by decide) hn
          · rw [if_neg h3] at hr2
            by_cases h4 : elk T (folds (mvN T tp (nI k))) (nI k) nu.2.2.2.2 < 0
            · rw [if_neg (fun q => q h4)] at hr2
              by_cases h5 : wF T k 200 u = 1
              · rw [if_pos h5] at hr2; rw [hr2] at hn; exact absurd (by decide) hn
              · rw [if_neg h5] at hr2
                by_cases h6 : ¬ n.2.1 = nI u ∧ nu.2.2.2.2.length = 40
                · rw [if_pos h6] at hr2; rw [hr2] at hn; exact absurd (by decide) hn
                · rw [if_neg h6] at hr2
                  have hR : sMovR T tp (nI k) (nI u) = nI p := hr.symm.trans (hr2.trans hnp)
                  rw [sMovT_s hR hk hu hp, sMovB_s hR hk hu hp]
                  have hl : p = u ∨ nu.2.2.2.2.length < 40 := by
                    by_cases e : p = u
                    · exact Or.inl e
                    · refine Or.inr ?_
                      have h40 := (hI.2.1 u nu hTu).2.1
                      have : ¬ nu.2.2.2.2.length = 40 := fun q => h6 ⟨fun z => e ((nI_eq (by omega) (by omega)).mp (hnp.symm.trans z)), q⟩
                      omega
                  exact ⟨mov_ok hI hS hT hk0 hnp hp hTu (nmI_ok h3) hoN ((wF_r T k 200 u).resolve_right h5) (elk_m1 hI hTu h4) hl, cntF_mov⟩
            · rw [if_pos h4] at hr2; rw [hr2] at hn; exact absurd (by decide) hn
/-! THE LAW'S STATE: the class at x, the reference at o, the long that the helpers write at ou -/
def LD (o ou : Nat) (a : Nat → Nat) : Nat → Prop := fun q => q ≠ o ∧ q ≠ ou ∧ ∀ k ∈ mdA, q ≠ a k
def LC (G : me_G) (B0 x o ou : Nat) (a : Nat → Nat) (w : Me) (T : Tre) (tp fo : List Int32) : Prop :=
  ∃ (ad : Nat → Nat → Nat) (ex : Nat → Bool) (R : Nat → Nat → List Int32) (N : Nat → Nat → Int32) (Bn : Nat → List Int32), ad 0 0 = x ∧ FN G B0 (LD o ou a) w ad ex R N (nI (cntF T 200)) ∧ CT ex R N T Bn ∧ SB T Bn ∧ R 0 1 = tp ∧ R 0 3 = fo
def LR (G : me_G) (B0 o : Nat) (a : Nat → Nat) (w : Me) (T : Tre) (tp fo : List Int32) : Prop :=
  ∃ (F : Nat → Nat → Int32) (z : Nat → Int32), MD G B0 w o a F z ∧ Ls F z 0 1 200 tp ∧ Ls F z 11 12 400 fo ∧ RT F T
def LO (G : me_G) (B0 o ou : Nat) (a : Nat → Nat) (w : Me) : Prop := (∃ f : Nat → Int64, w ou = some (eJ G 1 f)) ∧ B0 ≤ ou ∧ ou ≠ o ∧ ∀ k ∈ mdA, ou ≠ a k
def LSt (G : me_G) (B0 x o ou : Nat) (a : Nat → Nat) (w : Me) (T : Tre) (tp fo : List Int32) : Prop := LC G B0 x o ou a w T tp fo ∧ LR G B0 o a w T tp fo ∧ LO G B0 o ou a w ∧ TI T ∧ Oct tp
theorem LD.o {o ou : Nat} {a : Nat → Nat} : ¬ LD o ou a o := fun h => h.1 rfl
theorem LD.ou {o ou : Nat} {a : Nat → Nat} : ¬ LD o ou a ou := fun h => h.2.1 rfl
theorem LD.a {o ou : Nat} {a : Nat → Nat} {k : Nat} (hk : k ∈ mdA) : ¬ LD o ou a (a k) := fun h => h.2.2 k hk rfl
theorem MD.kp {G : me_G} {B : Nat} {w w1 : Me} {o : Nat} {a : Nat → Nat} {F : Nat → Nat → Int32} {z : Nat → Int32} (h : MD G B w o a F z) (h1 : w1 o = w o) (h2 : ∀ k ∈ mdA, w1 (a k) = w (a k)) : MD G B w1 o a F z :=
  ⟨by rw [h1]; exact h.1, fun k hk => by rw [h2 k hk]; exact h.2.1 k hk, h.2.2⟩
/-- the class has worked: the reference and the long are as they were -/
theorem LR.fd {G : me_G} {B0 o ou : Nat} {a : Nat → Nat} {w w1 : Me} {T : Tre} {tp fo : List Int32} (h : LR G B0 o a w T tp fo) (hf : FDr (LD o ou a) w w1) : LR G B0 o a w1 T tp fo := by
  obtain ⟨F, z, h1, h2⟩ := h
  exact ⟨F, z, h1.kp (hf o LD.o) (fun k hk => hf _ (LD.a hk)), h2⟩
theorem LO.fd {G : me_G} {B0 o ou : Nat} {a : Nat → Nat} {w w1 : Me} (h : LO G B0 o ou a w) (hf : FDr (LD o ou a) w w1) : LO G B0 o ou a w1 := by
  obtain ⟨⟨f, h1⟩, h2⟩ := h
  exact ⟨⟨f, by rw [hf ou LD.ou]; exact h1⟩, h2⟩
/-- the reference has worked: the class and the long are as they were -/
theorem LC.mf {G : me_G} {B0 x o ou : Nat} {a : Nat → Nat} {w w1 : Me} {T : Tre} {tp fo : List Int32} (h : LC G B0 x o ou a w T tp fo) (hf : MF w w1 o a) : LC G B0 x o ou a w1 T tp fo := by
  obtain ⟨ad, ex, R, N, Bn, h0, h1, h2⟩ := h
  exact ⟨ad, ex, R, N, Bn, h0, h1.mv (fun q hq => hf q hq.1 hq.2.2), h2⟩
theorem LO.mf {G : me_G} {B0 o ou : Nat} {a : Nat → Nat} {w w1 : Me} (h : LO G B0 o ou a w) (hf : MF w w1 o a) : LO G B0 o ou a w1 := by
  obtain ⟨⟨f, h1⟩, h2⟩ := h
  exact ⟨⟨f, by rw [hf ou h2.2.1 h2.2.2]; exact h1⟩, h2⟩
/-- the long has been written -/
theorem LC.wo {G : me_G} {B0 x o ou : Nat} {a : Nat → Nat} {w : Me} {T : Tre} {tp fo : List Int32} {e : va_E} (h : LC G B0 x o ou a w T tp fo) : LC G B0 x o ou a (me_u w ou e) T tp fo := by
  obtain ⟨ad, ex, R, N, Bn, h0, h1, h2⟩ := h
  exact ⟨ad, ex, R, N, Bn, h0, h1.mv (fun q hq => me_un hq.2.1), h2⟩
theorem LR.wo {G : me_G} {B0 o ou : Nat} {a : Nat → Nat} {w w0 : Me} {T : Tre} {tp fo : List Int32} {e : va_E} (h : LR G B0 o a w T tp fo) (ho : LO G B0 o ou a w0) : LR G B0 o a (me_u w ou e) T tp fo := by
  obtain ⟨F, z, h1, h2⟩ := h
  exact ⟨F, z, h1.kp (me_un (fun q => ho.2.2.1 q.symm)) (fun k hk => me_un (fun q => ho.2.2.2 k hk q.symm)), h2⟩
theorem LO.wo {G : me_G} {B0 o ou : Nat} {a : Nat → Nat} {w w0 : Me} {f : Nat → Int64} (ho : LO G B0 o ou a w0) : LO G B0 o ou a (me_u w ou (eJ G 1 f)) := ⟨⟨f, me_us _ _ _⟩, ho.2⟩
/-- whatever isn't the class's is there -/
theorem LSt.dn {G : me_G} {B0 x o ou : Nat} {a : Nat → Nat} {w : Me} {T : Tre} {tp fo : List Int32} (h : LSt G B0 x o ou a w T tp fo) : ∀ q, ¬ LD o ou a q → w q ≠ none := by
  intro q hq hw
  obtain ⟨F, z, h1, -⟩ := h.2.1
  obtain ⟨⟨f, h2⟩, -⟩ := h.2.2.1
  apply hq
  refine ⟨fun e => ?_, fun e => ?_, fun k hk e => ?_⟩
  · rw [e, h1.1] at hw; cases hw
  · rw [e, h2] at hw; cases hw
  · rw [e, h1.2.1 k hk] at hw; cases hw
theorem LC.x {G : me_G} {B0 x o ou : Nat} {a : Nat → Nat} {w : Me} {T : Tre} {tp fo : List Int32} (h : LC G B0 x o ou a w T tp fo) : ∃ fs : List Value, w x = some (eO 2 fs) := by
  obtain ⟨ad, ex, R, N, Bn, h0, h1, h2⟩ := h
  exact ⟨_, by rw [← h0]; exact h1.1⟩
theorem LR.o {G : me_G} {B0 o : Nat} {a : Nat → Nat} {w : Me} {T : Tre} {tp fo : List Int32} (h : LR G B0 o a w T tp fo) : ∃ fs : List Value, w o = some (eO 3 fs) := by
  obtain ⟨F, z, h1, -⟩ := h
  exact ⟨_, h1.1⟩
/-! numbers of the law -/
theorem and15 (x : Int32) : ∃ k : Nat, k < 16 ∧ x &&& 15 = nI k := by
  refine ⟨(x &&& 15).toBitVec.toNat, ?_, ?_⟩
  · rw [Int32.toBitVec_and, BitVec.toNat_and]
    exact Nat.lt_of_le_of_lt Nat.and_le_right (by decide)
  · apply Int32.toBitVec_inj.mp
    show (x &&& 15).toBitVec = BitVec.ofNat 32 _
    rw [BitVec.ofNat_toNat, BitVec.setWidth_eq]
theorem lt4 {L i : Nat} (hL : L ≤ 2048) (hi : i ≤ 2052) (h : ¬ nI L - 4 < nI i) : i + 4 ≤ L := by
  refine Classical.byContradiction fun q => h ?_
  rw [Int32.lt_iff_toInt_lt, Int32.toInt_sub]
  rw [show (nI L).toInt = (L : Int) from Int32.toInt_ofNat_of_lt (by omega), show (nI i).toInt = (i : Int) from Int32.toInt_ofNat_of_lt (by omega), show (4 : Int32).toInt = 4 by decide]
  have e : ((L : Int) - 4).bmod (2 ^ 32) = (L : Int) - 4 := Int.bmod_eq_of_le (by omega) (by omega)
  rw [e]; omega
