section FNQ
variable {ex ex1 : Nat → Bool} {R R1 : Nat → Nat → List Int32} {N N1 : Nat → Nat → Int32} {T : Tre} {Bn : Nat → List Int32}
theorem upB_id {p : Nat} : upB Bn p (Bn p) = Bn := by
  funext k
  by_cases h : k = p
  · rw [h, upB_s]
  · rw [upB_n h]
theorem CT.opB (h : CT ex R N T Bn) {v : Nat} {n n1 : Nod} {f : Nod → Nod} (hT : T v = some n) (hf : f n = n1) (ho : ∀ k, k ≠ v → ex1 (k + 1) = ex (k + 1) ∧ (∀ i, i < 3 → N1 (k + 1) i = N (k + 1) i) ∧ ∀ j, rowJ 1 j → R1 (k + 1) j = R (k + 1) j)
    (h1 : ex1 (v + 1) = true ∧ N1 (v + 1) 0 = 1 ∧ N1 (v + 1) 1 = n1.1 ∧ N1 (v + 1) 2 = n1.2.1 ∧ R1 (v + 1) 1 = n1.2.2.1 ∧ R1 (v + 1) 3 = n1.2.2.2.1 ∧ R1 (v + 1) 5 = n1.2.2.2.2 ∧ R1 (v + 1) 7 = Bn v) : CT ex1 R1 N1 (opT T v f) Bn := by
  have := h.op (B := Bn v) hT hf ho h1
  rw [show (fun k => if k = v then Bn v else Bn k) = Bn from upB_id] at this
  exact this
theorem CT.bn (h : CT ex R N T Bn) {k : Nat} {n : Nod} {B : List Int32} (hT : T k = some n) (hs : SR R R1 [(k + 1, 7)]) (hB : R1 (k + 1) 7 = B) : CT ex R1 N T (upB Bn k B) := by
  refine ⟨h.1, fun u m hm => ?_⟩
  have e : ∀ j, j ≠ 7 → R1 (u + 1) j = R (u + 1) j := fun j hj => hs (u + 1) j (by simp; omega)
  obtain ⟨a1, a2, a3, a4, a5, a6, a7, a8, a9⟩ := h.2 u m hm
  refine ⟨a1, a2, a3, a4, a5, by rw [e 1 (by decide)]; exact a6, by rw [e 3 (by decide)]; exact a7, by rw [e 5 (by decide)]; exact a8, ?_⟩
  by_cases q : u = k
  · subst q; rw [upB_s]; exact hB
  · rw [upB_n q, hs (u + 1) 7 (by simp; omega)]; exact a9
/-- the own rows do not matter to what stands beside a node -/
theorem SR.oth {ks : List (Nat × Nat)} (hs : SR R R1 ks) {v : Nat} (hk : ∀ x ∈ ks, x.1 = v + 1 ∨ x.1 = 0) : ∀ k, k ≠ v → ∀ j, rowJ 1 j → R1 (k + 1) j = R (k + 1) j := fun k hkv j _ => hs (k + 1) j (fun q => by have := hk _ q; simp at this; omega)
theorem SR.own {ks : List (Nat × Nat)} (hs : SR R R1 ks) (hk : ∀ x ∈ ks, x.1 ≠ 0) : ∀ i, R1 0 i = R 0 i := fun i => hs 0 i (fun q => hk _ q rfl)
end FNQ
theorem opT_some {T : Tre} {k u : Nat} {f : Nod → Nod} {m : Nod} (h : T u = some m) : ∃ m2, opT T k f u = some m2 := by
  by_cases e : u = k
  · subst e; exact ⟨_, opT_s h⟩
  · exact ⟨m, by rw [opT_n e]; exact h⟩
theorem opT_isSome {T : Tre} {k u : Nat} {f : Nod → Nod} : (opT T k f u).isSome = (T u).isSome := by
  by_cases e : u = k
  · subst e
    cases h : T u with
    | none => unfold opT; rw [setT_s, h]; rfl
    | some n => rw [opT_s h]; rfl
  · rw [opT_n e]
theorem appT_some {T : Tre} {j k u : Nat} {m : Nod} (h : T u = some m) : ∃ m2, appT T j k u = some m2 := by
  obtain ⟨m1, h1⟩ := opT_some (k := j) (f := sP (nI k)) h
  exact opT_some h1
theorem cntF_c {T T2 : Tre} : ∀ n, (∀ u, u < n → (T2 u).isSome = (T u).isSome) → cntF T2 n = cntF T n
  | 0, _ => rfl
  | n + 1, h => by unfold cntF; rw [cntF_c n (fun u hu => h u (by omega)), h n (by omega)]
theorem cntF_op {T : Tre} {k n : Nat} {f : Nod → Nod} : cntF (opT T k f) n = cntF T n := cntF_c n (fun u _ => opT_isSome)
theorem cntF_new {T : Tre} {v : Nat} {x : Nod} (hT : T v = none) : ∀ n, v < n → cntF (setT T v (some x)) n = cntF T n + 1
  | 0, h => by omega
  | n + 1, h => by
    unfold cntF
    by_cases e : n = v
    · subst e
      rw [cntF_c n (fun u hu => by rw [setT_n (by omega)]), setT_s, hT, if_pos (by rfl), if_neg (by simp)]
    · rw [cntF_new hT n (by omega), setT_n e]; omega
theorem cntF_del {T : Tre} {v : Nat} {x : Nod} (hT : T v = some x) : ∀ n, v < n → cntF (setT T v none) n + 1 = cntF T n
  | 0, h => by omega
  | n + 1, h => by
    unfold cntF
    by_cases e : n = v
    · subst e
      rw [cntF_c n (fun u hu => by rw [setT_n (by omega)]), setT_s, hT, if_neg (by simp), if_pos (by rfl)]
    · rw [← cntF_del hT n (by omega), setT_n e]; omega
def sRemB (T : Tre) (Bn : Nat → List Int32) (v : Int32) : Nat → List Int32 := if sRemR T v < 0 then Bn else upB Bn (parN T v.toNatClampNeg) (rOut (Bn (parN T v.toNatClampNeg)) v)
/-- attach's list by names -/
def attB (T : Tre) (X : List Int32) (Bn : Nat → List Int32) (j k : Nat) : Nat → List Int32 := upB Bn k (rIns 40 (Bn k) (plB (appT T j k) X (Bn k)) (nI j))
def sPutB (T : Tre) (Bn : Nat → List Int32) (tp : List Int32) (d dr : Int32) : Nat → List Int32 := if sPutR T tp d < 0 then Bn else attB (setT T (sPutR T tp d).toNatClampNeg (some (dr, -1, tp, folds tp, []))) (folds tp) (upB Bn (sPutR T tp d).toNatClampNeg []) (sPutR T tp d).toNatClampNeg d.toNatClampNeg
def movB (T : Tre) (Bn : Nat → List Int32) (k d : Nat) (nm : List Int32) : Nat → List Int32 := attB (opT (detT T k) k (sN nm)) (folds nm) (upB Bn (parN T k) (rOut (Bn (parN T k)) (nI k))) k d
def sMovB (T : Tre) (Bn : Nat → List Int32) (tp : List Int32) (v d : Int32) : Nat → List Int32 := if sMovR T tp v d < 0 then Bn else movB T Bn v.toNatClampNeg d.toNatClampNeg (mvN T tp v)
theorem sRemB_f {T : Tre} {Bn : Nat → List Int32} {v c : Int32} (h : sRemR T v = c) (hc : c < 0) : sRemB T Bn v = Bn := by unfold sRemB; rw [h, if_pos hc]
theorem sPutB_f {T : Tre} {Bn : Nat → List Int32} {tp : List Int32} {d dr c : Int32} (h : sPutR T tp d = c) (hc : c < 0) : sPutB T Bn tp d dr = Bn := by unfold sPutB; rw [h, if_pos hc]
theorem sMovB_f {T : Tre} {Bn : Nat → List Int32} {tp : List Int32} {v d c : Int32} (h : sMovR T tp v d = c) (hc : c < 0) : sMovB T Bn tp v d = Bn := by unfold sMovB; rw [h, if_pos hc]
theorem sRemB_s {T : Tre} {Bn : Nat → List Int32} {k p : Nat} (h : sRemR T (nI k) = nI p) (hk : k < 200) (hp : p < 200) : sRemB T Bn (nI k) = upB Bn (parN T k) (rOut (Bn (parN T k)) (nI k)) := by
  unfold sRemB; rw [h, if_neg (nI_pos (by omega)), nI_clamp (by omega)]
theorem sPutB_s {T : Tre} {Bn : Nat → List Int32} {tp : List Int32} {k v : Nat} {dr : Int32} (h : sPutR T tp (nI k) = nI v) (hk : k < 200) (hv : v < 200) : sPutB T Bn tp (nI k) dr = attB (setT T v (some (dr, -1, tp, folds tp, []))) (folds tp) (upB Bn v []) v k := by
  unfold sPutB; rw [h, if_neg (nI_pos (by omega)), nI_clamp (by omega), nI_clamp (by omega)]
theorem sMovB_s {T : Tre} {Bn : Nat → List Int32} {tp : List Int32} {k d p : Nat} (h : sMovR T tp (nI k) (nI d) = nI p) (hk : k < 200) (hd : d < 200) (hp : p < 200) : sMovB T Bn tp (nI k) (nI d) = movB T Bn k d (mvN T tp (nI k)) := by
  unfold sMovB; rw [h, if_neg (nI_pos (by omega)), nI_clamp (by omega), nI_clamp (by omega)]
/-- the lists by names hold the entries, in order of the folded names -/
def SB (T : Tre) (Bn : Nat → List Int32) : Prop := ∀ k n, T k = some n → (Bn k).Perm n.2.2.2.2 ∧ (Bn k).Pairwise (fun x y => cmpL (folOf T x) (folOf T y) < 0)
theorem SB.len {T : Tre} {Bn : Nat → List Int32} (h : SB T Bn) {k : Nat} {n : Nod} (hT : T k = some n) : (Bn k).length = n.2.2.2.2.length := (h k n hT).1.length_eq
theorem SB.ent {T : Tre} {Bn : Nat → List Int32} (h : SB T Bn) (hI : TI T) {k : Nat} {n : Nod} (hT : T k = some n) : ∀ i, i < (Bn k).length → ∃ (j : Nat) (m : Nod), j < 200 ∧ (Bn k).getD i 0 = nI j ∧ T j = some m := fun i hi => by
  obtain ⟨j, m, a, -, b, c, -⟩ := (hI.2.1 k n hT).2.2.2.1 ((Bn k).getD i 0) ((h k n hT).1.mem_iff.mp (by rw [List.getD_eq_getElem?_getD, List.getElem?_eq_getElem hi]; exact List.getElem_mem hi))
  exact ⟨j, m, a, b, c⟩
