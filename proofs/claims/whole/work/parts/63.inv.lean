/-! WHAT HOLDS OF THE TREE stays true. TJ T k: as TI, but node k is nobody's entry -/
theorem opT_inv {T : Tre} {k v : Nat} {f : Nod → Nod} {n1 : Nod} (h : opT T k f v = some n1) : ∃ n, T v = some n ∧ n1 = if v = k then f n else n := by
  by_cases e : v = k
  · subst e
    cases hT : T v with
    | none => unfold opT at h; rw [setT_s, hT] at h; cases h
    | some n => rw [opT_s hT] at h; cases h; exact ⟨n, rfl, by rw [if_pos rfl]⟩
  · rw [opT_n e] at h; exact ⟨n1, h, by rw [if_neg e]⟩
theorem opT_at {T : Tre} {k v : Nat} {f : Nod → Nod} {n : Nod} (h : T v = some n) : opT T k f v = some (if v = k then f n else n) := by
  by_cases e : v = k
  · subst e; rw [opT_s h, if_pos rfl]
  · rw [opT_n e, if_neg e]; exact h
theorem folOf_opT {T : Tre} {k : Nat} {f : Nod → Nod} (hf : ∀ n, (f n).2.2.2.1 = n.2.2.2.1) (e : Int32) : folOf (opT T k f) e = folOf T e := by
  unfold folOf
  cases hT : T e.toNatClampNeg with
  | none =>
    have : opT T k f e.toNatClampNeg = none := by
      by_cases q : e.toNatClampNeg = k
      · rw [q]; unfold opT; rw [setT_s, ← q, hT]; rfl
      · rw [opT_n q]; exact hT
    rw [this]
  | some n =>
    rw [opT_at hT]
    show (if e.toNatClampNeg = k then f n else n).2.2.2.1 = n.2.2.2.1
    split
    · exact hf n
    · rfl
def TJ (T : Tre) (k : Nat) : Prop :=
  (∃ rt : Nod, T 0 = some rt ∧ rt.1 = 1 ∧ rt.2.1 = -1 ∧ rt.2.2.1 = [] ∧ rt.2.2.2.1 = []) ∧
  (∀ v n, T v = some n → v < 200 ∧ n.2.2.2.2.length ≤ 40 ∧ n.2.2.2.2.Nodup ∧ (∀ e ∈ n.2.2.2.2, ∃ (j : Nat) (m : Nod), j < 200 ∧ j ≠ 0 ∧ j ≠ k ∧ e = nI j ∧ T j = some m ∧ m.2.1 = nI v) ∧ (∀ e1 ∈ n.2.2.2.2, ∀ e2 ∈ n.2.2.2.2, folOf T e1 = folOf T e2 → e1 = e2)) ∧
  (∀ v n, T v = some n → v ≠ 0 → (nmOK n.2.2.1 ∧ Oct n.2.2.1 ∧ n.2.2.2.1 = folds n.2.2.1) ∧ (v ≠ k → ∃ (p : Nat) (m : Nod), p < 200 ∧ n.2.1 = nI p ∧ T p = some m ∧ nI v ∈ m.2.2.2.2)) ∧
  (∃ dp : Nat → Nat, ∀ u n, T u = some n → u ≠ 0 → u ≠ k → ∃ (p : Nat) (m : Nod), p < 200 ∧ n.2.1 = nI p ∧ T p = some m ∧ dp p < dp u) ∧ k ≠ 0 ∧ k < 200
theorem rOut_mem {E : List Int32} {x e : Int32} : e ∈ rOut E x ↔ e ∈ E ∧ e ≠ x := by unfold rOut; simp
theorem TI.par {T : Tre} (h : TI T) {k : Nat} {n : Nod} (hT : T k = some n) (h0 : k ≠ 0) : ∃ (p : Nat) (m : Nod), p < 200 ∧ n.2.1 = nI p ∧ T p = some m ∧ nI k ∈ m.2.2.2.2 ∧ p ≠ k := by
  obtain ⟨-, p, m, p1, p2, p3, p4⟩ := h.2.2.1 k n hT h0
  obtain ⟨dp, hd⟩ := h.2.2.2
  obtain ⟨q, m2, q1, q2, q3, q4⟩ := hd k n hT h0
  have e := (nI_eq (a := p) (b := q) (by omega) (by omega)).mp (p2.symm.trans q2)
  exact ⟨p, m, p1, p2, p3, p4, fun x => by rw [← e, x] at q4; omega⟩
theorem TI.detJ {T : Tre} (h : TI T) {k : Nat} {nk : Nod} (hT : T k = some nk) (h0 : k ≠ 0) : TJ (detT T k) k := by
  obtain ⟨p, pm, p1, p2, p3, p4, p5⟩ := h.par hT h0
  have hk := (h.2.1 k nk hT).1
  rw [detT_e hT p2 p1]
  have hf : ∀ e, folOf (opT T p (rE (nI k))) e = folOf T e := folOf_opT (fun n => rfl)
  refine ⟨?_, fun v n1 hn1 => ?_, fun v n1 hn1 hv0 => ?_, ?_, h0, hk⟩
  · obtain ⟨rt, r1, r2, r3, r4, r5⟩ := h.1
    refine ⟨_, opT_at r1, ?_⟩
    by_cases e : 0 = p
    · rw [if_pos e]; exact ⟨r2, r3, r4, r5⟩
    · rw [if_neg e]; exact ⟨r2, r3, r4, r5⟩
  · obtain ⟨n, hn, rfl⟩ := opT_inv hn1
    obtain ⟨b1, b2, b3, b4, b5⟩ := h.2.1 v n hn
    have key : ∀ e ∈ n.2.2.2.2, e ≠ nI k → ∃ (j : Nat) (m : Nod), j < 200 ∧ j ≠ 0 ∧ j ≠ k ∧ e = nI j ∧ opT T p (rE (nI k)) j = some m ∧ m.2.1 = nI v := fun e he hek => by
      obtain ⟨j, m, j1, j2, j3, j4, j5⟩ := b4 e he
      refine ⟨j, _, j1, j2, fun q => hek (by rw [j3, q]), j3, opT_at j4, ?_⟩
      split
      · exact j5
      · exact j5
    by_cases e : v = p
    · rw [if_pos e]
      have hl : (rOut n.2.2.2.2 (nI k)).length ≤ n.2.2.2.2.length := List.length_filter_le _ _
      refine ⟨b1, Nat.le_trans hl b2, List.Pairwise.filter _ b3, fun x hx => ?_, fun x hx y hy q => ?_⟩
      · obtain ⟨x1, x2⟩ := rOut_mem.mp hx; exact key x x1 x2
      · rw [hf, hf] at q; exact b5 x (rOut_mem.mp hx).1 y (rOut_mem.mp hy).1 q
    · rw [if_neg e]
      refine ⟨b1, b2, b3, fun x hx => key x hx (fun q => ?_), fun x hx y hy q => ?_⟩
      · obtain ⟨j, m, j1, j2, j3, j4, j5⟩ := b4 x hx
        have hjk := (nI_eq (a := j) (b := k) (by omega) (by omega)).mp (j3.symm.trans q)
        rw [hjk, hT] at j4; cases j4
        exact e ((nI_eq (a := v) (b := p) (by omega) (by omega)).mp (j5.symm.trans p2))
      · rw [hf, hf] at q; exact b5 x hx y hy q
  · obtain ⟨n, hn, rfl⟩ := opT_inv hn1
    obtain ⟨a1, q, m, q1, q2, q3, q4⟩ := h.2.2.1 v n hn hv0
    refine ⟨by split <;> exact a1, fun hvk => ⟨q, _, q1, by split <;> exact q2, opT_at q3, ?_⟩⟩
    by_cases e : q = p
    · rw [if_pos e]; exact rOut_mem.mpr ⟨q4, fun x => hvk ((nI_eq (by have := (h.2.1 v n hn).1; omega) (by omega)).mp x)⟩
    · rw [if_neg e]; exact q4
  · obtain ⟨dp, hd⟩ := h.2.2.2
    refine ⟨dp, fun u n1 hn1 hu0 huk => ?_⟩
    obtain ⟨n, hn, rfl⟩ := opT_inv hn1
    obtain ⟨q, m, q1, q2, q3, q4⟩ := hd u n hn hu0
    exact ⟨q, _, q1, by split <;> exact q2, opT_at q3, q4⟩
theorem folOf_setT {T : Tre} {u : Nat} {on : Option Nod} {j : Nat} (hj : j < 200) (h : j ≠ u) : folOf (setT T u on) (nI j) = folOf T (nI j) := by
  unfold folOf; rw [nI_clamp (by omega), setT_n h]
theorem TI.newJ {T : Tre} (h : TI T) {u : Nat} (hu : u < 200) (hT : T u = none) {dr g : Int32} {nm : List Int32} (hn : nmOK nm) (ho : Oct nm) : TJ (setT T u (some (dr, g, nm, folds nm, []))) u := by
  have ne : ∀ v n, T v = some n → v ≠ u := fun v n hv q => by rw [q, hT] at hv; cases hv
  have u0 : u ≠ 0 := fun q => by obtain ⟨rt, r1, -⟩ := h.1; rw [q, r1] at hT; cases hT
  refine ⟨?_, fun v n hv => ?_, fun v n hv hv0 => ?_, ?_, u0, hu⟩
  · obtain ⟨rt, r1, r2⟩ := h.1
    exact ⟨rt, (setT_n (ne 0 rt r1)).trans r1, r2⟩
  · by_cases e : v = u
    · subst e; rw [setT_s] at hv; cases hv
      exact ⟨hu, Nat.zero_le _, List.nodup_nil, (fun e he => absurd he List.not_mem_nil), (fun e he => absurd he List.not_mem_nil)⟩
    · rw [setT_n e] at hv
      obtain ⟨b1, b2, b3, b4, b5⟩ := h.2.1 v n hv
      refine ⟨b1, b2, b3, fun x hx => ?_, fun x hx y hy q => ?_⟩
      · obtain ⟨j, m, j1, j2, j3, j4, j5⟩ := b4 x hx
        exact ⟨j, m, j1, j2, ne j m j4, j3, (setT_n (ne j m j4)).trans j4, j5⟩
      · obtain ⟨j, m, j1, j2, j3, j4, j5⟩ := b4 x hx
        obtain ⟨i, m2, i1, i2, i3, i4, i5⟩ := b4 y hy
        rw [j3, i3, folOf_setT j1 (ne j m j4), folOf_setT i1 (ne i m2 i4), ← j3, ← i3] at q
        exact b5 x hx y hy q
  · by_cases e : v = u
    · subst e; rw [setT_s] at hv; cases hv
      exact ⟨⟨hn, ho, rfl⟩, fun q => absurd rfl q⟩
    · rw [setT_n e] at hv
      obtain ⟨a1, p, m, p1, p2, p3, p4⟩ := h.2.2.1 v n hv hv0
      exact ⟨a1, fun _ => ⟨p, m, p1, p2, (setT_n (ne p m p3)).trans p3, p4⟩⟩
  · obtain ⟨dp, hd⟩ := h.2.2.2
    refine ⟨dp, fun v n hv hv0 hvu => ?_⟩
    rw [setT_n hvu] at hv
    obtain ⟨p, m, p1, p2, p3, p4⟩ := hd v n hv hv0
    exact ⟨p, m, p1, p2, (setT_n (ne p m p3)).trans p3, p4⟩
theorem TJ.nam {T : Tre} {k : Nat} {nk : Nod} (h : TJ T k) (hT : T k = some nk) {nm : List Int32} (hn : nmOK nm) (ho : Oct nm) : TJ (opT T k (sN nm)) k := by
  have fj : ∀ j, j < 200 → j ≠ k → folOf (opT T k (sN nm)) (nI j) = folOf T (nI j) := fun j hj hjk => by rw [opT_e hT]; exact folOf_setT hj hjk
  refine ⟨?_, fun v n1 hn1 => ?_, fun v n1 hn1 hv0 => ?_, ?_, h.2.2.2.2⟩
  · obtain ⟨rt, r1, r2⟩ := h.1
    exact ⟨rt, (opT_n (Ne.symm h.2.2.2.2.1)).trans r1, r2⟩
  · obtain ⟨n, hn2, rfl⟩ := opT_inv hn1
    obtain ⟨b1, b2, b3, b4, b5⟩ := h.2.1 v n hn2
    have ee : (if v = k then sN nm n else n).2.2.2.2 = n.2.2.2.2 := by split <;> rfl
    rw [ee]
    refine ⟨b1, b2, b3, fun x hx => ?_, fun x hx y hy q => ?_⟩
    · obtain ⟨j, m, j1, j2, jk, j3, j4, j5⟩ := b4 x hx
      exact ⟨j, m, j1, j2, jk, j3, (opT_n jk).trans j4, j5⟩
    · obtain ⟨j, m, j1, j2, jk, j3, j4, j5⟩ := b4 x hx
      obtain ⟨i, m2, i1, i2, ik, i3, i4, i5⟩ := b4 y hy
      rw [j3, i3, fj j j1 jk, fj i i1 ik, ← j3, ← i3] at q
      exact b5 x hx y hy q
  · obtain ⟨n, hn2, rfl⟩ := opT_inv hn1
    obtain ⟨a1, a2⟩ := h.2.2.1 v n hn2 hv0
    by_cases e : v = k
    · rw [if_pos e]; exact ⟨⟨hn, ho, rfl⟩, fun q => absurd e q⟩
    · rw [if_neg e]
      refine ⟨a1, fun hvk => ?_⟩
      obtain ⟨p, m, p1, p2, p3, p4⟩ := a2 hvk
      refine ⟨p, _, p1, p2, opT_at p3, ?_⟩
      split
      · exact p4
      · exact p4
  · obtain ⟨dp, hd⟩ := h.2.2.2.1
    refine ⟨dp, fun u n1 hn1 hu0 huk => ?_⟩
    rw [opT_n huk] at hn1
    obtain ⟨p, m, p1, p2, p3, p4⟩ := hd u n1 hn1 hu0 huk
    exact ⟨p, _, p1, p2, opT_at p3, p4⟩
theorem TJ.del {T : Tre} {k : Nat} {nk : Nod} (h : TJ T k) (hT : T k = some nk) (he : nk.2.2.2.2 = []) : TI (setT T k none) := by
  have ne : ∀ v n, setT T k none v = some n → v ≠ k ∧ T v = some n := fun v n hv => by
    by_cases e : v = k
    · subst e; rw [setT_s] at hv; cases hv
    · rw [setT_n e] at hv; exact ⟨e, hv⟩
  have pk : ∀ v n p m, T v = some n → v ≠ 0 → v ≠ k → n.2.1 = nI p → p < 200 → T p = some m → p ≠ k := fun v n p m hv hv0 hvk hp hp2 hm q => by
    obtain ⟨-, a2⟩ := h.2.2.1 v n hv hv0
    obtain ⟨p', m', q1, q2, q3, q4⟩ := a2 hvk
    have := (nI_eq (a := p) (b := p') (by omega) (by omega)).mp (hp.symm.trans q2)
    rw [← this, q, hT] at q3; cases q3
    rw [he] at q4; exact absurd q4 List.not_mem_nil
  refine ⟨?_, fun v n hv => ?_, fun v n hv hv0 => ?_, ?_⟩
  · obtain ⟨rt, r1, r2⟩ := h.1
    exact ⟨rt, (setT_n (Ne.symm h.2.2.2.2.1)).trans r1, r2⟩
  · obtain ⟨e, hv⟩ := ne v n hv
    obtain ⟨b1, b2, b3, b4, b5⟩ := h.2.1 v n hv
    refine ⟨b1, b2, b3, fun x hx => ?_, fun x hx y hy q => ?_⟩
    · obtain ⟨j, m, j1, j2, jk, j3, j4, j5⟩ := b4 x hx
      exact ⟨j, m, j1, j2, j3, (setT_n jk).trans j4, j5⟩
    · obtain ⟨j, m, j1, j2, jk, j3, j4, j5⟩ := b4 x hx
      obtain ⟨i, m2, i1, i2, ik, i3, i4, i5⟩ := b4 y hy
      rw [j3, i3, folOf_setT j1 jk, folOf_setT i1 ik, ← j3, ← i3] at q
      exact b5 x hx y hy q
  · obtain ⟨e, hv⟩ := ne v n hv
    obtain ⟨a1, a2⟩ := h.2.2.1 v n hv hv0
    obtain ⟨p, m, p1, p2, p3, p4⟩ := a2 e
    exact ⟨a1, p, m, p1, p2, (setT_n (pk v n p m hv hv0 e p2 p1 p3)).trans p3, p4⟩
  · obtain ⟨dp, hd⟩ := h.2.2.2.1
    refine ⟨dp, fun v n hv hv0 => ?_⟩
    obtain ⟨e, hv⟩ := ne v n hv
    obtain ⟨p, m, p1, p2, p3, p4⟩ := hd v n hv hv0 e
    exact ⟨p, m, p1, p2, (setT_n (pk v n p m hv hv0 e p2 p1 p3)).trans p3, p4⟩
