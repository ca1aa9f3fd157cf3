/-- as CtWV, where an array of nodes is made -/
abbrev CtWA (l : Launch) (y : MethodName) (cd : Cond) (rm : Room) (G : me_G) (B : Nat) (w : Me) (av : List Value) (post : Me → Prop) (mc ms : Nat) : Prop := Met l y (cd :: tbG) rm (va_Pc av (fun U => me_B G B w U ∧ va_AO RX1 U)) (va_Qv post (me_W G) (me_A B)) mc ms (me_A B)
section MEN
variable {p : Program} {l : Launch} {e : Env} {R : Room} {s : State} {m : MethodId} {args : Array Value} {below : List Frame} {meth : Method} {c : Code} {H : Heap} {locs : List Loc} {cells slots : Nat} {Q : State → Prop}
variable {cc : ByteArray} {pc : Nat} {ls : Array Slot} {rest : List Value} {G : me_G} {w : Me} {a B : Nat} {own : String}
theorem me_newN (C0 : Cx G B p s m args c cc own) (hP : me_P G.1 w H) (hS : va_S (me_A B) s.heap H locs) (hAO : va_AO RX1 s) {index : Nat} (hcl : Cond.classLink own index RX1 ∈ tbG) {n : Int32} {N : Nat} (hn : ¬ n < 0) (hN : n.toNatClampNeg = N) (hbytes : N * 4 ≤ 536870912) (hcells : cells + 1 ≤ R.cells) (hslots : slots + N ≤ R.slots) (hdg : decode cc pc = .ok (.anewarray index, 3))
    (kk : ∀ (q : Nat) (H : Heap), w q = none → B ≤ q → me_P G.1 (me_u w q (eN G N (fun _ => none))) H → va_S (me_A B) s.heap H locs → W p l e R s m args below meth c H locs (cells + 1) (slots + N) Q (F0 m (pc + 3) ls (.ref q :: rest))) : W p l e R s m args below meth c H locs cells slots Q (F0 m pc ls (.int n :: rest)) := by
  obtain ⟨hexec, hb, hown, hts, hK, hKq, hB9⟩ := C0
  subst hN
  refine W.anew hexec hb hown (hts _ hcl) (va_AO.use hAO) rfl hdg rfl hn hbytes hcells hslots fun cA kA comp f1 f2 f3 f4 => ?_
  generalize hH1 : H.push ({ cls := cA, slots := Array.replicate n.toNatClampNeg .null, vm := .none } : Cell) = H1
  have z1 : H1.size = H.size + 1 := by rw [← hH1, Array.size_push]
  have e1 : H1[H.size]? = some (arrV cA n.toNatClampNeg (fun _ => .null)) := by rw [← hH1, Array.getElem?_push_size, ← arrV_new]
  have o1 : ∀ q : Nat, q < H.size → H1[q]? = H[q]? := fun q hq => by rw [← hH1, Array.getElem?_push, if_neg (Nat.ne_of_lt hq)]
  obtain ⟨kA', comp', -, -, k3, k4⟩ := (hK.2 3 _ rfl).2
  have hc : cA = G.2.1.2.2.2 := by
    first
    | exact Option.some.inj (f4.symm.trans k4)
    | exact Option.some.inj (f1.symm.trans k4)
  subst hc
  refine kk H.size H1 (me_free hP) (Nat.le_trans hB9 hS.1) (me_grow hP ?_ o1) ⟨Nat.le_trans hS.1 (by omega), fun x h1 h2 => (o1 x (Nat.lt_of_lt_of_le h1 hS.1)).trans (hS.2.1 x h1 h2), hS.2.2⟩
  show H1[H.size]? = some (vp_cell _ _)
  rw [e1]; rfl
end MEN
theorem FN.reD {G : me_G} {B0 : Nat} {D D2 : Nat → Prop} {w : Me} {ad : Nat → Nat → Nat} {ex : Nat → Bool} {R : Nat → Nat → List Int32} {N : Nat → Nat → Int32} {cnt : Int32} (h : FN G B0 D w ad ex R N cnt) (hD : ∀ a j, ex a = true → usJ a j → D2 (ad a j)) : FN G B0 D2 w ad ex R N cnt :=
  ⟨h.1, h.2.1, h.2.2.1, h.2.2.2.1, h.2.2.2.2.1, h.2.2.2.2.2.1, fun a j ha hu => ⟨(h.2.2.2.2.2.2 a j ha hu).1, hD a j ha hu⟩⟩
theorem fn_init {G : me_G} {B0 : Nat} {w : Me} {o q1 b1 q2 b2 q3 b3 sl : Nat} {b : Nat → Nat} (hL : [o, q1, b1, q2, b2, q3, b3, sl].Nodup) (hB : ∀ x ∈ [o, q1, b1, q2, b2, q3, b3, sl], B0 ≤ x) (hLb : ∀ x ∈ [o, q1, b1, q2, b2, q3, b3, sl], ∀ j, j < 9 → x ≠ b j)
    (ho : w o = some (eO 2 [.ref q1, .ref q2, .ref q3, .ref sl, .int 1])) (h1 : Rw G w q1 b1 200 []) (h2 : Rw G w q2 b2 200 []) (h3 : Rw G w q3 b3 60 []) (hs : w sl = some (eN G 200 (va_up (fun _ => none) 0 (some (b 0))))) (hn : ND G B0 w b (fun _ => []) (fun i => if i = 0 then 1 else if i = 1 then 1 else -1)) :
    ∃ (ad : Nat → Nat → Nat) (ex : Nat → Bool) (R : Nat → Nat → List Int32) (N : Nat → Nat → Int32), ad 0 0 = o ∧ FN G B0 (fun _ => True) w ad ex R N 1 ∧ R 0 1 = [] ∧ R 0 3 = [] ∧ CT ex R N T0 (fun _ => []) := by
  obtain ⟨L, hLd⟩ : ∃ L : List Nat, L = [o, q1, b1, q2, b2, q3, b3, sl] := ⟨_, rfl⟩
  have hl : L.length = 8 := by rw [hLd]; rfl
  have hm : ∀ j, j < 8 → L.getD j 0 ∈ [o, q1, b1, q2, b2, q3, b3, sl] := fun j hj => by rw [← hLd]; exact mem_getD (by omega)
  have g0 : L.getD 0 0 = o := by rw [hLd]; rfl
  have g1 : L.getD 1 0 = q1 := by rw [hLd]; rfl
  have g2 : L.getD 2 0 = b1 := by rw [hLd]; rfl
  have g3 : L.getD 3 0 = q2 := by rw [hLd]; rfl
  have g4 : L.getD 4 0 = b2 := by rw [hLd]; rfl
  have g5 : L.getD 5 0 = q3 := by rw [hLd]; rfl
  have g6 : L.getD 6 0 = b3 := by rw [hLd]; rfl
  have g7 : L.getD 7 0 = sl := by rw [hLd]; rfl
  obtain ⟨ad, had⟩ : ∃ ad : Nat → Nat → Nat, ad = fun a j => if a = 0 then L.getD j 0 else b j := ⟨_, rfl⟩
  obtain ⟨ex, hex⟩ : ∃ ex : Nat → Bool, ex = fun a => decide (a ≤ 1) := ⟨_, rfl⟩
  have a0 : ∀ j, ad 0 j = L.getD j 0 := fun j => by rw [had]; rfl
  have a1 : ∀ a j, a ≠ 0 → ad a j = b j := fun a j ha => by rw [had]; exact if_neg ha
  have x1 : ∀ a, ex a = true ↔ a ≤ 1 := fun a => by rw [hex]; simp
  refine ⟨ad, ex, fun _ _ => [], fun _ i => if i = 0 then 1 else if i = 1 then 1 else -1, (a0 0).trans g0, ⟨?_, ⟨va_up (fun _ => none) 0 (some (b 0)), ?_, ?_⟩, ?_, ?_, (x1 0).mpr (by omega), ?_, ?_⟩, rfl, rfl, ?_, ?_⟩
  · rw [a0, a0, a0, a0, a0, g0, g1, g3, g5, g7]; exact ho
  · rw [a0, g7]; exact hs
  · intro k hk
    by_cases e : k = 0
    · subst e; rw [if_pos ((x1 1).mpr (by omega)), a1 1 0 (by omega)]; simp [va_up]
    · rw [if_neg (fun q => by have := (x1 (k + 1)).mp q; omega)]; simp [va_up, e]
  · intro k hk
    have e := (x1 (k + 1)).mp hk
    have e0 : k = 0 := by omega
    subst e0
    rw [a1 _ _ (by omega), a1 _ _ (by omega), a1 _ _ (by omega), a1 _ _ (by omega), a1 _ _ (by omega)]; exact hn.1
  · intro a j ha hj
    have e := (x1 a).mp ha
    cases a with
    | zero =>
      rcases hj with rfl | rfl | rfl
      · rw [a0, a0, g1]; show Rw G w q1 (L.getD 2 0) 200 []; rw [g2]; exact h1
      · rw [a0, a0, g3]; show Rw G w q2 (L.getD 4 0) 200 []; rw [g4]; exact h2
      · rw [a0, a0, g5]; show Rw G w q3 (L.getD 6 0) 60 []; rw [g6]; exact h3
    | succ a =>
      rw [a1 _ _ (by omega), a1 _ _ (by omega), capR_s]; exact hn.2.1 j hj
  · intro a j c i ha hc hu hv q
    have ea := (x1 a).mp ha
    have ec := (x1 c).mp hc
    have u1 := hu.1
    have v1 := hv.1
    by_cases z1 : a = 0
    · have u2 := hu.2 z1
      by_cases z2 : c = 0
      · have v2 := hv.2 z2
        subst z1; subst z2
        rw [a0, a0] at q
        exact ⟨rfl, nodup_getD (hLd ▸ hL) (by omega) (by omega) q⟩
      · subst z1
        rw [a0, a1 c i z2] at q
        exact absurd q (hLb _ (hm j u2) i v1)
    · by_cases z2 : c = 0
      · have v2 := hv.2 z2
        subst z2
        rw [a0, a1 a j z1] at q
        exact absurd q.symm (hLb _ (hm i v2) j u1)
      · rw [a1 a j z1, a1 c i z2] at q
        exact ⟨by omega, hn.2.2.1 j i u1 v1 q⟩
  · intro a j ha hu
    refine ⟨?_, trivial⟩
    by_cases z1 : a = 0
    · subst z1; rw [a0]; exact hB _ (hm j (hu.2 rfl))
    · rw [a1 a j z1]; exact hn.2.2.2 j hu.1
  · intro k hk hT hx
    have e := (x1 (k + 1)).mp hx
    have e0 : k = 0 := by omega
    subst e0; cases hT
  · intro k n hT
    unfold T0 at hT
    by_cases e : k = 0
    · rw [if_pos e] at hT; cases hT
      subst e
      exact ⟨by omega, (x1 1).mpr (by omega), rfl, rfl, rfl, rfl, rfl, rfl, rfl⟩
    · rw [if_neg e] at hT; cases hT
theorem SB0 : SB T0 (fun _ => []) := by
  intro k n hT
  unfold T0 at hT
  by_cases e : k = 0
  · rw [if_pos e] at hT; cases hT
    exact ⟨List.Perm.refl _, List.Pairwise.nil⟩
  · rw [if_neg e] at hT; cases hT
