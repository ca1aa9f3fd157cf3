/-! CHANGES OF THE TREE, one node at a time -/
def setT (T : Tre) (v : Nat) (on : Option Nod) : Tre := fun u => if u = v then on else T u
theorem setT_s {T : Tre} {v : Nat} {on : Option Nod} : setT T v on v = on := if_pos rfl
theorem setT_n {T : Tre} {v u : Nat} {on : Option Nod} (h : u ≠ v) : setT T v on u = T u := if_neg h
theorem setT_2 {T : Tre} {v : Nat} {a b : Option Nod} : setT (setT T v a) v b = setT T v b := by
  funext u
  by_cases h : u = v
  · rw [h, setT_s, setT_s]
  · rw [setT_n h, setT_n h, setT_n h]
def aE (x : Int32) (n : Nod) : Nod := (n.1, n.2.1, n.2.2.1, n.2.2.2.1, n.2.2.2.2 ++ [x])
def rE (x : Int32) (n : Nod) : Nod := (n.1, n.2.1, n.2.2.1, n.2.2.2.1, rOut n.2.2.2.2 x)
def sN (nm : List Int32) (n : Nod) : Nod := (n.1, n.2.1, nm, folds nm, n.2.2.2.2)
def sP (p : Int32) (n : Nod) : Nod := (n.1, p, n.2.2)
def opT (T : Tre) (k : Nat) (f : Nod → Nod) : Tre := setT T k ((T k).map f)
theorem opT_e {T : Tre} {k : Nat} {n : Nod} {f : Nod → Nod} (h : T k = some n) : opT T k f = setT T k (some (f n)) := by unfold opT; rw [h]; rfl
theorem opT_s {T : Tre} {k : Nat} {n : Nod} {f : Nod → Nod} (h : T k = some n) : opT T k f k = some (f n) := by rw [opT_e h, setT_s]
theorem opT_n {T : Tre} {k u : Nat} {f : Nod → Nod} (h : u ≠ k) : opT T k f u = T u := by unfold opT; rw [setT_n h]
def detT (T : Tre) (v : Nat) : Tre := opT T (parN T v) (rE (nI v))
def appT (T : Tre) (v k : Nat) : Tre := opT (opT T v (sP (nI k))) k (aE (nI v))
def putT (T : Tre) (v k : Nat) (dr : Int32) (nm : List Int32) : Tre := appT (setT T v (some (dr, 0, nm, folds nm, []))) v k
def movT (T : Tre) (v k : Nat) (nm : List Int32) : Tre := appT (opT (detT T v) v (sN nm)) v k
def remT (T : Tre) (v : Nat) : Tre := setT (detT T v) v none
theorem putT_g {T : Tre} {v k : Nat} {dr g : Int32} {nm : List Int32} : appT (setT T v (some (dr, g, nm, folds nm, []))) v k = putT T v k dr nm := by
  unfold putT appT
  rw [opT_e (n := (dr, g, nm, folds nm, [])) setT_s, opT_e (n := (dr, 0, nm, folds nm, [])) setT_s, setT_2, setT_2]
  rfl
/-- what stands beside node v is as it was -/
def OthF (F F' : Nat → Nat → Int32) (v : Nat) : Prop := ∀ u, u < 200 → u ≠ v → (∀ k ∈ [2, 3, 4, 6, 8, 10], F' k u = F k u) ∧ (∀ i, i < 60 → F' 5 (60 * u + i) = F 5 (60 * u + i)) ∧ (∀ i, i < 60 → F' 7 (60 * u + i) = F 7 (60 * u + i)) ∧ (∀ i, i < 40 → F' 9 (40 * u + i) = F 9 (40 * u + i))
theorem NodF.oth {F F' : Nat → Nat → Int32} {u v : Nat} {n : Nod} (h : NodF F u n) (ho : OthF F F' v) (hu : u < 200) (hn : u ≠ v) : NodF F' u n := by
  obtain ⟨o1, o2, o3, o4⟩ := ho u hu hn
  obtain ⟨a1, a2, a3, ⟨b1, b2, b3⟩, ⟨c1, c2, c3⟩, d1, d2, d3⟩ := h
  refine ⟨(o1 2 (by decide)).trans a1, (o1 3 (by decide)).trans a2, (o1 4 (by decide)).trans a3, ⟨(o1 6 (by decide)).trans b1, b2, fun i hi => (o2 i (by omega)).trans (b3 i hi)⟩, ⟨(o1 8 (by decide)).trans c1, c2, fun i hi => (o3 i (by omega)).trans (c3 i hi)⟩, (o1 10 (by decide)).trans d1, d2, fun i hi => (o4 i (by omega)).trans (d3 i hi)⟩
theorem RT.set {F F' : Nat → Nat → Int32} {T : Tre} {v : Nat} {on : Option Nod} (h : RT F T) (ho : OthF F F' v) (hv : v < 200) (h0 : on = none → F' 2 v = 0) (h1 : ∀ n, on = some n → NodF F' v n) : RT F' (setT T v on) := by
  refine ⟨fun u hu hn => ?_, fun u n hn => ?_⟩
  · by_cases e : u = v
    · subst e; rw [setT_s] at hn; exact h0 hn
    · rw [setT_n e] at hn; rw [(ho u hu e).1 2 (by decide)]; exact h.1 u hu hn
  · by_cases e : u = v
    · subst e; rw [setT_s] at hn; exact ⟨hv, h1 n hn⟩
    · rw [setT_n e] at hn; exact ⟨(h.2 u n hn).1, (h.2 u n hn).2.oth ho (h.2 u n hn).1 e⟩
theorem rOut_at {E : List Int32} {x : Int32} {t : Nat} (hn : E.Nodup) (ht : t < E.length) (hx : E.getD t 0 = x) : rOut E x = E.take t ++ E.drop (t + 1) := by
  have e : E = E.take t ++ x :: E.drop (t + 1) := by
    conv => lhs; rw [← List.take_append_drop t E]
    rw [drop_c ht, hx]
  have hn2 := hn
  rw [e, List.nodup_append] at hn2
  obtain ⟨-, h2, h3⟩ := hn2
  have hx1 : ∀ y ∈ E.take t, y ≠ x := fun y hy => h3 y hy x (List.mem_cons_self ..)
  have hx2 : ∀ y ∈ E.drop (t + 1), y ≠ x := fun y hy q => (List.nodup_cons.mp h2).1 (q ▸ hy)
  unfold rOut
  conv => lhs; rw [e]
  rw [List.filter_append, List.filter_cons_of_neg (by simp)]
  rw [List.filter_eq_self.mpr (fun y hy => by simpa using hx1 y hy), List.filter_eq_self.mpr (fun y hy => by simpa using hx2 y hy)]
theorem rOut_l {E : List Int32} {x : Int32} {t : Nat} (hn : E.Nodup) (ht : t < E.length) (hx : E.getD t 0 = x) : (rOut E x).length = E.length - 1 := by
  rw [rOut_at hn ht hx, List.length_append, List.length_take, List.length_drop]; omega
theorem rOut_g {E : List Int32} {x : Int32} {t : Nat} (hn : E.Nodup) (ht : t < E.length) (hx : E.getD t 0 = x) {q : Nat} : (rOut E x).getD q 0 = if q < t then E.getD q 0 else E.getD (q + 1) 0 := by
  rw [rOut_at hn ht hx, List.getD_eq_getElem?_getD]
  have hl : (E.take t).length = t := by rw [List.length_take]; omega
  by_cases h : q < t
  · rw [if_pos h, List.getElem?_append_left (by omega), List.getElem?_take_of_lt h, ← List.getD_eq_getElem?_getD]
  · rw [if_neg h, List.getElem?_append_right (by omega), hl, List.getElem?_drop, show t + 1 + (q - t) = q + 1 by omega, ← List.getD_eq_getElem?_getD]
theorem RT.det {F F' : Nat → Nat → Int32} {T : Tre} {j k t : Nat} {nk : Nod} {E : List Int32} (h : RT F T) (hTk : T k = some nk) (hEd : nk.2.2.2.2 = E) (hn : E.Nodup) (ht : t < E.length) (htj : E.getD t 0 = nI j)
    (hs : SameF F F' [9, 10]) (h10 : F' 10 = upd (F 10) k (nI (E.length - 1))) (h9 : ∀ q, q < E.length - 1 → F' 9 (40 * k + q) = if q < t then E.getD q 0 else E.getD (q + 1) 0) (h9o : ∀ q, q < 40 * k ∨ 40 * k + 40 ≤ q → F' 9 q = F 9 q) : RT F' (opT T k (rE (nI j))) := by
  rw [opT_e hTk]
  obtain ⟨hk, a1, a2, a3, ⟨b1, b2, b3⟩, ⟨c1, c2, c3⟩, d1, d2, d3⟩ := h.2 k nk hTk
  rw [hEd] at d1 d2 d3
  refine h.set (fun u hu hne => ⟨fun i hi => ?_, fun i hi => by rw [hs 5 (by decide)], fun i hi => by rw [hs 7 (by decide)], fun i hi => h9o _ (by omega)⟩) hk (fun q => by cases q) (fun n q => ?_)
  · simp only [List.mem_cons, List.not_mem_nil, or_false] at hi
    rcases hi with rfl | rfl | rfl | rfl | rfl | rfl
    · rw [hs 2 (by decide)]
    · rw [hs 3 (by decide)]
    · rw [hs 4 (by decide)]
    · rw [hs 6 (by decide)]
    · rw [hs 8 (by decide)]
    · rw [h10, upd_ne hne]
  · cases q
    have hl : (rOut nk.2.2.2.2 (nI j)).length = E.length - 1 := by rw [hEd]; exact rOut_l hn ht htj
    refine ⟨?_, ?_, ?_, ⟨?_, b2, ?_⟩, ⟨?_, c2, ?_⟩, ?_, ?_, ?_⟩
    · rw [hs 2 (by decide)]; exact a1
    · rw [hs 3 (by decide)]; exact a2
    · rw [hs 4 (by decide)]; exact a3
    · rw [hs 6 (by decide)]; exact b1
    · rw [hs 5 (by decide)]; exact b3
    · rw [hs 8 (by decide)]; exact c1
    · rw [hs 7 (by decide)]; exact c3
    · show F' 10 k = nI (rOut nk.2.2.2.2 (nI j)).length
      rw [h10, upd_eq, hl]
    · show (rOut nk.2.2.2.2 (nI j)).length ≤ 40
      rw [hl]; omega
    · show ∀ i, i < (rOut nk.2.2.2.2 (nI j)).length → F' 9 (40 * k + i) = (rOut nk.2.2.2.2 (nI j)).getD i 0
      intro i hi
      rw [hl] at hi
      rw [h9 i hi, hEd, rOut_g hn ht htj]
theorem RT.nam {F F' : Nat → Nat → Int32} {T : Tre} {k : Nat} {n : Nod} {Hd X : List Int32} (h : RT F T) (hTk : T k = some n) (hH6 : Hd.length ≤ 60) (hX : X = folds Hd) (hX6 : X.length ≤ 60)
    (hs : SameF F F' [5, 6, 7, 8]) (h6 : F' 6 = upd (F 6) k (nI Hd.length)) (h8 : F' 8 = upd (F 8) k (nI X.length)) (h5 : ∀ i, i < Hd.length → F' 5 (60 * k + i) = Hd.getD i 0) (h5o : ∀ q, q < 60 * k ∨ 60 * k + 60 ≤ q → F' 5 q = F 5 q) (h7 : ∀ i, i < X.length → F' 7 (60 * k + i) = X.getD i 0) (h7o : ∀ q, q < 60 * k ∨ 60 * k + 60 ≤ q → F' 7 q = F 7 q) : RT F' (opT T k (sN Hd)) := by
  rw [opT_e hTk]
  obtain ⟨hk, a1, a2, a3, -, -, d1, d2, d3⟩ := h.2 k n hTk
  subst hX
  refine h.set (fun u hu hne => ⟨fun i hi => ?_, fun i hi => h5o _ (by omega), fun i hi => h7o _ (by omega), fun i hi => by rw [hs 9 (by decide)]⟩) hk (fun q => by cases q) (fun m q => ?_)
  · simp only [List.mem_cons, List.not_mem_nil, or_false] at hi
    rcases hi with rfl | rfl | rfl | rfl | rfl | rfl
    · rw [hs 2 (by decide)]
    · rw [hs 3 (by decide)]
    · rw [hs 4 (by decide)]
    · rw [h6, upd_ne hne]
    · rw [h8, upd_ne hne]
    · rw [hs 10 (by decide)]
  · cases q
    refine ⟨?_, ?_, ?_, ⟨?_, hH6, h5⟩, ⟨?_, hX6, h7⟩, ?_, d2, ?_⟩
    · rw [hs 2 (by decide)]; exact a1
    · rw [hs 3 (by decide)]; exact a2
    · rw [hs 4 (by decide)]; exact a3
    · rw [h6, upd_eq]; rfl
    · rw [h8, upd_eq]; rfl
    · rw [hs 10 (by decide)]; exact d1
    · rw [hs 9 (by decide)]; exact d3
theorem RT.app {F F' : Nat → Nat → Int32} {T : Tre} {j k e0 : Nat} {nj nk : Nod} (h : RT F T) (hTj : T j = some nj) (hTk : T k = some nk) (hjk : j ≠ k) (he0 : nk.2.2.2.2.length = e0) (he : e0 < 40)
    (hs : SameF F F' [4, 9, 10]) (h4 : F' 4 = upd (F 4) j (nI k)) (h9 : F' 9 = upd (F 9) (40 * k + e0) (nI j)) (h10 : F' 10 = upd (F 10) k (nI (e0 + 1))) : RT F' (appT T j k) := by
  obtain ⟨F1, hF1⟩ : ∃ F1, F1 = uF F 4 (upd (F 4) j (nI k)) := ⟨_, rfl⟩
  have e4 : F1 4 = upd (F 4) j (nI k) := by rw [hF1, uF_s]
  have en : ∀ i, i ≠ 4 → F1 i = F i := fun i hi => by rw [hF1, uF_n hi]
  have h1 : RT F1 (opT T j (sP (nI k))) := by
    rw [opT_e hTj]
    obtain ⟨hj, a1, a2, a3, b, c, d⟩ := h.2 j nj hTj
    refine h.set (fun u hu hne => ⟨fun i hi => ?_, fun i hi => by rw [en 5 (by decide)], fun i hi => by rw [en 7 (by decide)], fun i hi => by rw [en 9 (by decide)]⟩) hj (fun q => by cases q) (fun m q => ?_)
    · by_cases e : i = 4
      · rw [e, e4, upd_ne hne]
      · rw [en i e]
    · cases q
      unfold NodF
      rw [en 2 (by decide), en 3 (by decide), e4, upd_eq, en 5 (by decide), en 6 (by decide), en 7 (by decide), en 8 (by decide), en 9 (by decide), en 10 (by decide)]
      exact ⟨a1, a2, rfl, b, c, d⟩
  have hTk1 : opT T j (sP (nI k)) k = some nk := by rw [opT_n (Ne.symm hjk)]; exact hTk
  unfold appT
  rw [opT_e hTk1]
  obtain ⟨hk, a1, a2, a3, b, c, d1, d2, d3⟩ := h1.2 k nk hTk1
  have es : ∀ i, i ≠ 9 → i ≠ 10 → F' i = F1 i := fun i i9 i10 => by
    by_cases e : i = 4
    · rw [e, e4, h4]
    · rw [en i e]; exact hs i (by simp; omega)
  refine h1.set (fun u hu hne => ⟨fun i hi => ?_, fun i hi => by rw [es 5 (by decide) (by decide)], fun i hi => by rw [es 7 (by decide) (by decide)], fun i hi => by rw [h9, upd_ne (by omega), en 9 (by decide)]⟩) hk (fun q => by cases q) (fun m q => ?_)
  · by_cases e : i = 10
    · rw [e, h10, upd_ne hne, en 10 (by decide)]
    · rw [es i (fun q => by rw [q] at hi; revert hi; decide) e]
  · cases q
    have hl : (nk.2.2.2.2 ++ [nI j]).length = e0 + 1 := by rw [List.length_append, he0]; rfl
    refine ⟨?_, ?_, ?_, ?_, ?_, ?_, ?_, ?_⟩
    · rw [es 2 (by decide) (by decide)]; exact a1
    · rw [es 3 (by decide) (by decide)]; exact a2
    · rw [es 4 (by decide) (by decide)]; exact a3
    · rw [es 6 (by decide) (by decide), es 5 (by decide) (by decide)]; exact b
    · rw [es 8 (by decide) (by decide), es 7 (by decide) (by decide)]; exact c
    · show F' 10 k = nI (nk.2.2.2.2 ++ [nI j]).length
      rw [h10, upd_eq, hl]
    · show (nk.2.2.2.2 ++ [nI j]).length ≤ 40
      omega
    · show ∀ i, i < (nk.2.2.2.2 ++ [nI j]).length → F' 9 (40 * k + i) = (nk.2.2.2.2 ++ [nI j]).getD i 0
      intro i hi
      rw [hl] at hi
      by_cases e : i = e0
      · rw [e, h9, upd_eq, ← he0, getD_e]
      · rw [h9, upd_ne (by omega), ← en 9 (by decide), d3 i (by omega), getD_l (by omega)]
/-- a node anew: is, isDirectory, entries, then its name -/
theorem RT.new {F F' : Nat → Nat → Int32} {T : Tre} {v : Nat} {dr : Int32} {Hd X : List Int32} (h : RT F T) (hv : v < 200) (hH6 : Hd.length ≤ 60) (hX : X = folds Hd) (hX6 : X.length ≤ 60)
    (h2 : F' 2 = upd (F 2) v 1) (h3 : F' 3 = upd (F 3) v dr) (h4 : F' 4 = F 4) (h10 : F' 10 = upd (F 10) v 0) (h99 : F' 9 = F 9) (h6 : F' 6 = upd (F 6) v (nI Hd.length)) (h8 : F' 8 = upd (F 8) v (nI X.length)) (h5 : ∀ i, i < Hd.length → F' 5 (60 * v + i) = Hd.getD i 0) (h5o : ∀ q, q < 60 * v ∨ 60 * v + 60 ≤ q → F' 5 q = F 5 q) (h7 : ∀ i, i < X.length → F' 7 (60 * v + i) = X.getD i 0) (h7o : ∀ q, q < 60 * v ∨ 60 * v + 60 ≤ q → F' 7 q = F 7 q) : RT F' (setT T v (some (dr, F 4 v, Hd, folds Hd, []))) := by
  subst hX
  refine h.set (fun u hu hne => ⟨fun i hi => ?_, fun i hi => h5o _ (by omega), fun i hi => h7o _ (by omega), fun i hi => by rw [h99]⟩) hv (fun q => by cases q) (fun m q => ?_)
  · simp only [List.mem_cons, List.not_mem_nil, or_false] at hi
    rcases hi with rfl | rfl | rfl | rfl | rfl | rfl
    · rw [h2, upd_ne hne]
    · rw [h3, upd_ne hne]
    · rw [h4]
    · rw [h6, upd_ne hne]
    · rw [h8, upd_ne hne]
    · rw [h10, upd_ne hne]
  · cases q
    exact ⟨by rw [h2, upd_eq], by rw [h3, upd_eq], by rw [h4], ⟨by rw [h6, upd_eq], hH6, h5⟩, ⟨by rw [h8, upd_eq], hX6, h7⟩, by rw [h10, upd_eq]; rfl, Nat.zero_le _, fun i hi => absurd hi (Nat.not_lt_zero i)⟩
theorem RT.del {F F' : Nat → Nat → Int32} {T : Tre} {v : Nat} (h : RT F T) (hv : v < 200) (e : F' = uF F 2 (upd (F 2) v 0)) : RT F' (setT T v none) := by
  have en : ∀ i, i ≠ 2 → F' i = F i := fun i hi => by rw [e, uF_n hi]
  have e2 : F' 2 = upd (F 2) v 0 := by rw [e, uF_s]
  refine h.set (fun u hu hne => ⟨fun i hi => ?_, fun i hi => by rw [en 5 (by decide)], fun i hi => by rw [en 7 (by decide)], fun i hi => by rw [en 9 (by decide)]⟩) hv (fun q => by rw [e2, upd_eq]) (fun m q => by cases q)
  by_cases q : i = 2
  · rw [q, e2, upd_ne hne]
  · rw [en i q]
/-! WHAT THE CALLS ANSWER, and the tree behind them -/
def nmI (xs : List Int32) : Int32 := @ite _ (nmOK xs) (by unfold nmOK; infer_instance) 1 0
theorem nmI_1 {xs : List Int32} (h : nmOK xs) : nmI xs = 1 := if_pos h
theorem nmI_0 {xs : List Int32} (h : ¬ nmOK xs) : nmI xs = 0 := if_neg h
def entsOf (T : Tre) (d : Int32) : List Int32 := match at32 T d with
  | none => []
  | some n => n.2.2.2.2
def parOf (T : Tre) (d : Int32) : Int32 := match at32 T d with
  | none => -1
  | some n => n.2.1
def namOf (T : Tre) (d : Int32) : List Int32 := match at32 T d with
  | none => []
  | some n => n.2.2.1
theorem entsOf_n {T : Tre} {k : Nat} {n : Nod} (hk : k < 200) (h : T k = some n) : entsOf T (nI k) = n.2.2.2.2 := by unfold entsOf; rw [at32_n hk, h]
theorem parOf_n {T : Tre} {k : Nat} {n : Nod} (hk : k < 200) (h : T k = some n) : parOf T (nI k) = n.2.1 := by unfold parOf; rw [at32_n hk, h]
theorem namOf_n {T : Tre} {k : Nat} {n : Nod} (hk : k < 200) (h : T k = some n) : namOf T (nI k) = n.2.2.1 := by unfold namOf; rw [at32_n hk, h]
def sFind (T : Tre) (tp : List Int32) (d : Int32) : Int32 := if noD T d = 1 then -5 else if nmI tp = 0 then -2 else elk T (folds tp) (-1) (entsOf T d)
def sPutR (T : Tre) (tp : List Int32) (d : Int32) : Int32 := if noD T d = 1 then -5 else if nmI tp = 0 then -2 else if ¬ elk T (folds tp) (-1) (entsOf T d) < 0 then -3 else if frF T 200 0 < 0 then -4 else if (entsOf T d).length = 40 then -4 else frF T 200 0
def sPutT (T : Tre) (tp : List Int32) (d dr : Int32) : Tre := if sPutR T tp d < 0 then T else putT T (sPutR T tp d).toNatClampNeg d.toNatClampNeg dr tp
def sRemR (T : Tre) (v : Int32) : Int32 := if v = 0 then -5 else if noN T v = 1 then -5 else if 0 < (entsOf T v).length then -6 else parOf T v
def sRemT (T : Tre) (v : Int32) : Tre := if sRemR T v < 0 then T else remT T v.toNatClampNeg
def mvN (T : Tre) (tp : List Int32) (v : Int32) : List Int32 := if tp.length = 0 then namOf T v else tp
def sMovR (T : Tre) (tp : List Int32) (v d : Int32) : Int32 := if v = 0 then -5 else if noN T v = 1 then -5 else if noD T d = 1 then -5 else if nmI (mvN T tp v) = 0 then -2 else if ¬ elk T (folds (mvN T tp v)) v (entsOf T d) < 0 then -3 else if wF T v.toNatClampNeg 200 d.toNatClampNeg = 1 then -6 else if ¬ parOf T v = d ∧ (entsOf T d).length = 40 then -4 else parOf T v
def sMovT (T : Tre) (tp : List Int32) (v d : Int32) : Tre := if sMovR T tp v d < 0 then T else movT T v.toNatClampNeg d.toNatClampNeg (mvN T tp v)
/-- how many are before it -/
def rankE (T : Tre) (X : List Int32) : List Int32 → Nat
  | [] => 0
  | e :: es => rankE T X es + (if ltL (folOf T e) X = 1 then 1 else 0)
def srtE (T : Tre) (E : List Int32) (k : Int32) : List Int32 → Int32
  | [] => -1
  | e :: es => if nI (rankE T (folOf T e) E) = k then e else srtE T E k es
def sSort (T : Tre) (d k : Int32) : Int32 := if noD T d = 1 then -5 else srtE T (entsOf T d) k (entsOf T d)
/-- what holds of every tree that comes about -/
def TI (T : Tre) : Prop :=
  (∃ rt : Nod, T 0 = some rt ∧ rt.1 = 1 ∧ rt.2.1 = -1 ∧ rt.2.2.1 = [] ∧ rt.2.2.2.1 = []) ∧
  (∀ v n, T v = some n → v < 200 ∧ n.2.2.2.2.length ≤ 40 ∧ n.2.2.2.2.Nodup ∧ (∀ e ∈ n.2.2.2.2, ∃ (j : Nat) (m : Nod), j < 200 ∧ j ≠ 0 ∧ e = nI j ∧ T j = some m ∧ m.2.1 = nI v) ∧ (∀ e1 ∈ n.2.2.2.2, ∀ e2 ∈ n.2.2.2.2, folOf T e1 = folOf T e2 → e1 = e2)) ∧
  (∀ v n, T v = some n → v ≠ 0 → (nmOK n.2.2.1 ∧ Oct n.2.2.1 ∧ n.2.2.2.1 = folds n.2.2.1) ∧ ∃ (p : Nat) (m : Nod), p < 200 ∧ n.2.1 = nI p ∧ T p = some m ∧ nI v ∈ m.2.2.2.2) ∧
  (∃ dp : Nat → Nat, NoRing T dp)
theorem TI.ent {T : Tre} (h : TI T) : EntOK T := fun v n hn i hi => by
  obtain ⟨j, m, a, -, b, c, -⟩ := (h.2.1 v n hn).2.2.2.1 (n.2.2.2.2.getD i 0) (by
    rw [List.getD_eq_getElem?_getD, List.getElem?_eq_getElem hi]; exact List.getElem_mem hi)
  exact ⟨j, m, a, b, c⟩
