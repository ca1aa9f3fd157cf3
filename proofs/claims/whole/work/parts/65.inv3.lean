/-! THE LISTS BY NAMES -/
theorem icmp_flip (x y : Int32) : (icmp x y < 0 ↔ 0 < icmp y x) := by
  rw [icmp_lt]
  unfold icmp
  constructor
  · intro h
    have h1 : ¬ y < x := fun q => absurd (Int32.lt_trans h q) Int32.lt_irrefl
    have h2 : ¬ y = x := fun q => by rw [q] at h; exact Int32.lt_irrefl h
    rw [if_neg h1, if_neg h2]; decide
  · intro h
    by_cases h1 : y < x
    · rw [if_pos h1] at h; exact absurd h (by decide)
    · rw [if_neg h1] at h
      by_cases h2 : y = x
      · rw [if_pos h2] at h; exact absurd h (by decide)
      · exact Int32.lt_of_le_of_ne (Int32.not_lt.mp h1) (fun q => h2 q.symm)
theorem cmpL_flip : ∀ (xs ys : List Int32), (cmpL xs ys < 0 ↔ 0 < cmpL ys xs)
  | [], [] => ⟨fun h => absurd (show (0 : Int32) < 0 from h) (by decide), fun h => absurd (show (0 : Int32) < 0 from h) (by decide)⟩
  | [], _ :: _ => ⟨fun _ => (by decide : (0 : Int32) < 1), fun _ => (by decide : (-1 : Int32) < 0)⟩
  | _ :: _, [] => ⟨fun h => absurd (show (1 : Int32) < 0 from h) (by decide), fun h => absurd (show (0 : Int32) < -1 from h) (by decide)⟩
  | a :: as, b :: bs => by
    by_cases h : a = b
    · simp only [cmpL, if_pos h, if_pos h.symm]; exact cmpL_flip as bs
    · simp only [cmpL, if_neg h, if_neg (fun q => h (Eq.symm q))]; exact icmp_flip a b
theorem cmpL_tr : ∀ (xs ys zs : List Int32), cmpL xs ys < 0 → cmpL ys zs < 0 → cmpL xs zs < 0
  | [], [], _, h, _ => absurd (show (0 : Int32) < 0 from h) (by decide)
  | _ :: _, [], _, h, _ => absurd (show (1 : Int32) < 0 from h) (by decide)
  | _, _ :: _, [], _, h => absurd (show (1 : Int32) < 0 from h) (by decide)
  | [], _ :: _, _ :: _, _, _ => (by decide : (-1 : Int32) < 0)
  | a :: as, b :: bs, c :: cs, h1, h2 => by
    by_cases e1 : a = b
    · subst e1
      by_cases e2 : a = c
      · subst e2
        simp only [cmpL, if_true] at h1 h2 ⊢; exact cmpL_tr as bs cs h1 h2
      · simp only [cmpL, if_neg e2] at h2 ⊢; exact h2
    · by_cases e2 : b = c
      · subst e2
        simp only [cmpL, if_neg e1] at h1 ⊢; exact h1
      · simp only [cmpL, if_neg e1] at h1
        simp only [cmpL, if_neg e2] at h2
        have l1 := icmp_lt.mp h1
        have l2 := icmp_lt.mp h2
        have l3 := Int32.lt_trans l1 l2
        have e3 : ¬ a = c := fun q => by rw [q] at l3; exact Int32.lt_irrefl l3
        simp only [cmpL, if_neg e3]; exact icmp_lt.mpr l3
theorem cmpL_lt {xs ys : List Int32} (h : ¬ 0 < cmpL xs ys) (hne : ¬ xs = ys) : cmpL xs ys < 0 := by
  have h2 : ¬ cmpL xs ys = 0 := fun q => hne (cmpL_0.mp q)
  exact Int32.lt_of_le_of_ne (Int32.not_lt.mp h) h2
/-- an entry put in its place -/
def insB (T : Tre) (X : List Int32) (x : Int32) (B : List Int32) : List Int32 := B.take (plB T X B) ++ x :: B.drop (plB T X B)
theorem insB_c {T : Tre} {X : List Int32} {x e : Int32} {es : List Int32} : insB T X x (e :: es) = if 0 < cmpL (folOf T e) X then x :: e :: es else e :: insB T X x es := by
  by_cases h : 0 < cmpL (folOf T e) X
  · have e1 : plB T X (e :: es) = 0 := by rw [plB, if_pos h]
    rw [if_pos h]; unfold insB; rw [e1]; rfl
  · have e1 : plB T X (e :: es) = plB T X es + 1 := by rw [plB, if_neg h]
    rw [if_neg h]; unfold insB; rw [e1]; rfl
theorem insB_p {T : Tre} {X : List Int32} {x : Int32} : ∀ B : List Int32, (insB T X x B).Perm (x :: B) := fun B => by
  unfold insB
  have h : (B.take (plB T X B) ++ x :: B.drop (plB T X B)).Perm (x :: (B.take (plB T X B) ++ B.drop (plB T X B))) := List.perm_middle
  rw [List.take_append_drop] at h
  exact h
theorem insB_s {T : Tre} {X : List Int32} {x : Int32} (hx : folOf T x = X) : ∀ B : List Int32, B.Pairwise (fun x y => cmpL (folOf T x) (folOf T y) < 0) → (∀ e ∈ B, ¬ folOf T e = X) → (insB T X x B).Pairwise (fun x y => cmpL (folOf T x) (folOf T y) < 0)
  | [], _, _ => by unfold insB plB; exact List.pairwise_singleton ..
  | e :: es, hp, hd => by
    obtain ⟨p1, p2⟩ := List.pairwise_cons.mp hp
    rw [insB_c]
    by_cases h : 0 < cmpL (folOf T e) X
    · rw [if_pos h]
      have h1 : cmpL X (folOf T e) < 0 := (cmpL_flip _ _).mpr h
      refine List.pairwise_cons.mpr ⟨fun y hy => ?_, hp⟩
      rw [hx]
      rcases List.mem_cons.mp hy with q | q
      · rw [q]; exact h1
      · exact cmpL_tr _ _ _ h1 (p1 y q)
    · rw [if_neg h]
      refine List.pairwise_cons.mpr ⟨fun y hy => ?_, insB_s hx es p2 (fun z hz => hd z (List.mem_cons_of_mem _ hz))⟩
      rcases List.mem_cons.mp ((insB_p es).mem_iff.mp hy) with q | q
      · rw [q, hx]; exact cmpL_lt h (hd e (List.mem_cons_self ..))
      · exact p1 y q
theorem rIns_ins {T : Tre} {X : List Int32} {x : Int32} {B : List Int32} (h : B.length < 40) : rIns 40 B (plB T X B) x = insB T X x B := by
  unfold rIns insB; rw [if_neg (by omega)]
theorem plB_con {T T2 : Tre} {X : List Int32} (h : ∀ e, folOf T2 e = folOf T e) : ∀ B : List Int32, plB T2 X B = plB T X B
  | [] => rfl
  | e :: es => by unfold plB; rw [h, plB_con h es]
theorem pw_con {T T2 : Tre} {B : List Int32} (h : ∀ e ∈ B, folOf T2 e = folOf T e) (hp : B.Pairwise (fun x y => cmpL (folOf T x) (folOf T y) < 0)) : B.Pairwise (fun x y => cmpL (folOf T2 x) (folOf T2 y) < 0) :=
  hp.imp_of_mem (fun {a b} ha hb q => by rw [h a ha, h b hb]; exact q)
theorem SB.det {T : Tre} {Bn : Nat → List Int32} (h : SB T Bn) {k p : Nat} {nk : Nod} (hT : T k = some nk) (hp : nk.2.1 = nI p) (hp2 : p < 200) : SB (detT T k) (upB Bn p (rOut (Bn p) (nI k))) := by
  rw [detT_e hT hp hp2]
  have hf : ∀ e, folOf (opT T p (rE (nI k))) e = folOf T e := folOf_opT (f := rE (nI k)) (fun n => rfl)
  intro v n1 hn1
  obtain ⟨n, hn, rfl⟩ := opT_inv hn1
  obtain ⟨h1, h2⟩ := h v n hn
  by_cases e : v = p
  · subst e
    rw [if_pos rfl, upB_s]
    exact ⟨h1.filter _, pw_con (fun e _ => hf e) (List.Pairwise.filter _ h2)⟩
  · rw [if_neg e, upB_n e]
    exact ⟨h1, pw_con (fun e _ => hf e) h2⟩
theorem SB.new {T : Tre} {Bn : Nat → List Int32} (h : SB T Bn) (hI : TI T) {u : Nat} (hT : T u = none) {dr g : Int32} {nm X : List Int32} : SB (setT T u (some (dr, g, nm, X, []))) (upB Bn u []) := by
  intro v n hv
  by_cases e : v = u
  · subst e; rw [setT_s] at hv; cases hv
    rw [upB_s]; exact ⟨List.Perm.refl _, List.Pairwise.nil⟩
  · rw [setT_n e] at hv
    rw [upB_n e]
    obtain ⟨h1, h2⟩ := h v n hv
    refine ⟨h1, pw_con (fun x hx => ?_) h2⟩
    obtain ⟨j, m, j1, -, j3, j4, -⟩ := (hI.2.1 v n hv).2.2.2.1 x (h1.mem_iff.mp hx)
    rw [j3, folOf_setT j1 (fun q => by rw [q, hT] at j4; cases j4)]
theorem SB.nam {T : Tre} {Bn : Nat → List Int32} (h : SB T Bn) {k : Nat} {nk : Nod} (hJ : TJ T k) (hT : T k = some nk) {nm : List Int32} : SB (opT T k (sN nm)) Bn := by
  intro v n1 hn1
  obtain ⟨n, hn, rfl⟩ := opT_inv hn1
  obtain ⟨h1, h2⟩ := h v n hn
  have ee : (if v = k then sN nm n else n).2.2.2.2 = n.2.2.2.2 := by split <;> rfl
  rw [ee]
  refine ⟨h1, pw_con (fun x hx => ?_) h2⟩
  obtain ⟨j, m, j1, -, jk, j3, -⟩ := (hJ.2.1 v n hn).2.2.2.1 x (h1.mem_iff.mp hx)
  rw [j3, opT_e hT, folOf_setT j1 jk]
theorem SB.app {T : Tre} {Bn : Nat → List Int32} (h : SB T Bn) {k u : Nat} {nk nu : Nod} (hTk : T k = some nk) (hk : k < 200) (hTu : T u = some nu) (hl : nu.2.2.2.2.length < 40) (hd : ∀ e ∈ nu.2.2.2.2, ¬ folOf T e = nk.2.2.2.1) {X : List Int32} (hX : X = nk.2.2.2.1) : SB (appT T k u) (attB T X Bn k u) := by
  have fk : folOf T (nI k) = nk.2.2.2.1 := folOf_n (by omega) hTk
  intro v n1 hn1
  obtain ⟨n, hn, rfl⟩ := appT_inv hn1
  obtain ⟨h1, h2⟩ := h v n hn
  unfold attB
  by_cases e : v = u
  · subst e
    rw [hTu] at hn; cases hn
    rw [upB_s, plB_con (fun e => folOf_appT e), rIns_ins (by rw [h.len hTu]; exact hl)]
    show (insB T X (nI k) (Bn v)).Perm (if v = v then nu.2.2.2.2 ++ [nI k] else nu.2.2.2.2) ∧ _
    rw [if_pos rfl]
    refine ⟨(insB_p (Bn v)).trans ((h1.cons (nI k)).trans (List.perm_append_singleton _ _).symm), pw_con (fun e _ => folOf_appT e) (insB_s (by rw [hX]; exact fk) (Bn v) h2 (fun x hx => by rw [hX]; exact hd x (h1.mem_iff.mp hx)))⟩
  · rw [upB_n e]
    show (Bn v).Perm (if v = u then n.2.2.2.2 ++ [nI k] else n.2.2.2.2) ∧ _
    rw [if_neg e]
    exact ⟨h1, pw_con (fun e _ => folOf_appT e) h2⟩
/-! sorted: the k-th of the list is the one that has k before it -/
theorem rankE_p {T : Tre} {X : List Int32} : ∀ {A B : List Int32}, A.Perm B → rankE T X A = rankE T X B := fun {A B} h => by
  induction h with
  | nil => rfl
  | cons x _ ih => unfold rankE; rw [ih]
  | swap x y l => unfold rankE; unfold rankE; omega
  | trans _ _ i1 i2 => exact i1.trans i2
theorem ltL_1 {xs ys : List Int32} : ltL xs ys = 1 ↔ cmpL xs ys < 0 := by
  unfold ltL
  split
  · exact ⟨fun _ => by assumption, fun _ => rfl⟩
  · exact ⟨fun q => absurd q (by decide), fun q => absurd q (by assumption)⟩
theorem rankE_0 {T : Tre} {X : List Int32} : ∀ {B : List Int32}, (∀ y ∈ B, ¬ cmpL (folOf T y) X < 0) → rankE T X B = 0
  | [], _ => rfl
  | e :: es, h => by
    unfold rankE
    rw [rankE_0 (fun y hy => h y (List.mem_cons_of_mem _ hy)), if_neg (fun q => h e (List.mem_cons_self ..) (ltL_1.mp q))]
theorem cmpL_ir {xs : List Int32} : ¬ cmpL xs xs < 0 := by rw [cmpL_0.mpr rfl]; decide
theorem cmpL_as {xs ys : List Int32} (h : cmpL xs ys < 0) : ¬ cmpL ys xs < 0 := fun q => cmpL_ir (cmpL_tr _ _ _ h q)
/-- in a list in order, the one at place i has i before it -/
theorem rankE_at {T : Tre} : ∀ (B : List Int32) (i : Nat), B.Pairwise (fun x y => cmpL (folOf T x) (folOf T y) < 0) → i < B.length → rankE T (folOf T (B.getD i 0)) B = i
  | [], i, _, h => absurd h (Nat.not_lt_zero i)
  | e :: es, 0, hp, _ => by
    obtain ⟨p1, p2⟩ := List.pairwise_cons.mp hp
    show rankE T (folOf T e) (e :: es) = 0
    refine rankE_0 (fun y hy => ?_)
    rcases List.mem_cons.mp hy with q | q
    · rw [q]; exact cmpL_ir
    · exact cmpL_as (p1 y q)
  | e :: es, i + 1, hp, h => by
    obtain ⟨p1, p2⟩ := List.pairwise_cons.mp hp
    have hi : i < es.length := by simpa using h
    show rankE T (folOf T (es.getD i 0)) (e :: es) = i + 1
    unfold rankE
    rw [rankE_at es i p2 hi, if_pos (ltL_1.mpr (p1 _ (by rw [List.getD_eq_getElem?_getD, List.getElem?_eq_getElem hi]; exact List.getElem_mem hi)))]
theorem srtE_no {T : Tre} {E : List Int32} {x : Int32} : ∀ F : List Int32, (∀ e ∈ F, ¬ nI (rankE T (folOf T e) E) = x) → srtE T E x F = -1
  | [], _ => rfl
  | e :: es, h => by unfold srtE; rw [if_neg (h e (List.mem_cons_self ..)), srtE_no es (fun y hy => h y (List.mem_cons_of_mem _ hy))]
theorem srtE_so {T : Tre} {E : List Int32} {x a : Int32} : ∀ F : List Int32, a ∈ F → nI (rankE T (folOf T a) E) = x → (∀ e ∈ F, nI (rankE T (folOf T e) E) = x → e = a) → srtE T E x F = a
  | [], h, _, _ => absurd h List.not_mem_nil
  | e :: es, h, ha, hu => by
    unfold srtE
    by_cases q : nI (rankE T (folOf T e) E) = x
    · rw [if_pos q]; exact hu e (List.mem_cons_self ..) q
    · rw [if_neg q]
      rcases List.mem_cons.mp h with q2 | q2
      · rw [← q2] at q; exact absurd ha q
      · exact srtE_so es q2 ha (fun y hy => hu y (List.mem_cons_of_mem _ hy))
theorem mem_ix {B : List Int32} {e : Int32} (h : e ∈ B) : ∃ i, i < B.length ∧ B.getD i 0 = e := by
  obtain ⟨t, t1, t2, -⟩ := mem_idx h; exact ⟨t, t1, t2⟩
theorem SB.srt {T : Tre} {Bn : Nat → List Int32} (h : SB T Bn) (hI : TI T) (d x : Int32) : cSort T Bn d x = sSort T d x := by
  unfold cSort sSort
  by_cases hd : noD T d = 1
  · rw [if_pos hd, if_pos hd]
  · rw [if_neg hd, if_neg hd]
    obtain ⟨k, n, hk, rfl, hT, -⟩ := noD_s hd
    rw [nI_clamp (by omega), entsOf_n hk hT]
    obtain ⟨h1, h2⟩ := h k n hT
    have hl := h.len hT
    have h40 := (hI.2.1 k n hT).2.1
    have rk : ∀ i, i < (Bn k).length → rankE T (folOf T ((Bn k).getD i 0)) n.2.2.2.2 = i := fun i hi => by rw [← rankE_p h1]; exact rankE_at (Bn k) i h2 hi
    have all : ∀ e ∈ n.2.2.2.2, ∃ i, i < (Bn k).length ∧ (Bn k).getD i 0 = e := fun e he => mem_ix (h1.mem_iff.mpr he)
    by_cases hx : ∃ i, i < (Bn k).length ∧ x = nI i
    · obtain ⟨i, hi, rfl⟩ := hx
      rw [ra_nat hi (by omega)]
      refine (srtE_so n.2.2.2.2 (h1.mem_iff.mp (by rw [List.getD_eq_getElem?_getD, List.getElem?_eq_getElem hi]; exact List.getElem_mem hi)) (by rw [rk i hi]) (fun e he q => ?_)).symm
      obtain ⟨j, hj, rfl⟩ := all e he
      rw [rk j hj] at q
      have := (nI_eq (a := j) (b := i) (by omega) (by omega)).mp q
      rw [this]
    · have hr : ra (Bn k) x = -1 := by
        by_cases h0 : x < 0
        · exact ra_neg h0
        · by_cases h3 : x < nI (Bn k).length
          · obtain ⟨a1, a2⟩ := nI_lt_of (by omega) h0 h3
            exact absurd ⟨_, a1, a2⟩ hx
          · exact ra_big h3
      rw [hr]
      refine (srtE_no n.2.2.2.2 (fun e he q => ?_)).symm
      obtain ⟨j, hj, rfl⟩ := all e he
      rw [rk j hj] at q
      exact hx ⟨j, hj, q.symm⟩
