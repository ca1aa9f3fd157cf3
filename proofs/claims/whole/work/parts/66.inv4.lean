theorem elk_all {T : Tre} {X : List Int32} {bt : Int32} : ∀ {E : List Int32}, (∀ e ∈ E, ¬ (¬ e = bt ∧ folOf T e = X)) → elk T X bt E = -1
  | [], _ => rfl
  | e :: es, h => by unfold elk; rw [if_neg (h e (List.mem_cons_self ..)), elk_all (fun y hy => h y (List.mem_cons_of_mem _ hy))]
theorem elk_none {T : Tre} {X : List Int32} {bt : Int32} : ∀ {E : List Int32}, (∀ e ∈ E, ¬ e = -1) → elk T X bt E = -1 → ∀ e ∈ E, ¬ (¬ e = bt ∧ folOf T e = X)
  | [], _, _, e, he => absurd he List.not_mem_nil
  | x :: es, h1, h, e, he => by
    unfold elk at h
    by_cases q : ¬ x = bt ∧ folOf T x = X
    · rw [if_pos q] at h; exact absurd h (h1 x (List.mem_cons_self ..))
    · rw [if_neg q] at h
      rcases List.mem_cons.mp he with e1 | e1
      · rw [e1]; exact q
      · exact elk_none (fun y hy => h1 y (List.mem_cons_of_mem _ hy)) h e e1
theorem ti_em1 {T : Tre} (h : TI T) {u : Nat} {nu : Nod} (hT : T u = some nu) : ∀ e ∈ nu.2.2.2.2, ¬ e = -1 := fun e he => by
  obtain ⟨j, m, j1, -, j3, -⟩ := (h.2.1 u nu hT).2.2.2.1 e he
  rw [j3]; exact nI_nm1 (by omega)
theorem ti_nof {T : Tre} (h : TI T) {u : Nat} {nu : Nod} (hT : T u = some nu) {X : List Int32} (he : elk T X (-1) nu.2.2.2.2 = -1) : ∀ e ∈ nu.2.2.2.2, ¬ folOf T e = X := fun e hm q => elk_none (ti_em1 h hT) he e hm ⟨ti_em1 h hT e hm, q⟩
theorem ti_but0 {T : Tre} (h : TI T) {u : Nat} {nu : Nod} (hT : T u = some nu) {X : List Int32} {bt : Int32} (he : elk T X (-1) nu.2.2.2.2 = -1) : elk T X bt nu.2.2.2.2 = -1 := elk_all (fun e hm q => ti_nof h hT he e hm q.2)
theorem ti_but1 {T : Tre} (h : TI T) {u : Nat} {nu : Nod} (hT : T u = some nu) {X : List Int32} {bt e : Int32} (hm : e ∈ nu.2.2.2.2) (hf : folOf T e = X) (hb : e = bt) : elk T X bt nu.2.2.2.2 = -1 := elk_all (fun y hy q => q.1 (((h.2.1 u nu hT).2.2.2.2 y hy e hm (q.2.trans hf.symm)).trans hb))
theorem ti_but2 {T : Tre} (h : TI T) {u : Nat} {nu : Nod} (hT : T u = some nu) {X : List Int32} {bt e : Int32} (hm : e ∈ nu.2.2.2.2) (hf : folOf T e = X) (hb : ¬ e = bt) : elk T X bt nu.2.2.2.2 = e := by
  rcases elk_r (T := T) (X := X) (bt := bt) (E := nu.2.2.2.2) with q | ⟨q1, -, q3⟩
  · exact absurd ⟨hb, hf⟩ (elk_none (ti_em1 h hT) q e hm)
  · exact (h.2.1 u nu hT).2.2.2.2 _ q1 e hm (q3.trans hf.symm)
theorem ti_wFnew {T : Tre} (h : TI T) {u : Nat} (hT : T u = none) {x : Nod} : ∀ (n v : Nat) (m : Nod), T v = some m → wF (setT T u (some x)) u n v = 0
  | 0, _, _, _ => rfl
  | n + 1, v, m, hv => by
    have hvu : v ≠ u := fun q => by rw [q, hT] at hv; cases hv
    unfold wF
    rw [if_neg hvu]
    by_cases e : v = 0
    · rw [if_pos e]
    · rw [if_neg e]
      obtain ⟨-, p, pm, p1, p2, p3, -⟩ := h.2.2.1 v m hv e
      rw [parN_s ((setT_n hvu).trans hv) p2 p1]
      exact ti_wFnew h hT n p pm p3
theorem put_ok {T : Tre} (hI : TI T) {Bn : Nat → List Int32} (hS : SB T Bn) {u k : Nat} {n : Nod} {dr : Int32} {tp : List Int32} (hu : u < 200) (hTu : T u = none) (hTk : T k = some n) (hok : nmOK tp) (ho : Oct tp) (hl : n.2.2.2.2.length < 40) (he : elk T (folds tp) (-1) n.2.2.2.2 = -1) :
    TI (putT T u k dr tp) ∧ SB (putT T u k dr tp) (attB (setT T u (some (dr, -1, tp, folds tp, []))) (folds tp) (upB Bn u []) u k) := by
  have huk : k ≠ u := fun q => by rw [q, hTu] at hTk; cases hTk
  have hJ := hI.newJ hu hTu (dr := dr) (g := -1) hok ho
  have hTk2 : setT T u (some (dr, -1, tp, folds tp, [])) k = some n := (setT_n huk).trans hTk
  have hd : ∀ e ∈ n.2.2.2.2, ¬ folOf (setT T u (some (dr, -1, tp, folds tp, []))) e = folds tp := fun e hm q => by
    obtain ⟨j, m, j1, -, j3, j4, -⟩ := (hI.2.1 k n hTk).2.2.2.1 e hm
    rw [j3, folOf_setT j1 (fun x => by rw [x, hTu] at j4; cases j4), ← j3] at q
    exact ti_nof hI hTk he e hm q
  rw [← putT_g (g := -1)]
  exact ⟨hJ.app setT_s hTk2 huk hl hd (fun m => ti_wFnew hI hTu m k n hTk), (hS.new hI hTu).app setT_s hu hTk2 hl hd rfl⟩
/-- all that is wanted before a moved node is attached -/
theorem mov_pre {T : Tre} (hI : TI T) {Bn : Nat → List Int32} (hS : SB T Bn) {k u p : Nat} {nk nu : Nod} {nm : List Int32} (hTk : T k = some nk) (hk0 : k ≠ 0) (hp : nk.2.1 = nI p) (hp2 : p < 200) (hTu : T u = some nu) (hok : nmOK nm) (ho : Oct nm) (hw : wF T k 200 u = 0) (he : elk T (folds nm) (nI k) nu.2.2.2.2 = -1) (hl : p = u ∨ nu.2.2.2.2.length < 40) :
    u ≠ k ∧ p ≠ k ∧ detT T k k = some nk ∧ TJ (detT T k) k ∧ TJ (opT (detT T k) k (sN nm)) k ∧ opT (detT T k) k (sN nm) k = some (sN nm nk) ∧ SB (opT (detT T k) k (sN nm)) (upB Bn p (rOut (Bn p) (nI k))) ∧
    ∃ n2, opT (detT T k) k (sN nm) u = some n2 ∧ n2.2.2.2.2.length < 40 ∧ (∀ e ∈ n2.2.2.2.2, ¬ folOf (opT (detT T k) k (sN nm)) e = folds nm) ∧ ∀ n, wF (opT (detT T k) k (sN nm)) k n u = 0 := by
  have hk := (hI.2.1 k nk hTk).1
  obtain ⟨p', pm, q1, q2, q3, q4, q5⟩ := hI.par hTk hk0
  have hpp := (nI_eq (a := p) (b := p') (by omega) (by omega)).mp (hp.symm.trans q2)
  subst hpp
  have huk : u ≠ k := fun q => by rw [q] at hw; unfold wF at hw; rw [if_pos rfl] at hw; exact absurd hw (by decide)
  have hdT := detT_e hTk hp hp2
  have hT1k : detT T k k = some nk := by rw [hdT, opT_n (Ne.symm q5)]; exact hTk
  have hJ1 := hI.detJ hTk hk0
  have hJ2 := hJ1.nam hT1k hok ho
  have hT2k : opT (detT T k) k (sN nm) k = some (sN nm nk) := opT_s hT1k
  have hS2 := (hS.det hTk hp hp2).nam hJ1 hT1k (nm := nm)
  have hT2u : opT (detT T k) k (sN nm) u = some (if u = p then rE (nI k) nu else nu) := by rw [opT_n huk, hdT]; exact opT_at hTu
  refine ⟨huk, q5, hT1k, hJ1, hJ2, hT2k, hS2, _, hT2u, ?_, fun e hm q => ?_, fun n => ?_⟩
  · by_cases e : u = p
    · rw [if_pos e]
      subst e
      rw [hTu] at q3; cases q3
      obtain ⟨t, t1, t2, -⟩ := mem_idx q4
      have := rOut_l (hI.2.1 u nu hTu).2.2.1 t1 t2
      have h40 := (hI.2.1 u nu hTu).2.1
      show (rOut nu.2.2.2.2 (nI k)).length < 40
      omega
    · rw [if_neg e]; exact hl.resolve_left (fun q => e q.symm)
  · have hm2 : e ∈ nu.2.2.2.2 := by
      by_cases q2 : u = p
      · rw [if_pos q2] at hm; exact (rOut_mem.mp hm).1
      · rw [if_neg q2] at hm; exact hm
    obtain ⟨j, m, j1, -, jk, j3, -⟩ := (hJ2.2.1 u _ hT2u).2.2.2.1 e hm
    have hf : folOf (opT (detT T k) k (sN nm)) e = folOf T e := by
      rw [j3, opT_e hT1k, folOf_setT j1 jk, hdT, folOf_opT (f := rE (nI k)) (fun n => rfl)]
    rw [hf] at q
    exact elk_none (ti_em1 hI hTu) he e hm2 ⟨fun x => jk ((nI_eq (a := j) (b := k) (by omega) (by omega)).mp (j3.symm.trans x)), q⟩
  · rw [wF_con (T := T) (fun v _ => by rw [parN_opT (f := sN nm) (fun n => rfl), hdT, parN_opT (f := rE (nI k)) (fun n => rfl)]) n u]
    exact hI.wF0 hTu hw n
theorem mov_ok {T : Tre} (hI : TI T) {Bn : Nat → List Int32} (hS : SB T Bn) {k u p : Nat} {nk nu : Nod} {nm : List Int32} (hTk : T k = some nk) (hk0 : k ≠ 0) (hp : nk.2.1 = nI p) (hp2 : p < 200) (hTu : T u = some nu) (hok : nmOK nm) (ho : Oct nm) (hw : wF T k 200 u = 0) (he : elk T (folds nm) (nI k) nu.2.2.2.2 = -1) (hl : p = u ∨ nu.2.2.2.2.length < 40) : TI (movT T k u nm) ∧ SB (movT T k u nm) (movB T Bn k u nm) := by
  have hk := (hI.2.1 k nk hTk).1
  obtain ⟨huk, -, -, -, hJ2, hT2k, hS2, n2, hT2u, h40, hd, hwf⟩ := mov_pre hI hS hTk hk0 hp hp2 hTu hok ho hw he hl
  unfold movT movB
  rw [parN_s hTk hp hp2]
  exact ⟨hJ2.app hT2k hT2u huk h40 hd hwf, hS2.app hT2k hk hT2u h40 hd rfl⟩
theorem SB.del {T : Tre} {Bn : Nat → List Int32} (h : SB T Bn) {k : Nat} (hJ : TJ T k) : SB (setT T k none) Bn := by
  intro v n hv
  by_cases e : v = k
  · subst e; rw [setT_s] at hv; cases hv
  · rw [setT_n e] at hv
    obtain ⟨h1, h2⟩ := h v n hv
    refine ⟨h1, pw_con (fun x hx => ?_) h2⟩
    obtain ⟨j, m, j1, -, jk, j3, -⟩ := (hJ.2.1 v n hv).2.2.2.1 x (h1.mem_iff.mp hx)
    rw [j3, folOf_setT j1 jk]
theorem rem_ok {T : Tre} (hI : TI T) {Bn : Nat → List Int32} (hS : SB T Bn) {k p : Nat} {nk : Nod} (hTk : T k = some nk) (hk0 : k ≠ 0) (hp : nk.2.1 = nI p) (hp2 : p < 200) (he : nk.2.2.2.2 = []) : TI (remT T k) ∧ SB (remT T k) (upB Bn (parN T k) (rOut (Bn (parN T k)) (nI k))) := by
  obtain ⟨p', pm, q1, q2, q3, q4, q5⟩ := hI.par hTk hk0
  have hpp := (nI_eq (a := p) (b := p') (by omega) (by omega)).mp (hp.symm.trans q2)
  subst hpp
  have hT1k : detT T k k = some nk := by rw [detT_e hTk hp hp2, opT_n (Ne.symm q5)]; exact hTk
  have hJ1 := hI.detJ hTk hk0
  rw [parN_s hTk hp hp2]
  unfold remT
  exact ⟨hJ1.del hT1k he, (hS.det hTk hp hp2).del hJ1⟩
