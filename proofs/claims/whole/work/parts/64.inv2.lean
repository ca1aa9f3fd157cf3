theorem wF_mono {T : Tre} {k : Nat} : ∀ (n m v : Nat), wF T k n v = 1 → n ≤ m → wF T k m v = 1
  | 0, _, _, h, _ => absurd (show (0 : Int32) = 1 from h) (by decide)
  | n + 1, 0, _, _, h => by omega
  | n + 1, m + 1, v, h, hm => by
    unfold wF at h ⊢
    by_cases e : v = k
    · rw [if_pos e]
    · rw [if_neg e] at h ⊢
      by_cases e0 : v = 0
      · rw [if_pos e0] at h; exact absurd h (by decide)
      · rw [if_neg e0] at h ⊢; exact wF_mono n m _ h (by omega)
theorem wF_con {T T2 : Tre} {k : Nat} (h : ∀ v, v ≠ k → parN T2 v = parN T v) : ∀ (n v : Nat), wF T2 k n v = wF T k n v
  | 0, _ => rfl
  | n + 1, v => by
    unfold wF
    by_cases e : v = k
    · rw [if_pos e, if_pos e]
    · rw [if_neg e, if_neg e, h v e, wF_con h n]
theorem parN_opT {T : Tre} {k v : Nat} {f : Nod → Nod} (hf : ∀ n, (f n).2.1 = n.2.1) : parN (opT T k f) v = parN T v := by
  unfold parN
  cases hT : T v with
  | none =>
    have : opT T k f v = none := by
      by_cases q : v = k
      · subst q; unfold opT; rw [setT_s, hT]; rfl
      · rw [opT_n q]; exact hT
    rw [this]
  | some n =>
    rw [opT_at hT]
    show (if v = k then f n else n).2.1.toNatClampNeg = n.2.1.toNatClampNeg
    split
    · rw [hf]
    · rfl
theorem TI.wF0 {T : Tre} (h : TI T) {k u : Nat} {nu : Nod} (hT : T u = some nu) (hw : wF T k 200 u = 0) : ∀ n, wF T k n u = 0 := fun n => by
  rcases wF_r T k n u with e | e
  · exact e
  · exfalso
    obtain ⟨dp, hd, h2⟩ := h.dp
    have e2 := wF_mono n (n + 200) u e (by omega)
    rw [← wF_more hd k 200 (n + 200) u ⟨nu, hT⟩ (h2 u) (by omega), hw] at e2
    exact absurd e2 (by decide)
theorem appT_inv {T : Tre} {k u v : Nat} {n1 : Nod} (h : appT T k u v = some n1) : ∃ n, T v = some n ∧ n1 = (n.1, (if v = k then nI u else n.2.1), n.2.2.1, n.2.2.2.1, if v = u then n.2.2.2.2 ++ [nI k] else n.2.2.2.2) := by
  obtain ⟨n2, h2, rfl⟩ := opT_inv h
  obtain ⟨n, hn, rfl⟩ := opT_inv h2
  refine ⟨n, hn, ?_⟩
  by_cases e1 : v = u <;> by_cases e2 : v = k <;> simp only [e1, e2, if_true, if_false, sP, aE] <;> simp_all <;> rfl
theorem appT_at {T : Tre} {k u v : Nat} {n : Nod} (h : T v = some n) : appT T k u v = some (n.1, (if v = k then nI u else n.2.1), n.2.2.1, n.2.2.2.1, if v = u then n.2.2.2.2 ++ [nI k] else n.2.2.2.2) := by
  obtain ⟨m, hm⟩ := appT_some (j := k) (k := u) h
  obtain ⟨n2, h2, rfl⟩ := appT_inv hm
  rw [h] at h2; cases h2
  exact hm
theorem folOf_appT {T : Tre} {k u : Nat} (e : Int32) : folOf (appT T k u) e = folOf T e := by
  unfold appT; rw [folOf_opT (f := aE (nI k)) (fun n => rfl), folOf_opT (f := sP (nI u)) (fun n => rfl)]
theorem TJ.app {T : Tre} {k u : Nat} {nk nu : Nod} (h : TJ T k) (hTk : T k = some nk) (hTu : T u = some nu) (huk : u ≠ k) (hl : nu.2.2.2.2.length < 40) (hd : ∀ e ∈ nu.2.2.2.2, ¬ folOf T e = nk.2.2.2.1) (hw : ∀ n, wF T k n u = 0) : TI (appT T k u) := by
  have hk := h.2.2.2.2.2
  have hk0 := h.2.2.2.2.1
  have hu := (h.2.1 u nu hTu).1
  have fk : folOf T (nI k) = nk.2.2.2.1 := folOf_n (by omega) hTk
  refine ⟨?_, fun v n1 hn1 => ?_, fun v n1 hn1 hv0 => ?_, ?_⟩
  · obtain ⟨rt, r1, r2, r3, r4, r5⟩ := h.1
    refine ⟨_, appT_at r1, r2, ?_, r4, r5⟩
    show (if 0 = k then nI u else rt.2.1) = -1
    rw [if_neg (Ne.symm hk0)]; exact r3
  · obtain ⟨n, hn, rfl⟩ := appT_inv hn1
    obtain ⟨b1, b2, b3, b4, b5⟩ := h.2.1 v n hn
    have old : ∀ e ∈ n.2.2.2.2, ∃ (j : Nat) (m : Nod), j < 200 ∧ j ≠ 0 ∧ e = nI j ∧ appT T k u j = some m ∧ m.2.1 = nI v := fun e he => by
      obtain ⟨j, m, j1, j2, jk, j3, j4, j5⟩ := b4 e he
      refine ⟨j, _, j1, j2, j3, appT_at j4, ?_⟩
      show (if j = k then nI u else m.2.1) = nI v
      rw [if_neg jk]; exact j5
    have nin : nI k ∉ n.2.2.2.2 := fun q => by
      obtain ⟨j, m, j1, j2, jk, j3, j4, j5⟩ := b4 _ q
      exact jk ((nI_eq (a := j) (b := k) (by omega) (by omega)).mp j3.symm)
    by_cases e : v = u
    · subst e
      rw [hTu] at hn; cases hn
      show v < 200 ∧ (if v = v then nu.2.2.2.2 ++ [nI k] else nu.2.2.2.2).length ≤ 40 ∧ (if v = v then nu.2.2.2.2 ++ [nI k] else nu.2.2.2.2).Nodup ∧ (∀ e ∈ (if v = v then nu.2.2.2.2 ++ [nI k] else nu.2.2.2.2), _) ∧ (∀ e1 ∈ (if v = v then nu.2.2.2.2 ++ [nI k] else nu.2.2.2.2), ∀ e2 ∈ (if v = v then nu.2.2.2.2 ++ [nI k] else nu.2.2.2.2), _)
      rw [if_pos rfl]
      refine ⟨b1, by rw [List.length_append]; simp; omega, List.nodup_append.mpr ⟨b3, List.nodup_cons.mpr ⟨List.not_mem_nil, List.nodup_nil⟩, fun a ha b hb q => ?_⟩, fun x hx => ?_, fun x hx y hy q => ?_⟩
      · rw [List.mem_singleton] at hb; rw [q, hb] at ha; exact nin ha
      · rcases List.mem_append.mp hx with hx | hx
        · exact old x hx
        · rw [List.mem_singleton] at hx
          refine ⟨k, _, hk, hk0, hx, appT_at hTk, ?_⟩
          show (if k = k then nI v else _) = nI v
          rw [if_pos rfl]
      · rw [folOf_appT, folOf_appT] at q
        rcases List.mem_append.mp hx with hx | hx <;> rcases List.mem_append.mp hy with hy | hy
        · exact b5 x hx y hy q
        · rw [List.mem_singleton] at hy; rw [hy, fk] at q; exact absurd q (hd x hx)
        · rw [List.mem_singleton] at hx; rw [hx, fk] at q; exact absurd q.symm (hd y hy)
        · rw [List.mem_singleton] at hx hy; rw [hx, hy]
    · show v < 200 ∧ (if v = u then n.2.2.2.2 ++ [nI k] else n.2.2.2.2).length ≤ 40 ∧ (if v = u then n.2.2.2.2 ++ [nI k] else n.2.2.2.2).Nodup ∧ (∀ e ∈ (if v = u then n.2.2.2.2 ++ [nI k] else n.2.2.2.2), _) ∧ (∀ e1 ∈ (if v = u then n.2.2.2.2 ++ [nI k] else n.2.2.2.2), ∀ e2 ∈ (if v = u then n.2.2.2.2 ++ [nI k] else n.2.2.2.2), _)
      rw [if_neg e]
      refine ⟨b1, b2, b3, old, fun x hx y hy q => ?_⟩
      rw [folOf_appT, folOf_appT] at q; exact b5 x hx y hy q
  · obtain ⟨n, hn, rfl⟩ := appT_inv hn1
    obtain ⟨a1, a2⟩ := h.2.2.1 v n hn hv0
    refine ⟨a1, ?_⟩
    by_cases e : v = k
    · subst e
      refine ⟨u, _, hu, if_pos rfl, appT_at hTu, ?_⟩
      show nI v ∈ (if u = u then nu.2.2.2.2 ++ [nI v] else nu.2.2.2.2)
      rw [if_pos rfl]; exact List.mem_append_right _ (List.mem_singleton.mpr rfl)
    · obtain ⟨p, m, p1, p2, p3, p4⟩ := a2 e
      refine ⟨p, _, p1, (if_neg e).trans p2, appT_at p3, ?_⟩
      show nI v ∈ (if p = u then m.2.2.2.2 ++ [nI k] else m.2.2.2.2)
      split
      · exact List.mem_append_left _ p4
      · exact p4
  · obtain ⟨dp, hdp⟩ := h.2.2.2.1
    obtain ⟨d2, hd2⟩ : ∃ d2 : Nat → Nat, ∀ v, ((∃ n, wF T k n v = 1) → d2 v = dp v + dp u + 1) ∧ (¬ (∃ n, wF T k n v = 1) → d2 v = dp v) := ⟨fun v => @ite _ (∃ n, wF T k n v = 1) (Classical.propDecidable _) (dp v + dp u + 1) (dp v), fun v => ⟨fun q => if_pos q, fun q => if_neg q⟩⟩
    refine ⟨d2, fun v n1 hn1 hv0 => ?_⟩
    obtain ⟨n, hn, rfl⟩ := appT_inv hn1
    by_cases e : v = k
    · subst e
      refine ⟨u, _, hu, if_pos rfl, appT_at hTu, ?_⟩
      have s1 : ¬ ∃ n, wF T v n u = 1 := fun ⟨n, q⟩ => absurd ((hw n).symm.trans q) (by decide)
      have s2 : ∃ n, wF T v n v = 1 := ⟨1, by unfold wF; rw [if_pos rfl]⟩
      rw [(hd2 u).2 s1, (hd2 v).1 s2]; omega
    · obtain ⟨p, m, p1, p2, p3, p4⟩ := hdp v n hn hv0 e
      refine ⟨p, _, p1, (if_neg e).trans p2, appT_at p3, ?_⟩
      have hs : ∀ n, wF T k (n + 1) v = wF T k n p := fun n => by rw [wF, if_neg e, if_neg hv0, parN_s hn p2 p1]
      by_cases s1 : ∃ n, wF T k n p = 1
      · obtain ⟨n0, hn0⟩ := s1
        rw [(hd2 p).1 ⟨n0, hn0⟩, (hd2 v).1 ⟨n0 + 1, (hs n0).trans hn0⟩]; omega
      · have s2 : ¬ ∃ n, wF T k n v = 1 := fun ⟨n0, q⟩ => by
          cases n0 with
          | zero => exact absurd (show (0 : Int32) = 1 from q) (by decide)
          | succ n0 => exact s1 ⟨n0, (hs n0).symm.trans q⟩
        rw [(hd2 p).2 s1, (hd2 v).2 s2]; exact p4
