theorem CT.del {ex : Nat → Bool} {R : Nat → Nat → List Int32} {N N1 : Nat → Nat → Int32} {T : Tre} {Bn : Nat → List Int32} (h : CT ex R N T Bn) {v : Nat} (hv : v < 200) (hN : N1 = updN N (v + 1) 0 0) : CT ex R N1 (setT T v none) Bn := by
  have := h.set (ex1 := ex) (R1 := R) (N1 := N1) (B := Bn v) (on := none) hv (fun k hk => ⟨rfl, fun i _ => by rw [hN, updN_n (by omega)], fun j _ => rfl⟩) (fun _ _ => by rw [hN, updN_s]) (fun n q => by cases q)
  rw [show (fun k => if k = v then Bn v else Bn k) = Bn from upB_id] at this
  exact this
theorem detT_e {T : Tre} {k q : Nat} {n : Nod} (hT : T k = some n) (hq : n.2.1 = nI q) (h2 : q < 200) : detT T k = opT T q (rE (nI k)) := by unfold detT; rw [parN_s hT hq h2]
theorem cntF_rem {T : Tre} {k : Nat} {n : Nod} (hT : T k = some n) (hk : k < 200) : cntF (remT T k) 200 + 1 = cntF T 200 := by
  unfold remT
  obtain ⟨m, hm⟩ : ∃ m, detT T k k = some m := by unfold detT; exact opT_some hT
  rw [cntF_del hm 200 hk]
  unfold detT; exact cntF_op
theorem cntF_put {T : Tre} {u k : Nat} {dr : Int32} {nm : List Int32} (hT : T u = none) (hu : u < 200) : cntF (putT T u k dr nm) 200 = cntF T 200 + 1 := by
  unfold putT appT
  rw [cntF_op, cntF_op, cntF_new hT 200 hu]
theorem cntF_mov {T : Tre} {v k : Nat} {nm : List Int32} : cntF (movT T v k nm) 200 = cntF T 200 := by
  unfold movT appT detT
  rw [cntF_op, cntF_op, cntF_op, cntF_op]
theorem ra_0 {tp : List Int32} (h : tp.length < 1000) : ra tp 0 = 47 ↔ (0 < tp.length ∧ tp.getD 0 0 = 47) := by
  by_cases e : 0 < tp.length
  · rw [show (0 : Int32) = nI 0 from rfl, ra_nat e h]; exact ⟨fun q => ⟨e, q⟩, fun q => q.2⟩
  · have : tp = [] := List.length_eq_zero_iff.mp (by omega)
    subst this
    exact ⟨fun q => absurd (show ra [] 0 = 47 from q) (by decide), fun q => absurd q.1 e⟩
theorem nmI_r (xs : List Int32) : nmI xs = 0 ∨ nmI xs = 1 := by
  by_cases h : nmOK xs
  · exact Or.inr (nmI_1 h)
  · exact Or.inl (nmI_0 h)
/-- the lists by names do not matter to a walk; what one piece answers is a node, or below 0 -/
theorem stp_ok {T : Tre} (hI : TI T) {v : Nat} {n : Nod} {pc : List Int32} (hv : v < 200) (hT : T v = some n) : (stp T v pc < 0) ∨ ∃ (u : Nat) (m : Nod), u < 200 ∧ stp T v pc = nI u ∧ T u = some m := by
  rw [stp_n hT]
  by_cases h1 : isD pc 0 pc.length
  · rw [if_pos h1]
    by_cases h2 : n.1 = 0
    · rw [if_pos h2]; exact Or.inl (by decide)
    · rw [if_neg h2]
      by_cases h3 : pc.length = 1
      · rw [if_pos h3]; exact Or.inr ⟨v, n, hv, rfl, hT⟩
      · rw [if_neg h3]
        by_cases h4 : v = 0
        · rw [if_pos h4]; obtain ⟨rt, hrt, -⟩ := hI.1; exact Or.inr ⟨0, rt, by omega, rfl, hrt⟩
        · rw [if_neg h4]; obtain ⟨-, q, m, q1, q2, q3, -⟩ := hI.2.2.1 v n hT h4; exact Or.inr ⟨q, m, q1, q2, q3⟩
  · rw [if_neg h1]
    by_cases h2 : nmI pc = 0
    · rw [if_pos h2]; exact Or.inl (by decide)
    · rw [if_neg h2]
      by_cases h3 : n.1 = 0
      · rw [if_pos h3]; exact Or.inl (by decide)
      · rw [if_neg h3]
        rcases hI.elk hT (X := folds pc) (bt := -1) rfl with ⟨-, e⟩ | ⟨u, m, u1, -, u3, u4, -⟩
        · exact Or.inl e
        · exact Or.inr ⟨u, m, u1, u3, u4⟩
