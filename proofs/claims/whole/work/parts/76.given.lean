/-! THE START: what the Statement gives, as the methods take it -/
def kqT (i : Nat) : Term := match i with
  | 0 => .string "FoldedNames$Folding" 26
  | 1 => .string "FoldedNames$Folding" 48
  | 2 => .string "FoldedNames" 41
  | 3 => .string "FoldedNames" 50
  | 4 => .string "FoldedNames" 106
  | _ => .string "FoldedNames" 126
abbrev kqV (i : Nat) : Term := .field (kqT i) "java/lang/String" "value" "[B"
abbrev gvL : List Cond := flatC (Jvm.Cond.and given_1 narrow_1)
set_option maxRecDepth 100000 in
theorem gv_ex : ∀ i : Nat, i < 6 → Cond.exactly (kqT i) "java/lang/String" ∈ gvL := by decide +kernel
set_option maxRecDepth 100000 in
theorem gv_co : ∀ i : Nat, i < 6 → Cond.eq (.field (kqT i) "java/lang/String" "coder" "B") (.int 0) ∈ gvL := by decide +kernel
set_option maxRecDepth 100000 in
theorem gv_ar : ∀ i : Nat, i < 6 → Cond.arrayOf (kqV i) .byte ∈ gvL := by decide +kernel
set_option maxRecDepth 100000 in
theorem gv_le : ∀ i : Nat, i < 6 → Cond.eq (.length (kqV i)) (.int (Int32.ofNat (kq_len.getD i 0))) ∈ gvL := by decide +kernel
abbrev gvE (i j : Nat) : Cond := Cond.eq (.elem (kqV i) (.int (Int32.ofNat j))) (.int ((kq_byt.getD i []).getD j 0))
theorem gv_sub {i off n : Nat} (h : (gvL.drop off).take n = (List.range n).map (gvE i)) : ∀ j : Nat, j < n → gvE i j ∈ gvL := fun j hj => List.mem_of_mem_drop (List.mem_of_mem_take (show gvE i j ∈ (gvL.drop off).take n by rw [h]; exact List.mem_map.mpr ⟨j, List.mem_range.mpr hj, rfl⟩))
set_option maxRecDepth 100000 in
theorem gv_l0 : (gvL.drop 29).take 64 = (List.range 64).map (gvE 0) := by decide +kernel
set_option maxRecDepth 100000 in
theorem gv_l1 : (gvL.drop 97).take 64 = (List.range 64).map (gvE 1) := by decide +kernel
set_option maxRecDepth 100000 in
theorem gv_l2 : (gvL.drop 166).take 15 = (List.range 15).map (gvE 2) := by decide +kernel
set_option maxRecDepth 100000 in
theorem gv_l3 : (gvL.drop 187).take 40 = (List.range 40).map (gvE 3) := by decide +kernel
set_option maxRecDepth 100000 in
theorem gv_l4 : (gvL.drop 234).take 18 = (List.range 18).map (gvE 4) := by decide +kernel
set_option maxRecDepth 100000 in
theorem gv_l5 : (gvL.drop 260).take 19 = (List.range 19).map (gvE 5) := by decide +kernel
theorem gv_el : ∀ i : Nat, i < 6 → ∀ j : Nat, j < kq_len.getD i 0 → gvE i j ∈ gvL := by
  intro i hi
  rcases (show i = 0 ∨ i = 1 ∨ i = 2 ∨ i = 3 ∨ i = 4 ∨ i = 5 by omega) with rfl | rfl | rfl | rfl | rfl | rfl
  · exact gv_sub gv_l0
  · exact gv_sub gv_l1
  · exact gv_sub gv_l2
  · exact gv_sub gv_l3
  · exact gv_sub gv_l4
  · exact gv_sub gv_l5
set_option maxRecDepth 100000 in
theorem gv_ne : ∀ i : Nat, i < 6 → ∀ j : Nat, j < 6 → i ≠ j → Cond.not (Cond.eq (kqT i) (kqT j)) ∈ gvL ∨ Cond.not (Cond.eq (kqT j) (kqT i)) ∈ gvL := by decide +kernel
set_option maxRecDepth 100000 in
theorem gv_ms : Cond.arrayOf (.static RX0 "MARK_STEPS" "[I") .int ∈ gvL ∧ Cond.eq (.length (.static RX0 "MARK_STEPS" "[I")) (.int (Int32.ofNat 7)) ∈ gvL ∧ ∀ j : Nat, j < 7 → Cond.eq (.elem (.static RX0 "MARK_STEPS" "[I") (.int (Int32.ofNat j))) (.int (kq_steps.getD j 0)) ∈ gvL := by decide +kernel
set_option maxRecDepth 100000 in
theorem gv_st : Cond.eq (.static RJ0 "COMPACT_STRINGS" "Z") (.int 1) ∈ gvL ∧ Cond.isRef (.static RJ3 "SIOOBE_FORMATTER" "Ljava/util/function/BiFunction;") ∈ gvL ∧ Cond.isRef (.static Bundle.tN "UNASSIGNED_STACK" Bundle.steD) ∈ gvL ∧ Cond.isRef (.static Bundle.tN "SUPPRESSED_SENTINEL" Bundle.listD) ∈ gvL := by decide +kernel
set_option maxRecDepth 100000 in
theorem tb_st : ∀ w ∈ [Cond.laysStatic RX0 "MARK_STEPS" "[I", Cond.initialized RX0, Cond.laysStatic RJ0 "COMPACT_STRINGS" "Z", Cond.initialized RJ0, Cond.laysStatic RJ3 "SIOOBE_FORMATTER" "Ljava/util/function/BiFunction;", Cond.initialized RJ3, Cond.laysStatic Bundle.tN "UNASSIGNED_STACK" Bundle.steD, Cond.laysStatic Bundle.tN "SUPPRESSED_SENTINEL" Bundle.listD, Cond.initialized Bundle.tN], w ∈ lw_tbl := by decide +kernel
set_option maxRecDepth 100000 in
theorem tb_sr : ∀ w ∈ [Cond.stringRef RX0 26 "AAAAAA_CEEEEIIII_NOOOOO__UUUUY__aaaaaa_ceeeeiiii_nooooo__uuuuy_y", Cond.stringRef RX0 48 "012345_601240124_301234__01241__012345_601240124_301234__01241_4", Cond.stringRef RX4 41 "n is not 1 .. 8", Cond.stringRef RX4 50 "the tape would have more than 200 octets", Cond.stringRef RX4 106 "what is not 0 .. 5", Cond.stringRef RX4 126 "which is not 0 or 1"], w ∈ lw_tbl := by decide +kernel
set_option maxRecDepth 100000 in
theorem tb_ao : ∀ w ∈ Cond.arrayOver (.object RX1) :: Cond.arrayClass .int :: Cond.arrayClass .boolean :: Cond.arrayClass .long :: Cond.instantiable RX1 7 :: Cond.instantiable RX2 2 :: Cond.instantiable RX4 5 :: Cond.instantiable RX5 21 :: me_N, w ∈ lw_tbl := by decide +kernel
/-- an array's class, out of its word -/
theorem ar_cls {s : State} {args : Array Value} {ty : FieldType} (h : (Cond.arrayClass ty).before args s = true) (hno : ∀ C, ty ≠ .object C) : ∃ cA : ClassId, ArrOfT s cA ty ∧ va_RA s cA ty := by
  obtain ⟨cA, k, comp, h1, h2, h3⟩ := Cond.arrayClass_spec h
  refine ⟨cA, fun n z => ⟨fun k h => (by cases h), k, h2, comp, h3⟩, ?_⟩
  cases ty with
  | object C => exact absurd rfl (hno C)
  | _ => exact h1
theorem ar_obj {s : State} {args : Array Value} {C : String} (h : (Cond.arrayOver (.object C)).before args s = true) : ∃ cA : ClassId, ArrOfT s cA (.object C) ∧ va_RA s cA (.object C) := by
  obtain ⟨comp, cA, k, h1, -, h2, h3, h4⟩ := Cond.arrayOver_spec h
  exact ⟨cA, fun n z => ⟨fun k h => (by cases h), k, h2, comp, h3⟩, k, comp, h2, h3, h1, h4⟩
set_option maxHeartbeats 4000000 in
theorem law_given {p : Program} {s : State} {m : MethodId} {meth : Method} {c : Code} {b L : Nat} {xs : Nat → Int32} (hA : lw_At p s m meth c b L xs) : ∃ G : me_G, me_K G s ∧ Kq G s.heap.size s s.heap ∧ me_E s ∧ va_AO RX1 s := by
  obtain ⟨-, -, -, -, -, hts, -, -, -, hgv⟩ := hA
  have hs := flat_of_before _ hgv
  have hB : ∀ a : Nat, a < s.heap.size → ¬ (fun q : Nat => s.heap.size ≤ q) a := fun a h9 => Nat.not_le.mpr h9
  have ha : ∀ w : Cond, w ∈ _ → w.before #[Value.ref b] s = true := fun w hw => hts w (tb_ao w hw)
  have hst : ∀ w : Cond, w ∈ _ → w.before #[Value.ref b] s = true := fun w hw => hts w (tb_st w hw)
  have hsr : ∀ w : Cond, w ∈ _ → w.before #[Value.ref b] s = true := fun w hw => hts w (tb_sr w hw)
  obtain ⟨c0, i0, k0⟩ := u_known (C := RX1) (T := TX1) (N := 7) (n := 7) hts (fun w hw => tb_in (inX1 w hw)) (ha _ (by simp))
  obtain ⟨c1, i1, k1⟩ := u_known (C := RX2) (T := TX2) (N := 2) (n := 2) hts (fun w hw => tb_in (inX2 w hw)) (ha _ (by simp))
  obtain ⟨c2, i2, k2⟩ := u_known (C := RX4) (T := TX4) (N := 5) (n := 5) hts (fun w hw => tb_in (inX4 w hw)) (ha _ (by simp))
  obtain ⟨c3, i3, k3⟩ := u_known (C := RX5) (T := TX5) (N := 21) (n := 21) hts (fun w hw => tb_in (inX5 w hw)) (ha _ (by simp))
  obtain ⟨dC, dI, hKc⟩ : ∃ (dC : Nat → ClassId) (dI : Nat → Nat → Nat), ∀ (k : Nat) (q : vw_C), vwCl[k]? = some q → u_Kn s q.1 q.2.1 q.2.2 (dC k) (dI k) := by
    refine ⟨fun k => if k = 0 then c0 else if k = 1 then c1 else if k = 2 then c2 else c3, fun k => if k = 0 then i0 else if k = 1 then i1 else if k = 2 then i2 else i3, ?_⟩
    intro k q hq
    match k, hq with
    | 0, hq => cases hq; exact k0
    | 1, hq => cases hq; exact k1
    | 2, hq => cases hq; exact k2
    | 3, hq => cases hq; exact k3
    | k + 4, hq => simp [vwCl] at hq
  obtain ⟨aI, hI1, hI2⟩ := ar_cls (ha (Cond.arrayClass .int) (by simp)) (fun C h => by cases h)
  obtain ⟨aZ, hZ1, hZ2⟩ := ar_cls (ha (Cond.arrayClass .boolean) (by simp)) (fun C h => by cases h)
  obtain ⟨aJ, hJ1, hJ2⟩ := ar_cls (ha (Cond.arrayClass .long) (by simp)) (fun C h => by cases h)
  obtain ⟨aN, hN1, hN2⟩ := ar_obj (ha (Cond.arrayOver (.object RX1)) (by simp))
  obtain ⟨adK, adV, hS, hEv⟩ := vk_Sof (args := #[Value.ref b]) (s := s) (A := (fun q : Nat => s.heap.size ≤ q)) (tm := kqT) (len := kq_len) (byt := kq_byt) (N := 6) (fun i hi => by revert i hi; decide) (fun i hi => hs _ (gv_ex i hi)) (fun i hi => hs _ (gv_co i hi)) (fun i hi => hs _ (gv_ar i hi)) (fun i hi => hs _ (gv_le i hi)) (fun i hi j hj => hs _ (gv_el i hi j hj)) (fun i j hi hj hij => (gv_ne i hi j hj hij).elim (fun h => Or.inl (hs _ h)) (fun h => Or.inr (hs _ h))) hB
  obtain ⟨tM, htM, hTM⟩ := va_Tof (args := #[Value.ref b]) (s := s) (tm := .static RX0 "MARK_STEPS" "[I") (ty := .int) (f := fun j => .int (kq_steps.getD j 0)) (N := 7) (A := (fun q : Nat => s.heap.size ≤ q)) (by decide) (hs _ gv_ms.1) (va_eqt (hs _ gv_ms.2.1)) (fun j hj => va_eqt (hs _ (gv_ms.2.2 j hj))) hB
  refine ⟨((dC, dI), (aI, aZ, aJ, aN), adK, adV, tM), ⟨hKc, ?_⟩, ⟨hS, ⟨vk_R.of (hsr _ (by simp)) (hEv 0 (by decide)), vk_R.of (hsr _ (by simp)) (hEv 1 (by decide)), vk_R.of (hsr _ (by simp)) (hEv 2 (by decide)), vk_R.of (hsr _ (by simp)) (hEv 3 (by decide)), vk_R.of (hsr _ (by simp)) (hEv 4 (by decide)), vk_R.of (hsr _ (by simp)) (hEv 5 (by decide))⟩, ⟨va_Zof (hst _ (by simp)) (hst _ (by simp)) htM hB, hTM⟩, ⟨va_Zof (hst _ (by simp)) (hst _ (by simp)) (va_eqt (hs _ gv_st.1)) hB, va_Zqof (hst _ (by simp)) (hst _ (by simp)) (hs _ gv_st.2.1) hB⟩, vx_Zqof (hst _ (by simp)) (hst _ (by simp)) (hs _ gv_st.2.2.1) hB, vx_Zqof (hst _ (by simp)) (hst _ (by simp)) (hs _ gv_st.2.2.2) hB⟩, ⟨va_Nw.of rfl (ha _ (by simp [me_N])), va_Nw.of rfl (ha _ (by simp [me_N])), va_Nw.of rfl (ha _ (by simp [me_N])), va_Nw.of rfl (ha _ (by simp [me_N]))⟩, va_AO.of (ha _ (by simp))⟩
  intro k q hq
  match k, hq with
  | 0, hq => cases hq; exact ⟨hI1, hI2⟩
  | 1, hq => cases hq; exact ⟨hZ1, hZ2⟩
  | 2, hq => cases hq; exact ⟨hJ1, hJ2⟩
  | 3, hq => cases hq; exact ⟨hN1, hN2⟩
  | k + 4, hq => simp [me_T] at hq
