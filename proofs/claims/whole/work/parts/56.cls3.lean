set_option maxHeartbeats 4000000 in
set_option maxRecDepth 100000 in
/-- begin(asDirectory) -/
theorem c_X1_begin (l : Launch) (G : me_G) (B0 : Nat) (w : Me) (b : Nat → Nat) (Rr : Nat → List Int32) (Nn : Nat → Int32) (hND : ND G B0 w b Rr Nn) (dr : Int32) (hnb : narrow .boolean (.int dr) = .int dr) (hfit : fits .boolean (.int dr) = true) : CtWV l yX1_begin (Cond.code yX1_begin cX1_begin 2 none) ({ frames := 1, cells := 0, slots := 0, locals := 20 }) G B0 w [.ref (b 0), .int dr] (fun w' => ND G B0 w' b (fun _ => []) (fun i => if i = 0 then 1 else if i = 1 then dr else -1) ∧ FrB w w' b) 0 0 := by
  refine Met.ofW (cc := cX1_begin) (maxL := 2) (ret := none) (by decide) rfl ?_
  intro p e s m args below meth c s₁ B hml hv
  obtain ⟨rfl, hK, hP, hKq, hBs⟩ := hv
  have hts := fun w h => atoms_spec (ws := Cond.code yX1_begin cX1_begin 2 none :: tbG) B.pre w (List.mem_cons_of_mem _ h)
  have hown : s.vm.findClass RX1 = some m.cls := findClass_of_methodNamed B.named
  have C0 : Cx G B0 p s m _ c cX1_begin RX1 := ⟨B.exec, B.bytes, hown, hts, hK, hKq, hBs⟩
  have hS : va_S (me_A B0) s.heap s.heap [] := va_S.rf
  have hl := lv_entry ([.ref (b 0), .int dr]) (n := 2) (Nat.le_of_ble_eq_true rfl)
  rw [lg_entry_eq]
  generalize (lg_sl ([.ref (b 0), .int dr]) ++ List.replicate (2 - (lg_sl ([.ref (b 0), .int dr])).length) Slot.unset).toArray = ls at hl ⊢
  have hl : lv_has ls 2 [(0, .ref (b 0)), (1, .int dr)] := hl
  have hFB : FrB w w b := FrB.rf
  refine lv_aload_n C0.1 C0.2.1 dX1_begin_0 rfl (lv_at hl 0 rfl) ?_
  refine me_get C0 hP hND.1 rfl inX1 0 (by decide) kw_81 rfl dX1_begin_1 ?_
  refine me_cVwv (n := 0) C0 hml hP hS (c_X2_clear l G B0 w (b 1) (b (1 + 1)) (capR 1 1) (Rr 1) (hND.2.1 1 (Or.inl rfl)) (hND.2.2.2 1 (by omega)) (hND.2.2.2 2 (by omega))) ⟨kw_117, kw_32, kw_114, ⟨by decide, by decide, by decide +kernel⟩, ⟨rfl, rfl⟩, ⟨Nat.le_of_ble_eq_true rfl, Nat.le_of_ble_eq_true rfl⟩⟩ kw_115 kw_116 (hND.2.1 1 (Or.inl rfl)).1 rfl rfl hl.1 rfl (Nat.le_of_ble_eq_true rfl) ⟨Nat.le_of_ble_eq_true rfl, Nat.le_of_ble_eq_true rfl⟩ dX1_begin_4 (fun w1 H locs hw1 hP hS => ?_)
  have hFB := hFB.ch (i := 1) (j := 1 + 1) (by omega) (by omega) hw1.2
  have hND := hND.row (j := 1) (Or.inl rfl) hw1.1 hw1.2
  refine lv_aload_n C0.1 C0.2.1 dX1_begin_7 rfl (lv_at hl 0 rfl) ?_
  refine me_get C0 hP hND.1 rfl inX1 1 (by decide) kw_83 rfl dX1_begin_8 ?_
  refine me_cVwv (n := 0) C0 hml hP hS (c_X2_clear l G B0 w1 (b 3) (b (3 + 1)) (capR 1 3) ((fun i => if i = 1 then [] else Rr i) 3) (hND.2.1 3 (Or.inr (Or.inl rfl))) (hND.2.2.2 3 (by omega)) (hND.2.2.2 4 (by omega))) ⟨kw_117, kw_32, kw_114, ⟨by decide, by decide, by decide +kernel⟩, ⟨rfl, rfl⟩, ⟨Nat.le_of_ble_eq_true rfl, Nat.le_of_ble_eq_true rfl⟩⟩ kw_115 kw_116 (hND.2.1 3 (Or.inr (Or.inl rfl))).1 rfl rfl hl.1 rfl (Nat.le_of_ble_eq_true rfl) ⟨Nat.le_of_ble_eq_true rfl, Nat.le_of_ble_eq_true rfl⟩ dX1_begin_11 (fun w2 H locs hw2 hP hS => ?_)
  have hFB := hFB.ch (i := 3) (j := 3 + 1) (by omega) (by omega) hw2.2
  have hND := hND.row (j := 3) (Or.inr (Or.inl rfl)) hw2.1 hw2.2
  refine lv_aload_n C0.1 C0.2.1 dX1_begin_14 rfl (lv_at hl 0 rfl) ?_
  refine me_get C0 hP hND.1 rfl inX1 2 (by decide) kw_85 rfl dX1_begin_15 ?_
  refine me_cVwv (n := 0) C0 hml hP hS (c_X2_clear l G B0 w2 (b 5) (b (5 + 1)) (capR 1 5) ((fun i => if i = 3 then [] else (fun i => if i = 1 then [] else Rr i) i) 5) (hND.2.1 5 (Or.inr (Or.inr (Or.inl rfl)))) (hND.2.2.2 5 (by omega)) (hND.2.2.2 6 (by omega))) ⟨kw_117, kw_32, kw_114, ⟨by decide, by decide, by decide +kernel⟩, ⟨rfl, rfl⟩, ⟨Nat.le_of_ble_eq_true rfl, Nat.le_of_ble_eq_true rfl⟩⟩ kw_115 kw_116 (hND.2.1 5 (Or.inr (Or.inr (Or.inl rfl)))).1 rfl rfl hl.1 rfl (Nat.le_of_ble_eq_true rfl) ⟨Nat.le_of_ble_eq_true rfl, Nat.le_of_ble_eq_true rfl⟩ dX1_begin_18 (fun w3 H locs hw3 hP hS => ?_)
  have hFB := hFB.ch (i := 5) (j := 5 + 1) (by omega) (by omega) hw3.2
  have hND := hND.row (j := 5) (Or.inr (Or.inr (Or.inl rfl))) hw3.1 hw3.2
  refine lv_aload_n C0.1 C0.2.1 dX1_begin_21 rfl (lv_at hl 0 rfl) ?_
  refine me_get C0 hP hND.1 rfl inX1 3 (by decide) kw_87 rfl dX1_begin_22 ?_
  refine me_cVwv (n := 0) C0 hml hP hS (c_X2_clear l G B0 w3 (b 7) (b (7 + 1)) (capR 1 7) ((fun i => if i = 5 then [] else (fun i => if i = 3 then [] else (fun i => if i = 1 then [] else Rr i) i) i) 7) (hND.2.1 7 (Or.inr (Or.inr (Or.inr rfl)))) (hND.2.2.2 7 (by omega)) (hND.2.2.2 8 (by omega))) ⟨kw_117, kw_32, kw_114, ⟨by decide, by decide, by decide +kernel⟩, ⟨rfl, rfl⟩, ⟨Nat.le_of_ble_eq_true rfl, Nat.le_of_ble_eq_true rfl⟩⟩ kw_115 kw_116 (hND.2.1 7 (Or.inr (Or.inr (Or.inr rfl)))).1 rfl rfl hl.1 rfl (Nat.le_of_ble_eq_true rfl) ⟨Nat.le_of_ble_eq_true rfl, Nat.le_of_ble_eq_true rfl⟩ dX1_begin_25 (fun w4 H locs hw4 hP hS => ?_)
  have hFB := hFB.ch (i := 7) (j := 7 + 1) (by omega) (by omega) hw4.2
  have hND := hND.row (j := 7) (Or.inr (Or.inr (Or.inr rfl))) hw4.1 hw4.2
  refine lv_aload_n C0.1 C0.2.1 dX1_begin_28 rfl (lv_at hl 0 rfl) ?_
  refine lv_iconst (v := 1) C0.1 C0.2.1 dX1_begin_29 (by decide) ?_
  refine me_put C0 hP hS (hND.2.2.2 0 (by omega)) hND.1 rfl inX1 tyX1 tyX1_ok nmX1 4 (by decide) kw_89 rfl narrow_b1 rfl (Nat.le_of_ble_eq_true rfl) dX1_begin_30 (fun H locs hP hS => ?_)
  obtain ⟨w5, hw5⟩ : ∃ x : Me, x = me_u w4 (b 0) (eO 0 [.ref (b 1), .ref (b 3), .ref (b 5), .ref (b 7), .int 1, .int (Nn 1), .int (Nn 2)]) := ⟨_, rfl⟩
  have hND : ND G B0 w5 b (fun i => if i = 7 then [] else (fun i => if i = 5 then [] else (fun i => if i = 3 then [] else (fun i => if i = 1 then [] else Rr i) i) i) i) (fun i => if i = 0 then 1 else Nn i) := by rw [hw5]; exact hND.num (N1 := (fun i => if i = 0 then 1 else Nn i))
  have hFB : FrB w w5 b := by rw [hw5]; exact hFB.at
  have hP : me_P G.1 w5 H := by rw [hw5]; exact hP
  refine lv_aload_n C0.1 C0.2.1 dX1_begin_33 rfl (lv_at hl 0 rfl) ?_
  refine lv_iload_n C0.1 C0.2.1 dX1_begin_34 rfl (lv_at hl 1 rfl) ?_
  refine me_put C0 hP hS (hND.2.2.2 0 (by omega)) hND.1 rfl inX1 tyX1 tyX1_ok nmX1 5 (by decide) kw_91 rfl hnb hfit (Nat.le_of_ble_eq_true rfl) dX1_begin_35 (fun H locs hP hS => ?_)
  obtain ⟨w6, hw6⟩ : ∃ x : Me, x = me_u w5 (b 0) (eO 0 [.ref (b 1), .ref (b 3), .ref (b 5), .ref (b 7), .int ((fun i => if i = 0 then 1 else Nn i) 0), .int dr, .int ((fun i => if i = 0 then 1 else Nn i) 2)]) := ⟨_, rfl⟩
  have hND : ND G B0 w6 b (fun i => if i = 7 then [] else (fun i => if i = 5 then [] else (fun i => if i = 3 then [] else (fun i => if i = 1 then [] else Rr i) i) i) i) (fun i => if i = 1 then dr else (fun i => if i = 0 then 1 else Nn i) i) := by rw [hw6]; exact hND.num (N1 := (fun i => if i = 1 then dr else (fun i => if i = 0 then 1 else Nn i) i))
  have hFB : FrB w w6 b := by rw [hw6]; exact hFB.at
  have hP : me_P G.1 w6 H := by rw [hw6]; exact hP
  refine lv_aload_n C0.1 C0.2.1 dX1_begin_38 rfl (lv_at hl 0 rfl) ?_
  refine lv_iconst (v := (-1)) C0.1 C0.2.1 dX1_begin_39 (by decide) ?_
  refine me_put C0 hP hS (hND.2.2.2 0 (by omega)) hND.1 rfl inX1 tyX1 tyX1_ok nmX1 6 (by decide) kw_93 rfl rfl rfl (Nat.le_of_ble_eq_true rfl) dX1_begin_40 (fun H locs hP hS => ?_)
  obtain ⟨w7, hw7⟩ : ∃ x : Me, x = me_u w6 (b 0) (eO 0 [.ref (b 1), .ref (b 3), .ref (b 5), .ref (b 7), .int ((fun i => if i = 1 then dr else (fun i => if i = 0 then 1 else Nn i) i) 0), .int ((fun i => if i = 1 then dr else (fun i => if i = 0 then 1 else Nn i) i) 1), .int ((-1))]) := ⟨_, rfl⟩
  have hND : ND G B0 w7 b (fun i => if i = 7 then [] else (fun i => if i = 5 then [] else (fun i => if i = 3 then [] else (fun i => if i = 1 then [] else Rr i) i) i) i) (fun i => if i = 2 then (-1) else (fun i => if i = 1 then dr else (fun i => if i = 0 then 1 else Nn i) i) i) := by rw [hw7]; exact hND.num (N1 := (fun i => if i = 2 then (-1) else (fun i => if i = 1 then dr else (fun i => if i = 0 then 1 else Nn i) i) i))
  have hFB : FrB w w7 b := by rw [hw7]; exact hFB.at
  have hP : me_P G.1 w7 H := by rw [hw7]; exact hP
  exact me_wvret _ C0.1 C0.2.1 B.returns B.notSynchronized hP hS (Nat.le_of_ble_eq_true rfl) (Nat.le_of_ble_eq_true rfl) (⟨hND.to (fun j hj => by rcases hj with rfl | rfl | rfl | rfl <;> rfl) (fun i hi => by rcases (show i = 0 ∨ i = 1 ∨ i = 2 by omega) with rfl | rfl | rfl <;> rfl), hFB⟩) dX1_begin_43

set_option maxHeartbeats 4000000 in
set_option maxRecDepth 100000 in
/-- takeName(octets, points) -/
theorem c_X1_takeName (l : Launch) (G : me_G) (B0 : Nat) (w : Me) (b : Nat → Nat) (Rr : Nat → List Int32) (Nn : Nat → Int32) (hND : ND G B0 w b Rr Nn) (r2 b2 c2 : Nat) (y2 : List Int32) (hY2 : Rw G w r2 b2 c2 y2) (hs2 : ∀ j, j < 9 → r2 ≠ b j ∧ b2 ≠ b j) (r3 b3 c3 : Nat) (y3 : List Int32) (hY3 : Rw G w r3 b3 c3 y3) (hs3 : ∀ j, j < 9 → r3 ≠ b j ∧ b3 ≠ b j) : CtWV l yX1_takeName (Cond.code yX1_takeName cX1_takeName 3 none) ({ frames := 2, cells := 0, slots := 0, locals := 36 }) G B0 w [.ref (b 0), .ref r2, .ref r3] (fun w' => ND G B0 w' b (fun i => if i = 1 then y2.take 60 else if i = 3 then y3.take 60 else Rr i) Nn ∧ FrB w w' b) 0 0 := by
  refine Met.ofW (cc := cX1_takeName) (maxL := 3) (ret := none) (by decide) rfl ?_
  intro p e s m args below meth c s₁ B hml hv
  obtain ⟨rfl, hK, hP, hKq, hBs⟩ := hv
  have hts := fun w h => atoms_spec (ws := Cond.code yX1_takeName cX1_takeName 3 none :: tbG) B.pre w (List.mem_cons_of_mem _ h)
  have hown : s.vm.findClass RX1 = some m.cls := findClass_of_methodNamed B.named
  have C0 : Cx G B0 p s m _ c cX1_takeName RX1 := ⟨B.exec, B.bytes, hown, hts, hK, hKq, hBs⟩
  have hS : va_S (me_A B0) s.heap s.heap [] := va_S.rf
  have hl := lv_entry ([.ref (b 0), .ref r2, .ref r3]) (n := 3) (Nat.le_of_ble_eq_true rfl)
  rw [lg_entry_eq]
  generalize (lg_sl ([.ref (b 0), .ref r2, .ref r3]) ++ List.replicate (3 - (lg_sl ([.ref (b 0), .ref r2, .ref r3])).length) Slot.unset).toArray = ls at hl ⊢
  have hl : lv_has ls 3 [(0, .ref (b 0)), (1, .ref r2), (2, .ref r3)] := hl
  have hFB : FrB w w b := FrB.rf
  refine lv_aload_n C0.1 C0.2.1 dX1_takeName_0 rfl (lv_at hl 0 rfl) ?_
  refine me_get C0 hP hND.1 rfl inX1 0 (by decide) kw_81 rfl dX1_takeName_1 ?_
  refine lv_aload_n C0.1 C0.2.1 dX1_takeName_4 rfl (lv_at hl 1 rfl) ?_
  refine me_cVwv (n := 1) C0 hml hP hS (c_X2_copyFrom l G B0 w (b 1) (b (1 + 1)) (capR 1 1) (Rr 1) (hND.2.1 1 (Or.inl rfl)) r2 b2 c2 y2 hY2 (hs2 1 (by omega)).1 (hs2 2 (by omega)).1 (hs2 1 (by omega)).2 (hs2 2 (by omega)).2 (hND.2.2.2 1 (by omega)) (hND.2.2.2 2 (by omega))) ⟨kw_305, kw_32, kw_302, ⟨by decide, by decide, by decide +kernel⟩, ⟨rfl, rfl⟩, ⟨Nat.le_of_ble_eq_true rfl, Nat.le_of_ble_eq_true rfl⟩⟩ kw_303 kw_304 (hND.2.1 1 (Or.inl rfl)).1 rfl rfl hl.1 rfl (Nat.le_of_ble_eq_true rfl) ⟨Nat.le_of_ble_eq_true rfl, Nat.le_of_ble_eq_true rfl⟩ dX1_takeName_5 (fun w1 H locs hw1 hP hS => ?_)
  have hY2 := hw1.2.rw hY2 (hs2 1 (by omega)).1 (hs2 2 (by omega)).1 (hs2 1 (by omega)).2 (hs2 2 (by omega)).2
  have hY3 := hw1.2.rw hY3 (hs3 1 (by omega)).1 (hs3 2 (by omega)).1 (hs3 1 (by omega)).2 (hs3 2 (by omega)).2
  have hFB := hFB.ch (i := 1) (j := 1 + 1) (by omega) (by omega) hw1.2
  have hND := hND.row (j := 1) (Or.inl rfl) hw1.1 hw1.2
  refine lv_aload_n C0.1 C0.2.1 dX1_takeName_8 rfl (lv_at hl 0 rfl) ?_
  refine me_get C0 hP hND.1 rfl inX1 1 (by decide) kw_83 rfl dX1_takeName_9 ?_
  refine lv_aload_n C0.1 C0.2.1 dX1_takeName_12 rfl (lv_at hl 2 rfl) ?_
  refine me_cVwv (n := 1) C0 hml hP hS (c_X2_copyFrom l G B0 w1 (b 3) (b (3 + 1)) (capR 1 3) ((fun i => if i = 1 then y2.take 60 else Rr i) 3) (hND.2.1 3 (Or.inr (Or.inl rfl))) r3 b3 c3 y3 hY3 (hs3 3 (by omega)).1 (hs3 4 (by omega)).1 (hs3 3 (by omega)).2 (hs3 4 (by omega)).2 (hND.2.2.2 3 (by omega)) (hND.2.2.2 4 (by omega))) ⟨kw_305, kw_32, kw_302, ⟨by decide, by decide, by decide +kernel⟩, ⟨rfl, rfl⟩, ⟨Nat.le_of_ble_eq_true rfl, Nat.le_of_ble_eq_true rfl⟩⟩ kw_303 kw_304 (hND.2.1 3 (Or.inr (Or.inl rfl))).1 rfl rfl hl.1 rfl (Nat.le_of_ble_eq_true rfl) ⟨Nat.le_of_ble_eq_true rfl, Nat.le_of_ble_eq_true rfl⟩ dX1_takeName_13 (fun w2 H locs hw2 hP hS => ?_)
  have hY2 := hw2.2.rw hY2 (hs2 3 (by omega)).1 (hs2 4 (by omega)).1 (hs2 3 (by omega)).2 (hs2 4 (by omega)).2
  have hY3 := hw2.2.rw hY3 (hs3 3 (by omega)).1 (hs3 4 (by omega)).1 (hs3 3 (by omega)).2 (hs3 4 (by omega)).2
  have hFB := hFB.ch (i := 3) (j := 3 + 1) (by omega) (by omega) hw2.2
  have hND := hND.row (j := 3) (Or.inr (Or.inl rfl)) hw2.1 hw2.2
  exact me_wvret _ C0.1 C0.2.1 B.returns B.notSynchronized hP hS (Nat.le_of_ble_eq_true rfl) (Nat.le_of_ble_eq_true rfl) (⟨hND.to (fun j hj => by rcases hj with rfl | rfl | rfl | rfl <;> rfl) (fun i hi => rfl), hFB⟩) dX1_takeName_16

set_option maxHeartbeats 4000000 in
set_option maxRecDepth 100000 in
/-- check() -/
theorem c_X4_check (l : Launch) (G : me_G) (B0 : Nat) (w : Me) (D : Nat → Prop) (ad : Nat → Nat → Nat) (ex : Nat → Bool) (R : Nat → Nat → List Int32) (N : Nat → Nat → Int32) (cnt : Int32) (hFN : FN G B0 D w ad ex R N cnt) (tp : List Int32) (htp : R 0 1 = tp) (ho : Oct tp) : CtWI l yX4_check (Cond.code yX4_check cX4_check 2 (some .int)) ({ frames := 3, cells := 0, slots := 0, locals := 73 }) G B0 w [.ref (ad 0 0)] (fun r w' => ∃ (R' : Nat → Nat → List Int32), FN G B0 D w' ad ex R' N cnt ∧ FDr D w w' ∧ SR R R' [(0, 1)] ∧ R' 0 1 = [] ∧ r = wr tp tp.length 0) 0 0 := by
  refine Met.ofW (cc := cX4_check) (maxL := 2) (ret := (some .int)) (by decide) rfl ?_
  intro p e s m args below meth c s₁ B hml hv
  obtain ⟨rfl, hK, hP, hKq, hBs⟩ := hv
  have hts := fun w h => atoms_spec (ws := Cond.code yX4_check cX4_check 2 (some .int) :: tbG) B.pre w (List.mem_cons_of_mem _ h)
  have hown : s.vm.findClass RX4 = some m.cls := findClass_of_methodNamed B.named
  have C0 : Cx G B0 p s m _ c cX4_check RX4 := ⟨B.exec, B.bytes, hown, hts, hK, hKq, hBs⟩
  have hS : va_S (me_A B0) s.heap s.heap [] := va_S.rf
  have hl := lv_entry ([.ref (ad 0 0)]) (n := 2) (Nat.le_of_ble_eq_true rfl)
  rw [lg_entry_eq]
  generalize (lg_sl ([.ref (ad 0 0)]) ++ List.replicate (2 - (lg_sl ([.ref (ad 0 0)])).length) Slot.unset).toArray = ls at hl ⊢
  have hl : lv_has ls 2 [(0, .ref (ad 0 0))] := hl
  have hFD : FDr D w w := FDr.rf
  have htl : tp.length ≤ 200 := (hFN.rw0 0 1 hFN.2.2.2.2.1 (Or.inl rfl) htp).2.1
  refine lv_aload_n C0.1 C0.2.1 dX4_check_0 rfl (lv_at hl 0 rfl) ?_
  refine me_get C0 hP hFN.1 rfl inX4 0 (by decide) kw_118 rfl dX4_check_1 ?_
  refine lv_iconst (v := 0) C0.1 C0.2.1 dX4_check_4 (by decide) ?_
  refine lv_aload_n C0.1 C0.2.1 dX4_check_5 rfl (lv_at hl 0 rfl) ?_
  refine me_get C0 hP hFN.1 rfl inX4 0 (by decide) kw_118 rfl dX4_check_6 ?_
  refine me_cVi (n := 0) C0 hml hP hS (c_X2_size l G B0 w (ad 0 1) (ad 0 (1 + 1)) (capR 0 1) tp (hFN.rw0 0 1 hFN.2.2.2.2.1 (Or.inl rfl) htp)) ⟨kw_141, kw_32, kw_138, ⟨by decide, by decide, by decide +kernel⟩, ⟨rfl, rfl⟩, ⟨Nat.le_of_ble_eq_true rfl, Nat.le_of_ble_eq_true rfl⟩⟩ kw_139 kw_140 (hFN.2.2.2.1 0 1 hFN.2.2.2.2.1 (Or.inl rfl)).1 rfl rfl hl.1 rfl (Nat.le_of_ble_eq_true rfl) ⟨Nat.le_of_ble_eq_true rfl, Nat.le_of_ble_eq_true rfl⟩ dX4_check_9 (fun r1 hr1 => ?_)
  subst hr1
  have hlcr1 : tp.length ≤ 200 := (hFN.rw0 0 1 hFN.2.2.2.2.1 (Or.inl rfl) htp).2.1
  refine me_cSi (n := 3) C0 hml hP hS (c_X3_wrongPlace l G B0 w (ad 0 1) (ad 0 (1 + 1)) (capR 0 1) tp (hFN.rw0 0 1 hFN.2.2.2.2.1 (Or.inl rfl) htp) 0 tp.length (by omega) (by omega)) ⟨kw_144, kw_40, kw_142, ⟨by decide, by decide, by decide +kernel⟩, ⟨rfl, rfl⟩, ⟨Nat.le_of_ble_eq_true rfl, Nat.le_of_ble_eq_true rfl⟩⟩ kw_143 rfl hl.1 rfl (Nat.le_of_ble_eq_true rfl) ⟨Nat.le_of_ble_eq_true rfl, Nat.le_of_ble_eq_true rfl⟩ dX4_check_12 (fun r2 hr2 => ?_)
  refine lv_istore_n (lv' := [(1, .int r2), (0, .ref (ad 0 0))]) C0.1 C0.2.1 dX4_check_15 rfl hl (by decide) rfl (fun ls hl => ?_)
  refine lv_aload_n C0.1 C0.2.1 dX4_check_16 rfl (lv_at hl 1 rfl) ?_
  refine me_get C0 hP hFN.1 rfl inX4 0 (by decide) kw_118 rfl dX4_check_17 ?_
  refine me_cVwv (n := 0) C0 hml hP hS (c_X2_clear l G B0 w (ad 0 1) (ad 0 (1 + 1)) (capR 0 1) tp (hFN.rw0 0 1 hFN.2.2.2.2.1 (Or.inl rfl) htp) (hFN.bb hFN.2.2.2.2.1 (rowJ_us (show rowJ 0 1 from (Or.inl rfl))).1) (hFN.bb hFN.2.2.2.2.1 (rowJ_us (show rowJ 0 1 from (Or.inl rfl))).2.1)) ⟨kw_117, kw_32, kw_162, ⟨by decide, by decide, by decide +kernel⟩, ⟨rfl, rfl⟩, ⟨Nat.le_of_ble_eq_true rfl, Nat.le_of_ble_eq_true rfl⟩⟩ kw_115 kw_116 (hFN.2.2.2.1 0 1 hFN.2.2.2.2.1 (Or.inl rfl)).1 rfl rfl hl.1 rfl (Nat.le_of_ble_eq_true rfl) ⟨Nat.le_of_ble_eq_true rfl, Nat.le_of_ble_eq_true rfl⟩ dX4_check_20 (fun w3 H locs hw3 hP hS => ?_)
  obtain ⟨hRw3, hCh3⟩ := hw3
  have hFD := hFD.ch (hFN.dd hFN.2.2.2.2.1 (rowJ_us (show rowJ 0 1 from (Or.inl rfl))).1) (hFN.dd hFN.2.2.2.2.1 (rowJ_us (show rowJ 0 1 from (Or.inl rfl))).2.1) hCh3
  have hFN := hFN.row (a := 0) (j := 1) hFN.2.2.2.2.1 (Or.inl rfl) hRw3 hCh3
  obtain ⟨R3, hR3⟩ : ∃ x, x = updR R 0 1 ([]) := ⟨_, rfl⟩
  rw [← hR3] at hFN
  have hv3_0_1 : R3 0 1 = [] := by rw [hR3, updR_s]
  refine lv_iload_n C0.1 C0.2.1 dX4_check_23 rfl (lv_at hl 0 rfl) ?_
  exact me_wiret _ C0.1 C0.2.1 B.returns B.notSynchronized hP hS (Nat.le_of_ble_eq_true rfl) (Nat.le_of_ble_eq_true rfl) (⟨_, hFN, hFD, ((SR.rf : SR R R [(0, 1)]).wr hR3 (by simp)), hv3_0_1, hr2⟩) dX4_check_24

set_option maxHeartbeats 4000000 in
set_option maxRecDepth 100000 in
/-- fold() -/
theorem c_X4_fold (l : Launch) (G : me_G) (B0 : Nat) (w : Me) (D : Nat → Prop) (ad : Nat → Nat → Nat) (ex : Nat → Bool) (R : Nat → Nat → List Int32) (N : Nat → Nat → Int32) (cnt : Int32) (hFN : FN G B0 D w ad ex R N cnt) (tp : List Int32) (htp : R 0 1 = tp) (ho : Oct tp) : CtWI l yX4_fold (Cond.code yX4_fold cX4_fold 2 (some .int)) ({ frames := 7, cells := 0, slots := 0, locals := 154 }) G B0 w [.ref (ad 0 0)] (fun r w' => ∃ (R' : Nat → Nat → List Int32), FN G B0 D w' ad ex R' N cnt ∧ FDr D w w' ∧ SR R R' [(0, 1), (0, 3)] ∧ R' 0 1 = [] ∧ ((wr tp tp.length 0 = -1 ∧ r = nI (folds tp).length ∧ R' 0 3 = folds tp) ∨ (¬ wr tp tp.length 0 = -1 ∧ r = -2 ∧ R' 0 3 = R 0 3))) 0 0 := by
  refine Met.ofW (cc := cX4_fold) (maxL := 2) (ret := (some .int)) (by decide) rfl ?_
  intro p e s m args below meth c s₁ B hml hv
  obtain ⟨rfl, hK, hP, hKq, hBs⟩ := hv
  have hts := fun w h => atoms_spec (ws := Cond.code yX4_fold cX4_fold 2 (some .int) :: tbG) B.pre w (List.mem_cons_of_mem _ h)
  have hown : s.vm.findClass RX4 = some m.cls := findClass_of_methodNamed B.named
  have C0 : Cx G B0 p s m _ c cX4_fold RX4 := ⟨B.exec, B.bytes, hown, hts, hK, hKq, hBs⟩
  have hS : va_S (me_A B0) s.heap s.heap [] := va_S.rf
  have hl := lv_entry ([.ref (ad 0 0)]) (n := 2) (Nat.le_of_ble_eq_true rfl)
  rw [lg_entry_eq]
  generalize (lg_sl ([.ref (ad 0 0)]) ++ List.replicate (2 - (lg_sl ([.ref (ad 0 0)])).length) Slot.unset).toArray = ls at hl ⊢
  have hl : lv_has ls 2 [(0, .ref (ad 0 0))] := hl
  have hFD : FDr D w w := FDr.rf
  have htl : tp.length ≤ 200 := (hFN.rw0 0 1 hFN.2.2.2.2.1 (Or.inl rfl) htp).2.1
  refine lv_bipush (v := (-2)) C0.1 C0.2.1 dX4_fold_0 (by decide) ?_
  refine lv_istore_n (lv' := [(1, .int ((-2))), (0, .ref (ad 0 0))]) C0.1 C0.2.1 dX4_fold_2 rfl hl (by decide) rfl (fun ls hl => ?_)
  refine lv_aload_n C0.1 C0.2.1 dX4_fold_3 rfl (lv_at hl 1 rfl) ?_
  refine me_get C0 hP hFN.1 rfl inX4 0 (by decide) kw_118 rfl dX4_fold_4 ?_
  refine lv_iconst (v := 0) C0.1 C0.2.1 dX4_fold_7 (by decide) ?_
  refine lv_aload_n C0.1 C0.2.1 dX4_fold_8 rfl (lv_at hl 1 rfl) ?_
  refine me_get C0 hP hFN.1 rfl inX4 0 (by decide) kw_118 rfl dX4_fold_9 ?_
  refine me_cVi (n := 0) C0 hml hP hS (c_X2_size l G B0 w (ad 0 1) (ad 0 (1 + 1)) (capR 0 1) tp (hFN.rw0 0 1 hFN.2.2.2.2.1 (Or.inl rfl) htp)) ⟨kw_141, kw_32, kw_138, ⟨by decide, by decide, by decide +kernel⟩, ⟨rfl, rfl⟩, ⟨Nat.le_of_ble_eq_true rfl, Nat.le_of_ble_eq_true rfl⟩⟩ kw_139 kw_140 (hFN.2.2.2.1 0 1 hFN.2.2.2.2.1 (Or.inl rfl)).1 rfl rfl hl.1 rfl (Nat.le_of_ble_eq_true rfl) ⟨Nat.le_of_ble_eq_true rfl, Nat.le_of_ble_eq_true rfl⟩ dX4_fold_12 (fun r1 hr1 => ?_)
  subst hr1
  have hlcr1 : tp.length ≤ 200 := (hFN.rw0 0 1 hFN.2.2.2.2.1 (Or.inl rfl) htp).2.1
  refine me_cSi (n := 3) C0 hml hP hS (c_X3_wrongPlace l G B0 w (ad 0 1) (ad 0 (1 + 1)) (capR 0 1) tp (hFN.rw0 0 1 hFN.2.2.2.2.1 (Or.inl rfl) htp) 0 tp.length (by omega) (by omega)) ⟨kw_144, kw_40, kw_142, ⟨by decide, by decide, by decide +kernel⟩, ⟨rfl, rfl⟩, ⟨Nat.le_of_ble_eq_true rfl, Nat.le_of_ble_eq_true rfl⟩⟩ kw_143 rfl hl.1 rfl (Nat.le_of_ble_eq_true rfl) ⟨Nat.le_of_ble_eq_true rfl, Nat.le_of_ble_eq_true rfl⟩ dX4_fold_15 (fun r2 hr2 => ?_)
  refine lv_iconst (v := (-1)) C0.1 C0.2.1 dX4_fold_18 (by decide) ?_
  refine lv_icmp_ne (tgt := 49) C0.1 C0.2.1 dX4_fold_19 (by decide) (fun c3 => ?_) (fun c3 => ?_)
  · refine lv_aload_n C0.1 C0.2.1 dX4_fold_49 rfl (lv_at hl 1 rfl) ?_
    refine me_get C0 hP hFN.1 rfl inX4 0 (by decide) kw_118 rfl dX4_fold_50 ?_
    refine me_cVwv (n := 0) C0 hml hP hS (c_X2_clear l G B0 w (ad 0 1) (ad 0 (1 + 1)) (capR 0 1) tp (hFN.rw0 0 1 hFN.2.2.2.2.1 (Or.inl rfl) htp) (hFN.bb hFN.2.2.2.2.1 (rowJ_us (show rowJ 0 1 from (Or.inl rfl))).1) (hFN.bb hFN.2.2.2.2.1 (rowJ_us (show rowJ 0 1 from (Or.inl rfl))).2.1)) ⟨kw_117, kw_32, kw_162, ⟨by decide, by decide, by decide +kernel⟩, ⟨rfl, rfl⟩, ⟨Nat.le_of_ble_eq_true rfl, Nat.le_of_ble_eq_true rfl⟩⟩ kw_115 kw_116 (hFN.2.2.2.1 0 1 hFN.2.2.2.2.1 (Or.inl rfl)).1 rfl rfl hl.1 rfl (Nat.le_of_ble_eq_true rfl) ⟨Nat.le_of_ble_eq_true rfl, Nat.le_of_ble_eq_true rfl⟩ dX4_fold_53 (fun w4 H locs hw4 hP hS => ?_)
    obtain ⟨hRw4, hCh4⟩ := hw4
    have hFD := hFD.ch (hFN.dd hFN.2.2.2.2.1 (rowJ_us (show rowJ 0 1 from (Or.inl rfl))).1) (hFN.dd hFN.2.2.2.2.1 (rowJ_us (show rowJ 0 1 from (Or.inl rfl))).2.1) hCh4
    have hFN := hFN.row (a := 0) (j := 1) hFN.2.2.2.2.1 (Or.inl rfl) hRw4 hCh4
    obtain ⟨R4, hR4⟩ : ∃ x, x = updR R 0 1 ([]) := ⟨_, rfl⟩
    rw [← hR4] at hFN
    have hv4_0_3 : R4 0 3 = R 0 3 := (show R4 0 3 = R 0 3 by rw [hR4, updR_n (by omega)]).trans rfl
    have hv4_0_1 : R4 0 1 = [] := by rw [hR4, updR_s]
    refine lv_iload_n C0.1 C0.2.1 dX4_fold_56 rfl (lv_at hl 0 rfl) ?_
    exact me_wiret _ C0.1 C0.2.1 B.returns B.notSynchronized hP hS (Nat.le_of_ble_eq_true rfl) (Nat.le_of_ble_eq_true rfl) (⟨_, hFN, hFD, ((SR.rf : SR R R [(0, 1), (0, 3)]).wr hR4 (by simp)), hv4_0_1, Or.inr ⟨hr2 ▸ c3, rfl, hv4_0_3⟩⟩) dX4_fold_57
  · refine lv_aload_n C0.1 C0.2.1 dX4_fold_22 rfl (lv_at hl 1 rfl) ?_
    refine me_get C0 hP hFN.1 rfl inX4 1 (by decide) kw_119 rfl dX4_fold_23 ?_
    refine lv_aload_n C0.1 C0.2.1 dX4_fold_26 rfl (lv_at hl 1 rfl) ?_
    refine me_get C0 hP hFN.1 rfl inX4 0 (by decide) kw_118 rfl dX4_fold_27 ?_
    refine lv_iconst (v := 0) C0.1 C0.2.1 dX4_fold_30 (by decide) ?_
    refine lv_aload_n C0.1 C0.2.1 dX4_fold_31 rfl (lv_at hl 1 rfl) ?_
    refine me_get C0 hP hFN.1 rfl inX4 0 (by decide) kw_118 rfl dX4_fold_32 ?_
    refine me_cVi (n := 0) C0 hml hP hS (c_X2_size l G B0 w (ad 0 1) (ad 0 (1 + 1)) (capR 0 1) tp (hFN.rw0 0 1 hFN.2.2.2.2.1 (Or.inl rfl) htp)) ⟨kw_141, kw_32, kw_138, ⟨by decide, by decide, by decide +kernel⟩, ⟨rfl, rfl⟩, ⟨Nat.le_of_ble_eq_true rfl, Nat.le_of_ble_eq_true rfl⟩⟩ kw_139 kw_140 (hFN.2.2.2.1 0 1 hFN.2.2.2.2.1 (Or.inl rfl)).1 rfl rfl hl.1 rfl (Nat.le_of_ble_eq_true rfl) ⟨Nat.le_of_ble_eq_true rfl, Nat.le_of_ble_eq_true rfl⟩ dX4_fold_35 (fun r5 hr5 => ?_)
    subst hr5
    have hlcr5 : tp.length ≤ 200 := (hFN.rw0 0 1 hFN.2.2.2.2.1 (Or.inl rfl) htp).2.1
    refine me_cSwv (n := 4) C0 hml hP hS (c_X0_foldInto l G B0 w (ad 0 3) (ad 0 (3 + 1)) (capR 0 3) (R 0 3) (hFN.rw0 0 3 hFN.2.2.2.2.1 (Or.inr (Or.inl rfl)) rfl) (ad 0 1) (ad 0 (1 + 1)) (capR 0 1) tp (hFN.rw0 0 1 hFN.2.2.2.2.1 (Or.inl rfl) htp) (hFN.ne hFN.2.2.2.2.1 hFN.2.2.2.2.1 (rowJ_us (show rowJ 0 1 from (Or.inl rfl))).1 (rowJ_us (show rowJ 0 3 from (Or.inr (Or.inl rfl)))).1 (by omega)) (hFN.ne hFN.2.2.2.2.1 hFN.2.2.2.2.1 (rowJ_us (show rowJ 0 1 from (Or.inl rfl))).1 (rowJ_us (show rowJ 0 3 from (Or.inr (Or.inl rfl)))).2.1 (by omega)) (hFN.ne hFN.2.2.2.2.1 hFN.2.2.2.2.1 (rowJ_us (show rowJ 0 1 from (Or.inl rfl))).2.1 (rowJ_us (show rowJ 0 3 from (Or.inr (Or.inl rfl)))).1 (by omega)) (hFN.ne hFN.2.2.2.2.1 hFN.2.2.2.2.1 (rowJ_us (show rowJ 0 1 from (Or.inl rfl))).2.1 (rowJ_us (show rowJ 0 3 from (Or.inr (Or.inl rfl)))).2.1 (by omega)) (hFN.bb hFN.2.2.2.2.1 (rowJ_us (show rowJ 0 3 from (Or.inr (Or.inl rfl)))).1) (hFN.bb hFN.2.2.2.2.1 (rowJ_us (show rowJ 0 3 from (Or.inr (Or.inl rfl)))).2.1) 0 tp.length (by omega) (by omega)) ⟨kw_169, kw_41, kw_167, ⟨by decide, by decide, by decide +kernel⟩, ⟨rfl, rfl⟩, ⟨Nat.le_of_ble_eq_true rfl, Nat.le_of_ble_eq_true rfl⟩⟩ kw_168 rfl hl.1 rfl (Nat.le_of_ble_eq_true rfl) ⟨Nat.le_of_ble_eq_true rfl, Nat.le_of_ble_eq_true rfl⟩ dX4_fold_38 (fun w6 H locs hw6 hP hS => ?_)
    rw [show fldN (capR 0 3) tp tp.length (tp.length - 0) 0 [] = folds tp from fldN_all ho htl (by decide) (hr2 ▸ c3)] at hw6
    obtain ⟨hRw6, hCh6⟩ := hw6
    have hFD := hFD.ch (hFN.dd hFN.2.2.2.2.1 (rowJ_us (show rowJ 0 3 from (Or.inr (Or.inl rfl)))).1) (hFN.dd hFN.2.2.2.2.1 (rowJ_us (show rowJ 0 3 from (Or.inr (Or.inl rfl)))).2.1) hCh6
    have hFN := hFN.row (a := 0) (j := 3) hFN.2.2.2.2.1 (Or.inr (Or.inl rfl)) hRw6 hCh6
    obtain ⟨R6, hR6⟩ : ∃ x, x = updR R 0 3 (folds tp) := ⟨_, rfl⟩
    rw [← hR6] at hFN
    have hv6_0_1 : R6 0 1 = tp := (show R6 0 1 = R 0 1 by rw [hR6, updR_n (by omega)]).trans htp
    have hv6_0_3 : R6 0 3 = folds tp := by rw [hR6, updR_s]
    refine lv_aload_n C0.1 C0.2.1 dX4_fold_41 rfl (lv_at hl 1 rfl) ?_
    refine me_get C0 hP hFN.1 rfl inX4 1 (by decide) kw_119 rfl dX4_fold_42 ?_
    refine me_cVi (n := 0) C0 hml hP hS (c_X2_size l G B0 w6 (ad 0 3) (ad 0 (3 + 1)) (capR 0 3) (folds tp) (hFN.rw0 0 3 hFN.2.2.2.2.1 (Or.inr (Or.inl rfl)) hv6_0_3)) ⟨kw_141, kw_32, kw_138, ⟨by decide, by decide, by decide +kernel⟩, ⟨rfl, rfl⟩, ⟨Nat.le_of_ble_eq_true rfl, Nat.le_of_ble_eq_true rfl⟩⟩ kw_139 kw_140 (hFN.2.2.2.1 0 3 hFN.2.2.2.2.1 (Or.inr (Or.inl rfl))).1 rfl rfl hl.1 rfl (Nat.le_of_ble_eq_true rfl) ⟨Nat.le_of_ble_eq_true rfl, Nat.le_of_ble_eq_true rfl⟩ dX4_fold_45 (fun r7 hr7 => ?_)
    subst hr7
    have hlcr7 : (folds tp).length ≤ 200 := (hFN.rw0 0 3 hFN.2.2.2.2.1 (Or.inr (Or.inl rfl)) hv6_0_3).2.1
    refine lv_istore_n (lv' := [(1, .int (nI ((folds tp).length))), (0, .ref (ad 0 0))]) C0.1 C0.2.1 dX4_fold_48 rfl hl (by decide) rfl (fun ls hl => ?_)
    refine lv_aload_n C0.1 C0.2.1 dX4_fold_49 rfl (lv_at hl 1 rfl) ?_
    refine me_get C0 hP hFN.1 rfl inX4 0 (by decide) kw_118 rfl dX4_fold_50 ?_
    refine me_cVwv (n := 0) C0 hml hP hS (c_X2_clear l G B0 w6 (ad 0 1) (ad 0 (1 + 1)) (capR 0 1) tp (hFN.rw0 0 1 hFN.2.2.2.2.1 (Or.inl rfl) hv6_0_1) (hFN.bb hFN.2.2.2.2.1 (rowJ_us (show rowJ 0 1 from (Or.inl rfl))).1) (hFN.bb hFN.2.2.2.2.1 (rowJ_us (show rowJ 0 1 from (Or.inl rfl))).2.1)) ⟨kw_117, kw_32, kw_162, ⟨by decide, by decide, by decide +kernel⟩, ⟨rfl, rfl⟩, ⟨Nat.le_of_ble_eq_true rfl, Nat.le_of_ble_eq_true rfl⟩⟩ kw_115 kw_116 (hFN.2.2.2.1 0 1 hFN.2.2.2.2.1 (Or.inl rfl)).1 rfl rfl hl.1 rfl (Nat.le_of_ble_eq_true rfl) ⟨Nat.le_of_ble_eq_true rfl, Nat.le_of_ble_eq_true rfl⟩ dX4_fold_53 (fun w8 H locs hw8 hP hS => ?_)
    obtain ⟨hRw8, hCh8⟩ := hw8
    have hFD := hFD.ch (hFN.dd hFN.2.2.2.2.1 (rowJ_us (show rowJ 0 1 from (Or.inl rfl))).1) (hFN.dd hFN.2.2.2.2.1 (rowJ_us (show rowJ 0 1 from (Or.inl rfl))).2.1) hCh8
    have hFN := hFN.row (a := 0) (j := 1) hFN.2.2.2.2.1 (Or.inl rfl) hRw8 hCh8
    obtain ⟨R8, hR8⟩ : ∃ x, x = updR R6 0 1 ([]) := ⟨_, rfl⟩
    rw [← hR8] at hFN
    have hv8_0_3 : R8 0 3 = folds tp := (show R8 0 3 = R6 0 3 by rw [hR8, updR_n (by omega)]).trans hv6_0_3
    have hv8_0_1 : R8 0 1 = [] := by rw [hR8, updR_s]
    refine lv_iload_n C0.1 C0.2.1 dX4_fold_56 rfl (lv_at hl 0 rfl) ?_
    exact me_wiret _ C0.1 C0.2.1 B.returns B.notSynchronized hP hS (Nat.le_of_ble_eq_true rfl) (Nat.le_of_ble_eq_true rfl) (⟨_, hFN, hFD, (((SR.rf : SR R R [(0, 1), (0, 3)]).wr hR6 (by simp)).wr hR8 (by simp)), hv8_0_1, Or.inl ⟨hr2 ▸ c3, rfl, hv8_0_3⟩⟩) dX4_fold_57

set_option maxHeartbeats 4000000 in
set_option maxRecDepth 100000 in
/-- askForName(from, to) -/
theorem c_X4_askForName (l : Launch) (G : me_G) (B0 : Nat) (w : Me) (D : Nat → Prop) (ad : Nat → Nat → Nat) (ex : Nat → Bool) (R : Nat → Nat → List Int32) (N : Nat → Nat → Int32) (cnt : Int32) (hFN : FN G B0 D w ad ex R N cnt) (tp : List Int32) (htp : R 0 1 = tp) (ho : Oct tp) (f t : Nat) (hft : f ≤ t) (ht : t ≤ tp.length) : CtWI l yX4_askForName (Cond.code yX4_askForName cX4_askForName 6 (some .boolean)) ({ frames := 7, cells := 0, slots := 0, locals := 154 }) G B0 w [.ref (ad 0 0), .int (nI f), .int (nI t)] (fun r w' => ∃ (R' : Nat → Nat → List Int32), FN G B0 D w' ad ex R' N cnt ∧ FDr D w w' ∧ SR R R' [(0, 5)] ∧ ((nmOK (pieceL tp f t) ∧ r = 1 ∧ R' 0 5 = folds (pieceL tp f t)) ∨ (¬ nmOK (pieceL tp f t) ∧ r = 0))) 0 0 := by
  refine Met.ofW (cc := cX4_askForName) (maxL := 6) (ret := (some .boolean)) (by decide) rfl ?_
  intro p e s m args below meth c s₁ B hml hv
  obtain ⟨rfl, hK, hP, hKq, hBs⟩ := hv
  have hts := fun w h => atoms_spec (ws := Cond.code yX4_askForName cX4_askForName 6 (some .boolean) :: tbG) B.pre w (List.mem_cons_of_mem _ h)
  have hown : s.vm.findClass RX4 = some m.cls := findClass_of_methodNamed B.named
  have C0 : Cx G B0 p s m _ c cX4_askForName RX4 := ⟨B.exec, B.bytes, hown, hts, hK, hKq, hBs⟩
  have hS : va_S (me_A B0) s.heap s.heap [] := va_S.rf
  have hl := lv_entry ([.ref (ad 0 0), .int (nI f), .int (nI t)]) (n := 6) (Nat.le_of_ble_eq_true rfl)
  rw [lg_entry_eq]
  generalize (lg_sl ([.ref (ad 0 0), .int (nI f), .int (nI t)]) ++ List.replicate (6 - (lg_sl ([.ref (ad 0 0), .int (nI f), .int (nI t)])).length) Slot.unset).toArray = ls at hl ⊢
  have hl : lv_has ls 6 [(0, .ref (ad 0 0)), (1, .int (nI f)), (2, .int (nI t))] := hl
  have hFD : FDr D w w := FDr.rf
  have htl : tp.length ≤ 200 := (hFN.rw0 0 1 hFN.2.2.2.2.1 (Or.inl rfl) htp).2.1
  refine lv_iload_n C0.1 C0.2.1 dX4_askForName_0 rfl (lv_at hl 2 rfl) ?_
  refine lv_iload_n C0.1 C0.2.1 dX4_askForName_1 rfl (lv_at hl 1 rfl) ?_
  refine lv_isub C0.1 C0.2.1 dX4_askForName_2 ?_
  refine me_topi (y := nI (t - f)) (pk_sub (a := t) (b := f) (by omega)) ?_
  refine lv_istore_n (lv' := [(3, .int (nI (t - f))), (0, .ref (ad 0 0)), (1, .int (nI f)), (2, .int (nI t))]) C0.1 C0.2.1 dX4_askForName_3 rfl hl (by decide) rfl (fun ls hl => ?_)
  refine lv_iload_n C0.1 C0.2.1 dX4_askForName_4 rfl (lv_at hl 0 rfl) ?_
  refine lv_iconst (v := 1) C0.1 C0.2.1 dX4_askForName_5 (by decide) ?_
  refine lv_icmp_lt (tgt := 27) C0.1 C0.2.1 dX4_askForName_6 (by decide) (fun c1 => ?_) (fun c1 => ?_)
  · have d1 : (t - f) < 1 := (nI_ltI (a := (t - f)) (b := 1) (by omega) (by omega)).mp c1
    refine lv_iconst (v := 0) C0.1 C0.2.1 dX4_askForName_27 (by decide) ?_
    exact me_wzret _ C0.1 C0.2.1 B.returns B.notSynchronized narrow_b0 hP hS (Nat.le_of_ble_eq_true rfl) (Nat.le_of_ble_eq_true rfl) (⟨_, hFN, hFD, SR.rf, Or.inr ⟨fun q => by have := ((nmOK_piece ht hft (by omega)).mp q).1; omega, rfl⟩⟩) dX4_askForName_28
  · have d1 : 1 ≤ (t - f) := Nat.not_lt.mp (fun h => c1 (nI_lt (a := (t - f)) (b := 1) h (by omega)))
    refine lv_iload_n C0.1 C0.2.1 dX4_askForName_9 rfl (lv_at hl 0 rfl) ?_
    refine lv_bipush (v := 60) C0.1 C0.2.1 dX4_askForName_10 (by decide) ?_
    refine lv_icmp_gt (tgt := 27) C0.1 C0.2.1 dX4_askForName_12 (by decide) (fun c2 => ?_) (fun c2 => ?_)
    · have d2 : 60 < (t - f) := (nI_ltI (a := 60) (b := (t - f)) (by omega) (by omega)).mp c2
      refine lv_iconst (v := 0) C0.1 C0.2.1 dX4_askForName_27 (by decide) ?_
      exact me_wzret _ C0.1 C0.2.1 B.returns B.notSynchronized narrow_b0 hP hS (Nat.le_of_ble_eq_true rfl) (Nat.le_of_ble_eq_true rfl) (⟨_, hFN, hFD, SR.rf, Or.inr ⟨fun q => by have := ((nmOK_piece ht hft (by omega)).mp q).1; omega, rfl⟩⟩) dX4_askForName_28
    · have d2 : (t - f) ≤ 60 := Nat.not_lt.mp (fun h => c2 (nI_lt (a := 60) (b := (t - f)) h (by omega)))
      refine lv_aload_n C0.1 C0.2.1 dX4_askForName_15 rfl (lv_at hl 1 rfl) ?_
      refine me_get C0 hP hFN.1 rfl inX4 0 (by decide) kw_118 rfl dX4_askForName_16 ?_
      refine lv_iload_n C0.1 C0.2.1 dX4_askForName_19 rfl (lv_at hl 2 rfl) ?_
      refine lv_iload_n C0.1 C0.2.1 dX4_askForName_20 rfl (lv_at hl 3 rfl) ?_
      refine me_cSi (n := 3) C0 hml hP hS (c_X3_isDots l G B0 w (ad 0 1) (ad 0 (1 + 1)) (capR 0 1) tp (hFN.rw0 0 1 hFN.2.2.2.2.1 (Or.inl rfl) htp) f t (by omega) (by omega)) ⟨kw_279, kw_40, kw_277, ⟨by decide, by decide, by decide +kernel⟩, ⟨rfl, rfl⟩, ⟨Nat.le_of_ble_eq_true rfl, Nat.le_of_ble_eq_true rfl⟩⟩ kw_278 rfl hl.1 rfl (Nat.le_of_ble_eq_true rfl) ⟨Nat.le_of_ble_eq_true rfl, Nat.le_of_ble_eq_true rfl⟩ dX4_askForName_21 (fun r3 hr3 => ?_)
      by_cases hisd : isD tp f t
      · rw [if_pos hisd] at hr3
        subst hr3
        refine lv_if_eq (tgt := 29) C0.1 C0.2.1 dX4_askForName_24 (by decide) (fun cx => absurd cx (by decide)) (fun cx => ?_)
        refine lv_iconst (v := 0) C0.1 C0.2.1 dX4_askForName_27 (by decide) ?_
        exact me_wzret _ C0.1 C0.2.1 B.returns B.notSynchronized narrow_b0 hP hS (Nat.le_of_ble_eq_true rfl) (Nat.le_of_ble_eq_true rfl) (⟨_, hFN, hFD, SR.rf, Or.inr ⟨fun q => ((nmOK_piece ht hft (by omega)).mp q).2.1 hisd, rfl⟩⟩) dX4_askForName_28
      · rw [if_neg hisd] at hr3
        subst hr3
        refine lv_if_eq (tgt := 29) C0.1 C0.2.1 dX4_askForName_24 (by decide) (fun cx => ?_) (fun cx => absurd cx (by decide))
        refine lv_iload_n C0.1 C0.2.1 dX4_askForName_29 rfl (lv_at hl 2 rfl) ?_
        refine lv_istore (lv' := [(4, .int (nI f)), (3, .int (nI (t - f))), (0, .ref (ad 0 0)), (1, .int (nI f)), (2, .int (nI t))]) C0.1 C0.2.1 dX4_askForName_30 hl (by decide) rfl (fun ls hl => ?_)
        have loop32 : ∀ (n : Nat) (i : Nat), (f ≤ i) → (i ≤ t) → (∀ q, q < i - f → ¬ tp.getD (f + q) 0 = 0 ∧ ¬ tp.getD (f + q) 0 = 47) → (t - i) < n → ∀ (ls : Array Slot), lv_has ls 6 [(4, .int (nI i)), (3, .int (nI (t - f))), (0, .ref (ad 0 0)), (1, .int (nI f)), (2, .int (nI t))] → W p l e ({ frames := 7, cells := 0, slots := 0, locals := 154 }) s m ([.ref (ad 0 0), .int (nI f), .int (nI t)] : List Value).toArray below meth c s.heap [] 0 0 (MQ below (va_Qi (fun r w' => ∃ (R' : Nat → Nat → List Int32), FN G B0 D w' ad ex R' N cnt ∧ FDr D w w' ∧ SR R R' [(0, 5)] ∧ ((nmOK (pieceL tp f t) ∧ r = 1 ∧ R' 0 5 = folds (pieceL tp f t)) ∨ (¬ nmOK (pieceL tp f t) ∧ r = 0))) (me_W G) (me_A B0)) ([.ref (ad 0 0), .int (nI f), .int (nI t)] : List Value).toArray s 0 0 (me_A B0)) (F0 m 32 ls []) := by
          intro n
          induction n with
          | zero => intro i _ _ _ hz; exact absurd hz (Nat.not_lt_zero _)
          | succ n ih32 =>
            intro i hif hil hch hn32  ls  hl
            refine lv_iload C0.1 C0.2.1 dX4_askForName_32 (lv_at hl 0 rfl) ?_
            refine lv_iload_n C0.1 C0.2.1 dX4_askForName_34 rfl (lv_at hl 4 rfl) ?_
            refine lv_icmp_ge (tgt := 69) C0.1 C0.2.1 dX4_askForName_35 (by decide) (fun c6 => ?_) (fun c6 => ?_)
            · have d6 : t ≤ i := (nI_leI (a := t) (b := i) (by omega) (by omega)).mp c6
              refine lv_aload_n C0.1 C0.2.1 dX4_askForName_69 rfl (lv_at hl 2 rfl) ?_
              refine me_get C0 hP hFN.1 rfl inX4 0 (by decide) kw_118 rfl dX4_askForName_70 ?_
              refine lv_iload_n C0.1 C0.2.1 dX4_askForName_73 rfl (lv_at hl 3 rfl) ?_
              refine lv_iload_n C0.1 C0.2.1 dX4_askForName_74 rfl (lv_at hl 4 rfl) ?_
              refine me_cSi (n := 3) C0 hml hP hS (c_X3_wrongPlace l G B0 w (ad 0 1) (ad 0 (1 + 1)) (capR 0 1) tp (hFN.rw0 0 1 hFN.2.2.2.2.1 (Or.inl rfl) htp) f t (by omega) (by omega)) ⟨kw_144, kw_40, kw_142, ⟨by decide, by decide, by decide +kernel⟩, ⟨rfl, rfl⟩, ⟨Nat.le_of_ble_eq_true rfl, Nat.le_of_ble_eq_true rfl⟩⟩ kw_143 rfl hl.1 rfl (Nat.le_of_ble_eq_true rfl) ⟨Nat.le_of_ble_eq_true rfl, Nat.le_of_ble_eq_true rfl⟩ dX4_askForName_75 (fun r7 hr7 => ?_)
              refine lv_iconst (v := (-1)) C0.1 C0.2.1 dX4_askForName_78 (by decide) ?_
              refine lv_icmp_eq (tgt := 84) C0.1 C0.2.1 dX4_askForName_79 (by decide) (fun c8 => ?_) (fun c8 => ?_)
              · refine lv_aload_n C0.1 C0.2.1 dX4_askForName_84 rfl (lv_at hl 2 rfl) ?_
                refine me_get C0 hP hFN.1 rfl inX4 2 (by decide) kw_120 rfl dX4_askForName_85 ?_
                refine lv_aload_n C0.1 C0.2.1 dX4_askForName_88 rfl (lv_at hl 2 rfl) ?_
                refine me_get C0 hP hFN.1 rfl inX4 0 (by decide) kw_118 rfl dX4_askForName_89 ?_
                refine lv_iload_n C0.1 C0.2.1 dX4_askForName_92 rfl (lv_at hl 3 rfl) ?_
                refine lv_iload_n C0.1 C0.2.1 dX4_askForName_93 rfl (lv_at hl 4 rfl) ?_
                refine me_cSwv (n := 4) C0 hml hP hS (c_X0_foldInto l G B0 w (ad 0 5) (ad 0 (5 + 1)) (capR 0 5) (R 0 5) (hFN.rw0 0 5 hFN.2.2.2.2.1 (Or.inr (Or.inr rfl)) rfl) (ad 0 1) (ad 0 (1 + 1)) (capR 0 1) tp (hFN.rw0 0 1 hFN.2.2.2.2.1 (Or.inl rfl) htp) (hFN.ne hFN.2.2.2.2.1 hFN.2.2.2.2.1 (rowJ_us (show rowJ 0 1 from (Or.inl rfl))).1 (rowJ_us (show rowJ 0 5 from (Or.inr (Or.inr rfl)))).1 (by omega)) (hFN.ne hFN.2.2.2.2.1 hFN.2.2.2.2.1 (rowJ_us (show rowJ 0 1 from (Or.inl rfl))).1 (rowJ_us (show rowJ 0 5 from (Or.inr (Or.inr rfl)))).2.1 (by omega)) (hFN.ne hFN.2.2.2.2.1 hFN.2.2.2.2.1 (rowJ_us (show rowJ 0 1 from (Or.inl rfl))).2.1 (rowJ_us (show rowJ 0 5 from (Or.inr (Or.inr rfl)))).1 (by omega)) (hFN.ne hFN.2.2.2.2.1 hFN.2.2.2.2.1 (rowJ_us (show rowJ 0 1 from (Or.inl rfl))).2.1 (rowJ_us (show rowJ 0 5 from (Or.inr (Or.inr rfl)))).2.1 (by omega)) (hFN.bb hFN.2.2.2.2.1 (rowJ_us (show rowJ 0 5 from (Or.inr (Or.inr rfl)))).1) (hFN.bb hFN.2.2.2.2.1 (rowJ_us (show rowJ 0 5 from (Or.inr (Or.inr rfl)))).2.1) f t (by omega) (by omega)) ⟨kw_169, kw_41, kw_167, ⟨by decide, by decide, by decide +kernel⟩, ⟨rfl, rfl⟩, ⟨Nat.le_of_ble_eq_true rfl, Nat.le_of_ble_eq_true rfl⟩⟩ kw_168 rfl hl.1 rfl (Nat.le_of_ble_eq_true rfl) ⟨Nat.le_of_ble_eq_true rfl, Nat.le_of_ble_eq_true rfl⟩ dX4_askForName_94 (fun w9 H locs hw9 hP hS => ?_)
                rw [show fldN (capR 0 5) tp t (t - f) f [] = folds (pieceL tp f t) from fldN_piece ho ht hft (by omega) (show t - f ≤ 60 by omega) (by decide) (hr7 ▸ c8)] at hw9
                obtain ⟨hRw9, hCh9⟩ := hw9
                have hFD := hFD.ch (hFN.dd hFN.2.2.2.2.1 (rowJ_us (show rowJ 0 5 from (Or.inr (Or.inr rfl)))).1) (hFN.dd hFN.2.2.2.2.1 (rowJ_us (show rowJ 0 5 from (Or.inr (Or.inr rfl)))).2.1) hCh9
                have hFN := hFN.row (a := 0) (j := 5) hFN.2.2.2.2.1 (Or.inr (Or.inr rfl)) hRw9 hCh9
                obtain ⟨R9, hR9⟩ : ∃ x, x = updR R 0 5 (folds (pieceL tp f t)) := ⟨_, rfl⟩
                rw [← hR9] at hFN
                have hv9_0_1 : R9 0 1 = tp := (show R9 0 1 = R 0 1 by rw [hR9, updR_n (by omega)]).trans htp
                have hv9_0_5 : R9 0 5 = folds (pieceL tp f t) := by rw [hR9, updR_s]
                refine lv_iconst (v := 1) C0.1 C0.2.1 dX4_askForName_97 (by decide) ?_
                exact me_wzret _ C0.1 C0.2.1 B.returns B.notSynchronized narrow_b1 hP hS (Nat.le_of_ble_eq_true rfl) (Nat.le_of_ble_eq_true rfl) (⟨_, hFN, hFD, ((SR.rf : SR R R [(0, 5)]).wr hR9 (by simp)), Or.inl ⟨(nmOK_piece ht hft (by omega)).mpr ⟨by omega, hisd, fun q hq => hch q (by omega), hr7 ▸ c8⟩, rfl, hv9_0_5⟩⟩) dX4_askForName_98
              · refine lv_iconst (v := 0) C0.1 C0.2.1 dX4_askForName_82 (by decide) ?_
                exact me_wzret _ C0.1 C0.2.1 B.returns B.notSynchronized narrow_b0 hP hS (Nat.le_of_ble_eq_true rfl) (Nat.le_of_ble_eq_true rfl) (⟨_, hFN, hFD, SR.rf, Or.inr ⟨fun q => c8 (hr7.trans ((nmOK_piece ht hft (by omega)).mp q).2.2.2), rfl⟩⟩) dX4_askForName_83
            · have d6 : i < t := Nat.not_le.mp (fun h => c6 (nI_le (a := t) (b := i) h (by omega)))
              refine lv_aload_n C0.1 C0.2.1 dX4_askForName_38 rfl (lv_at hl 2 rfl) ?_
              refine me_get C0 hP hFN.1 rfl inX4 0 (by decide) kw_118 rfl dX4_askForName_39 ?_
              refine lv_iload C0.1 C0.2.1 dX4_askForName_42 (lv_at hl 0 rfl) ?_
              refine me_cVi (n := 1) C0 hml hP hS (c_X2_at l G B0 w (ad 0 1) (ad 0 (1 + 1)) (capR 0 1) tp (hFN.rw0 0 1 hFN.2.2.2.2.1 (Or.inl rfl) htp) (nI i)) ⟨kw_151, kw_32, kw_256, ⟨by decide, by decide, by decide +kernel⟩, ⟨rfl, rfl⟩, ⟨Nat.le_of_ble_eq_true rfl, Nat.le_of_ble_eq_true rfl⟩⟩ kw_149 kw_150 (hFN.2.2.2.1 0 1 hFN.2.2.2.2.1 (Or.inl rfl)).1 rfl rfl hl.1 rfl (Nat.le_of_ble_eq_true rfl) ⟨Nat.le_of_ble_eq_true rfl, Nat.le_of_ble_eq_true rfl⟩ dX4_askForName_44 (fun r10 hr10 => ?_)
              subst hr10
              refine me_topi (y := tp.getD i 0) (ra_nat (by omega) (by omega)) ?_
              refine lv_istore (lv' := [(5, .int (tp.getD i 0)), (4, .int (nI i)), (3, .int (nI (t - f))), (0, .ref (ad 0 0)), (1, .int (nI f)), (2, .int (nI t))]) C0.1 C0.2.1 dX4_askForName_47 hl (by decide) rfl (fun ls hl => ?_)
              refine lv_iload C0.1 C0.2.1 dX4_askForName_49 (lv_at hl 0 rfl) ?_
              refine lv_if_eq (tgt := 61) C0.1 C0.2.1 dX4_askForName_51 (by decide) (fun c11 => ?_) (fun c11 => ?_)
              · refine lv_iconst (v := 0) C0.1 C0.2.1 dX4_askForName_61 (by decide) ?_
                exact me_wzret _ C0.1 C0.2.1 B.returns B.notSynchronized narrow_b0 hP hS (Nat.le_of_ble_eq_true rfl) (Nat.le_of_ble_eq_true rfl) (⟨_, hFN, hFD, SR.rf, Or.inr ⟨fun q => (((nmOK_piece ht hft (by omega)).mp q).2.2.1 (i - f) (by omega)).1 (by rw [show f + (i - f) = i by omega]; exact c11), rfl⟩⟩) dX4_askForName_62
              · refine lv_iload C0.1 C0.2.1 dX4_askForName_54 (lv_at hl 0 rfl) ?_
                refine lv_bipush (v := 47) C0.1 C0.2.1 dX4_askForName_56 (by decide) ?_
                refine lv_icmp_ne (tgt := 63) C0.1 C0.2.1 dX4_askForName_58 (by decide) (fun c12 => ?_) (fun c12 => ?_)
                · refine lv_iinc (v := nI (i + 1)) (lv' := [(4, .int (nI (i + 1))), (5, .int (tp.getD i 0)), (3, .int (nI (t - f))), (0, .ref (ad 0 0)), (1, .int (nI f)), (2, .int (nI t))]) C0.1 C0.2.1 dX4_askForName_63 hl (k := 1) rfl (nI_add i 1) (by decide) rfl (fun ls hl => ?_)
                  refine lv_goto (tgt := 32) C0.1 C0.2.1 dX4_askForName_66 (by decide) ?_
                  exact ih32 (i + 1) (by omega) (by omega) (by rw [show i + 1 - f = (i - f) + 1 by omega]; exact lt_s hch (by rw [show f + (i - f) = i by omega]; exact ⟨c11, c12⟩)) (by omega) _ (lv_sub hl [0, 2, 3, 4, 5] rfl)
                · refine lv_iconst (v := 0) C0.1 C0.2.1 dX4_askForName_61 (by decide) ?_
                  exact me_wzret _ C0.1 C0.2.1 B.returns B.notSynchronized narrow_b0 hP hS (Nat.le_of_ble_eq_true rfl) (Nat.le_of_ble_eq_true rfl) (⟨_, hFN, hFD, SR.rf, Or.inr ⟨fun q => (((nmOK_piece ht hft (by omega)).mp q).2.2.1 (i - f) (by omega)).2 (by rw [show f + (i - f) = i by omega]; exact c12), rfl⟩⟩) dX4_askForName_62
        exact loop32 (t - f + 1) f (Nat.le_refl _) (by omega) (fun q hq => by omega) (Nat.lt_succ_self _) _ (lv_sub hl [0, 1, 2, 3, 4] rfl)
