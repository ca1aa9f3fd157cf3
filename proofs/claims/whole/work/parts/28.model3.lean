set_option maxHeartbeats 4000000 in
set_option maxRecDepth 100000 in
/-- check() -/
theorem c_X5_check (l : Launch) (G : me_G) (B0 : Nat) (w : Me) (o : Nat) (a : Nat → Nat) (F : Nat → Nat → Int32) (z : Nat → Int32) (hM : MD G B0 w o a F z) (T : List Int32) (hT : Ls F z 0 1 200 T) (ho : Oct T) : CtWI l yX5_check (Cond.code yX5_check cX5_check 1 (some .int)) ({ frames := 1, cells := 0, slots := 0, locals := 26 }) G B0 w [.ref o] (fun r w' => ∃ (F' : Nat → Nat → Int32) (z' : Nat → Int32), MD G B0 w' o a F' z' ∧ MF w w' o a ∧ r = wr T T.length 0 ∧ z' 13 = 0 ∧ SameF F F' [14, 16] ∧ SameZ z z' [1, 13, 15, 17] ∧ Ls F' z' 0 1 200 []) 0 0 := by
  refine Met.ofW (cc := cX5_check) (maxL := 1) (ret := (some .int)) (by decide) rfl ?_
  intro p e s m args below meth c s₁ B hml hv
  obtain ⟨rfl, hK, hP, hKq, hBs⟩ := hv
  have hts := fun w h => atoms_spec (ws := Cond.code yX5_check cX5_check 1 (some .int) :: tbG) B.pre w (List.mem_cons_of_mem _ h)
  have hown : s.vm.findClass RX5 = some m.cls := findClass_of_methodNamed B.named
  have C0 : Cx G B0 p s m _ c cX5_check RX5 := ⟨B.exec, B.bytes, hown, hts, hK, hKq, hBs⟩
  have hS : va_S (me_A B0) s.heap s.heap [] := va_S.rf
  have hl := lv_entry ([.ref o]) (n := 1) (Nat.le_of_ble_eq_true rfl)
  rw [lg_entry_eq]
  generalize (lg_sl ([.ref o]) ++ List.replicate (1 - (lg_sl ([.ref o])).length) Slot.unset).toArray = ls at hl ⊢
  have hl : lv_has ls 1 [(0, .ref o)] := hl
  have hMF : MF w w o a := MF.rf
  refine lv_aload_n C0.1 C0.2.1 dX5_check_0 rfl (lv_at hl 0 rfl) ?_
  refine lv_iconst (v := 0) C0.1 C0.2.1 dX5_check_1 (by decide) ?_
  refine md_put C0 hP hS hM hMF 13 (by decide) kw_490 rfl rfl rfl dX5_check_2 (fun w1 z1 H locs hz1 hM hMF hP hS => ?_)
  have hz1_13 : z1 13 = 0 := by rw [hz1, upd_eq]
  refine lv_aload_n C0.1 C0.2.1 dX5_check_5 rfl (lv_at hl 0 rfl) ?_
  refine me_cVwv (n := 0) C0 hml hP hS (c_X5_takeTape l G B0 w1 o a F z1 hM T (hT.of rfl (by rw [hz1, upd_ne (by decide)]))) ⟨kw_558, kw_35, kw_555, ⟨by decide, by decide, by decide +kernel⟩, ⟨rfl, rfl⟩, ⟨Nat.le_of_ble_eq_true rfl, Nat.le_of_ble_eq_true rfl⟩⟩ kw_557 kw_16 hM.1 rfl rfl hl.1 rfl (Nat.le_of_ble_eq_true rfl) ⟨Nat.le_of_ble_eq_true rfl, Nat.le_of_ble_eq_true rfl⟩ dX5_check_6 (fun w2 H locs hw2 hP hS => ?_)
  obtain ⟨F2, z2, hM, hMF2, hsF2, hsZ2, hLh2, hLt2⟩ := hw2
  have hMF := hMF.tr hMF2
  have sF2 := (SameF.rf : SameF F F [14, 16]).tr hsF2 (by decide)
  have sZ2 := ((SameZ.rf : SameZ z z [1, 13, 15, 17]).wr hz1 (by decide)).tr hsZ2 (by decide)
  refine lv_aload_n C0.1 C0.2.1 dX5_check_9 rfl (lv_at hl 0 rfl) ?_
  refine me_cVwi (n := 0) C0 hml hP hS (c_X5_read l G B0 w2 o a F2 z2 hM T hLh2 ho) ⟨kw_562, kw_35, kw_559, ⟨by decide, by decide, by decide +kernel⟩, ⟨rfl, rfl⟩, ⟨Nat.le_of_ble_eq_true rfl, Nat.le_of_ble_eq_true rfl⟩⟩ kw_561 kw_17 hM.1 rfl rfl hl.1 rfl (Nat.le_of_ble_eq_true rfl) ⟨Nat.le_of_ble_eq_true rfl, Nat.le_of_ble_eq_true rfl⟩ dX5_check_10 (fun r3 w3 H locs hw3 hP hS => ?_)
  obtain ⟨F3, z3, hM, hMF3, hrr3, hsF3, hsZ3, hLp3⟩ := hw3
  have hMF := hMF.tr hMF3
  have sF3 := sF2.tr hsF3 (by decide)
  have sZ3 := sZ2.tr hsZ3 (by decide)
  have hTe3 := hLt2.of (hsF3 0 (by decide)) (hsZ3 1 (by decide))
  have hHe3 := hLh2.of (hsF3 14 (by decide)) (hsZ3 15 (by decide))
  exact me_wiret _ C0.1 C0.2.1 B.returns B.notSynchronized hP hS (Nat.le_of_ble_eq_true rfl) (Nat.le_of_ble_eq_true rfl) (⟨_, _, hM, hMF, hrr3, by rw [hsZ3 13 (by decide), hsZ2 13 (by decide), hz1_13], sF3, sZ3, hTe3⟩) dX5_check_13

set_option maxHeartbeats 4000000 in
set_option maxRecDepth 100000 in
/-- fold() -/
theorem c_X5_fold (l : Launch) (G : me_G) (B0 : Nat) (w : Me) (o : Nat) (a : Nat → Nat) (F : Nat → Nat → Int32) (z : Nat → Int32) (hM : MD G B0 w o a F z) (T : List Int32) (hT : Ls F z 0 1 200 T) (ho : Oct T) : CtWI l yX5_fold (Cond.code yX5_fold cX5_fold 2 (some .int)) ({ frames := 3, cells := 0, slots := 0, locals := 68 }) G B0 w [.ref o] (fun r w' => ∃ (F' : Nat → Nat → Int32) (z' : Nat → Int32), MD G B0 w' o a F' z' ∧ MF w w' o a ∧ z' 13 = 0 ∧ SameF F F' [14, 16, 18, 11] ∧ SameZ z z' [1, 13, 15, 17, 19, 12] ∧ Ls F' z' 0 1 200 [] ∧ ((wr T T.length 0 = -1 ∧ r = nI (folds T).length ∧ Ls F' z' 11 12 400 (folds T)) ∨ (¬ wr T T.length 0 = -1 ∧ r = -2 ∧ F' 11 = F 11 ∧ z' 12 = z 12))) 0 0 := by
  refine Met.ofW (cc := cX5_fold) (maxL := 2) (ret := (some .int)) (by decide) rfl ?_
  intro p e s m args below meth c s₁ B hml hv
  obtain ⟨rfl, hK, hP, hKq, hBs⟩ := hv
  have hts := fun w h => atoms_spec (ws := Cond.code yX5_fold cX5_fold 2 (some .int) :: tbG) B.pre w (List.mem_cons_of_mem _ h)
  have hown : s.vm.findClass RX5 = some m.cls := findClass_of_methodNamed B.named
  have C0 : Cx G B0 p s m _ c cX5_fold RX5 := ⟨B.exec, B.bytes, hown, hts, hK, hKq, hBs⟩
  have hS : va_S (me_A B0) s.heap s.heap [] := va_S.rf
  have hl := lv_entry ([.ref o]) (n := 2) (Nat.le_of_ble_eq_true rfl)
  rw [lg_entry_eq]
  generalize (lg_sl ([.ref o]) ++ List.replicate (2 - (lg_sl ([.ref o])).length) Slot.unset).toArray = ls at hl ⊢
  have hl : lv_has ls 2 [(0, .ref o)] := hl
  have hMF : MF w w o a := MF.rf
  have hTl := hT.2.1
  refine lv_aload_n C0.1 C0.2.1 dX5_fold_0 rfl (lv_at hl 0 rfl) ?_
  refine lv_iconst (v := 0) C0.1 C0.2.1 dX5_fold_1 (by decide) ?_
  refine md_put C0 hP hS hM hMF 13 (by decide) kw_490 rfl rfl rfl dX5_fold_2 (fun w1 z1 H locs hz1 hM hMF hP hS => ?_)
  have hz1_13 : z1 13 = 0 := by rw [hz1, upd_eq]
  refine lv_aload_n C0.1 C0.2.1 dX5_fold_5 rfl (lv_at hl 0 rfl) ?_
  refine me_cVwv (n := 0) C0 hml hP hS (c_X5_takeTape l G B0 w1 o a F z1 hM T (hT.of rfl (by rw [hz1, upd_ne (by decide)]))) ⟨kw_558, kw_35, kw_555, ⟨by decide, by decide, by decide +kernel⟩, ⟨rfl, rfl⟩, ⟨Nat.le_of_ble_eq_true rfl, Nat.le_of_ble_eq_true rfl⟩⟩ kw_557 kw_16 hM.1 rfl rfl hl.1 rfl (Nat.le_of_ble_eq_true rfl) ⟨Nat.le_of_ble_eq_true rfl, Nat.le_of_ble_eq_true rfl⟩ dX5_fold_6 (fun w2 H locs hw2 hP hS => ?_)
  obtain ⟨F2, z2, hM, hMF2, hsF2, hsZ2, hLh2, hLt2⟩ := hw2
  have hMF := hMF.tr hMF2
  have sF2 := (SameF.rf : SameF F F [14, 16, 18, 11]).tr hsF2 (by decide)
  have sZ2 := ((SameZ.rf : SameZ z z [1, 13, 15, 17, 19, 12]).wr hz1 (by decide)).tr hsZ2 (by decide)
  refine lv_aload_n C0.1 C0.2.1 dX5_fold_9 rfl (lv_at hl 0 rfl) ?_
  refine me_cVwi (n := 0) C0 hml hP hS (c_X5_read l G B0 w2 o a F2 z2 hM T hLh2 ho) ⟨kw_562, kw_35, kw_559, ⟨by decide, by decide, by decide +kernel⟩, ⟨rfl, rfl⟩, ⟨Nat.le_of_ble_eq_true rfl, Nat.le_of_ble_eq_true rfl⟩⟩ kw_561 kw_17 hM.1 rfl rfl hl.1 rfl (Nat.le_of_ble_eq_true rfl) ⟨Nat.le_of_ble_eq_true rfl, Nat.le_of_ble_eq_true rfl⟩ dX5_fold_10 (fun r3 w3 H locs hw3 hP hS => ?_)
  obtain ⟨F3, z3, hM, hMF3, hrr3, hsF3, hsZ3, hLp3⟩ := hw3
  have hMF := hMF.tr hMF3
  have sF3 := sF2.tr hsF3 (by decide)
  have sZ3 := sZ2.tr hsZ3 (by decide)
  have hTe3 := hLt2.of (hsF3 0 (by decide)) (hsZ3 1 (by decide))
  have hHe3 := hLh2.of (hsF3 14 (by decide)) (hsZ3 15 (by decide))
  refine lv_if_lt (tgt := 19) C0.1 C0.2.1 dX5_fold_13 (by decide) (fun c4 => ?_) (fun c4 => ?_)
  · refine lv_aload_n C0.1 C0.2.1 dX5_fold_19 rfl (lv_at hl 0 rfl) ?_
    refine me_cVwv (n := 0) C0 hml hP hS (c_X5_foldAll l G B0 w3 o a F3 z3 hM (pts T T.length 0) (hLp3 (wr_lt (by omega) (hrr3 ▸ c4)))) ⟨kw_574, kw_35, kw_571, ⟨by decide, by decide, by decide +kernel⟩, ⟨rfl, rfl⟩, ⟨Nat.le_of_ble_eq_true rfl, Nat.le_of_ble_eq_true rfl⟩⟩ kw_573 kw_18 hM.1 rfl rfl hl.1 rfl (Nat.le_of_ble_eq_true rfl) ⟨Nat.le_of_ble_eq_true rfl, Nat.le_of_ble_eq_true rfl⟩ dX5_fold_20 (fun w5 H locs hw5 hP hS => ?_)
    obtain ⟨F5, z5, hM, hMF5, hsF5, hsZ5, hLx5⟩ := hw5
    have hMF := hMF.tr hMF5
    have sF5 := sF3.tr hsF5 (by decide)
    have sZ5 := sZ3.tr hsZ5 (by decide)
    have hTe5 := hTe3.of (hsF5 0 (by decide)) (hsZ5 1 (by decide))
    have hLx5 : Ls F5 z5 18 19 400 (folds T) := hLx5
    have hfl : (folds T).length ≤ 400 := hLx5.2.1
    refine lv_aload_n C0.1 C0.2.1 dX5_fold_23 rfl (lv_at hl 0 rfl) ?_
    refine lv_aload_n C0.1 C0.2.1 dX5_fold_24 rfl (lv_at hl 0 rfl) ?_
    refine md_get C0 hP hM 19 (by decide) kw_496 (v := .int (nI (folds T).length)) (by show some (Value.int (z5 19)) = _; rw [hLx5.1]) dX5_fold_25 ?_
    refine md_put C0 hP hS hM hMF 12 (by decide) kw_489 rfl rfl rfl dX5_fold_28 (fun w6 z6 H locs hz6 hM hMF hP hS => ?_)
    have hz6_19 : z6 19 = nI (folds T).length := by rw [hz6, upd_ne (by decide)]; exact hLx5.1
    have hz6_12 : z6 12 = nI (folds T).length := by rw [hz6, upd_eq]
    refine lv_iconst (v := 0) C0.1 C0.2.1 dX5_fold_31 (by decide) ?_
    refine lv_istore_n (lv' := [(1, .int 0), (0, .ref o)]) C0.1 C0.2.1 dX5_fold_32 rfl hl (by decide) rfl (fun ls hl => ?_)
    have loop33 : ∀ (n : Nat) (i : Nat) (w1 : Me) (F1 : Nat → Nat → Int32), (i ≤ (folds T).length) → (MD G B0 w1 o a F1 z6) → (MF w w1 o a) → (SameF F5 F1 [11]) → (∀ q, q < i → F1 11 q = (folds T).getD q 0) → ((folds T).length - i) < n → ∀ (H : Heap) (locs : List Loc), ∀ (ls : Array Slot), me_P G.1 w1 H → va_S (me_A B0) s.heap H locs → lv_has ls 2 [(1, .int (nI i)), (0, .ref o)] → W p l e ({ frames := 3, cells := 0, slots := 0, locals := 68 }) s m ([.ref o] : List Value).toArray below meth c H locs 0 0 (MQ below (va_Qi (fun r w' => ∃ (F' : Nat → Nat → Int32) (z' : Nat → Int32), MD G B0 w' o a F' z' ∧ MF w w' o a ∧ z' 13 = 0 ∧ SameF F F' [14, 16, 18, 11] ∧ SameZ z z' [1, 13, 15, 17, 19, 12] ∧ Ls F' z' 0 1 200 [] ∧ ((wr T T.length 0 = -1 ∧ r = nI (folds T).length ∧ Ls F' z' 11 12 400 (folds T)) ∨ (¬ wr T T.length 0 = -1 ∧ r = -2 ∧ F' 11 = F 11 ∧ z' 12 = z 12))) (me_W G) (me_A B0)) ([.ref o] : List Value).toArray s 0 0 (me_A B0)) (F0 m 33 ls []) := by
      intro n
      induction n with
      | zero => intro i w1 F1 _ _ _ _ _ hz; exact absurd hz (Nat.not_lt_zero _)
      | succ n ih33 =>
        intro i w1 F1 hil hM hMF hs1 hlo hn33 H locs ls hP hS hl
        refine lv_iload_n C0.1 C0.2.1 dX5_fold_33 rfl (lv_at hl 0 rfl) ?_
        refine lv_aload_n C0.1 C0.2.1 dX5_fold_34 rfl (lv_at hl 1 rfl) ?_
        refine md_get C0 hP hM 19 (by decide) kw_496 (v := .int (nI (folds T).length)) (by show some (Value.int (z6 19)) = _; rw [hz6_19]) dX5_fold_35 ?_
        refine lv_icmp_ge (tgt := 59) C0.1 C0.2.1 dX5_fold_38 (by decide) (fun c7 => ?_) (fun c7 => ?_)
        · have d7 : (folds T).length ≤ i := (nI_leI (a := (folds T).length) (b := i) (by omega) (by omega)).mp c7
          refine lv_aload_n C0.1 C0.2.1 dX5_fold_59 rfl (lv_at hl 1 rfl) ?_
          refine md_get C0 hP hM 12 (by decide) kw_489 (v := .int (nI (folds T).length)) (by show some (Value.int (z6 12)) = _; rw [hz6_12]) dX5_fold_60 ?_
          exact me_wiret _ C0.1 C0.2.1 B.returns B.notSynchronized hP hS (Nat.le_of_ble_eq_true rfl) (Nat.le_of_ble_eq_true rfl) (⟨_, _, hM, hMF, by rw [hz6, upd_ne (by decide), hsZ5 13 (by decide), hsZ3 13 (by decide), hsZ2 13 (by decide), hz1_13], sF5.tr hs1 (by decide), (sZ5.wr hz6 (by decide)), (hTe5.of (hs1 0 (by decide)) (by rw [hz6, upd_ne (by decide)])), Or.inl ⟨(wr_lt (by omega) (hrr3 ▸ c4)), rfl, ⟨hz6_12, hfl, fun q hq => hlo q (by omega)⟩⟩⟩) dX5_fold_63
        · have d7 : i < (folds T).length := Nat.not_le.mp (fun h => c7 (nI_le (a := (folds T).length) (b := i) h (by omega)))
          refine lv_aload_n C0.1 C0.2.1 dX5_fold_41 rfl (lv_at hl 1 rfl) ?_
          refine md_get C0 hP hM 11 (by decide) kw_488 (v := .ref ((a 11))) rfl dX5_fold_42 ?_
          refine lv_iload_n C0.1 C0.2.1 dX5_fold_45 rfl (lv_at hl 0 rfl) ?_
          refine lv_aload_n C0.1 C0.2.1 dX5_fold_46 rfl (lv_at hl 1 rfl) ?_
          refine md_get C0 hP hM 18 (by decide) kw_495 (v := .ref ((a 18))) rfl dX5_fold_47 ?_
          refine lv_iload_n C0.1 C0.2.1 dX5_fold_50 rfl (lv_at hl 0 rfl) ?_
          refine md_iald C0 hP hM 18 (by decide) (i := i) (by show i < 400; omega) dX5_fold_51 ?_
          refine md_iast C0 hP hS hM hMF 11 (by decide) (i := i) (by show i < 400; omega) dX5_fold_52 (fun w8 F8 H locs hF8 hM hMF hP hS => ?_)
          refine lv_iinc (v := nI (i + 1)) (lv' := [(1, .int (nI (i + 1))), (0, .ref o)]) C0.1 C0.2.1 dX5_fold_53 hl (k := 0) rfl (nI_add i 1) (by decide) rfl (fun ls hl => ?_)
          refine lv_goto (tgt := 33) C0.1 C0.2.1 dX5_fold_56 (by decide) ?_
          exact ih33 (i + 1) _ _ (by omega) hM hMF (hs1.wr hF8 (by decide)) (by rw [hF8, uF_s]; exact lt_s (fun q hq => by rw [upd_ne (by omega)]; exact hlo q hq) (by rw [upd_eq, hs1 18 (by decide)]; exact hLx5.2.2 i (by omega))) (by omega) _ _ _ hP hS (lv_sub hl [0, 1] rfl)
    exact loop33 ((folds T).length - 0 + 1) 0 _ _ (Nat.zero_le _) hM hMF SameF.rf (fun q hq => absurd hq (Nat.not_lt_zero q)) (Nat.lt_succ_self _) _ _ _ hP hS (lv_sub hl [0, 1] rfl)
  · refine lv_bipush (v := (-2)) C0.1 C0.2.1 dX5_fold_16 (by decide) ?_
    exact me_wiret _ C0.1 C0.2.1 B.returns B.notSynchronized hP hS (Nat.le_of_ble_eq_true rfl) (Nat.le_of_ble_eq_true rfl) (⟨_, _, hM, hMF, by rw [hsZ3 13 (by decide), hsZ2 13 (by decide), hz1_13], (sF3), sZ3, hTe3, Or.inr ⟨wr_nlt (hrr3 ▸ c4), rfl, ((SameF.rf : SameF F F [14, 16]).tr hsF2 (by decide) |>.tr hsF3 (by decide)) 11 (by decide), ((SameZ.rf : SameZ z z [1, 13, 15, 17]).wr hz1 (by decide) |>.tr hsZ2 (by decide) |>.tr hsZ3 (by decide)) 12 (by decide)⟩⟩) dX5_fold_18

set_option maxHeartbeats 4000000 in
set_option maxRecDepth 100000 in
/-- folded(k) -/
theorem c_X5_folded (l : Launch) (G : me_G) (B0 : Nat) (w : Me) (o : Nat) (a : Nat → Nat) (F : Nat → Nat → Int32) (z : Nat → Int32) (hM : MD G B0 w o a F z) (Fo : List Int32) (hFo : Ls F z 11 12 400 Fo) (k : Int32) : CtWI l yX5_folded (Cond.code yX5_folded cX5_folded 2 (some .int)) ({ frames := 0, cells := 0, slots := 0, locals := 0 }) G B0 w [.ref o, .int k] (fun r w' => ∃ (F' : Nat → Nat → Int32) (z' : Nat → Int32), MD G B0 w' o a F' z' ∧ MF w w' o a ∧ z' 13 = 0 ∧ SameF F F' [] ∧ SameZ z z' [13] ∧ r = ra Fo k) 0 0 := by
  refine Met.ofW (cc := cX5_folded) (maxL := 2) (ret := (some .int)) (by decide) rfl ?_
  intro p e s m args below meth c s₁ B hml hv
  obtain ⟨rfl, hK, hP, hKq, hBs⟩ := hv
  have hts := fun w h => atoms_spec (ws := Cond.code yX5_folded cX5_folded 2 (some .int) :: tbG) B.pre w (List.mem_cons_of_mem _ h)
  have hown : s.vm.findClass RX5 = some m.cls := findClass_of_methodNamed B.named
  have C0 : Cx G B0 p s m _ c cX5_folded RX5 := ⟨B.exec, B.bytes, hown, hts, hK, hKq, hBs⟩
  have hS : va_S (me_A B0) s.heap s.heap [] := va_S.rf
  have hl := lv_entry ([.ref o, .int k]) (n := 2) (Nat.le_of_ble_eq_true rfl)
  rw [lg_entry_eq]
  generalize (lg_sl ([.ref o, .int k]) ++ List.replicate (2 - (lg_sl ([.ref o, .int k])).length) Slot.unset).toArray = ls at hl ⊢
  have hl : lv_has ls 2 [(0, .ref o), (1, .int k)] := hl
  have hMF : MF w w o a := MF.rf
  have hFl := hFo.2.1
  refine lv_aload_n C0.1 C0.2.1 dX5_folded_0 rfl (lv_at hl 0 rfl) ?_
  refine lv_iconst (v := 0) C0.1 C0.2.1 dX5_folded_1 (by decide) ?_
  refine md_put C0 hP hS hM hMF 13 (by decide) kw_490 rfl rfl rfl dX5_folded_2 (fun w1 z1 H locs hz1 hM hMF hP hS => ?_)
  have hz1_12 : z1 12 = nI Fo.length := by rw [hz1, upd_ne (by decide)]; exact hFo.1
  have hz1_13 : z1 13 = 0 := by rw [hz1, upd_eq]
  refine lv_iload_n C0.1 C0.2.1 dX5_folded_5 rfl (lv_at hl 1 rfl) ?_
  refine lv_if_lt (tgt := 17) C0.1 C0.2.1 dX5_folded_6 (by decide) (fun c2 => ?_) (fun c2 => ?_)
  · refine lv_iconst (v := (-1)) C0.1 C0.2.1 dX5_folded_17 (by decide) ?_
    refine lv_goto (tgt := 27) C0.1 C0.2.1 dX5_folded_18 (by decide) ?_
    exact me_wiret _ C0.1 C0.2.1 B.returns B.notSynchronized hP hS (Nat.le_of_ble_eq_true rfl) (Nat.le_of_ble_eq_true rfl) (⟨_, _, hM, hMF, hz1_13, SameF.rf, SameZ.rf.wr hz1 (by decide), (ra_neg c2).symm⟩) dX5_folded_27
  · refine lv_iload_n C0.1 C0.2.1 dX5_folded_9 rfl (lv_at hl 1 rfl) ?_
    refine lv_aload_n C0.1 C0.2.1 dX5_folded_10 rfl (lv_at hl 0 rfl) ?_
    refine md_get C0 hP hM 12 (by decide) kw_489 (v := .int (nI Fo.length)) (by show some (Value.int (z1 12)) = _; rw [hz1_12]) dX5_folded_11 ?_
    refine lv_icmp_lt (tgt := 21) C0.1 C0.2.1 dX5_folded_14 (by decide) (fun c3 => ?_) (fun c3 => ?_)
    · obtain ⟨hk1, hk2⟩ := nI_lt_of (by omega) c2 c3
      generalize hkj : k.toNatClampNeg = j at hk1 hk2
      subst hk2
      refine lv_aload_n C0.1 C0.2.1 dX5_folded_21 rfl (lv_at hl 0 rfl) ?_
      refine md_get C0 hP hM 11 (by decide) kw_488 (v := .ref ((a 11))) rfl dX5_folded_22 ?_
      refine lv_iload_n C0.1 C0.2.1 dX5_folded_25 rfl (lv_at hl 1 rfl) ?_
      refine md_iald C0 hP hM 11 (by decide) (i := j) (by show j < 400; omega) dX5_folded_26 ?_
      exact me_wiret _ C0.1 C0.2.1 B.returns B.notSynchronized hP hS (Nat.le_of_ble_eq_true rfl) (Nat.le_of_ble_eq_true rfl) (⟨_, _, hM, hMF, hz1_13, SameF.rf, SameZ.rf.wr hz1 (by decide), (by rw [ra_nat hk1 (by omega)]; exact hFo.2.2 j hk1)⟩) dX5_folded_27
    · refine lv_iconst (v := (-1)) C0.1 C0.2.1 dX5_folded_17 (by decide) ?_
      refine lv_goto (tgt := 27) C0.1 C0.2.1 dX5_folded_18 (by decide) ?_
      exact me_wiret _ C0.1 C0.2.1 B.returns B.notSynchronized hP hS (Nat.le_of_ble_eq_true rfl) (Nat.le_of_ble_eq_true rfl) (⟨_, _, hM, hMF, hz1_13, SameF.rf, SameZ.rf.wr hz1 (by decide), (ra_big c3).symm⟩) dX5_folded_27

set_option maxHeartbeats 4000000 in
set_option maxRecDepth 100000 in
/-- isName() -/
theorem c_X5_isName (l : Launch) (G : me_G) (B0 : Nat) (w : Me) (o : Nat) (a : Nat → Nat) (F : Nat → Nat → Int32) (z : Nat → Int32) (hM : MD G B0 w o a F z) (Hd : List Int32) (hH : Ls F z 14 15 200 Hd) (ho : Oct Hd) : CtWI l yX5_isName (Cond.code yX5_isName cX5_isName 3 (some .boolean)) ({ frames := 3, cells := 0, slots := 0, locals := 68 }) G B0 w [.ref o] (fun r w' => ∃ (F' : Nat → Nat → Int32) (z' : Nat → Int32), MD G B0 w' o a F' z' ∧ MF w w' o a ∧ SameF F F' [16, 18] ∧ SameZ z z' [17, 19] ∧ ((nmOK Hd ∧ r = 1 ∧ Ls F' z' 18 19 400 (folds Hd)) ∨ (¬ nmOK Hd ∧ r = 0))) 0 0 := by
  refine Met.ofW (cc := cX5_isName) (maxL := 3) (ret := (some .boolean)) (by decide) rfl ?_
  intro p e s m args below meth c s₁ B hml hv
  obtain ⟨rfl, hK, hP, hKq, hBs⟩ := hv
  have hts := fun w h => atoms_spec (ws := Cond.code yX5_isName cX5_isName 3 (some .boolean) :: tbG) B.pre w (List.mem_cons_of_mem _ h)
  have hown : s.vm.findClass RX5 = some m.cls := findClass_of_methodNamed B.named
  have C0 : Cx G B0 p s m _ c cX5_isName RX5 := ⟨B.exec, B.bytes, hown, hts, hK, hKq, hBs⟩
  have hS : va_S (me_A B0) s.heap s.heap [] := va_S.rf
  have hl := lv_entry ([.ref o]) (n := 3) (Nat.le_of_ble_eq_true rfl)
  rw [lg_entry_eq]
  generalize (lg_sl ([.ref o]) ++ List.replicate (3 - (lg_sl ([.ref o])).length) Slot.unset).toArray = ls at hl ⊢
  have hl : lv_has ls 3 [(0, .ref o)] := hl
  have hMF : MF w w o a := MF.rf
  have hHl := hH.2.1
  refine lv_aload_n C0.1 C0.2.1 dX5_isName_0 rfl (lv_at hl 0 rfl) ?_
  refine md_get C0 hP hM 15 (by decide) kw_492 (v := .int (nI Hd.length)) (by show some (Value.int (z 15)) = _; rw [hH.1]) dX5_isName_1 ?_
  refine lv_if_le (tgt := 58) C0.1 C0.2.1 dX5_isName_4 (by decide) (fun c1 => ?_) (fun c1 => ?_)
  · have d1 : Hd.length ≤ 0 := (nI_leI (a := Hd.length) (b := 0) (by omega) (by omega)).mp c1
    refine lv_iconst (v := 0) C0.1 C0.2.1 dX5_isName_58 (by decide) ?_
    have hno : ¬ nmOK Hd := fun h => by have := h.1; omega
    refine lv_istore_n (lv' := [(1, .int 0), (0, .ref o)]) C0.1 C0.2.1 dX5_isName_59 rfl hl (by decide) rfl (fun ls hl => ?_)
    refine lv_iconst (v := 0) C0.1 C0.2.1 dX5_isName_60 (by decide) ?_
    refine lv_istore_n (lv' := [(2, .int 0), (1, .int 0), (0, .ref o)]) C0.1 C0.2.1 dX5_isName_61 rfl hl (by decide) rfl (fun ls hl => ?_)
    refine lv_iload_n C0.1 C0.2.1 dX5_isName_62 rfl (lv_at hl 0 rfl) ?_
    refine lv_aload_n C0.1 C0.2.1 dX5_isName_63 rfl (lv_at hl 2 rfl) ?_
    refine md_get C0 hP hM 15 (by decide) kw_492 (v := .int (nI Hd.length)) (by show some (Value.int (z 15)) = _; rw [hH.1]) dX5_isName_64 ?_
    refine lv_icmp_ge (tgt := 106) C0.1 C0.2.1 dX5_isName_67 (by decide) (fun c2 => ?_) (fun c2 => ?_)
    · have d2 : Hd.length ≤ 0 := (nI_leI (a := Hd.length) (b := 0) (by omega) (by omega)).mp c2
      refine lv_iload_n C0.1 C0.2.1 dX5_isName_106 rfl (lv_at hl 1 rfl) ?_
      refine lv_if_eq (tgt := 117) C0.1 C0.2.1 dX5_isName_107 (by decide) (fun c => ?_) (fun c => absurd c (by decide))
      refine lv_iconst (v := 0) C0.1 C0.2.1 dX5_isName_117 (by decide) ?_
      exact me_wzret _ C0.1 C0.2.1 B.returns B.notSynchronized narrow_b0 hP hS (Nat.le_of_ble_eq_true rfl) (Nat.le_of_ble_eq_true rfl) (⟨_, _, hM, hMF, SameF.rf, SameZ.rf, Or.inr ⟨hno, rfl⟩⟩) dX5_isName_118
    · have d2 : 0 < Hd.length := Nat.not_le.mp (fun h => c2 (nI_le (a := Hd.length) (b := 0) h (by omega)))
      refine lv_iload_n C0.1 C0.2.1 dX5_isName_70 rfl (lv_at hl 1 rfl) ?_
      refine lv_if_eq (tgt := 106) C0.1 C0.2.1 dX5_isName_71 (by decide) (fun c => ?_) (fun c => absurd c (by decide))
      refine lv_iload_n C0.1 C0.2.1 dX5_isName_106 rfl (lv_at hl 1 rfl) ?_
      refine lv_if_eq (tgt := 117) C0.1 C0.2.1 dX5_isName_107 (by decide) (fun c => ?_) (fun c => absurd c (by decide))
      refine lv_iconst (v := 0) C0.1 C0.2.1 dX5_isName_117 (by decide) ?_
      exact me_wzret _ C0.1 C0.2.1 B.returns B.notSynchronized narrow_b0 hP hS (Nat.le_of_ble_eq_true rfl) (Nat.le_of_ble_eq_true rfl) (⟨_, _, hM, hMF, SameF.rf, SameZ.rf, Or.inr ⟨hno, rfl⟩⟩) dX5_isName_118
  · have d1 : 0 < Hd.length := Nat.not_le.mp (fun h => c1 (nI_le (a := Hd.length) (b := 0) h (by omega)))
    refine lv_aload_n C0.1 C0.2.1 dX5_isName_7 rfl (lv_at hl 0 rfl) ?_
    refine md_get C0 hP hM 15 (by decide) kw_492 (v := .int (nI Hd.length)) (by show some (Value.int (z 15)) = _; rw [hH.1]) dX5_isName_8 ?_
    refine lv_bipush (v := 60) C0.1 C0.2.1 dX5_isName_11 (by decide) ?_
    refine lv_icmp_gt (tgt := 58) C0.1 C0.2.1 dX5_isName_13 (by decide) (fun c6 => ?_) (fun c6 => ?_)
    · have d6 : 60 < Hd.length := (nI_ltI (a := 60) (b := Hd.length) (by omega) (by omega)).mp c6
      refine lv_iconst (v := 0) C0.1 C0.2.1 dX5_isName_58 (by decide) ?_
      have hno : ¬ nmOK Hd := fun h => by have := h.1; omega
      refine lv_istore_n (lv' := [(1, .int 0), (0, .ref o)]) C0.1 C0.2.1 dX5_isName_59 rfl hl (by decide) rfl (fun ls hl => ?_)
      refine lv_iconst (v := 0) C0.1 C0.2.1 dX5_isName_60 (by decide) ?_
      refine lv_istore_n (lv' := [(2, .int 0), (1, .int 0), (0, .ref o)]) C0.1 C0.2.1 dX5_isName_61 rfl hl (by decide) rfl (fun ls hl => ?_)
      refine lv_iload_n C0.1 C0.2.1 dX5_isName_62 rfl (lv_at hl 0 rfl) ?_
      refine lv_aload_n C0.1 C0.2.1 dX5_isName_63 rfl (lv_at hl 2 rfl) ?_
      refine md_get C0 hP hM 15 (by decide) kw_492 (v := .int (nI Hd.length)) (by show some (Value.int (z 15)) = _; rw [hH.1]) dX5_isName_64 ?_
      refine lv_icmp_ge (tgt := 106) C0.1 C0.2.1 dX5_isName_67 (by decide) (fun c7 => ?_) (fun c7 => ?_)
      · have d7 : Hd.length ≤ 0 := (nI_leI (a := Hd.length) (b := 0) (by omega) (by omega)).mp c7
        refine lv_iload_n C0.1 C0.2.1 dX5_isName_106 rfl (lv_at hl 1 rfl) ?_
        refine lv_if_eq (tgt := 117) C0.1 C0.2.1 dX5_isName_107 (by decide) (fun c => ?_) (fun c => absurd c (by decide))
        refine lv_iconst (v := 0) C0.1 C0.2.1 dX5_isName_117 (by decide) ?_
        exact me_wzret _ C0.1 C0.2.1 B.returns B.notSynchronized narrow_b0 hP hS (Nat.le_of_ble_eq_true rfl) (Nat.le_of_ble_eq_true rfl) (⟨_, _, hM, hMF, SameF.rf, SameZ.rf, Or.inr ⟨hno, rfl⟩⟩) dX5_isName_118
      · have d7 : 0 < Hd.length := Nat.not_le.mp (fun h => c7 (nI_le (a := Hd.length) (b := 0) h (by omega)))
        refine lv_iload_n C0.1 C0.2.1 dX5_isName_70 rfl (lv_at hl 1 rfl) ?_
        refine lv_if_eq (tgt := 106) C0.1 C0.2.1 dX5_isName_71 (by decide) (fun c => ?_) (fun c => absurd c (by decide))
        refine lv_iload_n C0.1 C0.2.1 dX5_isName_106 rfl (lv_at hl 1 rfl) ?_
        refine lv_if_eq (tgt := 117) C0.1 C0.2.1 dX5_isName_107 (by decide) (fun c => ?_) (fun c => absurd c (by decide))
        refine lv_iconst (v := 0) C0.1 C0.2.1 dX5_isName_117 (by decide) ?_
        exact me_wzret _ C0.1 C0.2.1 B.returns B.notSynchronized narrow_b0 hP hS (Nat.le_of_ble_eq_true rfl) (Nat.le_of_ble_eq_true rfl) (⟨_, _, hM, hMF, SameF.rf, SameZ.rf, Or.inr ⟨hno, rfl⟩⟩) dX5_isName_118
    · have d6 : Hd.length ≤ 60 := Nat.not_lt.mp (fun h => c6 (nI_lt (a := 60) (b := Hd.length) h (by omega)))
      refine lv_aload_n C0.1 C0.2.1 dX5_isName_16 rfl (lv_at hl 0 rfl) ?_
      refine md_get C0 hP hM 14 (by decide) kw_491 (v := .ref ((a 14))) rfl dX5_isName_17 ?_
      refine lv_iconst (v := 0) C0.1 C0.2.1 dX5_isName_20 (by decide) ?_
      refine md_iald C0 hP hM 14 (by decide) (i := 0) (by show 0 < 200; omega) dX5_isName_21 ?_
      refine me_topi (y := Hd.getD 0 0) (hH.2.2 0 (by omega)) ?_
      refine lv_bipush (v := 46) C0.1 C0.2.1 dX5_isName_22 (by decide) ?_
      refine lv_icmp_ne (tgt := 54) C0.1 C0.2.1 dX5_isName_24 (by decide) (fun c11 => ?_) (fun c11 => ?_)
      · refine lv_iconst (v := 1) C0.1 C0.2.1 dX5_isName_54 (by decide) ?_
        refine lv_goto (tgt := 59) C0.1 C0.2.1 dX5_isName_55 (by decide) ?_
        have hdt : ¬ isD Hd 0 Hd.length := fun h => c11 h.2.1
        refine lv_istore_n (lv' := [(1, .int 1), (0, .ref o)]) C0.1 C0.2.1 dX5_isName_59 rfl hl (by decide) rfl (fun ls hl => ?_)
        refine lv_iconst (v := 0) C0.1 C0.2.1 dX5_isName_60 (by decide) ?_
        refine lv_istore_n (lv' := [(2, .int 0), (1, .int 1), (0, .ref o)]) C0.1 C0.2.1 dX5_isName_61 rfl hl (by decide) rfl (fun ls hl => ?_)
        have loop62 : ∀ (n : Nat) (i : Nat), (i ≤ Hd.length) → (∀ q, q < i → ¬ Hd.getD q 0 = 0 ∧ ¬ Hd.getD q 0 = 47) → (Hd.length - i) < n → ∀ (ls : Array Slot), lv_has ls 3 [(2, .int (nI i)), (1, .int 1), (0, .ref o)] → W p l e ({ frames := 3, cells := 0, slots := 0, locals := 68 }) s m ([.ref o] : List Value).toArray below meth c s.heap [] 0 0 (MQ below (va_Qi (fun r w' => ∃ (F' : Nat → Nat → Int32) (z' : Nat → Int32), MD G B0 w' o a F' z' ∧ MF w w' o a ∧ SameF F F' [16, 18] ∧ SameZ z z' [17, 19] ∧ ((nmOK Hd ∧ r = 1 ∧ Ls F' z' 18 19 400 (folds Hd)) ∨ (¬ nmOK Hd ∧ r = 0))) (me_W G) (me_A B0)) ([.ref o] : List Value).toArray s 0 0 (me_A B0)) (F0 m 62 ls []) := by
          intro n
          induction n with
          | zero => intro i _ _ hz; exact absurd hz (Nat.not_lt_zero _)
          | succ n ih62 =>
            intro i hil hch hn62  ls  hl
            refine lv_iload_n C0.1 C0.2.1 dX5_isName_62 rfl (lv_at hl 0 rfl) ?_
            refine lv_aload_n C0.1 C0.2.1 dX5_isName_63 rfl (lv_at hl 2 rfl) ?_
            refine md_get C0 hP hM 15 (by decide) kw_492 (v := .int (nI Hd.length)) (by show some (Value.int (z 15)) = _; rw [hH.1]) dX5_isName_64 ?_
            refine lv_icmp_ge (tgt := 106) C0.1 C0.2.1 dX5_isName_67 (by decide) (fun c12 => ?_) (fun c12 => ?_)
            · have d12 : Hd.length ≤ i := (nI_leI (a := Hd.length) (b := i) (by omega) (by omega)).mp c12
              refine lv_iload_n C0.1 C0.2.1 dX5_isName_106 rfl (lv_at hl 1 rfl) ?_
              refine lv_if_eq (tgt := 117) C0.1 C0.2.1 dX5_isName_107 (by decide) (fun c => absurd c (by decide)) (fun c => ?_)
              refine lv_aload_n C0.1 C0.2.1 dX5_isName_110 rfl (lv_at hl 2 rfl) ?_
              refine me_cVwi (n := 0) C0 hml hP hS (c_X5_read l G B0 w o a F z hM Hd hH ho) ⟨kw_562, kw_35, kw_559, ⟨by decide, by decide, by decide +kernel⟩, ⟨rfl, rfl⟩, ⟨Nat.le_of_ble_eq_true rfl, Nat.le_of_ble_eq_true rfl⟩⟩ kw_561 kw_17 hM.1 rfl rfl hl.1 rfl (Nat.le_of_ble_eq_true rfl) ⟨Nat.le_of_ble_eq_true rfl, Nat.le_of_ble_eq_true rfl⟩ dX5_isName_111 (fun r14 w14 H locs hw14 hP hS => ?_)
              obtain ⟨F14, z14, hM, hMF14, hrr14, hsF14, hsZ14, hLp14⟩ := hw14
              have hMF := hMF.tr hMF14
              refine lv_if_lt (tgt := 119) C0.1 C0.2.1 dX5_isName_114 (by decide) (fun c15 => ?_) (fun c15 => ?_)
              · refine lv_aload_n C0.1 C0.2.1 dX5_isName_119 rfl (lv_at hl 2 rfl) ?_
                refine me_cVwv (n := 0) C0 hml hP hS (c_X5_foldAll l G B0 w14 o a F14 z14 hM (pts Hd Hd.length 0) (hLp14 (wr_lt (by omega) (hrr14 ▸ c15)))) ⟨kw_574, kw_35, kw_571, ⟨by decide, by decide, by decide +kernel⟩, ⟨rfl, rfl⟩, ⟨Nat.le_of_ble_eq_true rfl, Nat.le_of_ble_eq_true rfl⟩⟩ kw_573 kw_18 hM.1 rfl rfl hl.1 rfl (Nat.le_of_ble_eq_true rfl) ⟨Nat.le_of_ble_eq_true rfl, Nat.le_of_ble_eq_true rfl⟩ dX5_isName_120 (fun w16 H locs hw16 hP hS => ?_)
                obtain ⟨F16, z16, hM, hMF16, hsF16, hsZ16, hLx16⟩ := hw16
                have hMF := hMF.tr hMF16
                refine lv_iconst (v := 1) C0.1 C0.2.1 dX5_isName_123 (by decide) ?_
                exact me_wzret _ C0.1 C0.2.1 B.returns B.notSynchronized narrow_b1 hP hS (Nat.le_of_ble_eq_true rfl) (Nat.le_of_ble_eq_true rfl) (⟨_, _, hM, hMF, (hsF14.up (by decide)).tr hsF16 (by decide), (hsZ14.up (by decide)).tr hsZ16 (by decide), Or.inl ⟨⟨by omega, hdt, fun q hq => hch q (by omega), (wr_lt (by omega) (hrr14 ▸ c15))⟩, rfl, hLx16⟩⟩) dX5_isName_124
              · refine lv_iconst (v := 0) C0.1 C0.2.1 dX5_isName_117 (by decide) ?_
                exact me_wzret _ C0.1 C0.2.1 B.returns B.notSynchronized narrow_b0 hP hS (Nat.le_of_ble_eq_true rfl) (Nat.le_of_ble_eq_true rfl) (⟨_, _, hM, hMF, hsF14.up (by decide), hsZ14.up (by decide), Or.inr ⟨fun h => wr_nlt (hrr14 ▸ c15) h.2.2.2, rfl⟩⟩) dX5_isName_118
            · have d12 : i < Hd.length := Nat.not_le.mp (fun h => c12 (nI_le (a := Hd.length) (b := i) h (by omega)))
              refine lv_iload_n C0.1 C0.2.1 dX5_isName_70 rfl (lv_at hl 1 rfl) ?_
              refine lv_if_eq (tgt := 106) C0.1 C0.2.1 dX5_isName_71 (by decide) (fun c => absurd c (by decide)) (fun c => ?_)
              refine lv_aload_n C0.1 C0.2.1 dX5_isName_74 rfl (lv_at hl 2 rfl) ?_
              refine md_get C0 hP hM 14 (by decide) kw_491 (v := .ref ((a 14))) rfl dX5_isName_75 ?_
              refine lv_iload_n C0.1 C0.2.1 dX5_isName_78 rfl (lv_at hl 0 rfl) ?_
              refine md_iald C0 hP hM 14 (by decide) (i := i) (by show i < 200; omega) dX5_isName_79 ?_
              refine me_topi (y := Hd.getD i 0) (hH.2.2 i (by omega)) ?_
              refine lv_if_eq (tgt := 98) C0.1 C0.2.1 dX5_isName_80 (by decide) (fun c18 => ?_) (fun c18 => ?_)
              · have hno : ¬ nmOK Hd := fun h => (h.2.2.1 i (by omega)).1 c18
                refine lv_iconst (v := 0) C0.1 C0.2.1 dX5_isName_98 (by decide) ?_
                refine lv_istore_n (lv' := [(1, .int 0), (2, .int (nI i)), (0, .ref o)]) C0.1 C0.2.1 dX5_isName_99 rfl hl (by decide) rfl (fun ls hl => ?_)
                refine lv_iinc (v := nI (i + 1)) (lv' := [(2, .int (nI (i + 1))), (1, .int 0), (0, .ref o)]) C0.1 C0.2.1 dX5_isName_100 hl (k := 1) rfl (nI_add i 1) (by decide) rfl (fun ls hl => ?_)
                refine lv_goto (tgt := 62) C0.1 C0.2.1 dX5_isName_103 (by decide) ?_
                refine lv_iload_n C0.1 C0.2.1 dX5_isName_62 rfl (lv_at hl 0 rfl) ?_
                refine lv_aload_n C0.1 C0.2.1 dX5_isName_63 rfl (lv_at hl 2 rfl) ?_
                refine md_get C0 hP hM 15 (by decide) kw_492 (v := .int (nI Hd.length)) (by show some (Value.int (z 15)) = _; rw [hH.1]) dX5_isName_64 ?_
                refine lv_icmp_ge (tgt := 106) C0.1 C0.2.1 dX5_isName_67 (by decide) (fun c19 => ?_) (fun c19 => ?_)
                · have d19 : Hd.length ≤ (i + 1) := (nI_leI (a := Hd.length) (b := (i + 1)) (by omega) (by omega)).mp c19
                  refine lv_iload_n C0.1 C0.2.1 dX5_isName_106 rfl (lv_at hl 1 rfl) ?_
                  refine lv_if_eq (tgt := 117) C0.1 C0.2.1 dX5_isName_107 (by decide) (fun c => ?_) (fun c => absurd c (by decide))
                  refine lv_iconst (v := 0) C0.1 C0.2.1 dX5_isName_117 (by decide) ?_
                  exact me_wzret _ C0.1 C0.2.1 B.returns B.notSynchronized narrow_b0 hP hS (Nat.le_of_ble_eq_true rfl) (Nat.le_of_ble_eq_true rfl) (⟨_, _, hM, hMF, SameF.rf, SameZ.rf, Or.inr ⟨hno, rfl⟩⟩) dX5_isName_118
                · have d19 : (i + 1) < Hd.length := Nat.not_le.mp (fun h => c19 (nI_le (a := Hd.length) (b := (i + 1)) h (by omega)))
                  refine lv_iload_n C0.1 C0.2.1 dX5_isName_70 rfl (lv_at hl 1 rfl) ?_
                  refine lv_if_eq (tgt := 106) C0.1 C0.2.1 dX5_isName_71 (by decide) (fun c => ?_) (fun c => absurd c (by decide))
                  refine lv_iload_n C0.1 C0.2.1 dX5_isName_106 rfl (lv_at hl 1 rfl) ?_
                  refine lv_if_eq (tgt := 117) C0.1 C0.2.1 dX5_isName_107 (by decide) (fun c => ?_) (fun c => absurd c (by decide))
                  refine lv_iconst (v := 0) C0.1 C0.2.1 dX5_isName_117 (by decide) ?_
                  exact me_wzret _ C0.1 C0.2.1 B.returns B.notSynchronized narrow_b0 hP hS (Nat.le_of_ble_eq_true rfl) (Nat.le_of_ble_eq_true rfl) (⟨_, _, hM, hMF, SameF.rf, SameZ.rf, Or.inr ⟨hno, rfl⟩⟩) dX5_isName_118
              · refine lv_aload_n C0.1 C0.2.1 dX5_isName_83 rfl (lv_at hl 2 rfl) ?_
                refine md_get C0 hP hM 14 (by decide) kw_491 (v := .ref ((a 14))) rfl dX5_isName_84 ?_
                refine lv_iload_n C0.1 C0.2.1 dX5_isName_87 rfl (lv_at hl 0 rfl) ?_
                refine md_iald C0 hP hM 14 (by decide) (i := i) (by show i < 200; omega) dX5_isName_88 ?_
                refine me_topi (y := Hd.getD i 0) (hH.2.2 i (by omega)) ?_
                refine lv_bipush (v := 47) C0.1 C0.2.1 dX5_isName_89 (by decide) ?_
                refine lv_icmp_eq (tgt := 98) C0.1 C0.2.1 dX5_isName_91 (by decide) (fun c23 => ?_) (fun c23 => ?_)
                · have hno : ¬ nmOK Hd := fun h => (h.2.2.1 i (by omega)).2 c23
                  refine lv_iconst (v := 0) C0.1 C0.2.1 dX5_isName_98 (by decide) ?_
                  refine lv_istore_n (lv' := [(1, .int 0), (2, .int (nI i)), (0, .ref o)]) C0.1 C0.2.1 dX5_isName_99 rfl hl (by decide) rfl (fun ls hl => ?_)
                  refine lv_iinc (v := nI (i + 1)) (lv' := [(2, .int (nI (i + 1))), (1, .int 0), (0, .ref o)]) C0.1 C0.2.1 dX5_isName_100 hl (k := 1) rfl (nI_add i 1) (by decide) rfl (fun ls hl => ?_)
                  refine lv_goto (tgt := 62) C0.1 C0.2.1 dX5_isName_103 (by decide) ?_
                  refine lv_iload_n C0.1 C0.2.1 dX5_isName_62 rfl (lv_at hl 0 rfl) ?_
                  refine lv_aload_n C0.1 C0.2.1 dX5_isName_63 rfl (lv_at hl 2 rfl) ?_
                  refine md_get C0 hP hM 15 (by decide) kw_492 (v := .int (nI Hd.length)) (by show some (Value.int (z 15)) = _; rw [hH.1]) dX5_isName_64 ?_
                  refine lv_icmp_ge (tgt := 106) C0.1 C0.2.1 dX5_isName_67 (by decide) (fun c24 => ?_) (fun c24 => ?_)
                  · have d24 : Hd.length ≤ (i + 1) := (nI_leI (a := Hd.length) (b := (i + 1)) (by omega) (by omega)).mp c24
                    refine lv_iload_n C0.1 C0.2.1 dX5_isName_106 rfl (lv_at hl 1 rfl) ?_
                    refine lv_if_eq (tgt := 117) C0.1 C0.2.1 dX5_isName_107 (by decide) (fun c => ?_) (fun c => absurd c (by decide))
                    refine lv_iconst (v := 0) C0.1 C0.2.1 dX5_isName_117 (by decide) ?_
                    exact me_wzret _ C0.1 C0.2.1 B.returns B.notSynchronized narrow_b0 hP hS (Nat.le_of_ble_eq_true rfl) (Nat.le_of_ble_eq_true rfl) (⟨_, _, hM, hMF, SameF.rf, SameZ.rf, Or.inr ⟨hno, rfl⟩⟩) dX5_isName_118
                  · have d24 : (i + 1) < Hd.length := Nat.not_le.mp (fun h => c24 (nI_le (a := Hd.length) (b := (i + 1)) h (by omega)))
                    refine lv_iload_n C0.1 C0.2.1 dX5_isName_70 rfl (lv_at hl 1 rfl) ?_
                    refine lv_if_eq (tgt := 106) C0.1 C0.2.1 dX5_isName_71 (by decide) (fun c => ?_) (fun c => absurd c (by decide))
                    refine lv_iload_n C0.1 C0.2.1 dX5_isName_106 rfl (lv_at hl 1 rfl) ?_
                    refine lv_if_eq (tgt := 117) C0.1 C0.2.1 dX5_isName_107 (by decide) (fun c => ?_) (fun c => absurd c (by decide))
                    refine lv_iconst (v := 0) C0.1 C0.2.1 dX5_isName_117 (by decide) ?_
                    exact me_wzret _ C0.1 C0.2.1 B.returns B.notSynchronized narrow_b0 hP hS (Nat.le_of_ble_eq_true rfl) (Nat.le_of_ble_eq_true rfl) (⟨_, _, hM, hMF, SameF.rf, SameZ.rf, Or.inr ⟨hno, rfl⟩⟩) dX5_isName_118
                · refine lv_iconst (v := 1) C0.1 C0.2.1 dX5_isName_94 (by decide) ?_
                  refine lv_goto (tgt := 99) C0.1 C0.2.1 dX5_isName_95 (by decide) ?_
                  refine lv_istore_n (lv' := [(1, .int 1), (2, .int (nI i)), (0, .ref o)]) C0.1 C0.2.1 dX5_isName_99 rfl hl (by decide) rfl (fun ls hl => ?_)
                  refine lv_iinc (v := nI (i + 1)) (lv' := [(2, .int (nI (i + 1))), (1, .int 1), (0, .ref o)]) C0.1 C0.2.1 dX5_isName_100 hl (k := 1) rfl (nI_add i 1) (by decide) rfl (fun ls hl => ?_)
                  refine lv_goto (tgt := 62) C0.1 C0.2.1 dX5_isName_103 (by decide) ?_
                  exact ih62 (i + 1) (by omega) (lt_s hch ⟨c18, c23⟩) (by omega) _ (lv_sub hl [0, 1, 2] rfl)
        exact loop62 (Hd.length - 0 + 1) 0 (Nat.zero_le _) (fun q hq => absurd hq (Nat.not_lt_zero q)) (Nat.lt_succ_self _) _ (lv_sub hl [0, 1, 2] rfl)
      · refine lv_aload_n C0.1 C0.2.1 dX5_isName_27 rfl (lv_at hl 0 rfl) ?_
        refine md_get C0 hP hM 15 (by decide) kw_492 (v := .int (nI Hd.length)) (by show some (Value.int (z 15)) = _; rw [hH.1]) dX5_isName_28 ?_
        refine lv_iconst (v := 2) C0.1 C0.2.1 dX5_isName_31 (by decide) ?_
        refine lv_icmp_gt (tgt := 54) C0.1 C0.2.1 dX5_isName_32 (by decide) (fun c28 => ?_) (fun c28 => ?_)
        · have d28 : 2 < Hd.length := (nI_ltI (a := 2) (b := Hd.length) (by omega) (by omega)).mp c28
          refine lv_iconst (v := 1) C0.1 C0.2.1 dX5_isName_54 (by decide) ?_
          refine lv_goto (tgt := 59) C0.1 C0.2.1 dX5_isName_55 (by decide) ?_
          have hdt : ¬ isD Hd 0 Hd.length := fun h => by have := h.1; omega
          refine lv_istore_n (lv' := [(1, .int 1), (0, .ref o)]) C0.1 C0.2.1 dX5_isName_59 rfl hl (by decide) rfl (fun ls hl => ?_)
          refine lv_iconst (v := 0) C0.1 C0.2.1 dX5_isName_60 (by decide) ?_
          refine lv_istore_n (lv' := [(2, .int 0), (1, .int 1), (0, .ref o)]) C0.1 C0.2.1 dX5_isName_61 rfl hl (by decide) rfl (fun ls hl => ?_)
          have loop62 : ∀ (n : Nat) (i : Nat), (i ≤ Hd.length) → (∀ q, q < i → ¬ Hd.getD q 0 = 0 ∧ ¬ Hd.getD q 0 = 47) → (Hd.length - i) < n → ∀ (ls : Array Slot), lv_has ls 3 [(2, .int (nI i)), (1, .int 1), (0, .ref o)] → W p l e ({ frames := 3, cells := 0, slots := 0, locals := 68 }) s m ([.ref o] : List Value).toArray below meth c s.heap [] 0 0 (MQ below (va_Qi (fun r w' => ∃ (F' : Nat → Nat → Int32) (z' : Nat → Int32), MD G B0 w' o a F' z' ∧ MF w w' o a ∧ SameF F F' [16, 18] ∧ SameZ z z' [17, 19] ∧ ((nmOK Hd ∧ r = 1 ∧ Ls F' z' 18 19 400 (folds Hd)) ∨ (¬ nmOK Hd ∧ r = 0))) (me_W G) (me_A B0)) ([.ref o] : List Value).toArray s 0 0 (me_A B0)) (F0 m 62 ls []) := by
            intro n
            induction n with
            | zero => intro i _ _ hz; exact absurd hz (Nat.not_lt_zero _)
            | succ n ih62 =>
              intro i hil hch hn62  ls  hl
              refine lv_iload_n C0.1 C0.2.1 dX5_isName_62 rfl (lv_at hl 0 rfl) ?_
              refine lv_aload_n C0.1 C0.2.1 dX5_isName_63 rfl (lv_at hl 2 rfl) ?_
              refine md_get C0 hP hM 15 (by decide) kw_492 (v := .int (nI Hd.length)) (by show some (Value.int (z 15)) = _; rw [hH.1]) dX5_isName_64 ?_
              refine lv_icmp_ge (tgt := 106) C0.1 C0.2.1 dX5_isName_67 (by decide) (fun c29 => ?_) (fun c29 => ?_)
              · have d29 : Hd.length ≤ i := (nI_leI (a := Hd.length) (b := i) (by omega) (by omega)).mp c29
                refine lv_iload_n C0.1 C0.2.1 dX5_isName_106 rfl (lv_at hl 1 rfl) ?_
                refine lv_if_eq (tgt := 117) C0.1 C0.2.1 dX5_isName_107 (by decide) (fun c => absurd c (by decide)) (fun c => ?_)
                refine lv_aload_n C0.1 C0.2.1 dX5_isName_110 rfl (lv_at hl 2 rfl) ?_
                refine me_cVwi (n := 0) C0 hml hP hS (c_X5_read l G B0 w o a F z hM Hd hH ho) ⟨kw_562, kw_35, kw_559, ⟨by decide, by decide, by decide +kernel⟩, ⟨rfl, rfl⟩, ⟨Nat.le_of_ble_eq_true rfl, Nat.le_of_ble_eq_true rfl⟩⟩ kw_561 kw_17 hM.1 rfl rfl hl.1 rfl (Nat.le_of_ble_eq_true rfl) ⟨Nat.le_of_ble_eq_true rfl, Nat.le_of_ble_eq_true rfl⟩ dX5_isName_111 (fun r31 w31 H locs hw31 hP hS => ?_)
                obtain ⟨F31, z31, hM, hMF31, hrr31, hsF31, hsZ31, hLp31⟩ := hw31
                have hMF := hMF.tr hMF31
                refine lv_if_lt (tgt := 119) C0.1 C0.2.1 dX5_isName_114 (by decide) (fun c32 => ?_) (fun c32 => ?_)
                · refine lv_aload_n C0.1 C0.2.1 dX5_isName_119 rfl (lv_at hl 2 rfl) ?_
                  refine me_cVwv (n := 0) C0 hml hP hS (c_X5_foldAll l G B0 w31 o a F31 z31 hM (pts Hd Hd.length 0) (hLp31 (wr_lt (by omega) (hrr31 ▸ c32)))) ⟨kw_574, kw_35, kw_571, ⟨by decide, by decide, by decide +kernel⟩, ⟨rfl, rfl⟩, ⟨Nat.le_of_ble_eq_true rfl, Nat.le_of_ble_eq_true rfl⟩⟩ kw_573 kw_18 hM.1 rfl rfl hl.1 rfl (Nat.le_of_ble_eq_true rfl) ⟨Nat.le_of_ble_eq_true rfl, Nat.le_of_ble_eq_true rfl⟩ dX5_isName_120 (fun w33 H locs hw33 hP hS => ?_)
                  obtain ⟨F33, z33, hM, hMF33, hsF33, hsZ33, hLx33⟩ := hw33
                  have hMF := hMF.tr hMF33
                  refine lv_iconst (v := 1) C0.1 C0.2.1 dX5_isName_123 (by decide) ?_
                  exact me_wzret _ C0.1 C0.2.1 B.returns B.notSynchronized narrow_b1 hP hS (Nat.le_of_ble_eq_true rfl) (Nat.le_of_ble_eq_true rfl) (⟨_, _, hM, hMF, (hsF31.up (by decide)).tr hsF33 (by decide), (hsZ31.up (by decide)).tr hsZ33 (by decide), Or.inl ⟨⟨by omega, hdt, fun q hq => hch q (by omega), (wr_lt (by omega) (hrr31 ▸ c32))⟩, rfl, hLx33⟩⟩) dX5_isName_124
                · refine lv_iconst (v := 0) C0.1 C0.2.1 dX5_isName_117 (by decide) ?_
                  exact me_wzret _ C0.1 C0.2.1 B.returns B.notSynchronized narrow_b0 hP hS (Nat.le_of_ble_eq_true rfl) (Nat.le_of_ble_eq_true rfl) (⟨_, _, hM, hMF, hsF31.up (by decide), hsZ31.up (by decide), Or.inr ⟨fun h => wr_nlt (hrr31 ▸ c32) h.2.2.2, rfl⟩⟩) dX5_isName_118
              · have d29 : i < Hd.length := Nat.not_le.mp (fun h => c29 (nI_le (a := Hd.length) (b := i) h (by omega)))
                refine lv_iload_n C0.1 C0.2.1 dX5_isName_70 rfl (lv_at hl 1 rfl) ?_
                refine lv_if_eq (tgt := 106) C0.1 C0.2.1 dX5_isName_71 (by decide) (fun c => absurd c (by decide)) (fun c => ?_)
                refine lv_aload_n C0.1 C0.2.1 dX5_isName_74 rfl (lv_at hl 2 rfl) ?_
                refine md_get C0 hP hM 14 (by decide) kw_491 (v := .ref ((a 14))) rfl dX5_isName_75 ?_
                refine lv_iload_n C0.1 C0.2.1 dX5_isName_78 rfl (lv_at hl 0 rfl) ?_
                refine md_iald C0 hP hM 14 (by decide) (i := i) (by show i < 200; omega) dX5_isName_79 ?_
                refine me_topi (y := Hd.getD i 0) (hH.2.2 i (by omega)) ?_
                refine lv_if_eq (tgt := 98) C0.1 C0.2.1 dX5_isName_80 (by decide) (fun c35 => ?_) (fun c35 => ?_)
                · have hno : ¬ nmOK Hd := fun h => (h.2.2.1 i (by omega)).1 c35
                  refine lv_iconst (v := 0) C0.1 C0.2.1 dX5_isName_98 (by decide) ?_
                  refine lv_istore_n (lv' := [(1, .int 0), (2, .int (nI i)), (0, .ref o)]) C0.1 C0.2.1 dX5_isName_99 rfl hl (by decide) rfl (fun ls hl => ?_)
                  refine lv_iinc (v := nI (i + 1)) (lv' := [(2, .int (nI (i + 1))), (1, .int 0), (0, .ref o)]) C0.1 C0.2.1 dX5_isName_100 hl (k := 1) rfl (nI_add i 1) (by decide) rfl (fun ls hl => ?_)
                  refine lv_goto (tgt := 62) C0.1 C0.2.1 dX5_isName_103 (by decide) ?_
                  refine lv_iload_n C0.1 C0.2.1 dX5_isName_62 rfl (lv_at hl 0 rfl) ?_
                  refine lv_aload_n C0.1 C0.2.1 dX5_isName_63 rfl (lv_at hl 2 rfl) ?_
                  refine md_get C0 hP hM 15 (by decide) kw_492 (v := .int (nI Hd.length)) (by show some (Value.int (z 15)) = _; rw [hH.1]) dX5_isName_64 ?_
                  refine lv_icmp_ge (tgt := 106) C0.1 C0.2.1 dX5_isName_67 (by decide) (fun c36 => ?_) (fun c36 => ?_)
                  · have d36 : Hd.length ≤ (i + 1) := (nI_leI (a := Hd.length) (b := (i + 1)) (by omega) (by omega)).mp c36
                    refine lv_iload_n C0.1 C0.2.1 dX5_isName_106 rfl (lv_at hl 1 rfl) ?_
                    refine lv_if_eq (tgt := 117) C0.1 C0.2.1 dX5_isName_107 (by decide) (fun c => ?_) (fun c => absurd c (by decide))
                    refine lv_iconst (v := 0) C0.1 C0.2.1 dX5_isName_117 (by decide) ?_
                    exact me_wzret _ C0.1 C0.2.1 B.returns B.notSynchronized narrow_b0 hP hS (Nat.le_of_ble_eq_true rfl) (Nat.le_of_ble_eq_true rfl) (⟨_, _, hM, hMF, SameF.rf, SameZ.rf, Or.inr ⟨hno, rfl⟩⟩) dX5_isName_118
                  · have d36 : (i + 1) < Hd.length := Nat.not_le.mp (fun h => c36 (nI_le (a := Hd.length) (b := (i + 1)) h (by omega)))
                    refine lv_iload_n C0.1 C0.2.1 dX5_isName_70 rfl (lv_at hl 1 rfl) ?_
                    refine lv_if_eq (tgt := 106) C0.1 C0.2.1 dX5_isName_71 (by decide) (fun c => ?_) (fun c => absurd c (by decide))
                    refine lv_iload_n C0.1 C0.2.1 dX5_isName_106 rfl (lv_at hl 1 rfl) ?_
                    refine lv_if_eq (tgt := 117) C0.1 C0.2.1 dX5_isName_107 (by decide) (fun c => ?_) (fun c => absurd c (by decide))
                    refine lv_iconst (v := 0) C0.1 C0.2.1 dX5_isName_117 (by decide) ?_
                    exact me_wzret _ C0.1 C0.2.1 B.returns B.notSynchronized narrow_b0 hP hS (Nat.le_of_ble_eq_true rfl) (Nat.le_of_ble_eq_true rfl) (⟨_, _, hM, hMF, SameF.rf, SameZ.rf, Or.inr ⟨hno, rfl⟩⟩) dX5_isName_118
                · refine lv_aload_n C0.1 C0.2.1 dX5_isName_83 rfl (lv_at hl 2 rfl) ?_
                  refine md_get C0 hP hM 14 (by decide) kw_491 (v := .ref ((a 14))) rfl dX5_isName_84 ?_
                  refine lv_iload_n C0.1 C0.2.1 dX5_isName_87 rfl (lv_at hl 0 rfl) ?_
                  refine md_iald C0 hP hM 14 (by decide) (i := i) (by show i < 200; omega) dX5_isName_88 ?_
                  refine me_topi (y := Hd.getD i 0) (hH.2.2 i (by omega)) ?_
                  refine lv_bipush (v := 47) C0.1 C0.2.1 dX5_isName_89 (by decide) ?_
                  refine lv_icmp_eq (tgt := 98) C0.1 C0.2.1 dX5_isName_91 (by decide) (fun c40 => ?_) (fun c40 => ?_)
                  · have hno : ¬ nmOK Hd := fun h => (h.2.2.1 i (by omega)).2 c40
                    refine lv_iconst (v := 0) C0.1 C0.2.1 dX5_isName_98 (by decide) ?_
                    refine lv_istore_n (lv' := [(1, .int 0), (2, .int (nI i)), (0, .ref o)]) C0.1 C0.2.1 dX5_isName_99 rfl hl (by decide) rfl (fun ls hl => ?_)
                    refine lv_iinc (v := nI (i + 1)) (lv' := [(2, .int (nI (i + 1))), (1, .int 0), (0, .ref o)]) C0.1 C0.2.1 dX5_isName_100 hl (k := 1) rfl (nI_add i 1) (by decide) rfl (fun ls hl => ?_)
                    refine lv_goto (tgt := 62) C0.1 C0.2.1 dX5_isName_103 (by decide) ?_
                    refine lv_iload_n C0.1 C0.2.1 dX5_isName_62 rfl (lv_at hl 0 rfl) ?_
                    refine lv_aload_n C0.1 C0.2.1 dX5_isName_63 rfl (lv_at hl 2 rfl) ?_
                    refine md_get C0 hP hM 15 (by decide) kw_492 (v := .int (nI Hd.length)) (by show some (Value.int (z 15)) = _; rw [hH.1]) dX5_isName_64 ?_
                    refine lv_icmp_ge (tgt := 106) C0.1 C0.2.1 dX5_isName_67 (by decide) (fun c41 => ?_) (fun c41 => ?_)
                    · have d41 : Hd.length ≤ (i + 1) := (nI_leI (a := Hd.length) (b := (i + 1)) (by omega) (by omega)).mp c41
                      refine lv_iload_n C0.1 C0.2.1 dX5_isName_106 rfl (lv_at hl 1 rfl) ?_
                      refine lv_if_eq (tgt := 117) C0.1 C0.2.1 dX5_isName_107 (by decide) (fun c => ?_) (fun c => absurd c (by decide))
                      refine lv_iconst (v := 0) C0.1 C0.2.1 dX5_isName_117 (by decide) ?_
                      exact me_wzret _ C0.1 C0.2.1 B.returns B.notSynchronized narrow_b0 hP hS (Nat.le_of_ble_eq_true rfl) (Nat.le_of_ble_eq_true rfl) (⟨_, _, hM, hMF, SameF.rf, SameZ.rf, Or.inr ⟨hno, rfl⟩⟩) dX5_isName_118
                    · have d41 : (i + 1) < Hd.length := Nat.not_le.mp (fun h => c41 (nI_le (a := Hd.length) (b := (i + 1)) h (by omega)))
                      refine lv_iload_n C0.1 C0.2.1 dX5_isName_70 rfl (lv_at hl 1 rfl) ?_
                      refine lv_if_eq (tgt := 106) C0.1 C0.2.1 dX5_isName_71 (by decide) (fun c => ?_) (fun c => absurd c (by decide))
                      refine lv_iload_n C0.1 C0.2.1 dX5_isName_106 rfl (lv_at hl 1 rfl) ?_
                      refine lv_if_eq (tgt := 117) C0.1 C0.2.1 dX5_isName_107 (by decide) (fun c => ?_) (fun c => absurd c (by decide))
                      refine lv_iconst (v := 0) C0.1 C0.2.1 dX5_isName_117 (by decide) ?_
                      exact me_wzret _ C0.1 C0.2.1 B.returns B.notSynchronized narrow_b0 hP hS (Nat.le_of_ble_eq_true rfl) (Nat.le_of_ble_eq_true rfl) (⟨_, _, hM, hMF, SameF.rf, SameZ.rf, Or.inr ⟨hno, rfl⟩⟩) dX5_isName_118
                  · refine lv_iconst (v := 1) C0.1 C0.2.1 dX5_isName_94 (by decide) ?_
                    refine lv_goto (tgt := 99) C0.1 C0.2.1 dX5_isName_95 (by decide) ?_
                    refine lv_istore_n (lv' := [(1, .int 1), (2, .int (nI i)), (0, .ref o)]) C0.1 C0.2.1 dX5_isName_99 rfl hl (by decide) rfl (fun ls hl => ?_)
                    refine lv_iinc (v := nI (i + 1)) (lv' := [(2, .int (nI (i + 1))), (1, .int 1), (0, .ref o)]) C0.1 C0.2.1 dX5_isName_100 hl (k := 1) rfl (nI_add i 1) (by decide) rfl (fun ls hl => ?_)
                    refine lv_goto (tgt := 62) C0.1 C0.2.1 dX5_isName_103 (by decide) ?_
                    exact ih62 (i + 1) (by omega) (lt_s hch ⟨c35, c40⟩) (by omega) _ (lv_sub hl [0, 1, 2] rfl)
          exact loop62 (Hd.length - 0 + 1) 0 (Nat.zero_le _) (fun q hq => absurd hq (Nat.not_lt_zero q)) (Nat.lt_succ_self _) _ (lv_sub hl [0, 1, 2] rfl)
        · have d28 : Hd.length ≤ 2 := Nat.not_lt.mp (fun h => c28 (nI_lt (a := 2) (b := Hd.length) h (by omega)))
          refine lv_aload_n C0.1 C0.2.1 dX5_isName_35 rfl (lv_at hl 0 rfl) ?_
          refine md_get C0 hP hM 15 (by decide) kw_492 (v := .int (nI Hd.length)) (by show some (Value.int (z 15)) = _; rw [hH.1]) dX5_isName_36 ?_
          refine lv_iconst (v := 2) C0.1 C0.2.1 dX5_isName_39 (by decide) ?_
          refine lv_icmp_ne (tgt := 58) C0.1 C0.2.1 dX5_isName_40 (by decide) (fun c45 => ?_) (fun c45 => ?_)
          · have d45 : Hd.length ≠ 2 := fun h => c45 (congrArg nI h)
            refine lv_iconst (v := 0) C0.1 C0.2.1 dX5_isName_58 (by decide) ?_
            have hno : ¬ nmOK Hd := fun h => h.2.1 ⟨by omega, c11, by rw [show Hd.length - 1 = 0 by omega]; exact c11⟩
            refine lv_istore_n (lv' := [(1, .int 0), (0, .ref o)]) C0.1 C0.2.1 dX5_isName_59 rfl hl (by decide) rfl (fun ls hl => ?_)
            refine lv_iconst (v := 0) C0.1 C0.2.1 dX5_isName_60 (by decide) ?_
            refine lv_istore_n (lv' := [(2, .int 0), (1, .int 0), (0, .ref o)]) C0.1 C0.2.1 dX5_isName_61 rfl hl (by decide) rfl (fun ls hl => ?_)
            refine lv_iload_n C0.1 C0.2.1 dX5_isName_62 rfl (lv_at hl 0 rfl) ?_
            refine lv_aload_n C0.1 C0.2.1 dX5_isName_63 rfl (lv_at hl 2 rfl) ?_
            refine md_get C0 hP hM 15 (by decide) kw_492 (v := .int (nI Hd.length)) (by show some (Value.int (z 15)) = _; rw [hH.1]) dX5_isName_64 ?_
            refine lv_icmp_ge (tgt := 106) C0.1 C0.2.1 dX5_isName_67 (by decide) (fun c46 => ?_) (fun c46 => ?_)
            · have d46 : Hd.length ≤ 0 := (nI_leI (a := Hd.length) (b := 0) (by omega) (by omega)).mp c46
              refine lv_iload_n C0.1 C0.2.1 dX5_isName_106 rfl (lv_at hl 1 rfl) ?_
              refine lv_if_eq (tgt := 117) C0.1 C0.2.1 dX5_isName_107 (by decide) (fun c => ?_) (fun c => absurd c (by decide))
              refine lv_iconst (v := 0) C0.1 C0.2.1 dX5_isName_117 (by decide) ?_
              exact me_wzret _ C0.1 C0.2.1 B.returns B.notSynchronized narrow_b0 hP hS (Nat.le_of_ble_eq_true rfl) (Nat.le_of_ble_eq_true rfl) (⟨_, _, hM, hMF, SameF.rf, SameZ.rf, Or.inr ⟨hno, rfl⟩⟩) dX5_isName_118
            · have d46 : 0 < Hd.length := Nat.not_le.mp (fun h => c46 (nI_le (a := Hd.length) (b := 0) h (by omega)))
              refine lv_iload_n C0.1 C0.2.1 dX5_isName_70 rfl (lv_at hl 1 rfl) ?_
              refine lv_if_eq (tgt := 106) C0.1 C0.2.1 dX5_isName_71 (by decide) (fun c => ?_) (fun c => absurd c (by decide))
              refine lv_iload_n C0.1 C0.2.1 dX5_isName_106 rfl (lv_at hl 1 rfl) ?_
              refine lv_if_eq (tgt := 117) C0.1 C0.2.1 dX5_isName_107 (by decide) (fun c => ?_) (fun c => absurd c (by decide))
              refine lv_iconst (v := 0) C0.1 C0.2.1 dX5_isName_117 (by decide) ?_
              exact me_wzret _ C0.1 C0.2.1 B.returns B.notSynchronized narrow_b0 hP hS (Nat.le_of_ble_eq_true rfl) (Nat.le_of_ble_eq_true rfl) (⟨_, _, hM, hMF, SameF.rf, SameZ.rf, Or.inr ⟨hno, rfl⟩⟩) dX5_isName_118
          · have d45 : Hd.length = 2 := (nI_eq (a := Hd.length) (b := 2) (by omega) (by omega)).mp c45
            refine lv_aload_n C0.1 C0.2.1 dX5_isName_43 rfl (lv_at hl 0 rfl) ?_
            refine md_get C0 hP hM 14 (by decide) kw_491 (v := .ref ((a 14))) rfl dX5_isName_44 ?_
            refine lv_iconst (v := 1) C0.1 C0.2.1 dX5_isName_47 (by decide) ?_
            refine md_iald C0 hP hM 14 (by decide) (i := 1) (by show 1 < 200; omega) dX5_isName_48 ?_
            refine me_topi (y := Hd.getD 1 0) (hH.2.2 1 (by omega)) ?_
            refine lv_bipush (v := 46) C0.1 C0.2.1 dX5_isName_49 (by decide) ?_
            refine lv_icmp_eq (tgt := 58) C0.1 C0.2.1 dX5_isName_51 (by decide) (fun c50 => ?_) (fun c50 => ?_)
            · refine lv_iconst (v := 0) C0.1 C0.2.1 dX5_isName_58 (by decide) ?_
              have hno : ¬ nmOK Hd := fun h => h.2.1 ⟨by omega, c11, by rw [show Hd.length - 1 = 1 by omega]; exact c50⟩
              refine lv_istore_n (lv' := [(1, .int 0), (0, .ref o)]) C0.1 C0.2.1 dX5_isName_59 rfl hl (by decide) rfl (fun ls hl => ?_)
              refine lv_iconst (v := 0) C0.1 C0.2.1 dX5_isName_60 (by decide) ?_
              refine lv_istore_n (lv' := [(2, .int 0), (1, .int 0), (0, .ref o)]) C0.1 C0.2.1 dX5_isName_61 rfl hl (by decide) rfl (fun ls hl => ?_)
              refine lv_iload_n C0.1 C0.2.1 dX5_isName_62 rfl (lv_at hl 0 rfl) ?_
              refine lv_aload_n C0.1 C0.2.1 dX5_isName_63 rfl (lv_at hl 2 rfl) ?_
              refine md_get C0 hP hM 15 (by decide) kw_492 (v := .int (nI Hd.length)) (by show some (Value.int (z 15)) = _; rw [hH.1]) dX5_isName_64 ?_
              refine lv_icmp_ge (tgt := 106) C0.1 C0.2.1 dX5_isName_67 (by decide) (fun c51 => ?_) (fun c51 => ?_)
              · have d51 : Hd.length ≤ 0 := (nI_leI (a := Hd.length) (b := 0) (by omega) (by omega)).mp c51
                refine lv_iload_n C0.1 C0.2.1 dX5_isName_106 rfl (lv_at hl 1 rfl) ?_
                refine lv_if_eq (tgt := 117) C0.1 C0.2.1 dX5_isName_107 (by decide) (fun c => ?_) (fun c => absurd c (by decide))
                refine lv_iconst (v := 0) C0.1 C0.2.1 dX5_isName_117 (by decide) ?_
                exact me_wzret _ C0.1 C0.2.1 B.returns B.notSynchronized narrow_b0 hP hS (Nat.le_of_ble_eq_true rfl) (Nat.le_of_ble_eq_true rfl) (⟨_, _, hM, hMF, SameF.rf, SameZ.rf, Or.inr ⟨hno, rfl⟩⟩) dX5_isName_118
              · have d51 : 0 < Hd.length := Nat.not_le.mp (fun h => c51 (nI_le (a := Hd.length) (b := 0) h (by omega)))
                refine lv_iload_n C0.1 C0.2.1 dX5_isName_70 rfl (lv_at hl 1 rfl) ?_
                refine lv_if_eq (tgt := 106) C0.1 C0.2.1 dX5_isName_71 (by decide) (fun c => ?_) (fun c => absurd c (by decide))
                refine lv_iload_n C0.1 C0.2.1 dX5_isName_106 rfl (lv_at hl 1 rfl) ?_
                refine lv_if_eq (tgt := 117) C0.1 C0.2.1 dX5_isName_107 (by decide) (fun c => ?_) (fun c => absurd c (by decide))
                refine lv_iconst (v := 0) C0.1 C0.2.1 dX5_isName_117 (by decide) ?_
                exact me_wzret _ C0.1 C0.2.1 B.returns B.notSynchronized narrow_b0 hP hS (Nat.le_of_ble_eq_true rfl) (Nat.le_of_ble_eq_true rfl) (⟨_, _, hM, hMF, SameF.rf, SameZ.rf, Or.inr ⟨hno, rfl⟩⟩) dX5_isName_118
            · refine lv_iconst (v := 1) C0.1 C0.2.1 dX5_isName_54 (by decide) ?_
              refine lv_goto (tgt := 59) C0.1 C0.2.1 dX5_isName_55 (by decide) ?_
              have hdt : ¬ isD Hd 0 Hd.length := fun h => c50 (by have := h.2.2; rw [show Hd.length - 1 = 1 by omega] at this; exact this)
              refine lv_istore_n (lv' := [(1, .int 1), (0, .ref o)]) C0.1 C0.2.1 dX5_isName_59 rfl hl (by decide) rfl (fun ls hl => ?_)
              refine lv_iconst (v := 0) C0.1 C0.2.1 dX5_isName_60 (by decide) ?_
              refine lv_istore_n (lv' := [(2, .int 0), (1, .int 1), (0, .ref o)]) C0.1 C0.2.1 dX5_isName_61 rfl hl (by decide) rfl (fun ls hl => ?_)
              have loop62 : ∀ (n : Nat) (i : Nat), (i ≤ Hd.length) → (∀ q, q < i → ¬ Hd.getD q 0 = 0 ∧ ¬ Hd.getD q 0 = 47) → (Hd.length - i) < n → ∀ (ls : Array Slot), lv_has ls 3 [(2, .int (nI i)), (1, .int 1), (0, .ref o)] → W p l e ({ frames := 3, cells := 0, slots := 0, locals := 68 }) s m ([.ref o] : List Value).toArray below meth c s.heap [] 0 0 (MQ below (va_Qi (fun r w' => ∃ (F' : Nat → Nat → Int32) (z' : Nat → Int32), MD G B0 w' o a F' z' ∧ MF w w' o a ∧ SameF F F' [16, 18] ∧ SameZ z z' [17, 19] ∧ ((nmOK Hd ∧ r = 1 ∧ Ls F' z' 18 19 400 (folds Hd)) ∨ (¬ nmOK Hd ∧ r = 0))) (me_W G) (me_A B0)) ([.ref o] : List Value).toArray s 0 0 (me_A B0)) (F0 m 62 ls []) := by
                intro n
                induction n with
                | zero => intro i _ _ hz; exact absurd hz (Nat.not_lt_zero _)
                | succ n ih62 =>
                  intro i hil hch hn62  ls  hl
                  refine lv_iload_n C0.1 C0.2.1 dX5_isName_62 rfl (lv_at hl 0 rfl) ?_
                  refine lv_aload_n C0.1 C0.2.1 dX5_isName_63 rfl (lv_at hl 2 rfl) ?_
                  refine md_get C0 hP hM 15 (by decide) kw_492 (v := .int (nI Hd.length)) (by show some (Value.int (z 15)) = _; rw [hH.1]) dX5_isName_64 ?_
                  refine lv_icmp_ge (tgt := 106) C0.1 C0.2.1 dX5_isName_67 (by decide) (fun c55 => ?_) (fun c55 => ?_)
                  · have d55 : Hd.length ≤ i := (nI_leI (a := Hd.length) (b := i) (by omega) (by omega)).mp c55
                    refine lv_iload_n C0.1 C0.2.1 dX5_isName_106 rfl (lv_at hl 1 rfl) ?_
                    refine lv_if_eq (tgt := 117) C0.1 C0.2.1 dX5_isName_107 (by decide) (fun c => absurd c (by decide)) (fun c => ?_)
                    refine lv_aload_n C0.1 C0.2.1 dX5_isName_110 rfl (lv_at hl 2 rfl) ?_
                    refine me_cVwi (n := 0) C0 hml hP hS (c_X5_read l G B0 w o a F z hM Hd hH ho) ⟨kw_562, kw_35, kw_559, ⟨by decide, by decide, by decide +kernel⟩, ⟨rfl, rfl⟩, ⟨Nat.le_of_ble_eq_true rfl, Nat.le_of_ble_eq_true rfl⟩⟩ kw_561 kw_17 hM.1 rfl rfl hl.1 rfl (Nat.le_of_ble_eq_true rfl) ⟨Nat.le_of_ble_eq_true rfl, Nat.le_of_ble_eq_true rfl⟩ dX5_isName_111 (fun r57 w57 H locs hw57 hP hS => ?_)
                    obtain ⟨F57, z57, hM, hMF57, hrr57, hsF57, hsZ57, hLp57⟩ := hw57
                    have hMF := hMF.tr hMF57
                    refine lv_if_lt (tgt := 119) C0.1 C0.2.1 dX5_isName_114 (by decide) (fun c58 => ?_) (fun c58 => ?_)
                    · refine lv_aload_n C0.1 C0.2.1 dX5_isName_119 rfl (lv_at hl 2 rfl) ?_
                      refine me_cVwv (n := 0) C0 hml hP hS (c_X5_foldAll l G B0 w57 o a F57 z57 hM (pts Hd Hd.length 0) (hLp57 (wr_lt (by omega) (hrr57 ▸ c58)))) ⟨kw_574, kw_35, kw_571, ⟨by decide, by decide, by decide +kernel⟩, ⟨rfl, rfl⟩, ⟨Nat.le_of_ble_eq_true rfl, Nat.le_of_ble_eq_true rfl⟩⟩ kw_573 kw_18 hM.1 rfl rfl hl.1 rfl (Nat.le_of_ble_eq_true rfl) ⟨Nat.le_of_ble_eq_true rfl, Nat.le_of_ble_eq_true rfl⟩ dX5_isName_120 (fun w59 H locs hw59 hP hS => ?_)
                      obtain ⟨F59, z59, hM, hMF59, hsF59, hsZ59, hLx59⟩ := hw59
                      have hMF := hMF.tr hMF59
                      refine lv_iconst (v := 1) C0.1 C0.2.1 dX5_isName_123 (by decide) ?_
                      exact me_wzret _ C0.1 C0.2.1 B.returns B.notSynchronized narrow_b1 hP hS (Nat.le_of_ble_eq_true rfl) (Nat.le_of_ble_eq_true rfl) (⟨_, _, hM, hMF, (hsF57.up (by decide)).tr hsF59 (by decide), (hsZ57.up (by decide)).tr hsZ59 (by decide), Or.inl ⟨⟨by omega, hdt, fun q hq => hch q (by omega), (wr_lt (by omega) (hrr57 ▸ c58))⟩, rfl, hLx59⟩⟩) dX5_isName_124
                    · refine lv_iconst (v := 0) C0.1 C0.2.1 dX5_isName_117 (by decide) ?_
                      exact me_wzret _ C0.1 C0.2.1 B.returns B.notSynchronized narrow_b0 hP hS (Nat.le_of_ble_eq_true rfl) (Nat.le_of_ble_eq_true rfl) (⟨_, _, hM, hMF, hsF57.up (by decide), hsZ57.up (by decide), Or.inr ⟨fun h => wr_nlt (hrr57 ▸ c58) h.2.2.2, rfl⟩⟩) dX5_isName_118
                  · have d55 : i < Hd.length := Nat.not_le.mp (fun h => c55 (nI_le (a := Hd.length) (b := i) h (by omega)))
                    refine lv_iload_n C0.1 C0.2.1 dX5_isName_70 rfl (lv_at hl 1 rfl) ?_
                    refine lv_if_eq (tgt := 106) C0.1 C0.2.1 dX5_isName_71 (by decide) (fun c => absurd c (by decide)) (fun c => ?_)
                    refine lv_aload_n C0.1 C0.2.1 dX5_isName_74 rfl (lv_at hl 2 rfl) ?_
                    refine md_get C0 hP hM 14 (by decide) kw_491 (v := .ref ((a 14))) rfl dX5_isName_75 ?_
                    refine lv_iload_n C0.1 C0.2.1 dX5_isName_78 rfl (lv_at hl 0 rfl) ?_
                    refine md_iald C0 hP hM 14 (by decide) (i := i) (by show i < 200; omega) dX5_isName_79 ?_
                    refine me_topi (y := Hd.getD i 0) (hH.2.2 i (by omega)) ?_
                    refine lv_if_eq (tgt := 98) C0.1 C0.2.1 dX5_isName_80 (by decide) (fun c61 => ?_) (fun c61 => ?_)
                    · have hno : ¬ nmOK Hd := fun h => (h.2.2.1 i (by omega)).1 c61
                      refine lv_iconst (v := 0) C0.1 C0.2.1 dX5_isName_98 (by decide) ?_
                      refine lv_istore_n (lv' := [(1, .int 0), (2, .int (nI i)), (0, .ref o)]) C0.1 C0.2.1 dX5_isName_99 rfl hl (by decide) rfl (fun ls hl => ?_)
                      refine lv_iinc (v := nI (i + 1)) (lv' := [(2, .int (nI (i + 1))), (1, .int 0), (0, .ref o)]) C0.1 C0.2.1 dX5_isName_100 hl (k := 1) rfl (nI_add i 1) (by decide) rfl (fun ls hl => ?_)
                      refine lv_goto (tgt := 62) C0.1 C0.2.1 dX5_isName_103 (by decide) ?_
                      refine lv_iload_n C0.1 C0.2.1 dX5_isName_62 rfl (lv_at hl 0 rfl) ?_
                      refine lv_aload_n C0.1 C0.2.1 dX5_isName_63 rfl (lv_at hl 2 rfl) ?_
                      refine md_get C0 hP hM 15 (by decide) kw_492 (v := .int (nI Hd.length)) (by show some (Value.int (z 15)) = _; rw [hH.1]) dX5_isName_64 ?_
                      refine lv_icmp_ge (tgt := 106) C0.1 C0.2.1 dX5_isName_67 (by decide) (fun c62 => ?_) (fun c62 => ?_)
                      · have d62 : Hd.length ≤ (i + 1) := (nI_leI (a := Hd.length) (b := (i + 1)) (by omega) (by omega)).mp c62
                        refine lv_iload_n C0.1 C0.2.1 dX5_isName_106 rfl (lv_at hl 1 rfl) ?_
                        refine lv_if_eq (tgt := 117) C0.1 C0.2.1 dX5_isName_107 (by decide) (fun c => ?_) (fun c => absurd c (by decide))
                        refine lv_iconst (v := 0) C0.1 C0.2.1 dX5_isName_117 (by decide) ?_
                        exact me_wzret _ C0.1 C0.2.1 B.returns B.notSynchronized narrow_b0 hP hS (Nat.le_of_ble_eq_true rfl) (Nat.le_of_ble_eq_true rfl) (⟨_, _, hM, hMF, SameF.rf, SameZ.rf, Or.inr ⟨hno, rfl⟩⟩) dX5_isName_118
                      · have d62 : (i + 1) < Hd.length := Nat.not_le.mp (fun h => c62 (nI_le (a := Hd.length) (b := (i + 1)) h (by omega)))
                        refine lv_iload_n C0.1 C0.2.1 dX5_isName_70 rfl (lv_at hl 1 rfl) ?_
                        refine lv_if_eq (tgt := 106) C0.1 C0.2.1 dX5_isName_71 (by decide) (fun c => ?_) (fun c => absurd c (by decide))
                        refine lv_iload_n C0.1 C0.2.1 dX5_isName_106 rfl (lv_at hl 1 rfl) ?_
                        refine lv_if_eq (tgt := 117) C0.1 C0.2.1 dX5_isName_107 (by decide) (fun c => ?_) (fun c => absurd c (by decide))
                        refine lv_iconst (v := 0) C0.1 C0.2.1 dX5_isName_117 (by decide) ?_
                        exact me_wzret _ C0.1 C0.2.1 B.returns B.notSynchronized narrow_b0 hP hS (Nat.le_of_ble_eq_true rfl) (Nat.le_of_ble_eq_true rfl) (⟨_, _, hM, hMF, SameF.rf, SameZ.rf, Or.inr ⟨hno, rfl⟩⟩) dX5_isName_118
                    · refine lv_aload_n C0.1 C0.2.1 dX5_isName_83 rfl (lv_at hl 2 rfl) ?_
                      refine md_get C0 hP hM 14 (by decide) kw_491 (v := .ref ((a 14))) rfl dX5_isName_84 ?_
                      refine lv_iload_n C0.1 C0.2.1 dX5_isName_87 rfl (lv_at hl 0 rfl) ?_
                      refine md_iald C0 hP hM 14 (by decide) (i := i) (by show i < 200; omega) dX5_isName_88 ?_
                      refine me_topi (y := Hd.getD i 0) (hH.2.2 i (by omega)) ?_
                      refine lv_bipush (v := 47) C0.1 C0.2.1 dX5_isName_89 (by decide) ?_
                      refine lv_icmp_eq (tgt := 98) C0.1 C0.2.1 dX5_isName_91 (by decide) (fun c66 => ?_) (fun c66 => ?_)
                      · have hno : ¬ nmOK Hd := fun h => (h.2.2.1 i (by omega)).2 c66
                        refine lv_iconst (v := 0) C0.1 C0.2.1 dX5_isName_98 (by decide) ?_
                        refine lv_istore_n (lv' := [(1, .int 0), (2, .int (nI i)), (0, .ref o)]) C0.1 C0.2.1 dX5_isName_99 rfl hl (by decide) rfl (fun ls hl => ?_)
                        refine lv_iinc (v := nI (i + 1)) (lv' := [(2, .int (nI (i + 1))), (1, .int 0), (0, .ref o)]) C0.1 C0.2.1 dX5_isName_100 hl (k := 1) rfl (nI_add i 1) (by decide) rfl (fun ls hl => ?_)
                        refine lv_goto (tgt := 62) C0.1 C0.2.1 dX5_isName_103 (by decide) ?_
                        refine lv_iload_n C0.1 C0.2.1 dX5_isName_62 rfl (lv_at hl 0 rfl) ?_
                        refine lv_aload_n C0.1 C0.2.1 dX5_isName_63 rfl (lv_at hl 2 rfl) ?_
                        refine md_get C0 hP hM 15 (by decide) kw_492 (v := .int (nI Hd.length)) (by show some (Value.int (z 15)) = _; rw [hH.1]) dX5_isName_64 ?_
                        refine lv_icmp_ge (tgt := 106) C0.1 C0.2.1 dX5_isName_67 (by decide) (fun c67 => ?_) (fun c67 => ?_)
                        · have d67 : Hd.length ≤ (i + 1) := (nI_leI (a := Hd.length) (b := (i + 1)) (by omega) (by omega)).mp c67
                          refine lv_iload_n C0.1 C0.2.1 dX5_isName_106 rfl (lv_at hl 1 rfl) ?_
                          refine lv_if_eq (tgt := 117) C0.1 C0.2.1 dX5_isName_107 (by decide) (fun c => ?_) (fun c => absurd c (by decide))
                          refine lv_iconst (v := 0) C0.1 C0.2.1 dX5_isName_117 (by decide) ?_
                          exact me_wzret _ C0.1 C0.2.1 B.returns B.notSynchronized narrow_b0 hP hS (Nat.le_of_ble_eq_true rfl) (Nat.le_of_ble_eq_true rfl) (⟨_, _, hM, hMF, SameF.rf, SameZ.rf, Or.inr ⟨hno, rfl⟩⟩) dX5_isName_118
                        · have d67 : (i + 1) < Hd.length := Nat.not_le.mp (fun h => c67 (nI_le (a := Hd.length) (b := (i + 1)) h (by omega)))
                          refine lv_iload_n C0.1 C0.2.1 dX5_isName_70 rfl (lv_at hl 1 rfl) ?_
                          refine lv_if_eq (tgt := 106) C0.1 C0.2.1 dX5_isName_71 (by decide) (fun c => ?_) (fun c => absurd c (by decide))
                          refine lv_iload_n C0.1 C0.2.1 dX5_isName_106 rfl (lv_at hl 1 rfl) ?_
                          refine lv_if_eq (tgt := 117) C0.1 C0.2.1 dX5_isName_107 (by decide) (fun c => ?_) (fun c => absurd c (by decide))
                          refine lv_iconst (v := 0) C0.1 C0.2.1 dX5_isName_117 (by decide) ?_
                          exact me_wzret _ C0.1 C0.2.1 B.returns B.notSynchronized narrow_b0 hP hS (Nat.le_of_ble_eq_true rfl) (Nat.le_of_ble_eq_true rfl) (⟨_, _, hM, hMF, SameF.rf, SameZ.rf, Or.inr ⟨hno, rfl⟩⟩) dX5_isName_118
                      · refine lv_iconst (v := 1) C0.1 C0.2.1 dX5_isName_94 (by decide) ?_
                        refine lv_goto (tgt := 99) C0.1 C0.2.1 dX5_isName_95 (by decide) ?_
                        refine lv_istore_n (lv' := [(1, .int 1), (2, .int (nI i)), (0, .ref o)]) C0.1 C0.2.1 dX5_isName_99 rfl hl (by decide) rfl (fun ls hl => ?_)
                        refine lv_iinc (v := nI (i + 1)) (lv' := [(2, .int (nI (i + 1))), (1, .int 1), (0, .ref o)]) C0.1 C0.2.1 dX5_isName_100 hl (k := 1) rfl (nI_add i 1) (by decide) rfl (fun ls hl => ?_)
                        refine lv_goto (tgt := 62) C0.1 C0.2.1 dX5_isName_103 (by decide) ?_
                        exact ih62 (i + 1) (by omega) (lt_s hch ⟨c61, c66⟩) (by omega) _ (lv_sub hl [0, 1, 2] rfl)
              exact loop62 (Hd.length - 0 + 1) 0 (Nat.zero_le _) (fun q hq => absurd hq (Nat.not_lt_zero q)) (Nat.lt_succ_self _) _ (lv_sub hl [0, 1, 2] rfl)
