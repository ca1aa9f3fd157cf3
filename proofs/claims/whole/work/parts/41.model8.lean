set_option maxHeartbeats 4000000 in
set_option maxRecDepth 100000 in
/-- find(d) -/
theorem c_X5_find (l : Launch) (G : me_G) (B0 : Nat) (w : Me) (o : Nat) (a : Nat → Nat) (F : Nat → Nat → Int32) (z : Nat → Int32) (hM : MD G B0 w o a F z) (T : Tre) (hT : RT F T) (hI : TI T) (tp : List Int32) (hTp : Ls F z 0 1 200 tp) (ho : Oct tp) (d : Int32) : CtWI l yX5_find (Cond.code yX5_find cX5_find 2 (some .int)) ({ frames := 4, cells := 0, slots := 0, locals := 90 }) G B0 w [.ref o, .int d] (fun r w' => ∃ (F' : Nat → Nat → Int32) (z' : Nat → Int32), MD G B0 w' o a F' z' ∧ MF w w' o a ∧ z' 13 = 0 ∧ SameF F F' [14, 16, 18] ∧ SameZ z z' [1, 13, 15, 17, 19] ∧ Ls F' z' 0 1 200 [] ∧ r = sFind T tp d) 0 0 := by
  refine Met.ofW (cc := cX5_find) (maxL := 2) (ret := (some .int)) (by decide) rfl ?_
  intro p e s m args below meth c s₁ B hml hv
  obtain ⟨rfl, hK, hP, hKq, hBs⟩ := hv
  have hts := fun w h => atoms_spec (ws := Cond.code yX5_find cX5_find 2 (some .int) :: tbG) B.pre w (List.mem_cons_of_mem _ h)
  have hown : s.vm.findClass RX5 = some m.cls := findClass_of_methodNamed B.named
  have C0 : Cx G B0 p s m _ c cX5_find RX5 := ⟨B.exec, B.bytes, hown, hts, hK, hKq, hBs⟩
  have hS : va_S (me_A B0) s.heap s.heap [] := va_S.rf
  have hl := lv_entry ([.ref o, .int d]) (n := 2) (Nat.le_of_ble_eq_true rfl)
  rw [lg_entry_eq]
  generalize (lg_sl ([.ref o, .int d]) ++ List.replicate (2 - (lg_sl ([.ref o, .int d])).length) Slot.unset).toArray = ls at hl ⊢
  have hl : lv_has ls 2 [(0, .ref o), (1, .int d)] := hl
  have hMF : MF w w o a := MF.rf
  refine lv_aload_n C0.1 C0.2.1 dX5_find_0 rfl (lv_at hl 0 rfl) ?_
  refine lv_iconst (v := 0) C0.1 C0.2.1 dX5_find_1 (by decide) ?_
  refine md_put C0 hP hS hM hMF 13 (by decide) kw_490 rfl rfl rfl dX5_find_2 (fun w1 z1 H locs hz1 hM hMF hP hS => ?_)
  have hz1_13 : z1 13 = 0 := by rw [hz1, upd_eq]
  refine lv_aload_n C0.1 C0.2.1 dX5_find_5 rfl (lv_at hl 0 rfl) ?_
  have lF2 : SameF F F [] := SameF.rf
  have lZ2 : SameZ z z1 [13] := (SameZ.rf.wr hz1 (by decide))
  have sF2 := (SameF.rf : SameF F F [14, 16, 18]).tr lF2 (by decide)
  have sZ2 := (SameZ.rf : SameZ z z [1, 13, 15, 17, 19]).tr lZ2 (by decide)
  have hTp_2 := hTp.sm lF2 lZ2 (by decide) (by decide)
  have hT_2 := hT.sm lF2 (by decide)
  refine me_cVwv (n := 0) C0 hml hP hS (c_X5_takeTape l G B0 w1 o a F z1 hM tp hTp_2) ⟨kw_558, kw_35, kw_555, ⟨by decide, by decide, by decide +kernel⟩, ⟨rfl, rfl⟩, ⟨Nat.le_of_ble_eq_true rfl, Nat.le_of_ble_eq_true rfl⟩⟩ kw_557 kw_16 hM.1 rfl rfl hl.1 rfl (Nat.le_of_ble_eq_true rfl) ⟨Nat.le_of_ble_eq_true rfl, Nat.le_of_ble_eq_true rfl⟩ dX5_find_6 (fun w3 H locs hw3 hP hS => ?_)
  obtain ⟨F3, z3, hM, hMF3, hsF3, hsZ3, hLh3, hLt3⟩ := hw3
  have hMF := hMF.tr hMF3
  have sF3 := sF2.tr hsF3 (by decide)
  have sZ3 := sZ2.tr hsZ3 (by decide)
  have hT_3 := hT_2.sm hsF3 (by decide)
  refine lv_aload_n C0.1 C0.2.1 dX5_find_9 rfl (lv_at hl 0 rfl) ?_
  refine lv_iload_n C0.1 C0.2.1 dX5_find_10 rfl (lv_at hl 1 rfl) ?_
  refine me_cVi (n := 1) C0 hml hP hS (c_X5_noDirectory l G B0 w3 o a F3 z3 hM T hT_3 d) ⟨kw_618, kw_35, kw_615, ⟨by decide, by decide, by decide +kernel⟩, ⟨rfl, rfl⟩, ⟨Nat.le_of_ble_eq_true rfl, Nat.le_of_ble_eq_true rfl⟩⟩ kw_617 kw_20 hM.1 rfl rfl hl.1 rfl (Nat.le_of_ble_eq_true rfl) ⟨Nat.le_of_ble_eq_true rfl, Nat.le_of_ble_eq_true rfl⟩ dX5_find_11 (fun r4 hr4 => ?_)
  rcases noD_r (T := T) d with hnnr4 | hnnr4
  · rw [hnnr4] at hr4
    subst hr4
    refine lv_if_eq (tgt := 22) C0.1 C0.2.1 dX5_find_14 (by decide) (fun cx => absurd cx (by decide)) (fun cx => ?_)
    refine lv_bipush (v := (-5)) C0.1 C0.2.1 dX5_find_17 (by decide) ?_
    refine lv_goto (tgt := 40) C0.1 C0.2.1 dX5_find_19 (by decide) ?_
    exact me_wiret _ C0.1 C0.2.1 B.returns B.notSynchronized hP hS (Nat.le_of_ble_eq_true rfl) (Nat.le_of_ble_eq_true rfl) (⟨_, _, hM, hMF, ((hsZ3 13 (by decide)).trans hz1_13), sF3, sZ3, hLt3, by unfold sFind; rw [if_pos hnnr4]⟩) dX5_find_40
  · rw [hnnr4] at hr4
    subst hr4
    obtain ⟨k, nd, hk, rfl, hTk, hdirk⟩ := noD_s (T := T) (v := d) (by rw [hnnr4]; decide)
    have hnk : ¬ noD T (nI k) = 1 := by rw [hnnr4]; decide
    have hNk := (hT_3.2 k nd hTk).2
    have hEk := hNk.2.2.2.2.2.2.1
    refine lv_if_eq (tgt := 22) C0.1 C0.2.1 dX5_find_14 (by decide) (fun cx => ?_) (fun cx => absurd cx (by decide))
    refine lv_aload_n C0.1 C0.2.1 dX5_find_22 rfl (lv_at hl 0 rfl) ?_
    refine me_cVwi (n := 0) C0 hml hP hS (c_X5_isName l G B0 w3 o a F3 z3 hM tp hLh3 ho) ⟨kw_626, kw_35, kw_623, ⟨by decide, by decide, by decide +kernel⟩, ⟨rfl, rfl⟩, ⟨Nat.le_of_ble_eq_true rfl, Nat.le_of_ble_eq_true rfl⟩⟩ kw_625 kw_22 hM.1 rfl rfl hl.1 rfl (Nat.le_of_ble_eq_true rfl) ⟨Nat.le_of_ble_eq_true rfl, Nat.le_of_ble_eq_true rfl⟩ dX5_find_23 (fun r7 w7 H locs hw7 hP hS => ?_)
    obtain ⟨F7, z7, hM, hMF7, hsF7, hsZ7, hres7⟩ := hw7
    have hMF := hMF.tr hMF7
    have sF7 := sF3.tr hsF7 (by decide)
    have sZ7 := sZ3.tr hsZ7 (by decide)
    have hH_7 := hLh3.sm hsF7 hsZ7 (by decide) (by decide)
    have hTe_7 := hLt3.sm hsF7 hsZ7 (by decide) (by decide)
    have hT_7 := hT_3.sm hsF7 (by decide)
    rcases hres7 with ⟨hok, rfl, hX⟩ | ⟨hno, rfl⟩
    · have hnm : nmI tp = 1 := nmI_1 hok
      refine lv_if_ne (tgt := 34) C0.1 C0.2.1 dX5_find_26 (by decide) (fun cx => ?_) (fun cx => absurd cx (by decide))
      refine lv_aload_n C0.1 C0.2.1 dX5_find_34 rfl (lv_at hl 0 rfl) ?_
      refine lv_iload_n C0.1 C0.2.1 dX5_find_35 rfl (lv_at hl 1 rfl) ?_
      refine lv_iconst (v := (-1)) C0.1 C0.2.1 dX5_find_36 (by decide) ?_
      refine me_cVi (n := 2) C0 hml hP hS (c_X5_entryLike l G B0 w7 o a F7 z7 hM T hT_7 k nd hk hTk (folds tp) hX nd.2.2.2.2 rfl (hI.ent k nd hTk) (-1)) ⟨kw_630, kw_35, kw_627, ⟨by decide, by decide, by decide +kernel⟩, ⟨rfl, rfl⟩, ⟨Nat.le_of_ble_eq_true rfl, Nat.le_of_ble_eq_true rfl⟩⟩ kw_629 kw_23 hM.1 rfl rfl hl.1 rfl (Nat.le_of_ble_eq_true rfl) ⟨Nat.le_of_ble_eq_true rfl, Nat.le_of_ble_eq_true rfl⟩ dX5_find_37 (fun r9 hr9 => ?_)
      exact me_wiret _ C0.1 C0.2.1 B.returns B.notSynchronized hP hS (Nat.le_of_ble_eq_true rfl) (Nat.le_of_ble_eq_true rfl) (⟨_, _, hM, hMF, ((hsZ7 13 (by decide)).trans ((hsZ3 13 (by decide)).trans hz1_13)), sF7, sZ7, hTe_7, by unfold sFind; rw [if_neg hnk, if_neg (by rw [hnm]; decide), entsOf_n hk hTk]; exact hr9⟩) dX5_find_40
    · have hnm : nmI tp = 0 := nmI_0 hno
      refine lv_if_ne (tgt := 34) C0.1 C0.2.1 dX5_find_26 (by decide) (fun cx => absurd cx (by decide)) (fun cx => ?_)
      refine lv_bipush (v := (-2)) C0.1 C0.2.1 dX5_find_29 (by decide) ?_
      refine lv_goto (tgt := 40) C0.1 C0.2.1 dX5_find_31 (by decide) ?_
      exact me_wiret _ C0.1 C0.2.1 B.returns B.notSynchronized hP hS (Nat.le_of_ble_eq_true rfl) (Nat.le_of_ble_eq_true rfl) (⟨_, _, hM, hMF, ((hsZ7 13 (by decide)).trans ((hsZ3 13 (by decide)).trans hz1_13)), sF7, sZ7, hTe_7, by unfold sFind; rw [if_neg hnk, if_pos hnm]⟩) dX5_find_40
