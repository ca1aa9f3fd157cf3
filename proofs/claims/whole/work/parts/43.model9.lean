set_option maxHeartbeats 4000000 in
set_option maxRecDepth 100000 in
/-- remove(v) -/
theorem c_X5_remove (l : Launch) (G : me_G) (B0 : Nat) (w : Me) (o : Nat) (a : Nat → Nat) (F : Nat → Nat → Int32) (z : Nat → Int32) (hM : MD G B0 w o a F z) (T : Tre) (hT : RT F T) (hI : TI T) (v : Int32) : CtWI l yX5_remove (Cond.code yX5_remove cX5_remove 2 (some .int)) ({ frames := 1, cells := 0, slots := 0, locals := 24 }) G B0 w [.ref o, .int v] (fun r w' => ∃ (F' : Nat → Nat → Int32) (z' : Nat → Int32), MD G B0 w' o a F' z' ∧ MF w w' o a ∧ z' 13 = 0 ∧ SameF F F' [2, 9, 10] ∧ SameZ z z' [13] ∧ r = sRemR T v ∧ RT F' (sRemT T v)) 0 0 := by
  refine Met.ofW (cc := cX5_remove) (maxL := 2) (ret := (some .int)) (by decide) rfl ?_
  intro p e s m args below meth c s₁ B hml hv
  obtain ⟨rfl, hK, hP, hKq, hBs⟩ := hv
  have hts := fun w h => atoms_spec (ws := Cond.code yX5_remove cX5_remove 2 (some .int) :: tbG) B.pre w (List.mem_cons_of_mem _ h)
  have hown : s.vm.findClass RX5 = some m.cls := findClass_of_methodNamed B.named
  have C0 : Cx G B0 p s m _ c cX5_remove RX5 := ⟨B.exec, B.bytes, hown, hts, hK, hKq, hBs⟩
  have hS : va_S (me_A B0) s.heap s.heap [] := va_S.rf
  have hl := lv_entry ([.ref o, .int v]) (n := 2) (Nat.le_of_ble_eq_true rfl)
  rw [lg_entry_eq]
  generalize (lg_sl ([.ref o, .int v]) ++ List.replicate (2 - (lg_sl ([.ref o, .int v])).length) Slot.unset).toArray = ls at hl ⊢
  have hl : lv_has ls 2 [(0, .ref o), (1, .int v)] := hl
  have hMF : MF w w o a := MF.rf
  refine lv_aload_n C0.1 C0.2.1 dX5_remove_0 rfl (lv_at hl 0 rfl) ?_
  refine lv_iconst (v := 0) C0.1 C0.2.1 dX5_remove_1 (by decide) ?_
  refine md_put C0 hP hS hM hMF 13 (by decide) kw_490 rfl rfl rfl dX5_remove_2 (fun w1 z1 H locs hz1 hM hMF hP hS => ?_)
  have hz1_13 : z1 13 = 0 := by rw [hz1, upd_eq]
  have lF2 : SameF F F [] := SameF.rf
  have lZ2 : SameZ z z1 [13] := (SameZ.rf.wr hz1 (by decide))
  have sF2 := (SameF.rf : SameF F F [2, 9, 10]).tr lF2 (by decide)
  have sZ2 := (SameZ.rf : SameZ z z [13]).tr lZ2 (by decide)
  have hT_2 := hT.sm lF2 (by decide)
  refine lv_iload_n C0.1 C0.2.1 dX5_remove_5 rfl (lv_at hl 1 rfl) ?_
  refine lv_if_eq (tgt := 17) C0.1 C0.2.1 dX5_remove_6 (by decide) (fun c3 => ?_) (fun c3 => ?_)
  · refine lv_bipush (v := (-5)) C0.1 C0.2.1 dX5_remove_17 (by decide) ?_
    exact me_wiret _ C0.1 C0.2.1 B.returns B.notSynchronized hP hS (Nat.le_of_ble_eq_true rfl) (Nat.le_of_ble_eq_true rfl) (have hR : sRemR T v = (-5) := (by unfold sRemR; rw [if_pos c3]); ⟨_, _, hM, hMF, hz1_13, sF2, sZ2, hR.symm, by rw [sRemT_f hR (by decide)]; exact hT_2⟩) dX5_remove_19
  · refine lv_aload_n C0.1 C0.2.1 dX5_remove_9 rfl (lv_at hl 0 rfl) ?_
    refine lv_iload_n C0.1 C0.2.1 dX5_remove_10 rfl (lv_at hl 1 rfl) ?_
    refine me_cVi (n := 1) C0 hml hP hS (c_X5_noNode l G B0 w1 o a F z1 hM T hT_2 v) ⟨kw_622, kw_35, kw_619, ⟨by decide, by decide, by decide +kernel⟩, ⟨rfl, rfl⟩, ⟨Nat.le_of_ble_eq_true rfl, Nat.le_of_ble_eq_true rfl⟩⟩ kw_621 kw_21 hM.1 rfl rfl hl.1 rfl (Nat.le_of_ble_eq_true rfl) ⟨Nat.le_of_ble_eq_true rfl, Nat.le_of_ble_eq_true rfl⟩ dX5_remove_11 (fun r4 hr4 => ?_)
    rcases noN_r (T := T) v with hnnr4 | hnnr4
    · rw [hnnr4] at hr4
      subst hr4
      refine lv_if_eq (tgt := 20) C0.1 C0.2.1 dX5_remove_14 (by decide) (fun cx => absurd cx (by decide)) (fun cx => ?_)
      refine lv_bipush (v := (-5)) C0.1 C0.2.1 dX5_remove_17 (by decide) ?_
      exact me_wiret _ C0.1 C0.2.1 B.returns B.notSynchronized hP hS (Nat.le_of_ble_eq_true rfl) (Nat.le_of_ble_eq_true rfl) (have hR : sRemR T v = (-5) := (by unfold sRemR; rw [if_neg c3, if_pos hnnr4]); ⟨_, _, hM, hMF, hz1_13, sF2, sZ2, hR.symm, by rw [sRemT_f hR (by decide)]; exact hT_2⟩) dX5_remove_19
    · rw [hnnr4] at hr4
      subst hr4
      obtain ⟨k, nd, hk, rfl, hTk⟩ := noN_s (T := T) (v := v) (by rw [hnnr4]; decide)
      have hnk : ¬ noN T (nI k) = 1 := by rw [hnnr4]; decide
      have hNk := (hT_2.2 k nd hTk).2
      have hEk := hNk.2.2.2.2.2.2.1
      refine lv_if_eq (tgt := 20) C0.1 C0.2.1 dX5_remove_14 (by decide) (fun cx => ?_) (fun cx => absurd cx (by decide))
      refine lv_aload_n C0.1 C0.2.1 dX5_remove_20 rfl (lv_at hl 0 rfl) ?_
      refine md_get C0 hP hM 10 (by decide) kw_487 (v := .ref ((a 10))) rfl dX5_remove_21 ?_
      refine lv_iload_n C0.1 C0.2.1 dX5_remove_24 rfl (lv_at hl 1 rfl) ?_
      refine md_iald C0 hP hM 10 (by decide) (i := k) (by show k < 200; omega) dX5_remove_25 ?_
      refine me_topi (y := nI nd.2.2.2.2.length) (hT_2.2 k nd hTk).2.2.2.2.2.2.1 ?_
      refine lv_if_le (tgt := 32) C0.1 C0.2.1 dX5_remove_26 (by decide) (fun c7 => ?_) (fun c7 => ?_)
      · have d7 : nd.2.2.2.2.length ≤ 0 := (nI_leI (a := nd.2.2.2.2.length) (b := 0) (by omega) (by omega)).mp c7
        refine lv_aload_n C0.1 C0.2.1 dX5_remove_32 rfl (lv_at hl 0 rfl) ?_
        refine lv_iload_n C0.1 C0.2.1 dX5_remove_33 rfl (lv_at hl 1 rfl) ?_
        obtain ⟨⟨hvn, hvo, hvf⟩, pp, pm, pp1, pp2, pp3, pp4⟩ := hI.2.2.1 k nd hTk (nI_n0 hk c3)
        obtain ⟨tt, tt1, tt2, tt3⟩ := mem_idx pp4
        have pnd := (hI.2.1 pp pm pp3).2.2.1
        refine me_cVwv (n := 1) C0 hml hP hS (c_X5_detach l G B0 w1 o a F z1 hM T hT_2 k pp tt nd pm pm.2.2.2.2 hTk pp2 pp3 rfl tt1 tt2 tt3) ⟨kw_662, kw_35, kw_659, ⟨by decide, by decide, by decide +kernel⟩, ⟨rfl, rfl⟩, ⟨Nat.le_of_ble_eq_true rfl, Nat.le_of_ble_eq_true rfl⟩⟩ kw_661 kw_28 hM.1 rfl rfl hl.1 rfl (Nat.le_of_ble_eq_true rfl) ⟨Nat.le_of_ble_eq_true rfl, Nat.le_of_ble_eq_true rfl⟩ dX5_remove_34 (fun w8 H locs hw8 hP hS => ?_)
        obtain ⟨F8, z8, hM, hMF8, hzz8, hsF8, h108, h9a8, h9b8⟩ := hw8
        have hMF := hMF.tr hMF8
        have sF8 := sF2.tr hsF8 (by decide)
        have sZ8 := sZ2.tr ((fun q _ => congrFun hzz8 q) : SameZ _ _ []) (by decide)
        have hTD := hT_2.det pp3 rfl pnd tt1 tt2 hsF8 h108 h9a8 h9b8
        have hdT : detT T k = opT T pp (rE (nI k)) := by unfold detT; rw [parN_s hTk pp2 pp1]
        rw [← hdT] at hTD
        refine lv_aload_n C0.1 C0.2.1 dX5_remove_37 rfl (lv_at hl 0 rfl) ?_
        refine md_get C0 hP hM 2 (by decide) kw_479 (v := .ref ((a 2))) rfl dX5_remove_38 ?_
        refine lv_iload_n C0.1 C0.2.1 dX5_remove_41 rfl (lv_at hl 1 rfl) ?_
        refine lv_iconst (v := 0) C0.1 C0.2.1 dX5_remove_42 (by decide) ?_
        refine md_zast C0 hP hS hM hMF 2 (by decide) (i := k) (by show k < 200; omega) narrow_b0 dX5_remove_43 (fun w9 F9 H locs hF9 hM hMF hP hS => ?_)
        refine lv_aload_n C0.1 C0.2.1 dX5_remove_44 rfl (lv_at hl 0 rfl) ?_
        refine md_get C0 hP hM 4 (by decide) kw_481 (v := .ref ((a 4))) rfl dX5_remove_45 ?_
        refine lv_iload_n C0.1 C0.2.1 dX5_remove_48 rfl (lv_at hl 1 rfl) ?_
        refine md_iald C0 hP hM 4 (by decide) (i := k) (by show k < 200; omega) dX5_remove_49 ?_
        refine me_topi (y := nI pp) (by rw [hF9, uF_n (by decide), hsF8 4 (by decide)]; exact hNk.2.2.1.trans pp2) ?_
        exact me_wiret _ C0.1 C0.2.1 B.returns B.notSynchronized hP hS (Nat.le_of_ble_eq_true rfl) (Nat.le_of_ble_eq_true rfl) (have hR : sRemR T (nI k) = nI pp := (by unfold sRemR; rw [if_neg c3, if_neg hnk, entsOf_n hk hTk, if_neg (by omega), parOf_n hk hTk]; exact pp2); ⟨_, _, hM, hMF, ((((fun q _ => congrFun hzz8 q) : SameZ _ _ []) 13 (by decide)).trans hz1_13), sF8.wr hF9 (by decide), sZ8, hR.symm, by rw [sRemT_s hR hk pp1]; exact hTD.del hk hF9⟩) dX5_remove_50
      · have d7 : 0 < nd.2.2.2.2.length := Nat.not_le.mp (fun h => c7 (nI_le (a := nd.2.2.2.2.length) (b := 0) h (by omega)))
        refine lv_bipush (v := (-6)) C0.1 C0.2.1 dX5_remove_29 (by decide) ?_
        exact me_wiret _ C0.1 C0.2.1 B.returns B.notSynchronized hP hS (Nat.le_of_ble_eq_true rfl) (Nat.le_of_ble_eq_true rfl) (have hR : sRemR T (nI k) = (-6) := (by unfold sRemR; rw [if_neg c3, if_neg hnk, entsOf_n hk hTk, if_pos (by omega)]); ⟨_, _, hM, hMF, hz1_13, sF2, sZ2, hR.symm, by rw [sRemT_f hR (by decide)]; exact hT_2⟩) dX5_remove_31

set_option maxHeartbeats 4000000 in
set_option maxRecDepth 100000 in
/-- put(d, directory) -/
theorem c_X5_put (l : Launch) (G : me_G) (B0 : Nat) (w : Me) (o : Nat) (a : Nat → Nat) (F : Nat → Nat → Int32) (z : Nat → Int32) (hM : MD G B0 w o a F z) (T : Tre) (hT : RT F T) (hI : TI T) (tp : List Int32) (hTp : Ls F z 0 1 200 tp) (ho : Oct tp) (d dr : Int32) (hnb : narrow .boolean (.int dr) = .int dr) : CtWI l yX5_put (Cond.code yX5_put cX5_put 4 (some .int)) ({ frames := 4, cells := 0, slots := 0, locals := 90 }) G B0 w [.ref o, .int d, .int dr] (fun r w' => ∃ (F' : Nat → Nat → Int32) (z' : Nat → Int32), MD G B0 w' o a F' z' ∧ MF w w' o a ∧ z' 13 = 0 ∧ SameF F F' [2, 3, 4, 5, 6, 7, 8, 9, 10, 14, 16, 18] ∧ SameZ z z' [1, 13, 15, 17, 19] ∧ Ls F' z' 0 1 200 [] ∧ r = sPutR T tp d ∧ RT F' (sPutT T tp d dr)) 0 0 := by
  refine Met.ofW (cc := cX5_put) (maxL := 4) (ret := (some .int)) (by decide) rfl ?_
  intro p e s m args below meth c s₁ B hml hv
  obtain ⟨rfl, hK, hP, hKq, hBs⟩ := hv
  have hts := fun w h => atoms_spec (ws := Cond.code yX5_put cX5_put 4 (some .int) :: tbG) B.pre w (List.mem_cons_of_mem _ h)
  have hown : s.vm.findClass RX5 = some m.cls := findClass_of_methodNamed B.named
  have C0 : Cx G B0 p s m _ c cX5_put RX5 := ⟨B.exec, B.bytes, hown, hts, hK, hKq, hBs⟩
  have hS : va_S (me_A B0) s.heap s.heap [] := va_S.rf
  have hl := lv_entry ([.ref o, .int d, .int dr]) (n := 4) (Nat.le_of_ble_eq_true rfl)
  rw [lg_entry_eq]
  generalize (lg_sl ([.ref o, .int d, .int dr]) ++ List.replicate (4 - (lg_sl ([.ref o, .int d, .int dr])).length) Slot.unset).toArray = ls at hl ⊢
  have hl : lv_has ls 4 [(0, .ref o), (1, .int d), (2, .int dr)] := hl
  have hMF : MF w w o a := MF.rf
  refine lv_aload_n C0.1 C0.2.1 dX5_put_0 rfl (lv_at hl 0 rfl) ?_
  refine lv_iconst (v := 0) C0.1 C0.2.1 dX5_put_1 (by decide) ?_
  refine md_put C0 hP hS hM hMF 13 (by decide) kw_490 rfl rfl rfl dX5_put_2 (fun w1 z1 H locs hz1 hM hMF hP hS => ?_)
  have hz1_13 : z1 13 = 0 := by rw [hz1, upd_eq]
  refine lv_aload_n C0.1 C0.2.1 dX5_put_5 rfl (lv_at hl 0 rfl) ?_
  have lF2 : SameF F F [] := SameF.rf
  have lZ2 : SameZ z z1 [13] := (SameZ.rf.wr hz1 (by decide))
  have sF2 := (SameF.rf : SameF F F [2, 3, 4, 5, 6, 7, 8, 9, 10, 14, 16, 18]).tr lF2 (by decide)
  have sZ2 := (SameZ.rf : SameZ z z [1, 13, 15, 17, 19]).tr lZ2 (by decide)
  have hTp_2 := hTp.sm lF2 lZ2 (by decide) (by decide)
  have hT_2 := hT.sm lF2 (by decide)
  refine me_cVwv (n := 0) C0 hml hP hS (c_X5_takeTape l G B0 w1 o a F z1 hM tp hTp_2) ⟨kw_558, kw_35, kw_555, ⟨by decide, by decide, by decide +kernel⟩, ⟨rfl, rfl⟩, ⟨Nat.le_of_ble_eq_true rfl, Nat.le_of_ble_eq_true rfl⟩⟩ kw_557 kw_16 hM.1 rfl rfl hl.1 rfl (Nat.le_of_ble_eq_true rfl) ⟨Nat.le_of_ble_eq_true rfl, Nat.le_of_ble_eq_true rfl⟩ dX5_put_6 (fun w3 H locs hw3 hP hS => ?_)
  obtain ⟨F3, z3, hM, hMF3, hsF3, hsZ3, hLh3, hLt3⟩ := hw3
  have hMF := hMF.tr hMF3
  have sF3 := sF2.tr hsF3 (by decide)
  have sZ3 := sZ2.tr hsZ3 (by decide)
  have hT_3 := hT_2.sm hsF3 (by decide)
  refine lv_aload_n C0.1 C0.2.1 dX5_put_9 rfl (lv_at hl 0 rfl) ?_
  refine lv_iload_n C0.1 C0.2.1 dX5_put_10 rfl (lv_at hl 1 rfl) ?_
  refine me_cVi (n := 1) C0 hml hP hS (c_X5_noDirectory l G B0 w3 o a F3 z3 hM T hT_3 d) ⟨kw_618, kw_35, kw_615, ⟨by decide, by decide, by decide +kernel⟩, ⟨rfl, rfl⟩, ⟨Nat.le_of_ble_eq_true rfl, Nat.le_of_ble_eq_true rfl⟩⟩ kw_617 kw_20 hM.1 rfl rfl hl.1 rfl (Nat.le_of_ble_eq_true rfl) ⟨Nat.le_of_ble_eq_true rfl, Nat.le_of_ble_eq_true rfl⟩ dX5_put_11 (fun r4 hr4 => ?_)
  rcases noD_r (T := T) d with hnnr4 | hnnr4
  · rw [hnnr4] at hr4
    subst hr4
    refine lv_if_eq (tgt := 20) C0.1 C0.2.1 dX5_put_14 (by decide) (fun cx => absurd cx (by decide)) (fun cx => ?_)
    refine lv_bipush (v := (-5)) C0.1 C0.2.1 dX5_put_17 (by decide) ?_
    exact me_wiret _ C0.1 C0.2.1 B.returns B.notSynchronized hP hS (Nat.le_of_ble_eq_true rfl) (Nat.le_of_ble_eq_true rfl) (have hR : sPutR T tp d = (-5) := (by unfold sPutR; rw [if_pos hnnr4]); ⟨_, _, hM, hMF, ((hsZ3 13 (by decide)).trans hz1_13), sF3, sZ3, hLt3, hR.symm, by rw [sPutT_f hR (by decide)]; exact hT_3⟩) dX5_put_19
  · rw [hnnr4] at hr4
    subst hr4
    obtain ⟨k, nd, hk, rfl, hTk, hdirk⟩ := noD_s (T := T) (v := d) (by rw [hnnr4]; decide)
    have hnk : ¬ noD T (nI k) = 1 := by rw [hnnr4]; decide
    have hNk := (hT_3.2 k nd hTk).2
    have hEk := hNk.2.2.2.2.2.2.1
    refine lv_if_eq (tgt := 20) C0.1 C0.2.1 dX5_put_14 (by decide) (fun cx => ?_) (fun cx => absurd cx (by decide))
    refine lv_aload_n C0.1 C0.2.1 dX5_put_20 rfl (lv_at hl 0 rfl) ?_
    refine me_cVwi (n := 0) C0 hml hP hS (c_X5_isName l G B0 w3 o a F3 z3 hM tp hLh3 ho) ⟨kw_626, kw_35, kw_623, ⟨by decide, by decide, by decide +kernel⟩, ⟨rfl, rfl⟩, ⟨Nat.le_of_ble_eq_true rfl, Nat.le_of_ble_eq_true rfl⟩⟩ kw_625 kw_22 hM.1 rfl rfl hl.1 rfl (Nat.le_of_ble_eq_true rfl) ⟨Nat.le_of_ble_eq_true rfl, Nat.le_of_ble_eq_true rfl⟩ dX5_put_21 (fun r7 w7 H locs hw7 hP hS => ?_)
    obtain ⟨F7, z7, hM, hMF7, hsF7, hsZ7, hres7⟩ := hw7
    have hMF := hMF.tr hMF7
    have sF7 := sF3.tr hsF7 (by decide)
    have sZ7 := sZ3.tr hsZ7 (by decide)
    have hH_7 := hLh3.sm hsF7 hsZ7 (by decide) (by decide)
    have hTe_7 := hLt3.sm hsF7 hsZ7 (by decide) (by decide)
    have hT_7 := hT_3.sm hsF7 (by decide)
    rcases hres7 with ⟨hok, rfl, hX⟩ | ⟨hno, rfl⟩
    · have hnm : nmI tp = 1 := nmI_1 hok
      refine lv_if_ne (tgt := 30) C0.1 C0.2.1 dX5_put_24 (by decide) (fun cx => ?_) (fun cx => absurd cx (by decide))
      refine lv_aload_n C0.1 C0.2.1 dX5_put_30 rfl (lv_at hl 0 rfl) ?_
      refine lv_iload_n C0.1 C0.2.1 dX5_put_31 rfl (lv_at hl 1 rfl) ?_
      refine lv_iconst (v := (-1)) C0.1 C0.2.1 dX5_put_32 (by decide) ?_
      refine me_cVi (n := 2) C0 hml hP hS (c_X5_entryLike l G B0 w7 o a F7 z7 hM T hT_7 k nd hk hTk (folds tp) hX nd.2.2.2.2 rfl (hI.ent k nd hTk) (-1)) ⟨kw_630, kw_35, kw_627, ⟨by decide, by decide, by decide +kernel⟩, ⟨rfl, rfl⟩, ⟨Nat.le_of_ble_eq_true rfl, Nat.le_of_ble_eq_true rfl⟩⟩ kw_629 kw_23 hM.1 rfl rfl hl.1 rfl (Nat.le_of_ble_eq_true rfl) ⟨Nat.le_of_ble_eq_true rfl, Nat.le_of_ble_eq_true rfl⟩ dX5_put_33 (fun r9 hr9 => ?_)
      refine lv_if_lt (tgt := 42) C0.1 C0.2.1 dX5_put_36 (by decide) (fun c10 => ?_) (fun c10 => ?_)
      · refine lv_aload_n C0.1 C0.2.1 dX5_put_42 rfl (lv_at hl 0 rfl) ?_
        refine me_cVi (n := 0) C0 hml hP hS (c_X5_freeNode l G B0 w7 o a F7 z7 hM T hT_7) ⟨kw_634, kw_35, kw_631, ⟨by decide, by decide, by decide +kernel⟩, ⟨rfl, rfl⟩, ⟨Nat.le_of_ble_eq_true rfl, Nat.le_of_ble_eq_true rfl⟩⟩ kw_633 kw_24 hM.1 rfl rfl hl.1 rfl (Nat.le_of_ble_eq_true rfl) ⟨Nat.le_of_ble_eq_true rfl, Nat.le_of_ble_eq_true rfl⟩ dX5_put_43 (fun r11 hr11 => ?_)
        refine lv_istore_n (lv' := [(3, .int r11), (0, .ref o), (1, .int (nI k)), (2, .int dr)]) C0.1 C0.2.1 dX5_put_46 rfl hl (by decide) rfl (fun ls hl => ?_)
        refine lv_iload_n C0.1 C0.2.1 dX5_put_47 rfl (lv_at hl 0 rfl) ?_
        refine lv_if_lt (tgt := 62) C0.1 C0.2.1 dX5_put_48 (by decide) (fun c12 => ?_) (fun c12 => ?_)
        · refine lv_bipush (v := (-4)) C0.1 C0.2.1 dX5_put_62 (by decide) ?_
          exact me_wiret _ C0.1 C0.2.1 B.returns B.notSynchronized hP hS (Nat.le_of_ble_eq_true rfl) (Nat.le_of_ble_eq_true rfl) (have hR : sPutR T tp (nI k) = (-4) := (by unfold sPutR; rw [if_neg hnk, if_neg (by rw [hnm]; decide), entsOf_n hk hTk, ← hr9, if_neg (fun q => q c10), ← hr11, if_pos c12]); ⟨_, _, hM, hMF, ((hsZ7 13 (by decide)).trans ((hsZ3 13 (by decide)).trans hz1_13)), sF7, sZ7, hTe_7, hR.symm, by rw [sPutT_f hR (by decide)]; exact hT_7⟩) dX5_put_64
        · obtain ⟨u, hu, hfu, hTu⟩ := frF_k hr11 c12
          subst hfu
          refine lv_aload_n C0.1 C0.2.1 dX5_put_51 rfl (lv_at hl 1 rfl) ?_
          refine md_get C0 hP hM 10 (by decide) kw_487 (v := .ref ((a 10))) rfl dX5_put_52 ?_
          refine lv_iload_n C0.1 C0.2.1 dX5_put_55 rfl (lv_at hl 2 rfl) ?_
          refine md_iald C0 hP hM 10 (by decide) (i := k) (by show k < 200; omega) dX5_put_56 ?_
          refine me_topi (y := nI nd.2.2.2.2.length) (hT_7.2 k nd hTk).2.2.2.2.2.2.1 ?_
          refine lv_bipush (v := 40) C0.1 C0.2.1 dX5_put_57 (by decide) ?_
          refine lv_icmp_ne (tgt := 65) C0.1 C0.2.1 dX5_put_59 (by decide) (fun c13 => ?_) (fun c13 => ?_)
          · have d13 : nd.2.2.2.2.length ≠ 40 := fun h => c13 (congrArg nI h)
            have hX60 := nmOK_fl hok
            have hku : u ≠ k := fun q => by rw [q, hTk] at hTu; cases hTu
            refine lv_aload_n C0.1 C0.2.1 dX5_put_65 rfl (lv_at hl 1 rfl) ?_
            refine md_get C0 hP hM 2 (by decide) kw_479 (v := .ref ((a 2))) rfl dX5_put_66 ?_
            refine lv_iload_n C0.1 C0.2.1 dX5_put_69 rfl (lv_at hl 0 rfl) ?_
            refine lv_iconst (v := 1) C0.1 C0.2.1 dX5_put_70 (by decide) ?_
            refine md_zast C0 hP hS hM hMF 2 (by decide) (i := u) (by show u < 200; omega) narrow_b1 dX5_put_71 (fun w14 F14 H locs hF14 hM hMF hP hS => ?_)
            refine lv_aload_n C0.1 C0.2.1 dX5_put_72 rfl (lv_at hl 1 rfl) ?_
            refine md_get C0 hP hM 3 (by decide) kw_480 (v := .ref ((a 3))) rfl dX5_put_73 ?_
            refine lv_iload_n C0.1 C0.2.1 dX5_put_76 rfl (lv_at hl 0 rfl) ?_
            refine lv_iload_n C0.1 C0.2.1 dX5_put_77 rfl (lv_at hl 3 rfl) ?_
            refine md_zast C0 hP hS hM hMF 3 (by decide) (i := u) (by show u < 200; omega) hnb dX5_put_78 (fun w15 F15 H locs hF15 hM hMF hP hS => ?_)
            refine lv_aload_n C0.1 C0.2.1 dX5_put_79 rfl (lv_at hl 1 rfl) ?_
            refine md_get C0 hP hM 10 (by decide) kw_487 (v := .ref ((a 10))) rfl dX5_put_80 ?_
            refine lv_iload_n C0.1 C0.2.1 dX5_put_83 rfl (lv_at hl 0 rfl) ?_
            refine lv_iconst (v := 0) C0.1 C0.2.1 dX5_put_84 (by decide) ?_
            refine md_iast C0 hP hS hM hMF 10 (by decide) (i := u) (by show u < 200; omega) dX5_put_85 (fun w16 F16 H locs hF16 hM hMF hP hS => ?_)
            refine lv_aload_n C0.1 C0.2.1 dX5_put_86 rfl (lv_at hl 1 rfl) ?_
            refine lv_iload_n C0.1 C0.2.1 dX5_put_87 rfl (lv_at hl 0 rfl) ?_
            have lF17 : SameF F7 F16 [2, 3, 10] := (((SameF.rf.wr hF14 (by decide)).wr hF15 (by decide)).wr hF16 (by decide))
            have lZ17 : SameZ z7 z7 [] := SameZ.rf
            have sF17 := sF7.tr lF17 (by decide)
            have sZ17 := sZ7.tr lZ17 (by decide)
            have hH_17 := hH_7.sm lF17 lZ17 (by decide) (by decide)
            have hTe_17 := hTe_7.sm lF17 lZ17 (by decide) (by decide)
            have hX_17 := hX.sm lF17 lZ17 (by decide) (by decide)
            refine me_cVwv (n := 1) C0 hml hP hS (c_X5_setName l G B0 w16 o a F16 z7 hM u hu tp hH_17 hok.1.2 (folds tp) hX_17 hX60) ⟨kw_638, kw_35, kw_635, ⟨by decide, by decide, by decide +kernel⟩, ⟨rfl, rfl⟩, ⟨Nat.le_of_ble_eq_true rfl, Nat.le_of_ble_eq_true rfl⟩⟩ kw_637 kw_25 hM.1 rfl rfl hl.1 rfl (Nat.le_of_ble_eq_true rfl) ⟨Nat.le_of_ble_eq_true rfl, Nat.le_of_ble_eq_true rfl⟩ dX5_put_88 (fun w18 H locs hw18 hP hS => ?_)
            obtain ⟨F18, z18, hM, hMF18, hzz18, hsF18, h618, h818, h5a18, h5b18, h7a18, h7b18⟩ := hw18
            have hMF := hMF.tr hMF18
            have sF18 := sF17.tr hsF18 (by decide)
            have sZ18 := sZ17.tr ((fun q _ => congrFun hzz18 q) : SameZ _ _ []) (by decide)
            have hH_18 := hH_17.sm hsF18 ((fun q _ => congrFun hzz18 q) : SameZ _ _ []) (by decide) (by decide)
            have hTe_18 := hTe_17.sm hsF18 ((fun q _ => congrFun hzz18 q) : SameZ _ _ []) (by decide) (by decide)
            have hX_18 := hX_17.sm hsF18 ((fun q _ => congrFun hzz18 q) : SameZ _ _ []) (by decide) (by decide)
            have hTN := hT_7.new (F' := F18) (dr := dr) hu hok.1.2 rfl hX60 (by rw [hsF18 2 (by decide), hF16, uF_n (by decide), hF15, uF_n (by decide), hF14, uF_s]) (by rw [hsF18 3 (by decide), hF16, uF_n (by decide), hF15, uF_s, hF14, uF_n (by decide)]) (by rw [hsF18 4 (by decide), hF16, uF_n (by decide), hF15, uF_n (by decide), hF14, uF_n (by decide)]) (by rw [hsF18 10 (by decide), hF16, uF_s, hF15, uF_n (by decide), hF14, uF_n (by decide)]) (by rw [hsF18 9 (by decide), hF16, uF_n (by decide), hF15, uF_n (by decide), hF14, uF_n (by decide)]) (by rw [h618, hF16, uF_n (by decide), hF15, uF_n (by decide), hF14, uF_n (by decide)]) (by rw [h818, hF16, uF_n (by decide), hF15, uF_n (by decide), hF14, uF_n (by decide)]) h5a18 (fun q hq => by rw [h5b18 q hq, hF16, uF_n (by decide), hF15, uF_n (by decide), hF14, uF_n (by decide)]) h7a18 (fun q hq => by rw [h7b18 q hq, hF16, uF_n (by decide), hF15, uF_n (by decide), hF14, uF_n (by decide)])
            refine lv_aload_n C0.1 C0.2.1 dX5_put_91 rfl (lv_at hl 1 rfl) ?_
            refine lv_iload_n C0.1 C0.2.1 dX5_put_92 rfl (lv_at hl 0 rfl) ?_
            refine lv_iload_n C0.1 C0.2.1 dX5_put_93 rfl (lv_at hl 2 rfl) ?_
            refine me_cVwv (n := 2) C0 hml hP hS (c_X5_append l G B0 w18 o a F18 z18 hM u k nd.2.2.2.2.length hu hk (by omega) (hTN.2 k nd ((setT_n (Ne.symm hku)).trans hTk)).2.2.2.2.2.2.1) ⟨kw_642, kw_35, kw_639, ⟨by decide, by decide, by decide +kernel⟩, ⟨rfl, rfl⟩, ⟨Nat.le_of_ble_eq_true rfl, Nat.le_of_ble_eq_true rfl⟩⟩ kw_641 kw_26 hM.1 rfl rfl hl.1 rfl (Nat.le_of_ble_eq_true rfl) ⟨Nat.le_of_ble_eq_true rfl, Nat.le_of_ble_eq_true rfl⟩ dX5_put_94 (fun w19 H locs hw19 hP hS => ?_)
            obtain ⟨F19, z19, hM, hMF19, hzz19, hsF19, h419, h919, h1019⟩ := hw19
            have hMF := hMF.tr hMF19
            have sF19 := sF18.tr hsF19 (by decide)
            have sZ19 := sZ18.tr ((fun q _ => congrFun hzz19 q) : SameZ _ _ []) (by decide)
            have hH_19 := hH_18.sm hsF19 ((fun q _ => congrFun hzz19 q) : SameZ _ _ []) (by decide) (by decide)
            have hTe_19 := hTe_18.sm hsF19 ((fun q _ => congrFun hzz19 q) : SameZ _ _ []) (by decide) (by decide)
            have hX_19 := hX_18.sm hsF19 ((fun q _ => congrFun hzz19 q) : SameZ _ _ []) (by decide) (by decide)
            have hTA := hTN.app setT_s ((setT_n (Ne.symm hku)).trans hTk) hku rfl (by omega) hsF19 h419 h919 h1019
            rw [putT_g] at hTA
            refine lv_iload_n C0.1 C0.2.1 dX5_put_97 rfl (lv_at hl 0 rfl) ?_
            exact me_wiret _ C0.1 C0.2.1 B.returns B.notSynchronized hP hS (Nat.le_of_ble_eq_true rfl) (Nat.le_of_ble_eq_true rfl) (have hR : sPutR T tp (nI k) = nI u := (by unfold sPutR; rw [if_neg hnk, if_neg (by rw [hnm]; decide), entsOf_n hk hTk, ← hr9, if_neg (fun q => q c10), ← hr11, if_neg (nI_pos (by omega)), if_neg (by omega)]; done); ⟨_, _, hM, hMF, ((((fun q _ => congrFun hzz19 q) : SameZ _ _ []) 13 (by decide)).trans ((((fun q _ => congrFun hzz18 q) : SameZ _ _ []) 13 (by decide)).trans ((lZ17 13 (by decide)).trans ((hsZ7 13 (by decide)).trans ((hsZ3 13 (by decide)).trans hz1_13))))), sF19, sZ19, hTe_19, hR.symm, by rw [sPutT_s hR hk hu]; exact hTA⟩) dX5_put_98
          · have d13 : nd.2.2.2.2.length = 40 := (nI_eq (a := nd.2.2.2.2.length) (b := 40) (by omega) (by omega)).mp c13
            refine lv_bipush (v := (-4)) C0.1 C0.2.1 dX5_put_62 (by decide) ?_
            exact me_wiret _ C0.1 C0.2.1 B.returns B.notSynchronized hP hS (Nat.le_of_ble_eq_true rfl) (Nat.le_of_ble_eq_true rfl) (have hR : sPutR T tp (nI k) = (-4) := (by unfold sPutR; rw [if_neg hnk, if_neg (by rw [hnm]; decide), entsOf_n hk hTk, ← hr9, if_neg (fun q => q c10), ← hr11, if_neg (nI_pos (by omega)), if_pos (by omega)]); ⟨_, _, hM, hMF, ((hsZ7 13 (by decide)).trans ((hsZ3 13 (by decide)).trans hz1_13)), sF7, sZ7, hTe_7, hR.symm, by rw [sPutT_f hR (by decide)]; exact hT_7⟩) dX5_put_64
      · refine lv_bipush (v := (-3)) C0.1 C0.2.1 dX5_put_39 (by decide) ?_
        exact me_wiret _ C0.1 C0.2.1 B.returns B.notSynchronized hP hS (Nat.le_of_ble_eq_true rfl) (Nat.le_of_ble_eq_true rfl) (have hR : sPutR T tp (nI k) = (-3) := (by unfold sPutR; rw [if_neg hnk, if_neg (by rw [hnm]; decide), entsOf_n hk hTk, ← hr9, if_pos c10]); ⟨_, _, hM, hMF, ((hsZ7 13 (by decide)).trans ((hsZ3 13 (by decide)).trans hz1_13)), sF7, sZ7, hTe_7, hR.symm, by rw [sPutT_f hR (by decide)]; exact hT_7⟩) dX5_put_41
    · have hnm : nmI tp = 0 := nmI_0 hno
      refine lv_if_ne (tgt := 30) C0.1 C0.2.1 dX5_put_24 (by decide) (fun cx => absurd cx (by decide)) (fun cx => ?_)
      refine lv_bipush (v := (-2)) C0.1 C0.2.1 dX5_put_27 (by decide) ?_
      exact me_wiret _ C0.1 C0.2.1 B.returns B.notSynchronized hP hS (Nat.le_of_ble_eq_true rfl) (Nat.le_of_ble_eq_true rfl) (have hR : sPutR T tp (nI k) = (-2) := (by unfold sPutR; rw [if_neg hnk, if_pos hnm]); ⟨_, _, hM, hMF, ((hsZ7 13 (by decide)).trans ((hsZ3 13 (by decide)).trans hz1_13)), sF7, sZ7, hTe_7, hR.symm, by rw [sPutT_f hR (by decide)]; exact hT_7⟩) dX5_put_29
