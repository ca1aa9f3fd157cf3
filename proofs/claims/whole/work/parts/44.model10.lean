set_option maxHeartbeats 4000000 in
set_option maxRecDepth 100000 in
/-- move(v, d) -/
theorem c_X5_move (l : Launch) (G : me_G) (B0 : Nat) (w : Me) (o : Nat) (a : Nat → Nat) (F : Nat → Nat → Int32) (z : Nat → Int32) (hM : MD G B0 w o a F z) (T : Tre) (hT : RT F T) (hI : TI T) (tp : List Int32) (hTp : Ls F z 0 1 200 tp) (ho : Oct tp) (v d : Int32) : CtWI l yX5_move (Cond.code yX5_move cX5_move 4 (some .int)) ({ frames := 4, cells := 0, slots := 0, locals := 90 }) G B0 w [.ref o, .int v, .int d] (fun r w' => ∃ (F' : Nat → Nat → Int32) (z' : Nat → Int32), MD G B0 w' o a F' z' ∧ MF w w' o a ∧ z' 13 = 0 ∧ SameF F F' [4, 5, 6, 7, 8, 9, 10, 14, 16, 18] ∧ SameZ z z' [1, 13, 15, 17, 19] ∧ Ls F' z' 0 1 200 [] ∧ r = sMovR T tp v d ∧ RT F' (sMovT T tp v d)) 0 0 := by
  refine Met.ofW (cc := cX5_move) (maxL := 4) (ret := (some .int)) (by decide) rfl ?_
  intro p e s m args below meth c s₁ B hml hv
  obtain ⟨rfl, hK, hP, hKq, hBs⟩ := hv
  have hts := fun w h => atoms_spec (ws := Cond.code yX5_move cX5_move 4 (some .int) :: tbG) B.pre w (List.mem_cons_of_mem _ h)
  have hown : s.vm.findClass RX5 = some m.cls := findClass_of_methodNamed B.named
  have C0 : Cx G B0 p s m _ c cX5_move RX5 := ⟨B.exec, B.bytes, hown, hts, hK, hKq, hBs⟩
  have hS : va_S (me_A B0) s.heap s.heap [] := va_S.rf
  have hl := lv_entry ([.ref o, .int v, .int d]) (n := 4) (Nat.le_of_ble_eq_true rfl)
  rw [lg_entry_eq]
  generalize (lg_sl ([.ref o, .int v, .int d]) ++ List.replicate (4 - (lg_sl ([.ref o, .int v, .int d])).length) Slot.unset).toArray = ls at hl ⊢
  have hl : lv_has ls 4 [(0, .ref o), (1, .int v), (2, .int d)] := hl
  have hMF : MF w w o a := MF.rf
  refine lv_aload_n C0.1 C0.2.1 dX5_move_0 rfl (lv_at hl 0 rfl) ?_
  refine lv_iconst (v := 0) C0.1 C0.2.1 dX5_move_1 (by decide) ?_
  refine md_put C0 hP hS hM hMF 13 (by decide) kw_490 rfl rfl rfl dX5_move_2 (fun w1 z1 H locs hz1 hM hMF hP hS => ?_)
  have hz1_13 : z1 13 = 0 := by rw [hz1, upd_eq]
  refine lv_aload_n C0.1 C0.2.1 dX5_move_5 rfl (lv_at hl 0 rfl) ?_
  have lF2 : SameF F F [] := SameF.rf
  have lZ2 : SameZ z z1 [13] := (SameZ.rf.wr hz1 (by decide))
  have sF2 := (SameF.rf : SameF F F [4, 5, 6, 7, 8, 9, 10, 14, 16, 18]).tr lF2 (by decide)
  have sZ2 := (SameZ.rf : SameZ z z [1, 13, 15, 17, 19]).tr lZ2 (by decide)
  have hTp_2 := hTp.sm lF2 lZ2 (by decide) (by decide)
  have hT_2 := hT.sm lF2 (by decide)
  refine me_cVwv (n := 0) C0 hml hP hS (c_X5_takeTape l G B0 w1 o a F z1 hM tp hTp_2) ⟨kw_558, kw_35, kw_555, ⟨by decide, by decide, by decide +kernel⟩, ⟨rfl, rfl⟩, ⟨Nat.le_of_ble_eq_true rfl, Nat.le_of_ble_eq_true rfl⟩⟩ kw_557 kw_16 hM.1 rfl rfl hl.1 rfl (Nat.le_of_ble_eq_true rfl) ⟨Nat.le_of_ble_eq_true rfl, Nat.le_of_ble_eq_true rfl⟩ dX5_move_6 (fun w3 H locs hw3 hP hS => ?_)
  obtain ⟨F3, z3, hM, hMF3, hsF3, hsZ3, hLh3, hLt3⟩ := hw3
  have hMF := hMF.tr hMF3
  have sF3 := sF2.tr hsF3 (by decide)
  have sZ3 := sZ2.tr hsZ3 (by decide)
  have hT_3 := hT_2.sm hsF3 (by decide)
  refine lv_iload_n C0.1 C0.2.1 dX5_move_9 rfl (lv_at hl 1 rfl) ?_
  refine lv_if_eq (tgt := 29) C0.1 C0.2.1 dX5_move_10 (by decide) (fun c4 => ?_) (fun c4 => ?_)
  · refine lv_bipush (v := (-5)) C0.1 C0.2.1 dX5_move_29 (by decide) ?_
    exact me_wiret _ C0.1 C0.2.1 B.returns B.notSynchronized hP hS (Nat.le_of_ble_eq_true rfl) (Nat.le_of_ble_eq_true rfl) (have hR : sMovR T tp v d = (-5) := (by unfold sMovR; rw [if_pos c4]); ⟨_, _, hM, hMF, ((hsZ3 13 (by decide)).trans hz1_13), sF3, sZ3, hLt3, hR.symm, by rw [sMovT_f hR (by decide)]; exact hT_3⟩) dX5_move_31
  · refine lv_aload_n C0.1 C0.2.1 dX5_move_13 rfl (lv_at hl 0 rfl) ?_
    refine lv_iload_n C0.1 C0.2.1 dX5_move_14 rfl (lv_at hl 1 rfl) ?_
    refine me_cVi (n := 1) C0 hml hP hS (c_X5_noNode l G B0 w3 o a F3 z3 hM T hT_3 v) ⟨kw_622, kw_35, kw_619, ⟨by decide, by decide, by decide +kernel⟩, ⟨rfl, rfl⟩, ⟨Nat.le_of_ble_eq_true rfl, Nat.le_of_ble_eq_true rfl⟩⟩ kw_621 kw_21 hM.1 rfl rfl hl.1 rfl (Nat.le_of_ble_eq_true rfl) ⟨Nat.le_of_ble_eq_true rfl, Nat.le_of_ble_eq_true rfl⟩ dX5_move_15 (fun r5 hr5 => ?_)
    rcases noN_r (T := T) v with hnnr5 | hnnr5
    · rw [hnnr5] at hr5
      subst hr5
      refine lv_if_ne (tgt := 29) C0.1 C0.2.1 dX5_move_18 (by decide) (fun cx => ?_) (fun cx => absurd cx (by decide))
      refine lv_bipush (v := (-5)) C0.1 C0.2.1 dX5_move_29 (by decide) ?_
      exact me_wiret _ C0.1 C0.2.1 B.returns B.notSynchronized hP hS (Nat.le_of_ble_eq_true rfl) (Nat.le_of_ble_eq_true rfl) (have hR : sMovR T tp v d = (-5) := (by unfold sMovR; rw [if_neg c4, if_pos hnnr5]); ⟨_, _, hM, hMF, ((hsZ3 13 (by decide)).trans hz1_13), sF3, sZ3, hLt3, hR.symm, by rw [sMovT_f hR (by decide)]; exact hT_3⟩) dX5_move_31
    · rw [hnnr5] at hr5
      subst hr5
      obtain ⟨k, nk, hk, rfl, hTk⟩ := noN_s (T := T) (v := v) (by rw [hnnr5]; decide)
      have hnk : ¬ noN T (nI k) = 1 := by rw [hnnr5]; decide
      have hNk := (hT_3.2 k nk hTk).2
      have hEk := hNk.2.2.2.2.2.2.1
      refine lv_if_ne (tgt := 29) C0.1 C0.2.1 dX5_move_18 (by decide) (fun cx => absurd cx (by decide)) (fun cx => ?_)
      refine lv_aload_n C0.1 C0.2.1 dX5_move_21 rfl (lv_at hl 0 rfl) ?_
      refine lv_iload_n C0.1 C0.2.1 dX5_move_22 rfl (lv_at hl 2 rfl) ?_
      refine me_cVi (n := 1) C0 hml hP hS (c_X5_noDirectory l G B0 w3 o a F3 z3 hM T hT_3 d) ⟨kw_618, kw_35, kw_615, ⟨by decide, by decide, by decide +kernel⟩, ⟨rfl, rfl⟩, ⟨Nat.le_of_ble_eq_true rfl, Nat.le_of_ble_eq_true rfl⟩⟩ kw_617 kw_20 hM.1 rfl rfl hl.1 rfl (Nat.le_of_ble_eq_true rfl) ⟨Nat.le_of_ble_eq_true rfl, Nat.le_of_ble_eq_true rfl⟩ dX5_move_23 (fun r8 hr8 => ?_)
      rcases noD_r (T := T) d with hnnr8 | hnnr8
      · rw [hnnr8] at hr8
        subst hr8
        refine lv_if_eq (tgt := 32) C0.1 C0.2.1 dX5_move_26 (by decide) (fun cx => absurd cx (by decide)) (fun cx => ?_)
        refine lv_bipush (v := (-5)) C0.1 C0.2.1 dX5_move_29 (by decide) ?_
        exact me_wiret _ C0.1 C0.2.1 B.returns B.notSynchronized hP hS (Nat.le_of_ble_eq_true rfl) (Nat.le_of_ble_eq_true rfl) (have hR : sMovR T tp (nI k) d = (-5) := (by unfold sMovR; rw [if_neg c4, if_neg hnk, if_pos hnnr8]); ⟨_, _, hM, hMF, ((hsZ3 13 (by decide)).trans hz1_13), sF3, sZ3, hLt3, hR.symm, by rw [sMovT_f hR (by decide)]; exact hT_3⟩) dX5_move_31
      · rw [hnnr8] at hr8
        subst hr8
        obtain ⟨u, nu, hu, rfl, hTu, hdiru⟩ := noD_s (T := T) (v := d) (by rw [hnnr8]; decide)
        have hnu : ¬ noD T (nI u) = 1 := by rw [hnnr8]; decide
        have hNu := (hT_3.2 u nu hTu).2
        have hEu := hNu.2.2.2.2.2.2.1
        refine lv_if_eq (tgt := 32) C0.1 C0.2.1 dX5_move_26 (by decide) (fun cx => ?_) (fun cx => absurd cx (by decide))
        have hk0 : k ≠ 0 := nI_n0 hk c4
        obtain ⟨⟨hvn, hvo, hvf⟩, pp, pm, pp1, pp2, pp3, pp4⟩ := hI.2.2.1 k nk hTk hk0
        have htl := hTp.2.1
        refine lv_aload_n C0.1 C0.2.1 dX5_move_32 rfl (lv_at hl 0 rfl) ?_
        refine md_get C0 hP hM 15 (by decide) kw_492 (v := .int (nI tp.length)) (by show some (Value.int (z3 15)) = _; rw [hLh3.1]) dX5_move_33 ?_
        refine lv_if_ne (tgt := 82) C0.1 C0.2.1 dX5_move_36 (by decide) (fun c11 => ?_) (fun c11 => ?_)
        · have d11 : tp.length ≠ 0 := fun h => c11 (congrArg nI h)
          have hmv : mvN T tp (nI k) = tp := by unfold mvN; rw [if_neg d11]
          refine lv_aload_n C0.1 C0.2.1 dX5_move_82 rfl (lv_at hl 0 rfl) ?_
          refine me_cVwi (n := 0) C0 hml hP hS (c_X5_isName l G B0 w3 o a F3 z3 hM tp hLh3 ho) ⟨kw_626, kw_35, kw_623, ⟨by decide, by decide, by decide +kernel⟩, ⟨rfl, rfl⟩, ⟨Nat.le_of_ble_eq_true rfl, Nat.le_of_ble_eq_true rfl⟩⟩ kw_625 kw_22 hM.1 rfl rfl hl.1 rfl (Nat.le_of_ble_eq_true rfl) ⟨Nat.le_of_ble_eq_true rfl, Nat.le_of_ble_eq_true rfl⟩ dX5_move_83 (fun r12 w12 H locs hw12 hP hS => ?_)
          obtain ⟨F12, z12, hM, hMF12, hsF12, hsZ12, hres12⟩ := hw12
          have hMF := hMF.tr hMF12
          have sF12 := sF3.tr hsF12 (by decide)
          have sZ12 := sZ3.tr hsZ12 (by decide)
          have hH_12 := hLh3.sm hsF12 hsZ12 (by decide) (by decide)
          have hTe_12 := hLt3.sm hsF12 hsZ12 (by decide) (by decide)
          have hT_12 := hT_3.sm hsF12 (by decide)
          rcases hres12 with ⟨hok, rfl, hX⟩ | ⟨hno, rfl⟩
          · have hnm : nmI tp = 1 := nmI_1 hok
            refine lv_if_ne (tgt := 92) C0.1 C0.2.1 dX5_move_86 (by decide) (fun cx => ?_) (fun cx => absurd cx (by decide))
            refine lv_aload_n C0.1 C0.2.1 dX5_move_92 rfl (lv_at hl 0 rfl) ?_
            refine lv_iload_n C0.1 C0.2.1 dX5_move_93 rfl (lv_at hl 2 rfl) ?_
            refine lv_iload_n C0.1 C0.2.1 dX5_move_94 rfl (lv_at hl 1 rfl) ?_
            refine me_cVi (n := 2) C0 hml hP hS (c_X5_entryLike l G B0 w12 o a F12 z12 hM T hT_12 u nu hu hTu (folds tp) hX nu.2.2.2.2 rfl (hI.ent u nu hTu) (nI k)) ⟨kw_630, kw_35, kw_627, ⟨by decide, by decide, by decide +kernel⟩, ⟨rfl, rfl⟩, ⟨Nat.le_of_ble_eq_true rfl, Nat.le_of_ble_eq_true rfl⟩⟩ kw_629 kw_23 hM.1 rfl rfl hl.1 rfl (Nat.le_of_ble_eq_true rfl) ⟨Nat.le_of_ble_eq_true rfl, Nat.le_of_ble_eq_true rfl⟩ dX5_move_95 (fun r14 hr14 => ?_)
            refine lv_if_lt (tgt := 104) C0.1 C0.2.1 dX5_move_98 (by decide) (fun c15 => ?_) (fun c15 => ?_)
            · refine lv_aload_n C0.1 C0.2.1 dX5_move_104 rfl (lv_at hl 0 rfl) ?_
              refine lv_iload_n C0.1 C0.2.1 dX5_move_105 rfl (lv_at hl 2 rfl) ?_
              refine lv_iload_n C0.1 C0.2.1 dX5_move_106 rfl (lv_at hl 1 rfl) ?_
              obtain ⟨dp, hdp, hd200⟩ := hI.dp
              refine me_cVi (n := 2) C0 hml hP hS (c_X5_isWithin l G B0 w12 o a F12 z12 hM T hT_12 dp hdp u k nu hu hk hTu) ⟨kw_658, kw_35, kw_655, ⟨by decide, by decide, by decide +kernel⟩, ⟨rfl, rfl⟩, ⟨Nat.le_of_ble_eq_true rfl, Nat.le_of_ble_eq_true rfl⟩⟩ kw_657 kw_27 hM.1 rfl rfl hl.1 rfl (Nat.le_of_ble_eq_true rfl) ⟨Nat.le_of_ble_eq_true rfl, Nat.le_of_ble_eq_true rfl⟩ dX5_move_107 (fun r16 hr16 => ?_)
              rw [wF_more hdp k (dp u + 1) 200 u ⟨nu, hTu⟩ (by omega) (by have := hd200 u; omega)] at hr16
              rcases wF_r T k 200 u with hwi | hwi
              · rw [hwi] at hr16
                subst hr16
                refine lv_if_eq (tgt := 116) C0.1 C0.2.1 dX5_move_110 (by decide) (fun cx => ?_) (fun cx => absurd cx (by decide))
                refine lv_aload_n C0.1 C0.2.1 dX5_move_116 rfl (lv_at hl 0 rfl) ?_
                refine md_get C0 hP hM 4 (by decide) kw_481 (v := .ref ((a 4))) rfl dX5_move_117 ?_
                refine lv_iload_n C0.1 C0.2.1 dX5_move_120 rfl (lv_at hl 1 rfl) ?_
                refine md_iald C0 hP hM 4 (by decide) (i := k) (by show k < 200; omega) dX5_move_121 ?_
                refine me_topi (y := nI pp) ((hT_12.2 k nk hTk).2.2.2.1.trans pp2) ?_
                refine lv_istore_n (lv' := [(3, .int (nI pp)), (0, .ref o), (1, .int (nI k)), (2, .int (nI u))]) C0.1 C0.2.1 dX5_move_122 rfl hl (by decide) rfl (fun ls hl => ?_)
                refine lv_iload_n C0.1 C0.2.1 dX5_move_123 rfl (lv_at hl 0 rfl) ?_
                refine lv_iload_n C0.1 C0.2.1 dX5_move_124 rfl (lv_at hl 3 rfl) ?_
                refine lv_icmp_eq (tgt := 142) C0.1 C0.2.1 dX5_move_125 (by decide) (fun c18 => ?_) (fun c18 => ?_)
                · have d18 : pp = u := (nI_eq (a := pp) (b := u) (by omega) (by omega)).mp c18
                  refine lv_aload_n C0.1 C0.2.1 dX5_move_142 rfl (lv_at hl 1 rfl) ?_
                  refine lv_iload_n C0.1 C0.2.1 dX5_move_143 rfl (lv_at hl 2 rfl) ?_
                  obtain ⟨tt, tt1, tt2, tt3⟩ := mem_idx pp4
                  have pnd := (hI.2.1 pp pm pp3).2.2.1
                  have hpk : pp ≠ k := by obtain ⟨p', y', q1, q2, q3, q4⟩ := hdp k nk hTk hk0; have := (nI_eq (a := pp) (b := p') (by omega) (by omega)).mp (pp2.symm.trans q2); intro hh; rw [← this, hh] at q4; omega
                  have huk : u ≠ k := by intro hh; rw [hh] at hwi; unfold wF at hwi; rw [if_pos rfl] at hwi; exact absurd hwi (by decide)
                  refine me_cVwv (n := 1) C0 hml hP hS (c_X5_detach l G B0 w12 o a F12 z12 hM T hT_12 k pp tt nk pm pm.2.2.2.2 hTk pp2 pp3 rfl tt1 tt2 tt3) ⟨kw_662, kw_35, kw_659, ⟨by decide, by decide, by decide +kernel⟩, ⟨rfl, rfl⟩, ⟨Nat.le_of_ble_eq_true rfl, Nat.le_of_ble_eq_true rfl⟩⟩ kw_661 kw_28 hM.1 rfl rfl hl.1 rfl (Nat.le_of_ble_eq_true rfl) ⟨Nat.le_of_ble_eq_true rfl, Nat.le_of_ble_eq_true rfl⟩ dX5_move_144 (fun w19 H locs hw19 hP hS => ?_)
                  obtain ⟨F19, z19, hM, hMF19, hzz19, hsF19, h1019, h9a19, h9b19⟩ := hw19
                  have hMF := hMF.tr hMF19
                  have sF19 := sF12.tr hsF19 (by decide)
                  have sZ19 := sZ12.tr ((fun q _ => congrFun hzz19 q) : SameZ _ _ []) (by decide)
                  have hH_19 := hH_12.sm hsF19 ((fun q _ => congrFun hzz19 q) : SameZ _ _ []) (by decide) (by decide)
                  have hTe_19 := hTe_12.sm hsF19 ((fun q _ => congrFun hzz19 q) : SameZ _ _ []) (by decide) (by decide)
                  have hX_19 := hX.sm hsF19 ((fun q _ => congrFun hzz19 q) : SameZ _ _ []) (by decide) (by decide)
                  have hTD := hT_12.det pp3 rfl pnd tt1 tt2 hsF19 h1019 h9a19 h9b19
                  have hdT : detT T k = opT T pp (rE (nI k)) := by unfold detT; rw [parN_s hTk pp2 pp1]
                  rw [← hdT] at hTD
                  have hT1k : detT T k k = some nk := by rw [hdT, opT_n (Ne.symm hpk)]; exact hTk
                  have hX60 := nmOK_fl hok
                  refine lv_aload_n C0.1 C0.2.1 dX5_move_147 rfl (lv_at hl 1 rfl) ?_
                  refine lv_iload_n C0.1 C0.2.1 dX5_move_148 rfl (lv_at hl 2 rfl) ?_
                  refine me_cVwv (n := 1) C0 hml hP hS (c_X5_setName l G B0 w19 o a F19 z19 hM k hk tp hH_19 hok.1.2 (folds tp) hX_19 hX60) ⟨kw_638, kw_35, kw_635, ⟨by decide, by decide, by decide +kernel⟩, ⟨rfl, rfl⟩, ⟨Nat.le_of_ble_eq_true rfl, Nat.le_of_ble_eq_true rfl⟩⟩ kw_637 kw_25 hM.1 rfl rfl hl.1 rfl (Nat.le_of_ble_eq_true rfl) ⟨Nat.le_of_ble_eq_true rfl, Nat.le_of_ble_eq_true rfl⟩ dX5_move_149 (fun w20 H locs hw20 hP hS => ?_)
                  obtain ⟨F20, z20, hM, hMF20, hzz20, hsF20, h620, h820, h5a20, h5b20, h7a20, h7b20⟩ := hw20
                  have hMF := hMF.tr hMF20
                  have sF20 := sF19.tr hsF20 (by decide)
                  have sZ20 := sZ19.tr ((fun q _ => congrFun hzz20 q) : SameZ _ _ []) (by decide)
                  have hH_20 := hH_19.sm hsF20 ((fun q _ => congrFun hzz20 q) : SameZ _ _ []) (by decide) (by decide)
                  have hTe_20 := hTe_19.sm hsF20 ((fun q _ => congrFun hzz20 q) : SameZ _ _ []) (by decide) (by decide)
                  have hX_20 := hX_19.sm hsF20 ((fun q _ => congrFun hzz20 q) : SameZ _ _ []) (by decide) (by decide)
                  have hTN := hTD.nam hT1k hok.1.2 rfl hX60 hsF20 h620 h820 h5a20 h5b20 h7a20 h7b20
                  obtain ⟨n2, hn2, hn2l⟩ : ∃ n2, opT (detT T k) k (sN tp) u = some n2 ∧ n2.2.2.2.2.length < 40 := by
                    rw [opT_n huk, hdT]
                    refine ⟨rE (nI k) pm, by rw [← d18]; exact opT_s pp3, ?_⟩
                    have hl := rOut_l pnd tt1 tt2
                    have hl2 := (hI.2.1 pp pm pp3).2.1
                    show (rOut pm.2.2.2.2 (nI k)).length < 40
                    omega
                  refine lv_aload_n C0.1 C0.2.1 dX5_move_152 rfl (lv_at hl 1 rfl) ?_
                  refine lv_iload_n C0.1 C0.2.1 dX5_move_153 rfl (lv_at hl 2 rfl) ?_
                  refine lv_iload_n C0.1 C0.2.1 dX5_move_154 rfl (lv_at hl 3 rfl) ?_
                  refine me_cVwv (n := 2) C0 hml hP hS (c_X5_append l G B0 w20 o a F20 z20 hM k u n2.2.2.2.2.length hk hu hn2l (hTN.2 u n2 hn2).2.2.2.2.2.2.1) ⟨kw_642, kw_35, kw_639, ⟨by decide, by decide, by decide +kernel⟩, ⟨rfl, rfl⟩, ⟨Nat.le_of_ble_eq_true rfl, Nat.le_of_ble_eq_true rfl⟩⟩ kw_641 kw_26 hM.1 rfl rfl hl.1 rfl (Nat.le_of_ble_eq_true rfl) ⟨Nat.le_of_ble_eq_true rfl, Nat.le_of_ble_eq_true rfl⟩ dX5_move_155 (fun w21 H locs hw21 hP hS => ?_)
                  obtain ⟨F21, z21, hM, hMF21, hzz21, hsF21, h421, h921, h1021⟩ := hw21
                  have hMF := hMF.tr hMF21
                  have sF21 := sF20.tr hsF21 (by decide)
                  have sZ21 := sZ20.tr ((fun q _ => congrFun hzz21 q) : SameZ _ _ []) (by decide)
                  have hH_21 := hH_20.sm hsF21 ((fun q _ => congrFun hzz21 q) : SameZ _ _ []) (by decide) (by decide)
                  have hTe_21 := hTe_20.sm hsF21 ((fun q _ => congrFun hzz21 q) : SameZ _ _ []) (by decide) (by decide)
                  have hX_21 := hX_20.sm hsF21 ((fun q _ => congrFun hzz21 q) : SameZ _ _ []) (by decide) (by decide)
                  have hTA := hTN.app (opT_s hT1k) hn2 (Ne.symm huk) rfl hn2l hsF21 h421 h921 h1021
                  refine lv_iload_n C0.1 C0.2.1 dX5_move_158 rfl (lv_at hl 0 rfl) ?_
                  exact me_wiret _ C0.1 C0.2.1 B.returns B.notSynchronized hP hS (Nat.le_of_ble_eq_true rfl) (Nat.le_of_ble_eq_true rfl) (have hR : sMovR T tp (nI k) (nI u) = nI pp := (by unfold sMovR; rw [if_neg c4, if_neg hnk, if_neg hnu, hmv, if_neg (by rw [hnm]; decide), entsOf_n hu hTu, ← hr14, if_neg (fun q => q c15), nI_clamp (by omega), nI_clamp (by omega), if_neg (by rw [hwi]; decide), parOf_n hk hTk, pp2, if_neg (fun q => q.1 (by rw [d18]))]); ⟨_, _, hM, hMF, ((((fun q _ => congrFun hzz21 q) : SameZ _ _ []) 13 (by decide)).trans ((((fun q _ => congrFun hzz20 q) : SameZ _ _ []) 13 (by decide)).trans ((((fun q _ => congrFun hzz19 q) : SameZ _ _ []) 13 (by decide)).trans ((hsZ12 13 (by decide)).trans ((hsZ3 13 (by decide)).trans hz1_13))))), sF21, sZ21, hTe_21, hR.symm, by rw [sMovT_s hR hk hu pp1, hmv]; exact hTA⟩) dX5_move_159
                · have d18 : pp ≠ u := fun h => c18 (congrArg nI h)
                  refine lv_aload_n C0.1 C0.2.1 dX5_move_128 rfl (lv_at hl 1 rfl) ?_
                  refine md_get C0 hP hM 10 (by decide) kw_487 (v := .ref ((a 10))) rfl dX5_move_129 ?_
                  refine lv_iload_n C0.1 C0.2.1 dX5_move_132 rfl (lv_at hl 3 rfl) ?_
                  refine md_iald C0 hP hM 10 (by decide) (i := u) (by show u < 200; omega) dX5_move_133 ?_
                  refine me_topi (y := nI nu.2.2.2.2.length) (hT_12.2 u nu hTu).2.2.2.2.2.2.1 ?_
                  refine lv_bipush (v := 40) C0.1 C0.2.1 dX5_move_134 (by decide) ?_
                  refine lv_icmp_ne (tgt := 142) C0.1 C0.2.1 dX5_move_136 (by decide) (fun c22 => ?_) (fun c22 => ?_)
                  · have d22 : nu.2.2.2.2.length ≠ 40 := fun h => c22 (congrArg nI h)
                    refine lv_aload_n C0.1 C0.2.1 dX5_move_142 rfl (lv_at hl 1 rfl) ?_
                    refine lv_iload_n C0.1 C0.2.1 dX5_move_143 rfl (lv_at hl 2 rfl) ?_
                    obtain ⟨tt, tt1, tt2, tt3⟩ := mem_idx pp4
                    have pnd := (hI.2.1 pp pm pp3).2.2.1
                    have hpk : pp ≠ k := by obtain ⟨p', y', q1, q2, q3, q4⟩ := hdp k nk hTk hk0; have := (nI_eq (a := pp) (b := p') (by omega) (by omega)).mp (pp2.symm.trans q2); intro hh; rw [← this, hh] at q4; omega
                    have huk : u ≠ k := by intro hh; rw [hh] at hwi; unfold wF at hwi; rw [if_pos rfl] at hwi; exact absurd hwi (by decide)
                    refine me_cVwv (n := 1) C0 hml hP hS (c_X5_detach l G B0 w12 o a F12 z12 hM T hT_12 k pp tt nk pm pm.2.2.2.2 hTk pp2 pp3 rfl tt1 tt2 tt3) ⟨kw_662, kw_35, kw_659, ⟨by decide, by decide, by decide +kernel⟩, ⟨rfl, rfl⟩, ⟨Nat.le_of_ble_eq_true rfl, Nat.le_of_ble_eq_true rfl⟩⟩ kw_661 kw_28 hM.1 rfl rfl hl.1 rfl (Nat.le_of_ble_eq_true rfl) ⟨Nat.le_of_ble_eq_true rfl, Nat.le_of_ble_eq_true rfl⟩ dX5_move_144 (fun w23 H locs hw23 hP hS => ?_)
                    obtain ⟨F23, z23, hM, hMF23, hzz23, hsF23, h1023, h9a23, h9b23⟩ := hw23
                    have hMF := hMF.tr hMF23
                    have sF23 := sF12.tr hsF23 (by decide)
                    have sZ23 := sZ12.tr ((fun q _ => congrFun hzz23 q) : SameZ _ _ []) (by decide)
                    have hH_23 := hH_12.sm hsF23 ((fun q _ => congrFun hzz23 q) : SameZ _ _ []) (by decide) (by decide)
                    have hTe_23 := hTe_12.sm hsF23 ((fun q _ => congrFun hzz23 q) : SameZ _ _ []) (by decide) (by decide)
                    have hX_23 := hX.sm hsF23 ((fun q _ => congrFun hzz23 q) : SameZ _ _ []) (by decide) (by decide)
                    have hTD := hT_12.det pp3 rfl pnd tt1 tt2 hsF23 h1023 h9a23 h9b23
                    have hdT : detT T k = opT T pp (rE (nI k)) := by unfold detT; rw [parN_s hTk pp2 pp1]
                    rw [← hdT] at hTD
                    have hT1k : detT T k k = some nk := by rw [hdT, opT_n (Ne.symm hpk)]; exact hTk
                    have hX60 := nmOK_fl hok
                    refine lv_aload_n C0.1 C0.2.1 dX5_move_147 rfl (lv_at hl 1 rfl) ?_
                    refine lv_iload_n C0.1 C0.2.1 dX5_move_148 rfl (lv_at hl 2 rfl) ?_
                    refine me_cVwv (n := 1) C0 hml hP hS (c_X5_setName l G B0 w23 o a F23 z23 hM k hk tp hH_23 hok.1.2 (folds tp) hX_23 hX60) ⟨kw_638, kw_35, kw_635, ⟨by decide, by decide, by decide +kernel⟩, ⟨rfl, rfl⟩, ⟨Nat.le_of_ble_eq_true rfl, Nat.le_of_ble_eq_true rfl⟩⟩ kw_637 kw_25 hM.1 rfl rfl hl.1 rfl (Nat.le_of_ble_eq_true rfl) ⟨Nat.le_of_ble_eq_true rfl, Nat.le_of_ble_eq_true rfl⟩ dX5_move_149 (fun w24 H locs hw24 hP hS => ?_)
                    obtain ⟨F24, z24, hM, hMF24, hzz24, hsF24, h624, h824, h5a24, h5b24, h7a24, h7b24⟩ := hw24
                    have hMF := hMF.tr hMF24
                    have sF24 := sF23.tr hsF24 (by decide)
                    have sZ24 := sZ23.tr ((fun q _ => congrFun hzz24 q) : SameZ _ _ []) (by decide)
                    have hH_24 := hH_23.sm hsF24 ((fun q _ => congrFun hzz24 q) : SameZ _ _ []) (by decide) (by decide)
                    have hTe_24 := hTe_23.sm hsF24 ((fun q _ => congrFun hzz24 q) : SameZ _ _ []) (by decide) (by decide)
                    have hX_24 := hX_23.sm hsF24 ((fun q _ => congrFun hzz24 q) : SameZ _ _ []) (by decide) (by decide)
                    have hTN := hTD.nam hT1k hok.1.2 rfl hX60 hsF24 h624 h824 h5a24 h5b24 h7a24 h7b24
                    obtain ⟨n2, hn2, hn2l⟩ : ∃ n2, opT (detT T k) k (sN tp) u = some n2 ∧ n2.2.2.2.2.length < 40 := by
                      rw [opT_n huk, hdT]
                      exact ⟨nu, by rw [opT_n (Ne.symm d18)]; exact hTu, by omega⟩
                    refine lv_aload_n C0.1 C0.2.1 dX5_move_152 rfl (lv_at hl 1 rfl) ?_
                    refine lv_iload_n C0.1 C0.2.1 dX5_move_153 rfl (lv_at hl 2 rfl) ?_
                    refine lv_iload_n C0.1 C0.2.1 dX5_move_154 rfl (lv_at hl 3 rfl) ?_
                    refine me_cVwv (n := 2) C0 hml hP hS (c_X5_append l G B0 w24 o a F24 z24 hM k u n2.2.2.2.2.length hk hu hn2l (hTN.2 u n2 hn2).2.2.2.2.2.2.1) ⟨kw_642, kw_35, kw_639, ⟨by decide, by decide, by decide +kernel⟩, ⟨rfl, rfl⟩, ⟨Nat.le_of_ble_eq_true rfl, Nat.le_of_ble_eq_true rfl⟩⟩ kw_641 kw_26 hM.1 rfl rfl hl.1 rfl (Nat.le_of_ble_eq_true rfl) ⟨Nat.le_of_ble_eq_true rfl, Nat.le_of_ble_eq_true rfl⟩ dX5_move_155 (fun w25 H locs hw25 hP hS => ?_)
                    obtain ⟨F25, z25, hM, hMF25, hzz25, hsF25, h425, h925, h1025⟩ := hw25
                    have hMF := hMF.tr hMF25
                    have sF25 := sF24.tr hsF25 (by decide)
                    have sZ25 := sZ24.tr ((fun q _ => congrFun hzz25 q) : SameZ _ _ []) (by decide)
                    have hH_25 := hH_24.sm hsF25 ((fun q _ => congrFun hzz25 q) : SameZ _ _ []) (by decide) (by decide)
                    have hTe_25 := hTe_24.sm hsF25 ((fun q _ => congrFun hzz25 q) : SameZ _ _ []) (by decide) (by decide)
                    have hX_25 := hX_24.sm hsF25 ((fun q _ => congrFun hzz25 q) : SameZ _ _ []) (by decide) (by decide)
                    have hTA := hTN.app (opT_s hT1k) hn2 (Ne.symm huk) rfl hn2l hsF25 h425 h925 h1025
                    refine lv_iload_n C0.1 C0.2.1 dX5_move_158 rfl (lv_at hl 0 rfl) ?_
                    exact me_wiret _ C0.1 C0.2.1 B.returns B.notSynchronized hP hS (Nat.le_of_ble_eq_true rfl) (Nat.le_of_ble_eq_true rfl) (have hR : sMovR T tp (nI k) (nI u) = nI pp := (by unfold sMovR; rw [if_neg c4, if_neg hnk, if_neg hnu, hmv, if_neg (by rw [hnm]; decide), entsOf_n hu hTu, ← hr14, if_neg (fun q => q c15), nI_clamp (by omega), nI_clamp (by omega), if_neg (by rw [hwi]; decide), parOf_n hk hTk, pp2, if_neg (fun q => absurd q.2 (by omega))]); ⟨_, _, hM, hMF, ((((fun q _ => congrFun hzz25 q) : SameZ _ _ []) 13 (by decide)).trans ((((fun q _ => congrFun hzz24 q) : SameZ _ _ []) 13 (by decide)).trans ((((fun q _ => congrFun hzz23 q) : SameZ _ _ []) 13 (by decide)).trans ((hsZ12 13 (by decide)).trans ((hsZ3 13 (by decide)).trans hz1_13))))), sF25, sZ25, hTe_25, hR.symm, by rw [sMovT_s hR hk hu pp1, hmv]; exact hTA⟩) dX5_move_159
                  · have d22 : nu.2.2.2.2.length = 40 := (nI_eq (a := nu.2.2.2.2.length) (b := 40) (by omega) (by omega)).mp c22
                    refine lv_bipush (v := (-4)) C0.1 C0.2.1 dX5_move_139 (by decide) ?_
                    exact me_wiret _ C0.1 C0.2.1 B.returns B.notSynchronized hP hS (Nat.le_of_ble_eq_true rfl) (Nat.le_of_ble_eq_true rfl) (have hR : sMovR T tp (nI k) (nI u) = (-4) := (by unfold sMovR; rw [if_neg c4, if_neg hnk, if_neg hnu, hmv, if_neg (by rw [hnm]; decide), entsOf_n hu hTu, ← hr14, if_neg (fun q => q c15), nI_clamp (by omega), nI_clamp (by omega), if_neg (by rw [hwi]; decide), parOf_n hk hTk, pp2, if_pos ⟨fun q => d18 ((nI_eq (by omega) (by omega)).mp q), by omega⟩]); ⟨_, _, hM, hMF, ((hsZ12 13 (by decide)).trans ((hsZ3 13 (by decide)).trans hz1_13)), sF12, sZ12, hTe_12, hR.symm, by rw [sMovT_f hR (by decide)]; exact hT_12⟩) dX5_move_141
              · rw [hwi] at hr16
                subst hr16
                refine lv_if_eq (tgt := 116) C0.1 C0.2.1 dX5_move_110 (by decide) (fun cx => absurd cx (by decide)) (fun cx => ?_)
                refine lv_bipush (v := (-6)) C0.1 C0.2.1 dX5_move_113 (by decide) ?_
                exact me_wiret _ C0.1 C0.2.1 B.returns B.notSynchronized hP hS (Nat.le_of_ble_eq_true rfl) (Nat.le_of_ble_eq_true rfl) (have hR : sMovR T tp (nI k) (nI u) = (-6) := (by unfold sMovR; rw [if_neg c4, if_neg hnk, if_neg hnu, hmv, if_neg (by rw [hnm]; decide), entsOf_n hu hTu, ← hr14, if_neg (fun q => q c15), nI_clamp (by omega), nI_clamp (by omega), if_pos hwi]); ⟨_, _, hM, hMF, ((hsZ12 13 (by decide)).trans ((hsZ3 13 (by decide)).trans hz1_13)), sF12, sZ12, hTe_12, hR.symm, by rw [sMovT_f hR (by decide)]; exact hT_12⟩) dX5_move_115
            · refine lv_bipush (v := (-3)) C0.1 C0.2.1 dX5_move_101 (by decide) ?_
              exact me_wiret _ C0.1 C0.2.1 B.returns B.notSynchronized hP hS (Nat.le_of_ble_eq_true rfl) (Nat.le_of_ble_eq_true rfl) (have hR : sMovR T tp (nI k) (nI u) = (-3) := (by unfold sMovR; rw [if_neg c4, if_neg hnk, if_neg hnu, hmv, if_neg (by rw [hnm]; decide), entsOf_n hu hTu, ← hr14, if_pos c15]); ⟨_, _, hM, hMF, ((hsZ12 13 (by decide)).trans ((hsZ3 13 (by decide)).trans hz1_13)), sF12, sZ12, hTe_12, hR.symm, by rw [sMovT_f hR (by decide)]; exact hT_12⟩) dX5_move_103
          · have hnm : nmI tp = 0 := nmI_0 hno
            refine lv_if_ne (tgt := 92) C0.1 C0.2.1 dX5_move_86 (by decide) (fun cx => absurd cx (by decide)) (fun cx => ?_)
            refine lv_bipush (v := (-2)) C0.1 C0.2.1 dX5_move_89 (by decide) ?_
            exact me_wiret _ C0.1 C0.2.1 B.returns B.notSynchronized hP hS (Nat.le_of_ble_eq_true rfl) (Nat.le_of_ble_eq_true rfl) (have hR : sMovR T tp (nI k) (nI u) = (-2) := (by unfold sMovR; rw [if_neg c4, if_neg hnk, if_neg hnu, hmv, if_pos hnm]); ⟨_, _, hM, hMF, ((hsZ12 13 (by decide)).trans ((hsZ3 13 (by decide)).trans hz1_13)), sF12, sZ12, hTe_12, hR.symm, by rw [sMovT_f hR (by decide)]; exact hT_12⟩) dX5_move_91
        · have d11 : tp.length = 0 := (nI_eq (a := tp.length) (b := 0) (by omega) (by omega)).mp c11
          refine lv_aload_n C0.1 C0.2.1 dX5_move_39 rfl (lv_at hl 0 rfl) ?_
          refine lv_aload_n C0.1 C0.2.1 dX5_move_40 rfl (lv_at hl 0 rfl) ?_
          refine md_get C0 hP hM 6 (by decide) kw_483 (v := .ref ((a 6))) rfl dX5_move_41 ?_
          refine lv_iload_n C0.1 C0.2.1 dX5_move_44 rfl (lv_at hl 1 rfl) ?_
          refine md_iald C0 hP hM 6 (by decide) (i := k) (by show k < 200; omega) dX5_move_45 ?_
          have hn60 := hNk.2.2.2.1.2.1
          refine me_topi (y := nI nk.2.2.1.length) (hT_3.2 k nk hTk).2.2.2.2.1.1 ?_
          refine md_put C0 hP hS hM hMF 15 (by decide) kw_492 rfl rfl rfl dX5_move_46 (fun w28 z28 H locs hz28 hM hMF hP hS => ?_)
          have hz28_15 : z28 15 = nI nk.2.2.1.length := by rw [hz28, upd_eq]
          refine lv_iconst (v := 0) C0.1 C0.2.1 dX5_move_49 (by decide) ?_
          refine lv_istore_n (lv' := [(3, .int 0), (0, .ref o), (1, .int (nI k)), (2, .int (nI u))]) C0.1 C0.2.1 dX5_move_50 rfl hl (by decide) rfl (fun ls hl => ?_)
          have lF29 : SameF F3 F3 [] := SameF.rf
          have lZ29 : SameZ z3 z28 [15] := (SameZ.rf.wr hz28 (by decide))
          have sF29 := sF3.tr lF29 (by decide)
          have sZ29 := sZ3.tr lZ29 (by decide)
          have hTe_29 := hLt3.sm lF29 lZ29 (by decide) (by decide)
          have hT_29 := hT_3.sm lF29 (by decide)
          have loop51 : ∀ (n : Nat) (i : Nat) (w1 : Me) (G1 : Nat → Nat → Int32), (i ≤ nk.2.2.1.length) → (MD G B0 w1 o a G1 z28) → (MF w w1 o a) → (SameF F3 G1 [14]) → (∀ q, q < i → G1 14 q = nk.2.2.1.getD q 0) → (nk.2.2.1.length - i) < n → ∀ (H : Heap) (locs : List Loc), ∀ (ls : Array Slot), me_P G.1 w1 H → va_S (me_A B0) s.heap H locs → lv_has ls 4 [(3, .int (nI i)), (0, .ref o), (1, .int (nI k)), (2, .int (nI u))] → W p l e ({ frames := 4, cells := 0, slots := 0, locals := 90 }) s m ([.ref o, .int (nI k), .int (nI u)] : List Value).toArray below meth c H locs 0 0 (MQ below (va_Qi (fun r w' => ∃ (F' : Nat → Nat → Int32) (z' : Nat → Int32), MD G B0 w' o a F' z' ∧ MF w w' o a ∧ z' 13 = 0 ∧ SameF F F' [4, 5, 6, 7, 8, 9, 10, 14, 16, 18] ∧ SameZ z z' [1, 13, 15, 17, 19] ∧ Ls F' z' 0 1 200 [] ∧ r = sMovR T tp (nI k) (nI u) ∧ RT F' (sMovT T tp (nI k) (nI u))) (me_W G) (me_A B0)) ([.ref o, .int (nI k), .int (nI u)] : List Value).toArray s 0 0 (me_A B0)) (F0 m 51 ls []) := by
            intro n
            induction n with
            | zero => intro i w1 G1 _ _ _ _ _ hz; exact absurd hz (Nat.not_lt_zero _)
            | succ n ih51 =>
              intro i w1 G1 hil hM hMF hs1 hlo hn51 H locs ls hP hS hl
              refine lv_iload_n C0.1 C0.2.1 dX5_move_51 rfl (lv_at hl 0 rfl) ?_
              refine lv_aload_n C0.1 C0.2.1 dX5_move_52 rfl (lv_at hl 1 rfl) ?_
              refine md_get C0 hP hM 15 (by decide) kw_492 (v := .int (nI nk.2.2.1.length)) (by show some (Value.int (z28 15)) = _; rw [hz28_15]) dX5_move_53 ?_
              refine lv_icmp_ge (tgt := 82) C0.1 C0.2.1 dX5_move_56 (by decide) (fun c30 => ?_) (fun c30 => ?_)
              · have d30 : nk.2.2.1.length ≤ i := (nI_leI (a := nk.2.2.1.length) (b := i) (by omega) (by omega)).mp c30
                have sF31 := sF29.tr hs1 (by decide)
                have sZ31 := sZ29.tr (SameZ.rf : SameZ _ _ []) (by decide)
                have hTe_31 := hTe_29.sm hs1 (SameZ.rf : SameZ _ _ []) (by decide) (by decide)
                have hT_31 := hT_29.sm hs1 (by decide)
                have hmv : mvN T tp (nI k) = nk.2.2.1 := by unfold mvN; rw [if_pos d11, namOf_n hk hTk]
                refine lv_aload_n C0.1 C0.2.1 dX5_move_82 rfl (lv_at hl 1 rfl) ?_
                refine me_cVwi (n := 0) C0 hml hP hS (c_X5_isName l G B0 w1 o a G1 z28 hM nk.2.2.1 (show Ls G1 z28 14 15 200 nk.2.2.1 from ⟨hz28_15, by omega, fun q hq => hlo q (by omega)⟩) hvo) ⟨kw_626, kw_35, kw_623, ⟨by decide, by decide, by decide +kernel⟩, ⟨rfl, rfl⟩, ⟨Nat.le_of_ble_eq_true rfl, Nat.le_of_ble_eq_true rfl⟩⟩ kw_625 kw_22 hM.1 rfl rfl hl.1 rfl (Nat.le_of_ble_eq_true rfl) ⟨Nat.le_of_ble_eq_true rfl, Nat.le_of_ble_eq_true rfl⟩ dX5_move_83 (fun r32 w32 H locs hw32 hP hS => ?_)
                obtain ⟨F32, z32, hM, hMF32, hsF32, hsZ32, hres32⟩ := hw32
                have hMF := hMF.tr hMF32
                have sF32 := sF31.tr hsF32 (by decide)
                have sZ32 := sZ31.tr hsZ32 (by decide)
                have hTe_32 := hTe_31.sm hsF32 hsZ32 (by decide) (by decide)
                have hH_32 := (show Ls G1 z28 14 15 200 nk.2.2.1 from ⟨hz28_15, by omega, fun q hq => hlo q (by omega)⟩).sm hsF32 hsZ32 (by decide) (by decide)
                have hT_32 := hT_31.sm hsF32 (by decide)
                rcases hres32 with ⟨hok, rfl, hX⟩ | ⟨hno, rfl⟩
                · have hnm : nmI nk.2.2.1 = 1 := nmI_1 hok
                  refine lv_if_ne (tgt := 92) C0.1 C0.2.1 dX5_move_86 (by decide) (fun cx => ?_) (fun cx => absurd cx (by decide))
                  refine lv_aload_n C0.1 C0.2.1 dX5_move_92 rfl (lv_at hl 1 rfl) ?_
                  refine lv_iload_n C0.1 C0.2.1 dX5_move_93 rfl (lv_at hl 3 rfl) ?_
                  refine lv_iload_n C0.1 C0.2.1 dX5_move_94 rfl (lv_at hl 2 rfl) ?_
                  refine me_cVi (n := 2) C0 hml hP hS (c_X5_entryLike l G B0 w32 o a F32 z32 hM T hT_32 u nu hu hTu (folds nk.2.2.1) hX nu.2.2.2.2 rfl (hI.ent u nu hTu) (nI k)) ⟨kw_630, kw_35, kw_627, ⟨by decide, by decide, by decide +kernel⟩, ⟨rfl, rfl⟩, ⟨Nat.le_of_ble_eq_true rfl, Nat.le_of_ble_eq_true rfl⟩⟩ kw_629 kw_23 hM.1 rfl rfl hl.1 rfl (Nat.le_of_ble_eq_true rfl) ⟨Nat.le_of_ble_eq_true rfl, Nat.le_of_ble_eq_true rfl⟩ dX5_move_95 (fun r34 hr34 => ?_)
                  refine lv_if_lt (tgt := 104) C0.1 C0.2.1 dX5_move_98 (by decide) (fun c35 => ?_) (fun c35 => ?_)
                  · refine lv_aload_n C0.1 C0.2.1 dX5_move_104 rfl (lv_at hl 1 rfl) ?_
                    refine lv_iload_n C0.1 C0.2.1 dX5_move_105 rfl (lv_at hl 3 rfl) ?_
                    refine lv_iload_n C0.1 C0.2.1 dX5_move_106 rfl (lv_at hl 2 rfl) ?_
                    obtain ⟨dp, hdp, hd200⟩ := hI.dp
                    refine me_cVi (n := 2) C0 hml hP hS (c_X5_isWithin l G B0 w32 o a F32 z32 hM T hT_32 dp hdp u k nu hu hk hTu) ⟨kw_658, kw_35, kw_655, ⟨by decide, by decide, by decide +kernel⟩, ⟨rfl, rfl⟩, ⟨Nat.le_of_ble_eq_true rfl, Nat.le_of_ble_eq_true rfl⟩⟩ kw_657 kw_27 hM.1 rfl rfl hl.1 rfl (Nat.le_of_ble_eq_true rfl) ⟨Nat.le_of_ble_eq_true rfl, Nat.le_of_ble_eq_true rfl⟩ dX5_move_107 (fun r36 hr36 => ?_)
                    rw [wF_more hdp k (dp u + 1) 200 u ⟨nu, hTu⟩ (by omega) (by have := hd200 u; omega)] at hr36
                    rcases wF_r T k 200 u with hwi | hwi
                    · rw [hwi] at hr36
                      subst hr36
                      refine lv_if_eq (tgt := 116) C0.1 C0.2.1 dX5_move_110 (by decide) (fun cx => ?_) (fun cx => absurd cx (by decide))
                      refine lv_aload_n C0.1 C0.2.1 dX5_move_116 rfl (lv_at hl 1 rfl) ?_
                      refine md_get C0 hP hM 4 (by decide) kw_481 (v := .ref ((a 4))) rfl dX5_move_117 ?_
                      refine lv_iload_n C0.1 C0.2.1 dX5_move_120 rfl (lv_at hl 2 rfl) ?_
                      refine md_iald C0 hP hM 4 (by decide) (i := k) (by show k < 200; omega) dX5_move_121 ?_
                      refine me_topi (y := nI pp) ((hT_32.2 k nk hTk).2.2.2.1.trans pp2) ?_
                      refine lv_istore_n (lv' := [(3, .int (nI pp)), (0, .ref o), (1, .int (nI k)), (2, .int (nI u))]) C0.1 C0.2.1 dX5_move_122 rfl hl (by decide) rfl (fun ls hl => ?_)
                      refine lv_iload_n C0.1 C0.2.1 dX5_move_123 rfl (lv_at hl 0 rfl) ?_
                      refine lv_iload_n C0.1 C0.2.1 dX5_move_124 rfl (lv_at hl 3 rfl) ?_
                      refine lv_icmp_eq (tgt := 142) C0.1 C0.2.1 dX5_move_125 (by decide) (fun c38 => ?_) (fun c38 => ?_)
                      · have d38 : pp = u := (nI_eq (a := pp) (b := u) (by omega) (by omega)).mp c38
                        refine lv_aload_n C0.1 C0.2.1 dX5_move_142 rfl (lv_at hl 1 rfl) ?_
                        refine lv_iload_n C0.1 C0.2.1 dX5_move_143 rfl (lv_at hl 2 rfl) ?_
                        obtain ⟨tt, tt1, tt2, tt3⟩ := mem_idx pp4
                        have pnd := (hI.2.1 pp pm pp3).2.2.1
                        have hpk : pp ≠ k := by obtain ⟨p', y', q1, q2, q3, q4⟩ := hdp k nk hTk hk0; have := (nI_eq (a := pp) (b := p') (by omega) (by omega)).mp (pp2.symm.trans q2); intro hh; rw [← this, hh] at q4; omega
                        have huk : u ≠ k := by intro hh; rw [hh] at hwi; unfold wF at hwi; rw [if_pos rfl] at hwi; exact absurd hwi (by decide)
                        refine me_cVwv (n := 1) C0 hml hP hS (c_X5_detach l G B0 w32 o a F32 z32 hM T hT_32 k pp tt nk pm pm.2.2.2.2 hTk pp2 pp3 rfl tt1 tt2 tt3) ⟨kw_662, kw_35, kw_659, ⟨by decide, by decide, by decide +kernel⟩, ⟨rfl, rfl⟩, ⟨Nat.le_of_ble_eq_true rfl, Nat.le_of_ble_eq_true rfl⟩⟩ kw_661 kw_28 hM.1 rfl rfl hl.1 rfl (Nat.le_of_ble_eq_true rfl) ⟨Nat.le_of_ble_eq_true rfl, Nat.le_of_ble_eq_true rfl⟩ dX5_move_144 (fun w39 H locs hw39 hP hS => ?_)
                        obtain ⟨F39, z39, hM, hMF39, hzz39, hsF39, h1039, h9a39, h9b39⟩ := hw39
                        have hMF := hMF.tr hMF39
                        have sF39 := sF32.tr hsF39 (by decide)
                        have sZ39 := sZ32.tr ((fun q _ => congrFun hzz39 q) : SameZ _ _ []) (by decide)
                        have hTe_39 := hTe_32.sm hsF39 ((fun q _ => congrFun hzz39 q) : SameZ _ _ []) (by decide) (by decide)
                        have hH_39 := hH_32.sm hsF39 ((fun q _ => congrFun hzz39 q) : SameZ _ _ []) (by decide) (by decide)
                        have hX_39 := hX.sm hsF39 ((fun q _ => congrFun hzz39 q) : SameZ _ _ []) (by decide) (by decide)
                        have hTD := hT_32.det pp3 rfl pnd tt1 tt2 hsF39 h1039 h9a39 h9b39
                        have hdT : detT T k = opT T pp (rE (nI k)) := by unfold detT; rw [parN_s hTk pp2 pp1]
                        rw [← hdT] at hTD
                        have hT1k : detT T k k = some nk := by rw [hdT, opT_n (Ne.symm hpk)]; exact hTk
                        have hX60 := nmOK_fl hok
                        refine lv_aload_n C0.1 C0.2.1 dX5_move_147 rfl (lv_at hl 1 rfl) ?_
                        refine lv_iload_n C0.1 C0.2.1 dX5_move_148 rfl (lv_at hl 2 rfl) ?_
                        refine me_cVwv (n := 1) C0 hml hP hS (c_X5_setName l G B0 w39 o a F39 z39 hM k hk nk.2.2.1 hH_39 hok.1.2 (folds nk.2.2.1) hX_39 hX60) ⟨kw_638, kw_35, kw_635, ⟨by decide, by decide, by decide +kernel⟩, ⟨rfl, rfl⟩, ⟨Nat.le_of_ble_eq_true rfl, Nat.le_of_ble_eq_true rfl⟩⟩ kw_637 kw_25 hM.1 rfl rfl hl.1 rfl (Nat.le_of_ble_eq_true rfl) ⟨Nat.le_of_ble_eq_true rfl, Nat.le_of_ble_eq_true rfl⟩ dX5_move_149 (fun w40 H locs hw40 hP hS => ?_)
                        obtain ⟨F40, z40, hM, hMF40, hzz40, hsF40, h640, h840, h5a40, h5b40, h7a40, h7b40⟩ := hw40
                        have hMF := hMF.tr hMF40
                        have sF40 := sF39.tr hsF40 (by decide)
                        have sZ40 := sZ39.tr ((fun q _ => congrFun hzz40 q) : SameZ _ _ []) (by decide)
                        have hTe_40 := hTe_39.sm hsF40 ((fun q _ => congrFun hzz40 q) : SameZ _ _ []) (by decide) (by decide)
                        have hH_40 := hH_39.sm hsF40 ((fun q _ => congrFun hzz40 q) : SameZ _ _ []) (by decide) (by decide)
                        have hX_40 := hX_39.sm hsF40 ((fun q _ => congrFun hzz40 q) : SameZ _ _ []) (by decide) (by decide)
                        have hTN := hTD.nam hT1k hok.1.2 rfl hX60 hsF40 h640 h840 h5a40 h5b40 h7a40 h7b40
                        obtain ⟨n2, hn2, hn2l⟩ : ∃ n2, opT (detT T k) k (sN nk.2.2.1) u = some n2 ∧ n2.2.2.2.2.length < 40 := by
                          rw [opT_n huk, hdT]
                          refine ⟨rE (nI k) pm, by rw [← d38]; exact opT_s pp3, ?_⟩
                          have hl := rOut_l pnd tt1 tt2
                          have hl2 := (hI.2.1 pp pm pp3).2.1
                          show (rOut pm.2.2.2.2 (nI k)).length < 40
                          omega
                        refine lv_aload_n C0.1 C0.2.1 dX5_move_152 rfl (lv_at hl 1 rfl) ?_
                        refine lv_iload_n C0.1 C0.2.1 dX5_move_153 rfl (lv_at hl 2 rfl) ?_
                        refine lv_iload_n C0.1 C0.2.1 dX5_move_154 rfl (lv_at hl 3 rfl) ?_
                        refine me_cVwv (n := 2) C0 hml hP hS (c_X5_append l G B0 w40 o a F40 z40 hM k u n2.2.2.2.2.length hk hu hn2l (hTN.2 u n2 hn2).2.2.2.2.2.2.1) ⟨kw_642, kw_35, kw_639, ⟨by decide, by decide, by decide +kernel⟩, ⟨rfl, rfl⟩, ⟨Nat.le_of_ble_eq_true rfl, Nat.le_of_ble_eq_true rfl⟩⟩ kw_641 kw_26 hM.1 rfl rfl hl.1 rfl (Nat.le_of_ble_eq_true rfl) ⟨Nat.le_of_ble_eq_true rfl, Nat.le_of_ble_eq_true rfl⟩ dX5_move_155 (fun w41 H locs hw41 hP hS => ?_)
                        obtain ⟨F41, z41, hM, hMF41, hzz41, hsF41, h441, h941, h1041⟩ := hw41
                        have hMF := hMF.tr hMF41
                        have sF41 := sF40.tr hsF41 (by decide)
                        have sZ41 := sZ40.tr ((fun q _ => congrFun hzz41 q) : SameZ _ _ []) (by decide)
                        have hTe_41 := hTe_40.sm hsF41 ((fun q _ => congrFun hzz41 q) : SameZ _ _ []) (by decide) (by decide)
                        have hH_41 := hH_40.sm hsF41 ((fun q _ => congrFun hzz41 q) : SameZ _ _ []) (by decide) (by decide)
                        have hX_41 := hX_40.sm hsF41 ((fun q _ => congrFun hzz41 q) : SameZ _ _ []) (by decide) (by decide)
                        have hTA := hTN.app (opT_s hT1k) hn2 (Ne.symm huk) rfl hn2l hsF41 h441 h941 h1041
                        refine lv_iload_n C0.1 C0.2.1 dX5_move_158 rfl (lv_at hl 0 rfl) ?_
                        exact me_wiret _ C0.1 C0.2.1 B.returns B.notSynchronized hP hS (Nat.le_of_ble_eq_true rfl) (Nat.le_of_ble_eq_true rfl) (have hR : sMovR T tp (nI k) (nI u) = nI pp := (by unfold sMovR; rw [if_neg c4, if_neg hnk, if_neg hnu, hmv, if_neg (by rw [hnm]; decide), entsOf_n hu hTu, ← hr34, if_neg (fun q => q c35), nI_clamp (by omega), nI_clamp (by omega), if_neg (by rw [hwi]; decide), parOf_n hk hTk, pp2, if_neg (fun q => q.1 (by rw [d38]))]); ⟨_, _, hM, hMF, ((((fun q _ => congrFun hzz41 q) : SameZ _ _ []) 13 (by decide)).trans ((((fun q _ => congrFun hzz40 q) : SameZ _ _ []) 13 (by decide)).trans ((((fun q _ => congrFun hzz39 q) : SameZ _ _ []) 13 (by decide)).trans ((hsZ32 13 (by decide)).trans (((SameZ.rf : SameZ _ _ []) 13 (by decide)).trans ((lZ29 13 (by decide)).trans ((hsZ3 13 (by decide)).trans hz1_13))))))), sF41, sZ41, hTe_41, hR.symm, by rw [sMovT_s hR hk hu pp1, hmv]; exact hTA⟩) dX5_move_159
                      · have d38 : pp ≠ u := fun h => c38 (congrArg nI h)
                        refine lv_aload_n C0.1 C0.2.1 dX5_move_128 rfl (lv_at hl 1 rfl) ?_
                        refine md_get C0 hP hM 10 (by decide) kw_487 (v := .ref ((a 10))) rfl dX5_move_129 ?_
                        refine lv_iload_n C0.1 C0.2.1 dX5_move_132 rfl (lv_at hl 3 rfl) ?_
                        refine md_iald C0 hP hM 10 (by decide) (i := u) (by show u < 200; omega) dX5_move_133 ?_
                        refine me_topi (y := nI nu.2.2.2.2.length) (hT_32.2 u nu hTu).2.2.2.2.2.2.1 ?_
                        refine lv_bipush (v := 40) C0.1 C0.2.1 dX5_move_134 (by decide) ?_
                        refine lv_icmp_ne (tgt := 142) C0.1 C0.2.1 dX5_move_136 (by decide) (fun c42 => ?_) (fun c42 => ?_)
                        · have d42 : nu.2.2.2.2.length ≠ 40 := fun h => c42 (congrArg nI h)
                          refine lv_aload_n C0.1 C0.2.1 dX5_move_142 rfl (lv_at hl 1 rfl) ?_
                          refine lv_iload_n C0.1 C0.2.1 dX5_move_143 rfl (lv_at hl 2 rfl) ?_
                          obtain ⟨tt, tt1, tt2, tt3⟩ := mem_idx pp4
                          have pnd := (hI.2.1 pp pm pp3).2.2.1
                          have hpk : pp ≠ k := by obtain ⟨p', y', q1, q2, q3, q4⟩ := hdp k nk hTk hk0; have := (nI_eq (a := pp) (b := p') (by omega) (by omega)).mp (pp2.symm.trans q2); intro hh; rw [← this, hh] at q4; omega
                          have huk : u ≠ k := by intro hh; rw [hh] at hwi; unfold wF at hwi; rw [if_pos rfl] at hwi; exact absurd hwi (by decide)
                          refine me_cVwv (n := 1) C0 hml hP hS (c_X5_detach l G B0 w32 o a F32 z32 hM T hT_32 k pp tt nk pm pm.2.2.2.2 hTk pp2 pp3 rfl tt1 tt2 tt3) ⟨kw_662, kw_35, kw_659, ⟨by decide, by decide, by decide +kernel⟩, ⟨rfl, rfl⟩, ⟨Nat.le_of_ble_eq_true rfl, Nat.le_of_ble_eq_true rfl⟩⟩ kw_661 kw_28 hM.1 rfl rfl hl.1 rfl (Nat.le_of_ble_eq_true rfl) ⟨Nat.le_of_ble_eq_true rfl, Nat.le_of_ble_eq_true rfl⟩ dX5_move_144 (fun w43 H locs hw43 hP hS => ?_)
                          obtain ⟨F43, z43, hM, hMF43, hzz43, hsF43, h1043, h9a43, h9b43⟩ := hw43
                          have hMF := hMF.tr hMF43
                          have sF43 := sF32.tr hsF43 (by decide)
                          have sZ43 := sZ32.tr ((fun q _ => congrFun hzz43 q) : SameZ _ _ []) (by decide)
                          have hTe_43 := hTe_32.sm hsF43 ((fun q _ => congrFun hzz43 q) : SameZ _ _ []) (by decide) (by decide)
                          have hH_43 := hH_32.sm hsF43 ((fun q _ => congrFun hzz43 q) : SameZ _ _ []) (by decide) (by decide)
                          have hX_43 := hX.sm hsF43 ((fun q _ => congrFun hzz43 q) : SameZ _ _ []) (by decide) (by decide)
                          have hTD := hT_32.det pp3 rfl pnd tt1 tt2 hsF43 h1043 h9a43 h9b43
                          have hdT : detT T k = opT T pp (rE (nI k)) := by unfold detT; rw [parN_s hTk pp2 pp1]
                          rw [← hdT] at hTD
                          have hT1k : detT T k k = some nk := by rw [hdT, opT_n (Ne.symm hpk)]; exact hTk
                          have hX60 := nmOK_fl hok
                          refine lv_aload_n C0.1 C0.2.1 dX5_move_147 rfl (lv_at hl 1 rfl) ?_
                          refine lv_iload_n C0.1 C0.2.1 dX5_move_148 rfl (lv_at hl 2 rfl) ?_
                          refine me_cVwv (n := 1) C0 hml hP hS (c_X5_setName l G B0 w43 o a F43 z43 hM k hk nk.2.2.1 hH_43 hok.1.2 (folds nk.2.2.1) hX_43 hX60) ⟨kw_638, kw_35, kw_635, ⟨by decide, by decide, by decide +kernel⟩, ⟨rfl, rfl⟩, ⟨Nat.le_of_ble_eq_true rfl, Nat.le_of_ble_eq_true rfl⟩⟩ kw_637 kw_25 hM.1 rfl rfl hl.1 rfl (Nat.le_of_ble_eq_true rfl) ⟨Nat.le_of_ble_eq_true rfl, Nat.le_of_ble_eq_true rfl⟩ dX5_move_149 (fun w44 H locs hw44 hP hS => ?_)
                          obtain ⟨F44, z44, hM, hMF44, hzz44, hsF44, h644, h844, h5a44, h5b44, h7a44, h7b44⟩ := hw44
                          have hMF := hMF.tr hMF44
                          have sF44 := sF43.tr hsF44 (by decide)
                          have sZ44 := sZ43.tr ((fun q _ => congrFun hzz44 q) : SameZ _ _ []) (by decide)
                          have hTe_44 := hTe_43.sm hsF44 ((fun q _ => congrFun hzz44 q) : SameZ _ _ []) (by decide) (by decide)
                          have hH_44 := hH_43.sm hsF44 ((fun q _ => congrFun hzz44 q) : SameZ _ _ []) (by decide) (by decide)
                          have hX_44 := hX_43.sm hsF44 ((fun q _ => congrFun hzz44 q) : SameZ _ _ []) (by decide) (by decide)
                          have hTN := hTD.nam hT1k hok.1.2 rfl hX60 hsF44 h644 h844 h5a44 h5b44 h7a44 h7b44
                          obtain ⟨n2, hn2, hn2l⟩ : ∃ n2, opT (detT T k) k (sN nk.2.2.1) u = some n2 ∧ n2.2.2.2.2.length < 40 := by
                            rw [opT_n huk, hdT]
                            exact ⟨nu, by rw [opT_n (Ne.symm d38)]; exact hTu, by omega⟩
                          refine lv_aload_n C0.1 C0.2.1 dX5_move_152 rfl (lv_at hl 1 rfl) ?_
                          refine lv_iload_n C0.1 C0.2.1 dX5_move_153 rfl (lv_at hl 2 rfl) ?_
                          refine lv_iload_n C0.1 C0.2.1 dX5_move_154 rfl (lv_at hl 3 rfl) ?_
                          refine me_cVwv (n := 2) C0 hml hP hS (c_X5_append l G B0 w44 o a F44 z44 hM k u n2.2.2.2.2.length hk hu hn2l (hTN.2 u n2 hn2).2.2.2.2.2.2.1) ⟨kw_642, kw_35, kw_639, ⟨by decide, by decide, by decide +kernel⟩, ⟨rfl, rfl⟩, ⟨Nat.le_of_ble_eq_true rfl, Nat.le_of_ble_eq_true rfl⟩⟩ kw_641 kw_26 hM.1 rfl rfl hl.1 rfl (Nat.le_of_ble_eq_true rfl) ⟨Nat.le_of_ble_eq_true rfl, Nat.le_of_ble_eq_true rfl⟩ dX5_move_155 (fun w45 H locs hw45 hP hS => ?_)
                          obtain ⟨F45, z45, hM, hMF45, hzz45, hsF45, h445, h945, h1045⟩ := hw45
                          have hMF := hMF.tr hMF45
                          have sF45 := sF44.tr hsF45 (by decide)
                          have sZ45 := sZ44.tr ((fun q _ => congrFun hzz45 q) : SameZ _ _ []) (by decide)
                          have hTe_45 := hTe_44.sm hsF45 ((fun q _ => congrFun hzz45 q) : SameZ _ _ []) (by decide) (by decide)
                          have hH_45 := hH_44.sm hsF45 ((fun q _ => congrFun hzz45 q) : SameZ _ _ []) (by decide) (by decide)
                          have hX_45 := hX_44.sm hsF45 ((fun q _ => congrFun hzz45 q) : SameZ _ _ []) (by decide) (by decide)
                          have hTA := hTN.app (opT_s hT1k) hn2 (Ne.symm huk) rfl hn2l hsF45 h445 h945 h1045
                          refine lv_iload_n C0.1 C0.2.1 dX5_move_158 rfl (lv_at hl 0 rfl) ?_
                          exact me_wiret _ C0.1 C0.2.1 B.returns B.notSynchronized hP hS (Nat.le_of_ble_eq_true rfl) (Nat.le_of_ble_eq_true rfl) (have hR : sMovR T tp (nI k) (nI u) = nI pp := (by unfold sMovR; rw [if_neg c4, if_neg hnk, if_neg hnu, hmv, if_neg (by rw [hnm]; decide), entsOf_n hu hTu, ← hr34, if_neg (fun q => q c35), nI_clamp (by omega), nI_clamp (by omega), if_neg (by rw [hwi]; decide), parOf_n hk hTk, pp2, if_neg (fun q => absurd q.2 (by omega))]); ⟨_, _, hM, hMF, ((((fun q _ => congrFun hzz45 q) : SameZ _ _ []) 13 (by decide)).trans ((((fun q _ => congrFun hzz44 q) : SameZ _ _ []) 13 (by decide)).trans ((((fun q _ => congrFun hzz43 q) : SameZ _ _ []) 13 (by decide)).trans ((hsZ32 13 (by decide)).trans (((SameZ.rf : SameZ _ _ []) 13 (by decide)).trans ((lZ29 13 (by decide)).trans ((hsZ3 13 (by decide)).trans hz1_13))))))), sF45, sZ45, hTe_45, hR.symm, by rw [sMovT_s hR hk hu pp1, hmv]; exact hTA⟩) dX5_move_159
                        · have d42 : nu.2.2.2.2.length = 40 := (nI_eq (a := nu.2.2.2.2.length) (b := 40) (by omega) (by omega)).mp c42
                          refine lv_bipush (v := (-4)) C0.1 C0.2.1 dX5_move_139 (by decide) ?_
                          exact me_wiret _ C0.1 C0.2.1 B.returns B.notSynchronized hP hS (Nat.le_of_ble_eq_true rfl) (Nat.le_of_ble_eq_true rfl) (have hR : sMovR T tp (nI k) (nI u) = (-4) := (by unfold sMovR; rw [if_neg c4, if_neg hnk, if_neg hnu, hmv, if_neg (by rw [hnm]; decide), entsOf_n hu hTu, ← hr34, if_neg (fun q => q c35), nI_clamp (by omega), nI_clamp (by omega), if_neg (by rw [hwi]; decide), parOf_n hk hTk, pp2, if_pos ⟨fun q => d38 ((nI_eq (by omega) (by omega)).mp q), by omega⟩]); ⟨_, _, hM, hMF, ((hsZ32 13 (by decide)).trans (((SameZ.rf : SameZ _ _ []) 13 (by decide)).trans ((lZ29 13 (by decide)).trans ((hsZ3 13 (by decide)).trans hz1_13)))), sF32, sZ32, hTe_32, hR.symm, by rw [sMovT_f hR (by decide)]; exact hT_32⟩) dX5_move_141
                    · rw [hwi] at hr36
                      subst hr36
                      refine lv_if_eq (tgt := 116) C0.1 C0.2.1 dX5_move_110 (by decide) (fun cx => absurd cx (by decide)) (fun cx => ?_)
                      refine lv_bipush (v := (-6)) C0.1 C0.2.1 dX5_move_113 (by decide) ?_
                      exact me_wiret _ C0.1 C0.2.1 B.returns B.notSynchronized hP hS (Nat.le_of_ble_eq_true rfl) (Nat.le_of_ble_eq_true rfl) (have hR : sMovR T tp (nI k) (nI u) = (-6) := (by unfold sMovR; rw [if_neg c4, if_neg hnk, if_neg hnu, hmv, if_neg (by rw [hnm]; decide), entsOf_n hu hTu, ← hr34, if_neg (fun q => q c35), nI_clamp (by omega), nI_clamp (by omega), if_pos hwi]); ⟨_, _, hM, hMF, ((hsZ32 13 (by decide)).trans (((SameZ.rf : SameZ _ _ []) 13 (by decide)).trans ((lZ29 13 (by decide)).trans ((hsZ3 13 (by decide)).trans hz1_13)))), sF32, sZ32, hTe_32, hR.symm, by rw [sMovT_f hR (by decide)]; exact hT_32⟩) dX5_move_115
                  · refine lv_bipush (v := (-3)) C0.1 C0.2.1 dX5_move_101 (by decide) ?_
                    exact me_wiret _ C0.1 C0.2.1 B.returns B.notSynchronized hP hS (Nat.le_of_ble_eq_true rfl) (Nat.le_of_ble_eq_true rfl) (have hR : sMovR T tp (nI k) (nI u) = (-3) := (by unfold sMovR; rw [if_neg c4, if_neg hnk, if_neg hnu, hmv, if_neg (by rw [hnm]; decide), entsOf_n hu hTu, ← hr34, if_pos c35]); ⟨_, _, hM, hMF, ((hsZ32 13 (by decide)).trans (((SameZ.rf : SameZ _ _ []) 13 (by decide)).trans ((lZ29 13 (by decide)).trans ((hsZ3 13 (by decide)).trans hz1_13)))), sF32, sZ32, hTe_32, hR.symm, by rw [sMovT_f hR (by decide)]; exact hT_32⟩) dX5_move_103
                · have hnm : nmI nk.2.2.1 = 0 := nmI_0 hno
                  refine lv_if_ne (tgt := 92) C0.1 C0.2.1 dX5_move_86 (by decide) (fun cx => absurd cx (by decide)) (fun cx => ?_)
                  refine lv_bipush (v := (-2)) C0.1 C0.2.1 dX5_move_89 (by decide) ?_
                  exact me_wiret _ C0.1 C0.2.1 B.returns B.notSynchronized hP hS (Nat.le_of_ble_eq_true rfl) (Nat.le_of_ble_eq_true rfl) (have hR : sMovR T tp (nI k) (nI u) = (-2) := (by unfold sMovR; rw [if_neg c4, if_neg hnk, if_neg hnu, hmv, if_pos hnm]); ⟨_, _, hM, hMF, ((hsZ32 13 (by decide)).trans (((SameZ.rf : SameZ _ _ []) 13 (by decide)).trans ((lZ29 13 (by decide)).trans ((hsZ3 13 (by decide)).trans hz1_13)))), sF32, sZ32, hTe_32, hR.symm, by rw [sMovT_f hR (by decide)]; exact hT_32⟩) dX5_move_91
              · have d30 : i < nk.2.2.1.length := Nat.not_le.mp (fun h => c30 (nI_le (a := nk.2.2.1.length) (b := i) h (by omega)))
                refine lv_aload_n C0.1 C0.2.1 dX5_move_59 rfl (lv_at hl 1 rfl) ?_
                refine md_get C0 hP hM 14 (by decide) kw_491 (v := .ref ((a 14))) rfl dX5_move_60 ?_
                refine lv_iload_n C0.1 C0.2.1 dX5_move_63 rfl (lv_at hl 0 rfl) ?_
                refine lv_aload_n C0.1 C0.2.1 dX5_move_64 rfl (lv_at hl 1 rfl) ?_
                refine md_get C0 hP hM 5 (by decide) kw_482 (v := .ref ((a 5))) rfl dX5_move_65 ?_
                refine lv_bipush (v := 60) C0.1 C0.2.1 dX5_move_68 (by decide) ?_
                refine lv_iload_n C0.1 C0.2.1 dX5_move_70 rfl (lv_at hl 2 rfl) ?_
                refine lv_imul C0.1 C0.2.1 dX5_move_71 ?_
                refine me_topi (y := nI (60 * k)) (pk_mul 60 k) ?_
                refine lv_iload_n C0.1 C0.2.1 dX5_move_72 rfl (lv_at hl 0 rfl) ?_
                refine lv_iadd C0.1 C0.2.1 dX5_move_73 ?_
                refine me_topi (y := nI ((60 * k) + i)) (nI_add (60 * k) i) ?_
                refine md_iald C0 hP hM 5 (by decide) (i := ((60 * k) + i)) (by show ((60 * k) + i) < 12000; omega) dX5_move_74 ?_
                refine md_iast C0 hP hS hM hMF 14 (by decide) (i := i) (by show i < 200; omega) dX5_move_75 (fun w48 F48 H locs hF48 hM hMF hP hS => ?_)
                refine lv_iinc (v := nI (i + 1)) (lv' := [(3, .int (nI (i + 1))), (0, .ref o), (1, .int (nI k)), (2, .int (nI u))]) C0.1 C0.2.1 dX5_move_76 hl (k := 0) rfl (nI_add i 1) (by decide) rfl (fun ls hl => ?_)
                refine lv_goto (tgt := 51) C0.1 C0.2.1 dX5_move_79 (by decide) ?_
                exact ih51 (i + 1) _ _ (by omega) hM hMF (hs1.wr hF48 (by decide)) (by rw [hF48, uF_s]; exact lt_s (fun q hq => by rw [upd_ne (by omega)]; exact hlo q hq) (by rw [upd_eq, hs1 5 (by decide)]; exact (hT_29.2 k nk hTk).2.2.2.2.1.2.2 i (by omega))) (by omega) _ _ _ hP hS (lv_sub hl [0, 1, 2, 3] rfl)
          exact loop51 (nk.2.2.1.length - 0 + 1) 0 _ _ (Nat.zero_le _) hM hMF SameF.rf (fun q hq => absurd hq (Nat.not_lt_zero q)) (Nat.lt_succ_self _) _ _ _ hP hS (lv_sub hl [0, 1, 2, 3] rfl)

theorem ltL_r (xs ys : List Int32) : ltL xs ys = 0 ∨ ltL xs ys = 1 := by unfold ltL; split; exact Or.inr rfl; exact Or.inl rfl

set_option maxHeartbeats 4000000 in
set_option maxRecDepth 100000 in
/-- sorted(d, k) -/
theorem c_X5_sorted (l : Launch) (G : me_G) (B0 : Nat) (w : Me) (o : Nat) (a : Nat → Nat) (F : Nat → Nat → Int32) (z : Nat → Int32) (hM : MD G B0 w o a F z) (T : Tre) (hT : RT F T) (hI : TI T) (d x : Int32) : CtWI l yX5_sorted (Cond.code yX5_sorted cX5_sorted 7 (some .int)) ({ frames := 2, cells := 0, slots := 0, locals := 42 }) G B0 w [.ref o, .int d, .int x] (fun r w' => ∃ (F' : Nat → Nat → Int32) (z' : Nat → Int32), MD G B0 w' o a F' z' ∧ MF w w' o a ∧ z' 13 = 0 ∧ F' = F ∧ SameZ z z' [13] ∧ r = sSort T d x) 0 0 := by
  refine Met.ofW (cc := cX5_sorted) (maxL := 7) (ret := (some .int)) (by decide) rfl ?_
  intro p e s m args below meth c s₁ B hml hv
  obtain ⟨rfl, hK, hP, hKq, hBs⟩ := hv
  have hts := fun w h => atoms_spec (ws := Cond.code yX5_sorted cX5_sorted 7 (some .int) :: tbG) B.pre w (List.mem_cons_of_mem _ h)
  have hown : s.vm.findClass RX5 = some m.cls := findClass_of_methodNamed B.named
  have C0 : Cx G B0 p s m _ c cX5_sorted RX5 := ⟨B.exec, B.bytes, hown, hts, hK, hKq, hBs⟩
  have hS : va_S (me_A B0) s.heap s.heap [] := va_S.rf
  have hl := lv_entry ([.ref o, .int d, .int x]) (n := 7) (Nat.le_of_ble_eq_true rfl)
  rw [lg_entry_eq]
  generalize (lg_sl ([.ref o, .int d, .int x]) ++ List.replicate (7 - (lg_sl ([.ref o, .int d, .int x])).length) Slot.unset).toArray = ls at hl ⊢
  have hl : lv_has ls 7 [(0, .ref o), (1, .int d), (2, .int x)] := hl
  have hMF : MF w w o a := MF.rf
  refine lv_aload_n C0.1 C0.2.1 dX5_sorted_0 rfl (lv_at hl 0 rfl) ?_
  refine lv_iconst (v := 0) C0.1 C0.2.1 dX5_sorted_1 (by decide) ?_
  refine md_put C0 hP hS hM hMF 13 (by decide) kw_490 rfl rfl rfl dX5_sorted_2 (fun w1 z1 H locs hz1 hM hMF hP hS => ?_)
  have hz1_13 : z1 13 = 0 := by rw [hz1, upd_eq]
  refine lv_aload_n C0.1 C0.2.1 dX5_sorted_5 rfl (lv_at hl 0 rfl) ?_
  refine lv_iload_n C0.1 C0.2.1 dX5_sorted_6 rfl (lv_at hl 1 rfl) ?_
  have lF2 : SameF F F [] := SameF.rf
  have lZ2 : SameZ z z1 [13] := (SameZ.rf.wr hz1 (by decide))
  have sF2 := (SameF.rf : SameF F F []).tr lF2 (by decide)
  have sZ2 := (SameZ.rf : SameZ z z [13]).tr lZ2 (by decide)
  have hT_2 := hT.sm lF2 (by decide)
  refine me_cVi (n := 1) C0 hml hP hS (c_X5_noDirectory l G B0 w1 o a F z1 hM T hT_2 d) ⟨kw_618, kw_35, kw_615, ⟨by decide, by decide, by decide +kernel⟩, ⟨rfl, rfl⟩, ⟨Nat.le_of_ble_eq_true rfl, Nat.le_of_ble_eq_true rfl⟩⟩ kw_617 kw_20 hM.1 rfl rfl hl.1 rfl (Nat.le_of_ble_eq_true rfl) ⟨Nat.le_of_ble_eq_true rfl, Nat.le_of_ble_eq_true rfl⟩ dX5_sorted_7 (fun r3 hr3 => ?_)
  rcases noD_r (T := T) d with hnnr3 | hnnr3
  · rw [hnnr3] at hr3
    subst hr3
    refine lv_if_eq (tgt := 16) C0.1 C0.2.1 dX5_sorted_10 (by decide) (fun cx => absurd cx (by decide)) (fun cx => ?_)
    refine lv_bipush (v := (-5)) C0.1 C0.2.1 dX5_sorted_13 (by decide) ?_
    exact me_wiret _ C0.1 C0.2.1 B.returns B.notSynchronized hP hS (Nat.le_of_ble_eq_true rfl) (Nat.le_of_ble_eq_true rfl) (⟨_, _, hM, hMF, hz1_13, rfl, SameZ.rf.wr hz1 (by decide), by unfold sSort; rw [if_pos hnnr3]⟩) dX5_sorted_15
  · rw [hnnr3] at hr3
    subst hr3
    obtain ⟨k, nd, hk, rfl, hTk, hdirk⟩ := noD_s (T := T) (v := d) (by rw [hnnr3]; decide)
    have hnk : ¬ noD T (nI k) = 1 := by rw [hnnr3]; decide
    have hNk := (hT_2.2 k nd hTk).2
    have hEk := hNk.2.2.2.2.2.2.1
    refine lv_if_eq (tgt := 16) C0.1 C0.2.1 dX5_sorted_10 (by decide) (fun cx => ?_) (fun cx => absurd cx (by decide))
    refine lv_iconst (v := 0) C0.1 C0.2.1 dX5_sorted_16 (by decide) ?_
    refine lv_istore_n (lv' := [(3, .int 0), (0, .ref o), (1, .int (nI k)), (2, .int x)]) C0.1 C0.2.1 dX5_sorted_17 rfl hl (by decide) rfl (fun ls hl => ?_)
    obtain ⟨E, hEd⟩ : ∃ E, E = nd.2.2.2.2 := ⟨_, rfl⟩
    have hEO := hI.ent k nd hTk
    obtain ⟨-, -, -, -, -, hn10, hn40, hn9⟩ := hNk
    rw [← hEd] at hn10 hn40 hn9 hEO
    have loop18 : ∀ (n : Nat) (i : Nat), (i ≤ E.length) → (srtE T E x E = srtE T E x (E.drop i)) → (E.length - i) < n → ∀ (H : Heap) (locs : List Loc), ∀ (ls : Array Slot), me_P G.1 w1 H → va_S (me_A B0) s.heap H locs → lv_has ls 7 [(3, .int (nI i)), (0, .ref o), (1, .int (nI k)), (2, .int x)] → W p l e ({ frames := 2, cells := 0, slots := 0, locals := 42 }) s m ([.ref o, .int (nI k), .int x] : List Value).toArray below meth c H locs 0 0 (MQ below (va_Qi (fun r w' => ∃ (F' : Nat → Nat → Int32) (z' : Nat → Int32), MD G B0 w' o a F' z' ∧ MF w w' o a ∧ z' 13 = 0 ∧ F' = F ∧ SameZ z z' [13] ∧ r = sSort T (nI k) x) (me_W G) (me_A B0)) ([.ref o, .int (nI k), .int x] : List Value).toArray s 0 0 (me_A B0)) (F0 m 18 ls []) := by
      intro n
      induction n with
      | zero => intro i _ _ hz; exact absurd hz (Nat.not_lt_zero _)
      | succ n ih18 =>
        intro i hil hel hn18 H locs ls hP hS hl
        refine lv_iload_n C0.1 C0.2.1 dX5_sorted_18 rfl (lv_at hl 0 rfl) ?_
        refine lv_aload_n C0.1 C0.2.1 dX5_sorted_19 rfl (lv_at hl 1 rfl) ?_
        refine md_get C0 hP hM 10 (by decide) kw_487 (v := .ref ((a 10))) rfl dX5_sorted_20 ?_
        refine lv_iload_n C0.1 C0.2.1 dX5_sorted_23 rfl (lv_at hl 2 rfl) ?_
        refine md_iald C0 hP hM 10 (by decide) (i := k) (by show k < 200; omega) dX5_sorted_24 ?_
        refine me_topi (y := nI E.length) hn10 ?_
        refine lv_icmp_ge (tgt := 110) C0.1 C0.2.1 dX5_sorted_25 (by decide) (fun c6 => ?_) (fun c6 => ?_)
        · have d6 : E.length ≤ i := (nI_leI (a := E.length) (b := i) (by omega) (by omega)).mp c6
          refine lv_iconst (v := (-1)) C0.1 C0.2.1 dX5_sorted_110 (by decide) ?_
          exact me_wiret _ C0.1 C0.2.1 B.returns B.notSynchronized hP hS (Nat.le_of_ble_eq_true rfl) (Nat.le_of_ble_eq_true rfl) (⟨_, _, hM, hMF, hz1_13, rfl, SameZ.rf.wr hz1 (by decide), by unfold sSort; rw [if_neg hnk, entsOf_n hk hTk, ← hEd, hel, show E.drop i = [] from List.drop_eq_nil_of_le (by omega)]; rfl⟩) dX5_sorted_111
        · have d6 : i < E.length := Nat.not_le.mp (fun h => c6 (nI_le (a := E.length) (b := i) h (by omega)))
          refine lv_aload_n C0.1 C0.2.1 dX5_sorted_28 rfl (lv_at hl 1 rfl) ?_
          refine md_get C0 hP hM 9 (by decide) kw_486 (v := .ref ((a 9))) rfl dX5_sorted_29 ?_
          refine lv_bipush (v := 40) C0.1 C0.2.1 dX5_sorted_32 (by decide) ?_
          refine lv_iload_n C0.1 C0.2.1 dX5_sorted_34 rfl (lv_at hl 2 rfl) ?_
          refine lv_imul C0.1 C0.2.1 dX5_sorted_35 ?_
          refine me_topi (y := nI (40 * k)) (pk_mul 40 k) ?_
          refine lv_iload_n C0.1 C0.2.1 dX5_sorted_36 rfl (lv_at hl 0 rfl) ?_
          refine lv_iadd C0.1 C0.2.1 dX5_sorted_37 ?_
          refine me_topi (y := nI ((40 * k) + i)) (nI_add (40 * k) i) ?_
          refine md_iald C0 hP hM 9 (by decide) (i := ((40 * k) + i)) (by show ((40 * k) + i) < 8000; omega) dX5_sorted_38 ?_
          obtain ⟨j, mj, hj200, hj, hTj⟩ := hEO i (by omega)
          refine me_topi (y := nI j) ((hn9 i (by omega)).trans hj) ?_
          refine lv_istore (lv' := [(4, .int (nI j)), (3, .int (nI i)), (0, .ref o), (1, .int (nI k)), (2, .int x)]) C0.1 C0.2.1 dX5_sorted_39 hl (by decide) rfl (fun ls hl => ?_)
          refine lv_iconst (v := 0) C0.1 C0.2.1 dX5_sorted_41 (by decide) ?_
          refine lv_istore (lv' := [(5, .int 0), (4, .int (nI j)), (3, .int (nI i)), (0, .ref o), (1, .int (nI k)), (2, .int x)]) C0.1 C0.2.1 dX5_sorted_42 hl (by decide) rfl (fun ls hl => ?_)
          refine lv_iconst (v := 0) C0.1 C0.2.1 dX5_sorted_44 (by decide) ?_
          refine lv_istore (lv' := [(6, .int 0), (5, .int 0), (4, .int (nI j)), (3, .int (nI i)), (0, .ref o), (1, .int (nI k)), (2, .int x)]) C0.1 C0.2.1 dX5_sorted_45 hl (by decide) rfl (fun ls hl => ?_)
          have loop47 : ∀ (n : Nat) (q c0 : Nat), (q ≤ E.length) → (c0 + rankE T mj.2.2.2.1 (E.drop q) = rankE T mj.2.2.2.1 E) → (c0 ≤ q) → (E.length - q) < n → ∀ (H : Heap) (locs : List Loc), ∀ (ls : Array Slot), me_P G.1 w1 H → va_S (me_A B0) s.heap H locs → lv_has ls 7 [(6, .int (nI q)), (5, .int (nI c0)), (4, .int (nI j)), (3, .int (nI i)), (0, .ref o), (1, .int (nI k)), (2, .int x)] → W p l e ({ frames := 2, cells := 0, slots := 0, locals := 42 }) s m ([.ref o, .int (nI k), .int x] : List Value).toArray below meth c H locs 0 0 (MQ below (va_Qi (fun r w' => ∃ (F' : Nat → Nat → Int32) (z' : Nat → Int32), MD G B0 w' o a F' z' ∧ MF w w' o a ∧ z' 13 = 0 ∧ F' = F ∧ SameZ z z' [13] ∧ r = sSort T (nI k) x) (me_W G) (me_A B0)) ([.ref o, .int (nI k), .int x] : List Value).toArray s 0 0 (me_A B0)) (F0 m 47 ls []) := by
            intro n
            induction n with
            | zero => intro q c0 _ _ _ hz; exact absurd hz (Nat.not_lt_zero _)
            | succ n ih47 =>
              intro q c0 hq hc0 hcq hn47 H locs ls hP hS hl
              refine lv_iload C0.1 C0.2.1 dX5_sorted_47 (lv_at hl 0 rfl) ?_
              refine lv_aload_n C0.1 C0.2.1 dX5_sorted_49 rfl (lv_at hl 4 rfl) ?_
              refine md_get C0 hP hM 10 (by decide) kw_487 (v := .ref ((a 10))) rfl dX5_sorted_50 ?_
              refine lv_iload_n C0.1 C0.2.1 dX5_sorted_53 rfl (lv_at hl 5 rfl) ?_
              refine md_iald C0 hP hM 10 (by decide) (i := k) (by show k < 200; omega) dX5_sorted_54 ?_
              refine me_topi (y := nI E.length) hn10 ?_
              refine lv_icmp_ge (tgt := 95) C0.1 C0.2.1 dX5_sorted_55 (by decide) (fun c7 => ?_) (fun c7 => ?_)
              · have d7 : E.length ≤ q := (nI_leI (a := E.length) (b := q) (by omega) (by omega)).mp c7
                have hcr : c0 = rankE T mj.2.2.2.1 E := by rw [show E.drop q = [] from List.drop_eq_nil_of_le (by omega)] at hc0; exact hc0
                refine lv_iload C0.1 C0.2.1 dX5_sorted_95 (lv_at hl 1 rfl) ?_
                refine lv_iload_n C0.1 C0.2.1 dX5_sorted_97 rfl (lv_at hl 6 rfl) ?_
                refine lv_icmp_ne (tgt := 104) C0.1 C0.2.1 dX5_sorted_98 (by decide) (fun c8 => ?_) (fun c8 => ?_)
                · refine lv_iinc (v := nI (i + 1)) (lv' := [(3, .int (nI (i + 1))), (6, .int (nI q)), (5, .int (nI c0)), (4, .int (nI j)), (0, .ref o), (1, .int (nI k)), (2, .int x)]) C0.1 C0.2.1 dX5_sorted_104 hl (k := 3) rfl (nI_add i 1) (by decide) rfl (fun ls hl => ?_)
                  refine lv_goto (tgt := 18) C0.1 C0.2.1 dX5_sorted_107 (by decide) ?_
                  exact ih18 (i + 1) (by omega) (by rw [hel, drop_c (by omega), hj, srtE, folOf_n (by omega) hTj, ← hcr, if_neg c8]) (by omega) _ _ _ hP hS (lv_sub hl [0, 4, 5, 6] rfl)
                · refine lv_iload C0.1 C0.2.1 dX5_sorted_101 (lv_at hl 2 rfl) ?_
                  exact me_wiret _ C0.1 C0.2.1 B.returns B.notSynchronized hP hS (Nat.le_of_ble_eq_true rfl) (Nat.le_of_ble_eq_true rfl) (⟨_, _, hM, hMF, hz1_13, rfl, SameZ.rf.wr hz1 (by decide), by unfold sSort; rw [if_neg hnk, entsOf_n hk hTk, ← hEd, hel, drop_c (by omega), hj, srtE, folOf_n (by omega) hTj, ← hcr, if_pos c8]⟩) dX5_sorted_103
              · have d7 : q < E.length := Nat.not_le.mp (fun h => c7 (nI_le (a := E.length) (b := q) h (by omega)))
                refine lv_iload C0.1 C0.2.1 dX5_sorted_58 (lv_at hl 1 rfl) ?_
                refine lv_aload_n C0.1 C0.2.1 dX5_sorted_60 rfl (lv_at hl 4 rfl) ?_
                refine lv_aload_n C0.1 C0.2.1 dX5_sorted_61 rfl (lv_at hl 4 rfl) ?_
                refine md_get C0 hP hM 9 (by decide) kw_486 (v := .ref ((a 9))) rfl dX5_sorted_62 ?_
                refine lv_bipush (v := 40) C0.1 C0.2.1 dX5_sorted_65 (by decide) ?_
                refine lv_iload_n C0.1 C0.2.1 dX5_sorted_67 rfl (lv_at hl 5 rfl) ?_
                refine lv_imul C0.1 C0.2.1 dX5_sorted_68 ?_
                refine me_topi (y := nI (40 * k)) (pk_mul 40 k) ?_
                refine lv_iload C0.1 C0.2.1 dX5_sorted_69 (lv_at hl 0 rfl) ?_
                refine lv_iadd C0.1 C0.2.1 dX5_sorted_71 ?_
                refine me_topi (y := nI ((40 * k) + q)) (nI_add (40 * k) q) ?_
                refine md_iald C0 hP hM 9 (by decide) (i := ((40 * k) + q)) (by show ((40 * k) + q) < 8000; omega) dX5_sorted_72 ?_
                obtain ⟨j2, mj2, hj2200, hj2, hTj2⟩ := hEO q (by omega)
                refine me_topi (y := nI j2) ((hn9 q (by omega)).trans hj2) ?_
                refine lv_iload C0.1 C0.2.1 dX5_sorted_73 (lv_at hl 2 rfl) ?_
                refine me_cVi (n := 2) C0 hml hP hS (c_X5_isBefore l G B0 w1 o a F z1 hM T hT_2 j2 j mj2 mj hTj2 hTj) ⟨kw_682, kw_35, kw_679, ⟨by decide, by decide, by decide +kernel⟩, ⟨rfl, rfl⟩, ⟨Nat.le_of_ble_eq_true rfl, Nat.le_of_ble_eq_true rfl⟩⟩ kw_681 kw_29 hM.1 rfl rfl hl.1 rfl (Nat.le_of_ble_eq_true rfl) ⟨Nat.le_of_ble_eq_true rfl, Nat.le_of_ble_eq_true rfl⟩ dX5_sorted_75 (fun r9 hr9 => ?_)
                refine lv_if_eq (tgt := 85) C0.1 C0.2.1 dX5_sorted_78 (by decide) (fun c10 => ?_) (fun c10 => ?_)
                · refine lv_iconst (v := 0) C0.1 C0.2.1 dX5_sorted_85 (by decide) ?_
                  refine lv_iadd C0.1 C0.2.1 dX5_sorted_86 ?_
                  refine me_topi (y := nI (c0 + 0)) (nI_add c0 0) ?_
                  refine lv_istore (lv' := [(5, .int (nI (c0 + 0))), (6, .int (nI q)), (4, .int (nI j)), (3, .int (nI i)), (0, .ref o), (1, .int (nI k)), (2, .int x)]) C0.1 C0.2.1 dX5_sorted_87 hl (by decide) rfl (fun ls hl => ?_)
                  refine lv_iinc (v := nI (q + 1)) (lv' := [(6, .int (nI (q + 1))), (5, .int (nI (c0 + 0))), (4, .int (nI j)), (3, .int (nI i)), (0, .ref o), (1, .int (nI k)), (2, .int x)]) C0.1 C0.2.1 dX5_sorted_89 hl (k := 1) rfl (nI_add q 1) (by decide) rfl (fun ls hl => ?_)
                  refine lv_goto (tgt := 47) C0.1 C0.2.1 dX5_sorted_92 (by decide) ?_
                  exact ih47 (q + 1) _ (by omega) (by rw [← hc0, drop_c (show q < E.length by omega), hj2, rankE, folOf_n (by omega) hTj2, if_neg (show ¬ ltL mj2.2.2.2.1 mj.2.2.2.1 = 1 by rw [← hr9, c10]; decide)]; omega) (by omega) (by omega) _ _ _ hP hS (lv_sub hl [0, 1, 2, 3, 4, 5, 6] rfl)
                · refine lv_iconst (v := 1) C0.1 C0.2.1 dX5_sorted_81 (by decide) ?_
                  refine lv_goto (tgt := 86) C0.1 C0.2.1 dX5_sorted_82 (by decide) ?_
                  refine lv_iadd C0.1 C0.2.1 dX5_sorted_86 ?_
                  refine me_topi (y := nI (c0 + 1)) (nI_add c0 1) ?_
                  refine lv_istore (lv' := [(5, .int (nI (c0 + 1))), (6, .int (nI q)), (4, .int (nI j)), (3, .int (nI i)), (0, .ref o), (1, .int (nI k)), (2, .int x)]) C0.1 C0.2.1 dX5_sorted_87 hl (by decide) rfl (fun ls hl => ?_)
                  refine lv_iinc (v := nI (q + 1)) (lv' := [(6, .int (nI (q + 1))), (5, .int (nI (c0 + 1))), (4, .int (nI j)), (3, .int (nI i)), (0, .ref o), (1, .int (nI k)), (2, .int x)]) C0.1 C0.2.1 dX5_sorted_89 hl (k := 1) rfl (nI_add q 1) (by decide) rfl (fun ls hl => ?_)
                  refine lv_goto (tgt := 47) C0.1 C0.2.1 dX5_sorted_92 (by decide) ?_
                  exact ih47 (q + 1) _ (by omega) (by rw [← hc0, drop_c (show q < E.length by omega), hj2, rankE, folOf_n (by omega) hTj2, if_pos (show ltL mj2.2.2.2.1 mj.2.2.2.1 = 1 by rw [← hr9]; rcases ltL_r mj2.2.2.2.1 mj.2.2.2.1 with q | q; exact absurd (hr9.trans q) c10; exact hr9.trans q)]; omega) (by omega) (by omega) _ _ _ hP hS (lv_sub hl [0, 1, 2, 3, 4, 5, 6] rfl)
          exact loop47 (E.length - 0 + 1) 0 0 (Nat.zero_le _) (by rw [List.drop_zero, Nat.zero_add]) (Nat.zero_le _) (Nat.lt_succ_self _) _ _ _ hP hS (lv_sub hl [0, 1, 2, 3, 4, 5, 6] rfl)
    exact loop18 (E.length - 0 + 1) 0 (Nat.zero_le _) rfl (Nat.lt_succ_self _) _ _ _ hP hS (lv_sub hl [0, 1, 2, 3] rfl)
