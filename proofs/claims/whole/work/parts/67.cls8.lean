set_option maxHeartbeats 4000000 in
set_option maxRecDepth 100000 in
/-- moveFromTape(number, directory) -/
theorem c_X4_moveFromTape (l : Launch) (G : me_G) (B0 : Nat) (w : Me) (D : Nat → Prop) (ad : Nat → Nat → Nat) (ex : Nat → Bool) (R : Nat → Nat → List Int32) (N : Nat → Nat → Int32) (cnt : Int32) (hFN : FN G B0 D w ad ex R N cnt) (T : Tre) (Bn : Nat → List Int32) (hCT : CT ex R N T Bn) (hI : TI T) (hSB : SB T Bn) (tp : List Int32) (htp : R 0 1 = tp) (ho : Oct tp) (v d : Int32) : CtWI l yX4_moveFromTape (Cond.code yX4_moveFromTape cX4_moveFromTape 8 (some .int)) ({ frames := 8, cells := 0, slots := 0, locals := 179 }) G B0 w [.ref (ad 0 0), .int v, .int d] (fun r w' => ∃ (R' : Nat → Nat → List Int32) (N' : Nat → Nat → Int32), FN G B0 D w' ad ex R' N' cnt ∧ FDr D w w' ∧ R' 0 1 = tp ∧ R' 0 3 = R 0 3 ∧ r = sMovR T tp v d ∧ CT ex R' N' (sMovT T tp v d) (sMovB T Bn tp v d)) 0 0 := by
  refine Met.ofW (cc := cX4_moveFromTape) (maxL := 8) (ret := (some .int)) (by decide) rfl ?_
  intro p e s m args below meth c s₁ B hml hv
  obtain ⟨rfl, hK, hP, hKq, hBs⟩ := hv
  have hts := fun w h => atoms_spec (ws := Cond.code yX4_moveFromTape cX4_moveFromTape 8 (some .int) :: tbG) B.pre w (List.mem_cons_of_mem _ h)
  have hown : s.vm.findClass RX4 = some m.cls := findClass_of_methodNamed B.named
  have C0 : Cx G B0 p s m _ c cX4_moveFromTape RX4 := ⟨B.exec, B.bytes, hown, hts, hK, hKq, hBs⟩
  have hS : va_S (me_A B0) s.heap s.heap [] := va_S.rf
  have hl := lv_entry ([.ref (ad 0 0), .int v, .int d]) (n := 8) (Nat.le_of_ble_eq_true rfl)
  rw [lg_entry_eq]
  generalize (lg_sl ([.ref (ad 0 0), .int v, .int d]) ++ List.replicate (8 - (lg_sl ([.ref (ad 0 0), .int v, .int d])).length) Slot.unset).toArray = ls at hl ⊢
  have hl : lv_has ls 8 [(0, .ref (ad 0 0)), (1, .int v), (2, .int d)] := hl
  have hFD : FDr D w w := FDr.rf
  have htl : tp.length ≤ 200 := (hFN.rw0 0 1 hFN.2.2.2.2.1 (Or.inl rfl) htp).2.1
  refine lv_aload_n C0.1 C0.2.1 dX4_moveFromTape_0 rfl (lv_at hl 0 rfl) ?_
  refine lv_iload_n C0.1 C0.2.1 dX4_moveFromTape_1 rfl (lv_at hl 1 rfl) ?_
  refine me_cVq (n := 1) C0 hml hP hS (c_X4_nodeAt l G B0 w D ad ex R N cnt hFN T Bn hCT v) ⟨kw_272, kw_31, kw_269, ⟨by decide, by decide, by decide +kernel⟩, ⟨rfl, rfl⟩, ⟨Nat.le_of_ble_eq_true rfl, Nat.le_of_ble_eq_true rfl⟩⟩ kw_271 kw_2 hFN.1 rfl rfl hl.1 rfl (Nat.le_of_ble_eq_true rfl) ⟨Nat.le_of_ble_eq_true rfl, Nat.le_of_ble_eq_true rfl⟩ dX4_moveFromTape_2 (fun r1 hr1 => ?_)
  rcases hr1 with ⟨hnok, rfl⟩ | ⟨k, nk, hk, rfl, hTk, rfl⟩
  · refine W.eq (g2 := F0 m 5 ls [.null]) rfl ?_
    refine lv_astore_nN (lv' := [(3, .null), (0, .ref (ad 0 0)), (1, .int v), (2, .int d)]) C0.1 C0.2.1 dX4_moveFromTape_5 rfl hl (by decide) rfl (fun ls hl => ?_)
    refine lv_aload_n C0.1 C0.2.1 dX4_moveFromTape_6 rfl (lv_at hl 1 rfl) ?_
    refine lv_iload_n C0.1 C0.2.1 dX4_moveFromTape_7 rfl (lv_at hl 3 rfl) ?_
    refine me_cVq (n := 1) C0 hml hP hS (c_X4_directoryAt l G B0 w D ad ex R N cnt hFN T Bn hCT d) ⟨kw_268, kw_31, kw_265, ⟨by decide, by decide, by decide +kernel⟩, ⟨rfl, rfl⟩, ⟨Nat.le_of_ble_eq_true rfl, Nat.le_of_ble_eq_true rfl⟩⟩ kw_267 kw_1 hFN.1 rfl rfl hl.1 rfl (Nat.le_of_ble_eq_true rfl) ⟨Nat.le_of_ble_eq_true rfl, Nat.le_of_ble_eq_true rfl⟩ dX4_moveFromTape_8 (fun r2 hr2 => ?_)
    rcases hr2 with ⟨hnou, rfl⟩ | ⟨u, nu, hu, rfl, hTu, hdiru, hnu, rfl⟩
    · refine W.eq (g2 := F0 m 11 ls [.null]) rfl ?_
      refine lv_astoreN (lv' := [(4, .null), (3, .null), (0, .ref (ad 0 0)), (1, .int v), (2, .int d)]) C0.1 C0.2.1 dX4_moveFromTape_11 hl (by decide) rfl (fun ls hl => ?_)
      refine lv_aload_nN C0.1 C0.2.1 dX4_moveFromTape_13 rfl (lv_at hl 1 rfl) ?_
      refine lv_ifnullN (tgt := 26) C0.1 C0.2.1 dX4_moveFromTape_14 (by decide) ?_
      refine lv_bipush (v := (-5)) C0.1 C0.2.1 dX4_moveFromTape_26 (by decide) ?_
      exact me_wiret _ C0.1 C0.2.1 B.returns B.notSynchronized hP hS (Nat.le_of_ble_eq_true rfl) (Nat.le_of_ble_eq_true rfl) (have hR : sMovR T tp v d = (-5) := (by unfold sMovR; split; rfl; rw [if_pos (noN_at hnok)]); ⟨_, _, hFN, hFD, htp, (Eq.refl (R 0 3)), hR.symm, by rw [sMovT_f hR (by decide), sMovB_f hR (by decide)]; exact hCT⟩) dX4_moveFromTape_28
    · obtain ⟨hu200, hxu, hnu0, hnu1, hnu2, hru1, hru3, hru5, hru7⟩ := hCT.2 u nu hTu
      refine W.eq (g2 := F0 m 11 ls [.ref (ad (u + 1) 0)]) rfl ?_
      refine lv_astore (lv' := [(4, .ref (ad (u + 1) 0)), (3, .null), (0, .ref (ad 0 0)), (1, .int v), (2, .int (nI u))]) C0.1 C0.2.1 dX4_moveFromTape_11 hl (by decide) rfl (fun ls hl => ?_)
      refine lv_aload_nN C0.1 C0.2.1 dX4_moveFromTape_13 rfl (lv_at hl 1 rfl) ?_
      refine lv_ifnullN (tgt := 26) C0.1 C0.2.1 dX4_moveFromTape_14 (by decide) ?_
      refine lv_bipush (v := (-5)) C0.1 C0.2.1 dX4_moveFromTape_26 (by decide) ?_
      exact me_wiret _ C0.1 C0.2.1 B.returns B.notSynchronized hP hS (Nat.le_of_ble_eq_true rfl) (Nat.le_of_ble_eq_true rfl) (have hR : sMovR T tp v (nI u) = (-5) := (by unfold sMovR; split; rfl; rw [if_pos (noN_at hnok)]); ⟨_, _, hFN, hFD, htp, (Eq.refl (R 0 3)), hR.symm, by rw [sMovT_f hR (by decide), sMovB_f hR (by decide)]; exact hCT⟩) dX4_moveFromTape_28
  · obtain ⟨hk200, hxk, hnk0, hnk1, hnk2, hrk1, hrk3, hrk5, hrk7⟩ := hCT.2 k nk hTk
    refine W.eq (g2 := F0 m 5 ls [.ref (ad (k + 1) 0)]) rfl ?_
    refine lv_astore_n (lv' := [(3, .ref (ad (k + 1) 0)), (0, .ref (ad 0 0)), (1, .int (nI k)), (2, .int d)]) C0.1 C0.2.1 dX4_moveFromTape_5 rfl hl (by decide) rfl (fun ls hl => ?_)
    refine lv_aload_n C0.1 C0.2.1 dX4_moveFromTape_6 rfl (lv_at hl 1 rfl) ?_
    refine lv_iload_n C0.1 C0.2.1 dX4_moveFromTape_7 rfl (lv_at hl 3 rfl) ?_
    refine me_cVq (n := 1) C0 hml hP hS (c_X4_directoryAt l G B0 w D ad ex R N cnt hFN T Bn hCT d) ⟨kw_268, kw_31, kw_265, ⟨by decide, by decide, by decide +kernel⟩, ⟨rfl, rfl⟩, ⟨Nat.le_of_ble_eq_true rfl, Nat.le_of_ble_eq_true rfl⟩⟩ kw_267 kw_1 hFN.1 rfl rfl hl.1 rfl (Nat.le_of_ble_eq_true rfl) ⟨Nat.le_of_ble_eq_true rfl, Nat.le_of_ble_eq_true rfl⟩ dX4_moveFromTape_8 (fun r3 hr3 => ?_)
    rcases hr3 with ⟨hnou, rfl⟩ | ⟨u, nu, hu, rfl, hTu, hdiru, hnu, rfl⟩
    · refine W.eq (g2 := F0 m 11 ls [.null]) rfl ?_
      refine lv_astoreN (lv' := [(4, .null), (3, .ref (ad (k + 1) 0)), (0, .ref (ad 0 0)), (1, .int (nI k)), (2, .int d)]) C0.1 C0.2.1 dX4_moveFromTape_11 hl (by decide) rfl (fun ls hl => ?_)
      refine lv_aload_n C0.1 C0.2.1 dX4_moveFromTape_13 rfl (lv_at hl 1 rfl) ?_
      refine lv_ifnull C0.1 C0.2.1 dX4_moveFromTape_14 ?_
      refine lv_iload_n C0.1 C0.2.1 dX4_moveFromTape_17 rfl (lv_at hl 3 rfl) ?_
      refine lv_if_eq (tgt := 26) C0.1 C0.2.1 dX4_moveFromTape_18 (by decide) (fun c4 => ?_) (fun c4 => ?_)
      · have d4 : k = 0 := (nI_eq (a := k) (b := 0) (by omega) (by omega)).mp c4
        refine lv_bipush (v := (-5)) C0.1 C0.2.1 dX4_moveFromTape_26 (by decide) ?_
        exact me_wiret _ C0.1 C0.2.1 B.returns B.notSynchronized hP hS (Nat.le_of_ble_eq_true rfl) (Nat.le_of_ble_eq_true rfl) (have hR : sMovR T tp (nI k) d = (-5) := (by unfold sMovR; rw [if_pos (show nI k = 0 by rw [show k = 0 by omega]; rfl)]); ⟨_, _, hFN, hFD, htp, (Eq.refl (R 0 3)), hR.symm, by rw [sMovT_f hR (by decide), sMovB_f hR (by decide)]; exact hCT⟩) dX4_moveFromTape_28
      · have d4 : k ≠ 0 := fun h => c4 (congrArg nI h)
        refine lv_aloadN C0.1 C0.2.1 dX4_moveFromTape_21 (lv_at hl 0 rfl) ?_
        refine lv_ifnonnullN C0.1 C0.2.1 dX4_moveFromTape_23 ?_
        refine lv_bipush (v := (-5)) C0.1 C0.2.1 dX4_moveFromTape_26 (by decide) ?_
        exact me_wiret _ C0.1 C0.2.1 B.returns B.notSynchronized hP hS (Nat.le_of_ble_eq_true rfl) (Nat.le_of_ble_eq_true rfl) (have hR : sMovR T tp (nI k) d = (-5) := (by unfold sMovR; rw [if_neg (show ¬ nI k = 0 from fun q => absurd ((nI_eq (a := k) (b := 0) (by omega) (by omega)).mp q) (by omega)), if_neg (noN_at0 hk hTk), if_pos hnou]); ⟨_, _, hFN, hFD, htp, (Eq.refl (R 0 3)), hR.symm, by rw [sMovT_f hR (by decide), sMovB_f hR (by decide)]; exact hCT⟩) dX4_moveFromTape_28
    · obtain ⟨hu200, hxu, hnu0, hnu1, hnu2, hru1, hru3, hru5, hru7⟩ := hCT.2 u nu hTu
      refine W.eq (g2 := F0 m 11 ls [.ref (ad (u + 1) 0)]) rfl ?_
      refine lv_astore (lv' := [(4, .ref (ad (u + 1) 0)), (3, .ref (ad (k + 1) 0)), (0, .ref (ad 0 0)), (1, .int (nI k)), (2, .int (nI u))]) C0.1 C0.2.1 dX4_moveFromTape_11 hl (by decide) rfl (fun ls hl => ?_)
      refine lv_aload_n C0.1 C0.2.1 dX4_moveFromTape_13 rfl (lv_at hl 1 rfl) ?_
      refine lv_ifnull C0.1 C0.2.1 dX4_moveFromTape_14 ?_
      refine lv_iload_n C0.1 C0.2.1 dX4_moveFromTape_17 rfl (lv_at hl 3 rfl) ?_
      refine lv_if_eq (tgt := 26) C0.1 C0.2.1 dX4_moveFromTape_18 (by decide) (fun c5 => ?_) (fun c5 => ?_)
      · have d5 : k = 0 := (nI_eq (a := k) (b := 0) (by omega) (by omega)).mp c5
        refine lv_bipush (v := (-5)) C0.1 C0.2.1 dX4_moveFromTape_26 (by decide) ?_
        exact me_wiret _ C0.1 C0.2.1 B.returns B.notSynchronized hP hS (Nat.le_of_ble_eq_true rfl) (Nat.le_of_ble_eq_true rfl) (have hR : sMovR T tp (nI k) (nI u) = (-5) := (by unfold sMovR; rw [if_pos (show nI k = 0 by rw [show k = 0 by omega]; rfl)]); ⟨_, _, hFN, hFD, htp, (Eq.refl (R 0 3)), hR.symm, by rw [sMovT_f hR (by decide), sMovB_f hR (by decide)]; exact hCT⟩) dX4_moveFromTape_28
      · have d5 : k ≠ 0 := fun h => c5 (congrArg nI h)
        refine lv_aload C0.1 C0.2.1 dX4_moveFromTape_21 (lv_at hl 0 rfl) ?_
        refine lv_ifnonnull (tgt := 29) C0.1 C0.2.1 dX4_moveFromTape_23 (by decide) ?_
        obtain ⟨⟨hvn, hvo, hvf⟩, pp, pm, pp1, pp2, pp3, pp4⟩ := hI.2.2.1 k nk hTk d5
        have hk0 : k ≠ 0 := d5
        refine lv_aload_n C0.1 C0.2.1 dX4_moveFromTape_29 rfl (lv_at hl 2 rfl) ?_
        refine me_get C0 hP hFN.1 rfl inX4 0 (by decide) kw_118 rfl dX4_moveFromTape_30 ?_
        refine me_cVi (n := 0) C0 hml hP hS (c_X2_size l G B0 w (ad 0 1) (ad 0 (1 + 1)) (capR 0 1) tp (hFN.rw0 0 1 hFN.2.2.2.2.1 (Or.inl rfl) htp)) ⟨kw_141, kw_32, kw_138, ⟨by decide, by decide, by decide +kernel⟩, ⟨rfl, rfl⟩, ⟨Nat.le_of_ble_eq_true rfl, Nat.le_of_ble_eq_true rfl⟩⟩ kw_139 kw_140 (hFN.2.2.2.1 0 1 hFN.2.2.2.2.1 (Or.inl rfl)).1 rfl rfl hl.1 rfl (Nat.le_of_ble_eq_true rfl) ⟨Nat.le_of_ble_eq_true rfl, Nat.le_of_ble_eq_true rfl⟩ dX4_moveFromTape_33 (fun r6 hr6 => ?_)
        subst hr6
        have hlcr6 : tp.length ≤ 200 := (hFN.rw0 0 1 hFN.2.2.2.2.1 (Or.inl rfl) htp).2.1
        refine lv_if_le (tgt := 43) C0.1 C0.2.1 dX4_moveFromTape_36 (by decide) (fun c7 => ?_) (fun c7 => ?_)
        · have d7 : tp.length ≤ 0 := (nI_leI (a := tp.length) (b := 0) (by omega) (by omega)).mp c7
          refine lv_iconst (v := 0) C0.1 C0.2.1 dX4_moveFromTape_43 (by decide) ?_
          refine lv_istore (lv' := [(5, .int 0), (4, .ref (ad (u + 1) 0)), (3, .ref (ad (k + 1) 0)), (0, .ref (ad 0 0)), (1, .int (nI k)), (2, .int (nI u))]) C0.1 C0.2.1 dX4_moveFromTape_44 hl (by decide) rfl (fun ls hl => ?_)
          refine lv_iload C0.1 C0.2.1 dX4_moveFromTape_46 (lv_at hl 0 rfl) ?_
          refine lv_if_ne (tgt := 65) C0.1 C0.2.1 dX4_moveFromTape_48 (by decide) (fun cx => absurd cx (by decide)) (fun cx => ?_)
          have hfl60 : nk.2.2.2.1.length ≤ 60 := (hFN.rw0 (k + 1) 3 hxk (Or.inr (Or.inl rfl)) hrk3).2.1
          refine lv_aload_n C0.1 C0.2.1 dX4_moveFromTape_51 rfl (lv_at hl 3 rfl) ?_
          refine me_get C0 hP hFN.1 rfl inX4 2 (by decide) kw_120 rfl dX4_moveFromTape_52 ?_
          refine lv_aload_n C0.1 C0.2.1 dX4_moveFromTape_55 rfl (lv_at hl 2 rfl) ?_
          refine me_get C0 hP (hFN.2.2.1 k hxk) rfl inX1 1 (by decide) kw_84 rfl dX4_moveFromTape_56 ?_
          refine me_cVwv (n := 1) C0 hml hP hS (c_X2_copyFrom l G B0 w (ad 0 5) (ad 0 (5 + 1)) (capR 0 5) (R 0 5) (hFN.rw0 0 5 hFN.2.2.2.2.1 (Or.inr (Or.inr rfl)) rfl) (ad (k + 1) 3) (ad (k + 1) (3 + 1)) (capR (k + 1) 3) nk.2.2.2.1 (hFN.rw0 (k + 1) 3 hxk (Or.inr (Or.inl rfl)) hrk3) (hFN.ne hxk hFN.2.2.2.2.1 (rowJ_us (show rowJ (k + 1) 3 from (Or.inr (Or.inl rfl)))).1 (rowJ_us (show rowJ 0 5 from (Or.inr (Or.inr rfl)))).1 (by omega)) (hFN.ne hxk hFN.2.2.2.2.1 (rowJ_us (show rowJ (k + 1) 3 from (Or.inr (Or.inl rfl)))).1 (rowJ_us (show rowJ 0 5 from (Or.inr (Or.inr rfl)))).2.1 (by omega)) (hFN.ne hxk hFN.2.2.2.2.1 (rowJ_us (show rowJ (k + 1) 3 from (Or.inr (Or.inl rfl)))).2.1 (rowJ_us (show rowJ 0 5 from (Or.inr (Or.inr rfl)))).1 (by omega)) (hFN.ne hxk hFN.2.2.2.2.1 (rowJ_us (show rowJ (k + 1) 3 from (Or.inr (Or.inl rfl)))).2.1 (rowJ_us (show rowJ 0 5 from (Or.inr (Or.inr rfl)))).2.1 (by omega)) (hFN.bb hFN.2.2.2.2.1 (rowJ_us (show rowJ 0 5 from (Or.inr (Or.inr rfl)))).1) (hFN.bb hFN.2.2.2.2.1 (rowJ_us (show rowJ 0 5 from (Or.inr (Or.inr rfl)))).2.1)) ⟨kw_305, kw_32, kw_348, ⟨by decide, by decide, by decide +kernel⟩, ⟨rfl, rfl⟩, ⟨Nat.le_of_ble_eq_true rfl, Nat.le_of_ble_eq_true rfl⟩⟩ kw_303 kw_304 (hFN.2.2.2.1 0 5 hFN.2.2.2.2.1 (Or.inr (Or.inr rfl))).1 rfl rfl hl.1 rfl (Nat.le_of_ble_eq_true rfl) ⟨Nat.le_of_ble_eq_true rfl, Nat.le_of_ble_eq_true rfl⟩ dX4_moveFromTape_59 (fun w9 H locs hw9 hP hS => ?_)
          rw [show nk.2.2.2.1.take (capR 0 5) = folds nk.2.2.1 from (List.take_of_length_le (show nk.2.2.2.1.length ≤ 60 from hfl60)).trans hvf] at hw9
          obtain ⟨hRw9, hCh9⟩ := hw9
          have hFD := hFD.ch (hFN.dd hFN.2.2.2.2.1 (rowJ_us (show rowJ 0 5 from (Or.inr (Or.inr rfl)))).1) (hFN.dd hFN.2.2.2.2.1 (rowJ_us (show rowJ 0 5 from (Or.inr (Or.inr rfl)))).2.1) hCh9
          have hFN := hFN.row (a := 0) (j := 5) hFN.2.2.2.2.1 (Or.inr (Or.inr rfl)) hRw9 hCh9
          obtain ⟨R9, hR9⟩ : ∃ x, x = updR R 0 5 (folds nk.2.2.1) := ⟨_, rfl⟩
          have hFN : FN G B0 D w9 ad ex R9 N cnt := by rw [hR9]; exact hFN
          have hv9_0_1 : R9 0 1 = tp := (show R9 0 1 = R 0 1 by rw [hR9, updR_n (by omega)]).trans htp
          have hv9_0_3 : R9 0 3 = R 0 3 := (show R9 0 3 = R 0 3 by rw [hR9, updR_n (by omega)]).trans (Eq.refl (R 0 3))
          have hv9_k1_1 : R9 (k + 1) 1 = nk.2.2.1 := (show R9 (k + 1) 1 = R (k + 1) 1 by rw [hR9, updR_n (by omega)]).trans hrk1
          have hv9_k1_3 : R9 (k + 1) 3 = nk.2.2.2.1 := (show R9 (k + 1) 3 = R (k + 1) 3 by rw [hR9, updR_n (by omega)]).trans hrk3
          have hv9_k1_5 : R9 (k + 1) 5 = nk.2.2.2.2 := (show R9 (k + 1) 5 = R (k + 1) 5 by rw [hR9, updR_n (by omega)]).trans hrk5
          have hv9_k1_7 : R9 (k + 1) 7 = Bn k := (show R9 (k + 1) 7 = R (k + 1) 7 by rw [hR9, updR_n (by omega)]).trans hrk7
          have hv9_u1_1 : R9 (u + 1) 1 = nu.2.2.1 := (show R9 (u + 1) 1 = R (u + 1) 1 by rw [hR9, updR_n (by omega)]).trans hru1
          have hv9_u1_3 : R9 (u + 1) 3 = nu.2.2.2.1 := (show R9 (u + 1) 3 = R (u + 1) 3 by rw [hR9, updR_n (by omega)]).trans hru3
          have hv9_u1_5 : R9 (u + 1) 5 = nu.2.2.2.2 := (show R9 (u + 1) 5 = R (u + 1) 5 by rw [hR9, updR_n (by omega)]).trans hru5
          have hv9_u1_7 : R9 (u + 1) 7 = Bn u := (show R9 (u + 1) 7 = R (u + 1) 7 by rw [hR9, updR_n (by omega)]).trans hru7
          have hv9_0_5 : R9 0 5 = folds nk.2.2.1 := by rw [hR9, updR_s]
          have hCT9 := hCT.sr ((SR.rf : SR _ _ [(0, 5)]).wr hR9 (by simp)) (by simp)
          have hmv : mvN T tp (nI k) = nk.2.2.1 := by unfold mvN; rw [if_pos (by omega), namOf_n hk hTk]
          have hok := hvn
          have hoo := hvo
          have hnm : nmI nk.2.2.1 = 1 := nmI_1 hvn
          refine lv_goto (tgt := 83) C0.1 C0.2.1 dX4_moveFromTape_62 (by decide) ?_
          refine lv_aload_n C0.1 C0.2.1 dX4_moveFromTape_83 rfl (lv_at hl 3 rfl) ?_
          refine lv_aload C0.1 C0.2.1 dX4_moveFromTape_84 (lv_at hl 1 rfl) ?_
          refine me_cVi (n := 1) C0 hml hP hS (c_X4_entryAsked l G B0 w9 D ad ex R9 N cnt hFN T Bn hCT9 u nu hTu (folds nk.2.2.1) nu.2.2.2.2 hv9_0_5 rfl (hI.ent u nu hTu)) ⟨kw_283, kw_31, kw_280, ⟨by decide, by decide, by decide +kernel⟩, ⟨rfl, rfl⟩, ⟨Nat.le_of_ble_eq_true rfl, Nat.le_of_ble_eq_true rfl⟩⟩ kw_282 kw_4 hFN.1 rfl rfl hl.1 rfl (Nat.le_of_ble_eq_true rfl) ⟨Nat.le_of_ble_eq_true rfl, Nat.le_of_ble_eq_true rfl⟩ dX4_moveFromTape_86 (fun r10 hr10 => ?_)
          rcases hI.elk hTu hr10 with ⟨hel, hel0⟩ | ⟨e1, me1, e11, e12, hel, e14, e15, e16, e17⟩
          · subst hel
            refine lv_istore (lv' := [(6, .int ((-1))), (5, .int 0), (4, .ref (ad (u + 1) 0)), (3, .ref (ad (k + 1) 0)), (0, .ref (ad 0 0)), (1, .int (nI k)), (2, .int (nI u))]) C0.1 C0.2.1 dX4_moveFromTape_89 hl (by decide) rfl (fun ls hl => ?_)
            refine lv_iload C0.1 C0.2.1 dX4_moveFromTape_91 (lv_at hl 0 rfl) ?_
            refine lv_iconst (v := (-1)) C0.1 C0.2.1 dX4_moveFromTape_93 (by decide) ?_
            refine lv_icmp_eq (tgt := 106) C0.1 C0.2.1 dX4_moveFromTape_94 (by decide) (fun cx => ?_) (fun cx => absurd cx (by decide))
            have hEB := ti_but0 hI hTu (bt := nI k) (hr10).symm
            refine lv_aload_n C0.1 C0.2.1 dX4_moveFromTape_106 rfl (lv_at hl 4 rfl) ?_
            refine lv_iload_n C0.1 C0.2.1 dX4_moveFromTape_107 rfl (lv_at hl 6 rfl) ?_
            refine lv_iload_n C0.1 C0.2.1 dX4_moveFromTape_108 rfl (lv_at hl 5 rfl) ?_
            obtain ⟨dp, hdp, hd200⟩ := hI.dp
            refine me_cVi (n := 2) C0 hml hP hS (c_X4_isWithin l G B0 w9 D ad ex R9 N cnt hFN T Bn hCT9 hI dp hdp hd200 u k nu hu hk hTu) ⟨kw_352, kw_31, kw_349, ⟨by decide, by decide, by decide +kernel⟩, ⟨rfl, rfl⟩, ⟨Nat.le_of_ble_eq_true rfl, Nat.le_of_ble_eq_true rfl⟩⟩ kw_351 kw_12 hFN.1 rfl rfl hl.1 rfl (Nat.le_of_ble_eq_true rfl) ⟨Nat.le_of_ble_eq_true rfl, Nat.le_of_ble_eq_true rfl⟩ dX4_moveFromTape_109 (fun r12 hr12 => ?_)
            rcases wF_r T k 200 u with hwi | hwi
            · rw [hwi] at hr12
              subst hr12
              refine lv_if_eq (tgt := 118) C0.1 C0.2.1 dX4_moveFromTape_112 (by decide) (fun cx => ?_) (fun cx => absurd cx (by decide))
              refine lv_aload_n C0.1 C0.2.1 dX4_moveFromTape_118 rfl (lv_at hl 3 rfl) ?_
              refine me_get C0 hP (hFN.2.2.1 k hxk) rfl inX1 6 (by decide) kw_94 rfl dX4_moveFromTape_119 ?_
              refine me_topi (y := nk.2.1) hnk2 ?_
              refine me_topi (y := nI pp) pp2 ?_
              refine lv_istore (lv' := [(7, .int (nI pp)), (6, .int ((-1))), (5, .int 0), (4, .ref (ad (u + 1) 0)), (3, .ref (ad (k + 1) 0)), (0, .ref (ad 0 0)), (1, .int (nI k)), (2, .int (nI u))]) C0.1 C0.2.1 dX4_moveFromTape_122 hl (by decide) rfl (fun ls hl => ?_)
              refine lv_iload C0.1 C0.2.1 dX4_moveFromTape_124 (lv_at hl 0 rfl) ?_
              refine lv_iload_n C0.1 C0.2.1 dX4_moveFromTape_126 rfl (lv_at hl 7 rfl) ?_
              refine lv_icmp_eq (tgt := 146) C0.1 C0.2.1 dX4_moveFromTape_127 (by decide) (fun c14 => ?_) (fun c14 => ?_)
              · have d14 : pp = u := (nI_eq (a := pp) (b := u) (by omega) (by omega)).mp c14
                refine lv_aload_n C0.1 C0.2.1 dX4_moveFromTape_146 rfl (lv_at hl 5 rfl) ?_
                refine lv_iload_n C0.1 C0.2.1 dX4_moveFromTape_147 rfl (lv_at hl 6 rfl) ?_
                refine lv_iload C0.1 C0.2.1 dX4_moveFromTape_148 (lv_at hl 0 rfl) ?_
                refine me_cVwv (n := 2) C0 hml hP hS (c_X4_detach l G B0 w9 D ad ex R9 N cnt hFN T Bn hCT9 k pp pm pp3) ⟨kw_356, kw_31, kw_353, ⟨by decide, by decide, by decide +kernel⟩, ⟨rfl, rfl⟩, ⟨Nat.le_of_ble_eq_true rfl, Nat.le_of_ble_eq_true rfl⟩⟩ kw_355 kw_13 hFN.1 rfl rfl hl.1 rfl (Nat.le_of_ble_eq_true rfl) ⟨Nat.le_of_ble_eq_true rfl, Nat.le_of_ble_eq_true rfl⟩ dX4_moveFromTape_150 (fun w15 H locs hw15 hP hS => ?_)
                obtain ⟨R15, hFN, hFD15, hOw15, hCT15⟩ := hw15
                have hFD := hFD.tr hFD15
                rw [← detT_e hTk pp2 pp1] at hCT15
                obtain ⟨huk, hpk, hT1k, hJ1, hJ2, hT2k, hS2, n2, hT2u, h40, -, -⟩ := mov_pre hI hSB hTk hk0 pp2 pp1 hTu hok hoo hwi hEB (Or.inl d14)
                obtain ⟨-, hxk3, hnk30, hnk31, hnk32, hrk31, hrk33, hrk35, hrk37⟩ := hCT15.2 k nk hT1k
                have hT12 : opT (detT T k) k (sN nk.2.2.1) = detT T k := by rw [opT_e hT1k, show sN nk.2.2.1 nk = nk by unfold sN; rw [← hvf]]; funext v; by_cases e : v = k; rw [e, setT_s]; exact hT1k.symm; rw [setT_n e]
                have hCT2 : CT ex R15 N (opT (detT T k) k (sN nk.2.2.1)) (upB Bn pp (rOut (Bn pp) (nI k))) := by rw [hT12]; exact hCT15
                refine lv_iload C0.1 C0.2.1 dX4_moveFromTape_153 (lv_at hl 2 rfl) ?_
                refine lv_if_eq (tgt := 170) C0.1 C0.2.1 dX4_moveFromTape_155 (by decide) (fun cx => ?_) (fun cx => absurd cx (by decide))
                have hE2 : ∀ i, i < (upB Bn pp (rOut (Bn pp) (nI k)) u).length → ∃ (j : Nat) (m : Nod), j < 200 ∧ (upB Bn pp (rOut (Bn pp) (nI k)) u).getD i 0 = nI j ∧ opT (detT T k) k (sN nk.2.2.1) j = some m := fun i hi => by obtain ⟨j, m, j1, -, -, j3, j4, -⟩ := (hJ2.2.1 u n2 hT2u).2.2.2.1 _ ((hS2 u n2 hT2u).1.mem_iff.mp (by rw [List.getD_eq_getElem?_getD, List.getElem?_eq_getElem hi]; exact List.getElem_mem hi : (upB Bn pp (rOut (Bn pp) (nI k)) u).getD i 0 ∈ _)); exact ⟨j, m, j1, j3, j4⟩
                refine lv_aload_n C0.1 C0.2.1 dX4_moveFromTape_170 rfl (lv_at hl 5 rfl) ?_
                refine lv_iload_n C0.1 C0.2.1 dX4_moveFromTape_171 rfl (lv_at hl 6 rfl) ?_
                refine lv_aload_n C0.1 C0.2.1 dX4_moveFromTape_172 rfl (lv_at hl 4 rfl) ?_
                refine lv_iload_n C0.1 C0.2.1 dX4_moveFromTape_173 rfl (lv_at hl 7 rfl) ?_
                refine lv_aload C0.1 C0.2.1 dX4_moveFromTape_174 (lv_at hl 3 rfl) ?_
                refine me_cVwv (n := 4) C0 hml hP hS (c_X4_attach l G B0 w15 D ad ex R15 N cnt hFN (opT (detT T k) k (sN nk.2.2.1)) (upB Bn pp (rOut (Bn pp) (nI k))) hCT2 k u _ n2 hT2k hT2u (Ne.symm huk) h40 (by rw [hS2.len hT2u]; exact h40) (folds nk.2.2.1) ((hOw15 5).trans hv9_0_5) hE2) ⟨kw_309, kw_31, kw_306, ⟨by decide, by decide, by decide +kernel⟩, ⟨rfl, rfl⟩, ⟨Nat.le_of_ble_eq_true rfl, Nat.le_of_ble_eq_true rfl⟩⟩ kw_308 kw_6 hFN.1 rfl rfl hl.1 rfl (Nat.le_of_ble_eq_true rfl) ⟨Nat.le_of_ble_eq_true rfl, Nat.le_of_ble_eq_true rfl⟩ dX4_moveFromTape_176 (fun w17 H locs hw17 hP hS => ?_)
                obtain ⟨R17, N17, hFN, hFD17, hOw17, hCT17⟩ := hw17
                have hFD := hFD.tr hFD17
                refine lv_iload C0.1 C0.2.1 dX4_moveFromTape_179 (lv_at hl 0 rfl) ?_
                exact me_wiret _ C0.1 C0.2.1 B.returns B.notSynchronized hP hS (Nat.le_of_ble_eq_true rfl) (Nat.le_of_ble_eq_true rfl) (have hR : sMovR T tp (nI k) (nI u) = nI pp := (by unfold sMovR; rw [if_neg (show ¬ nI k = 0 from fun q => hk0 ((nI_eq (a := k) (b := 0) (by omega) (by omega)).mp q)), if_neg (noN_at0 hk hTk), if_neg (by rw [hnu]; decide), hmv, if_neg (by rw [hnm]; decide), entsOf_n hu hTu, hEB, if_neg (by decide), nI_clamp (by omega), nI_clamp (by omega), if_neg (by rw [hwi]; decide), parOf_n hk hTk, pp2, if_neg (fun q => q.1 (by rw [d14]))]); ⟨_, _, hFN, hFD, ((hOw17 1).trans ((hOw15 1).trans hv9_0_1)), ((hOw17 3).trans ((hOw15 3).trans hv9_0_3)), hR.symm, by rw [sMovT_s hR hk hu pp1, sMovB_s hR hk hu pp1, hmv]; unfold movT movB; rw [parN_s hTk pp2 pp1]; exact hCT17⟩) dX4_moveFromTape_181
              · have d14 : pp ≠ u := fun h => c14 (congrArg nI h)
                refine lv_aload C0.1 C0.2.1 dX4_moveFromTape_130 (lv_at hl 3 rfl) ?_
                refine me_get C0 hP (hFN.2.2.1 u hxu) rfl inX1 2 (by decide) kw_86 rfl dX4_moveFromTape_132 ?_
                refine me_cVi (n := 0) C0 hml hP hS (c_X2_size l G B0 w9 (ad (u + 1) 5) (ad (u + 1) (5 + 1)) (capR (u + 1) 5) nu.2.2.2.2 (hFN.rw0 (u + 1) 5 hxu (Or.inr (Or.inr (Or.inl rfl))) hv9_u1_5)) ⟨kw_141, kw_32, kw_138, ⟨by decide, by decide, by decide +kernel⟩, ⟨rfl, rfl⟩, ⟨Nat.le_of_ble_eq_true rfl, Nat.le_of_ble_eq_true rfl⟩⟩ kw_139 kw_140 (hFN.2.2.2.1 (u + 1) 5 hxu (Or.inr (Or.inr (Or.inl rfl)))).1 rfl rfl hl.1 rfl (Nat.le_of_ble_eq_true rfl) ⟨Nat.le_of_ble_eq_true rfl, Nat.le_of_ble_eq_true rfl⟩ dX4_moveFromTape_135 (fun r18 hr18 => ?_)
                subst hr18
                have hlcr18 : nu.2.2.2.2.length ≤ 40 := (hFN.rw0 (u + 1) 5 hxu (Or.inr (Or.inr (Or.inl rfl))) hv9_u1_5).2.1
                refine lv_bipush (v := 40) C0.1 C0.2.1 dX4_moveFromTape_138 (by decide) ?_
                refine lv_icmp_lt (tgt := 146) C0.1 C0.2.1 dX4_moveFromTape_140 (by decide) (fun c19 => ?_) (fun c19 => ?_)
                · have d19 : nu.2.2.2.2.length < 40 := (nI_ltI (a := nu.2.2.2.2.length) (b := 40) (by omega) (by omega)).mp c19
                  refine lv_aload_n C0.1 C0.2.1 dX4_moveFromTape_146 rfl (lv_at hl 5 rfl) ?_
                  refine lv_iload_n C0.1 C0.2.1 dX4_moveFromTape_147 rfl (lv_at hl 6 rfl) ?_
                  refine lv_iload C0.1 C0.2.1 dX4_moveFromTape_148 (lv_at hl 0 rfl) ?_
                  refine me_cVwv (n := 2) C0 hml hP hS (c_X4_detach l G B0 w9 D ad ex R9 N cnt hFN T Bn hCT9 k pp pm pp3) ⟨kw_356, kw_31, kw_353, ⟨by decide, by decide, by decide +kernel⟩, ⟨rfl, rfl⟩, ⟨Nat.le_of_ble_eq_true rfl, Nat.le_of_ble_eq_true rfl⟩⟩ kw_355 kw_13 hFN.1 rfl rfl hl.1 rfl (Nat.le_of_ble_eq_true rfl) ⟨Nat.le_of_ble_eq_true rfl, Nat.le_of_ble_eq_true rfl⟩ dX4_moveFromTape_150 (fun w20 H locs hw20 hP hS => ?_)
                  obtain ⟨R20, hFN, hFD20, hOw20, hCT20⟩ := hw20
                  have hFD := hFD.tr hFD20
                  rw [← detT_e hTk pp2 pp1] at hCT20
                  obtain ⟨huk, hpk, hT1k, hJ1, hJ2, hT2k, hS2, n2, hT2u, h40, -, -⟩ := mov_pre hI hSB hTk hk0 pp2 pp1 hTu hok hoo hwi hEB (Or.inr (by omega))
                  obtain ⟨-, hxk3, hnk30, hnk31, hnk32, hrk31, hrk33, hrk35, hrk37⟩ := hCT20.2 k nk hT1k
                  have hT12 : opT (detT T k) k (sN nk.2.2.1) = detT T k := by rw [opT_e hT1k, show sN nk.2.2.1 nk = nk by unfold sN; rw [← hvf]]; funext v; by_cases e : v = k; rw [e, setT_s]; exact hT1k.symm; rw [setT_n e]
                  have hCT2 : CT ex R20 N (opT (detT T k) k (sN nk.2.2.1)) (upB Bn pp (rOut (Bn pp) (nI k))) := by rw [hT12]; exact hCT20
                  refine lv_iload C0.1 C0.2.1 dX4_moveFromTape_153 (lv_at hl 2 rfl) ?_
                  refine lv_if_eq (tgt := 170) C0.1 C0.2.1 dX4_moveFromTape_155 (by decide) (fun cx => ?_) (fun cx => absurd cx (by decide))
                  have hE2 : ∀ i, i < (upB Bn pp (rOut (Bn pp) (nI k)) u).length → ∃ (j : Nat) (m : Nod), j < 200 ∧ (upB Bn pp (rOut (Bn pp) (nI k)) u).getD i 0 = nI j ∧ opT (detT T k) k (sN nk.2.2.1) j = some m := fun i hi => by obtain ⟨j, m, j1, -, -, j3, j4, -⟩ := (hJ2.2.1 u n2 hT2u).2.2.2.1 _ ((hS2 u n2 hT2u).1.mem_iff.mp (by rw [List.getD_eq_getElem?_getD, List.getElem?_eq_getElem hi]; exact List.getElem_mem hi : (upB Bn pp (rOut (Bn pp) (nI k)) u).getD i 0 ∈ _)); exact ⟨j, m, j1, j3, j4⟩
                  refine lv_aload_n C0.1 C0.2.1 dX4_moveFromTape_170 rfl (lv_at hl 5 rfl) ?_
                  refine lv_iload_n C0.1 C0.2.1 dX4_moveFromTape_171 rfl (lv_at hl 6 rfl) ?_
                  refine lv_aload_n C0.1 C0.2.1 dX4_moveFromTape_172 rfl (lv_at hl 4 rfl) ?_
                  refine lv_iload_n C0.1 C0.2.1 dX4_moveFromTape_173 rfl (lv_at hl 7 rfl) ?_
                  refine lv_aload C0.1 C0.2.1 dX4_moveFromTape_174 (lv_at hl 3 rfl) ?_
                  refine me_cVwv (n := 4) C0 hml hP hS (c_X4_attach l G B0 w20 D ad ex R20 N cnt hFN (opT (detT T k) k (sN nk.2.2.1)) (upB Bn pp (rOut (Bn pp) (nI k))) hCT2 k u _ n2 hT2k hT2u (Ne.symm huk) h40 (by rw [hS2.len hT2u]; exact h40) (folds nk.2.2.1) ((hOw20 5).trans hv9_0_5) hE2) ⟨kw_309, kw_31, kw_306, ⟨by decide, by decide, by decide +kernel⟩, ⟨rfl, rfl⟩, ⟨Nat.le_of_ble_eq_true rfl, Nat.le_of_ble_eq_true rfl⟩⟩ kw_308 kw_6 hFN.1 rfl rfl hl.1 rfl (Nat.le_of_ble_eq_true rfl) ⟨Nat.le_of_ble_eq_true rfl, Nat.le_of_ble_eq_true rfl⟩ dX4_moveFromTape_176 (fun w22 H locs hw22 hP hS => ?_)
                  obtain ⟨R22, N22, hFN, hFD22, hOw22, hCT22⟩ := hw22
                  have hFD := hFD.tr hFD22
                  refine lv_iload C0.1 C0.2.1 dX4_moveFromTape_179 (lv_at hl 0 rfl) ?_
                  exact me_wiret _ C0.1 C0.2.1 B.returns B.notSynchronized hP hS (Nat.le_of_ble_eq_true rfl) (Nat.le_of_ble_eq_true rfl) (have hR : sMovR T tp (nI k) (nI u) = nI pp := (by unfold sMovR; rw [if_neg (show ¬ nI k = 0 from fun q => hk0 ((nI_eq (a := k) (b := 0) (by omega) (by omega)).mp q)), if_neg (noN_at0 hk hTk), if_neg (by rw [hnu]; decide), hmv, if_neg (by rw [hnm]; decide), entsOf_n hu hTu, hEB, if_neg (by decide), nI_clamp (by omega), nI_clamp (by omega), if_neg (by rw [hwi]; decide), parOf_n hk hTk, pp2, if_neg (fun q => absurd q.2 (by omega))]); ⟨_, _, hFN, hFD, ((hOw22 1).trans ((hOw20 1).trans hv9_0_1)), ((hOw22 3).trans ((hOw20 3).trans hv9_0_3)), hR.symm, by rw [sMovT_s hR hk hu pp1, sMovB_s hR hk hu pp1, hmv]; unfold movT movB; rw [parN_s hTk pp2 pp1]; exact hCT22⟩) dX4_moveFromTape_181
                · have d19 : 40 ≤ nu.2.2.2.2.length := Nat.not_lt.mp (fun h => c19 (nI_lt (a := nu.2.2.2.2.length) (b := 40) h (by omega)))
                  refine lv_bipush (v := (-4)) C0.1 C0.2.1 dX4_moveFromTape_143 (by decide) ?_
                  exact me_wiret _ C0.1 C0.2.1 B.returns B.notSynchronized hP hS (Nat.le_of_ble_eq_true rfl) (Nat.le_of_ble_eq_true rfl) (have hR : sMovR T tp (nI k) (nI u) = (-4) := (by unfold sMovR; rw [if_neg (show ¬ nI k = 0 from fun q => hk0 ((nI_eq (a := k) (b := 0) (by omega) (by omega)).mp q)), if_neg (noN_at0 hk hTk), if_neg (by rw [hnu]; decide), hmv, if_neg (by rw [hnm]; decide), entsOf_n hu hTu, hEB, if_neg (by decide), nI_clamp (by omega), nI_clamp (by omega), if_neg (by rw [hwi]; decide), parOf_n hk hTk, pp2, if_pos ⟨fun q => d14 ((nI_eq (by omega) (by omega)).mp q), by omega⟩]); ⟨_, _, hFN, hFD, hv9_0_1, hv9_0_3, hR.symm, by rw [sMovT_f hR (by decide), sMovB_f hR (by decide)]; exact hCT9⟩) dX4_moveFromTape_145
            · rw [hwi] at hr12
              subst hr12
              refine lv_if_eq (tgt := 118) C0.1 C0.2.1 dX4_moveFromTape_112 (by decide) (fun cx => absurd cx (by decide)) (fun cx => ?_)
              refine lv_bipush (v := (-6)) C0.1 C0.2.1 dX4_moveFromTape_115 (by decide) ?_
              exact me_wiret _ C0.1 C0.2.1 B.returns B.notSynchronized hP hS (Nat.le_of_ble_eq_true rfl) (Nat.le_of_ble_eq_true rfl) (have hR : sMovR T tp (nI k) (nI u) = (-6) := (by unfold sMovR; rw [if_neg (show ¬ nI k = 0 from fun q => hk0 ((nI_eq (a := k) (b := 0) (by omega) (by omega)).mp q)), if_neg (noN_at0 hk hTk), if_neg (by rw [hnu]; decide), hmv, if_neg (by rw [hnm]; decide), entsOf_n hu hTu, hEB, if_neg (by decide), nI_clamp (by omega), nI_clamp (by omega), if_pos hwi]); ⟨_, _, hFN, hFD, hv9_0_1, hv9_0_3, hR.symm, by rw [sMovT_f hR (by decide), sMovB_f hR (by decide)]; exact hCT9⟩) dX4_moveFromTape_117
          · subst hel
            refine lv_istore (lv' := [(6, .int (nI e1)), (5, .int 0), (4, .ref (ad (u + 1) 0)), (3, .ref (ad (k + 1) 0)), (0, .ref (ad 0 0)), (1, .int (nI k)), (2, .int (nI u))]) C0.1 C0.2.1 dX4_moveFromTape_89 hl (by decide) rfl (fun ls hl => ?_)
            refine lv_iload C0.1 C0.2.1 dX4_moveFromTape_91 (lv_at hl 0 rfl) ?_
            refine lv_iconst (v := (-1)) C0.1 C0.2.1 dX4_moveFromTape_93 (by decide) ?_
            refine lv_icmp_eq (tgt := 106) C0.1 C0.2.1 dX4_moveFromTape_94 (by decide) (fun c24 => ?_) (fun c24 => ?_)
            · exact absurd c24 (nI_nm1 (by omega))
            · refine lv_iload C0.1 C0.2.1 dX4_moveFromTape_97 (lv_at hl 0 rfl) ?_
              refine lv_iload_n C0.1 C0.2.1 dX4_moveFromTape_99 rfl (lv_at hl 5 rfl) ?_
              refine lv_icmp_eq (tgt := 106) C0.1 C0.2.1 dX4_moveFromTape_100 (by decide) (fun c25 => ?_) (fun c25 => ?_)
              · have d25 : e1 = k := (nI_eq (a := e1) (b := k) (by omega) (by omega)).mp c25
                have hEB := ti_but1 hI hTu (bt := nI k) e17 ((folOf_n (by omega) e14).trans e16) (by rw [d25])
                refine lv_aload_n C0.1 C0.2.1 dX4_moveFromTape_106 rfl (lv_at hl 4 rfl) ?_
                refine lv_iload_n C0.1 C0.2.1 dX4_moveFromTape_107 rfl (lv_at hl 6 rfl) ?_
                refine lv_iload_n C0.1 C0.2.1 dX4_moveFromTape_108 rfl (lv_at hl 5 rfl) ?_
                obtain ⟨dp, hdp, hd200⟩ := hI.dp
                refine me_cVi (n := 2) C0 hml hP hS (c_X4_isWithin l G B0 w9 D ad ex R9 N cnt hFN T Bn hCT9 hI dp hdp hd200 u k nu hu hk hTu) ⟨kw_352, kw_31, kw_349, ⟨by decide, by decide, by decide +kernel⟩, ⟨rfl, rfl⟩, ⟨Nat.le_of_ble_eq_true rfl, Nat.le_of_ble_eq_true rfl⟩⟩ kw_351 kw_12 hFN.1 rfl rfl hl.1 rfl (Nat.le_of_ble_eq_true rfl) ⟨Nat.le_of_ble_eq_true rfl, Nat.le_of_ble_eq_true rfl⟩ dX4_moveFromTape_109 (fun r26 hr26 => ?_)
                rcases wF_r T k 200 u with hwi | hwi
                · rw [hwi] at hr26
                  subst hr26
                  refine lv_if_eq (tgt := 118) C0.1 C0.2.1 dX4_moveFromTape_112 (by decide) (fun cx => ?_) (fun cx => absurd cx (by decide))
                  refine lv_aload_n C0.1 C0.2.1 dX4_moveFromTape_118 rfl (lv_at hl 3 rfl) ?_
                  refine me_get C0 hP (hFN.2.2.1 k hxk) rfl inX1 6 (by decide) kw_94 rfl dX4_moveFromTape_119 ?_
                  refine me_topi (y := nk.2.1) hnk2 ?_
                  refine me_topi (y := nI pp) pp2 ?_
                  refine lv_istore (lv' := [(7, .int (nI pp)), (6, .int (nI e1)), (5, .int 0), (4, .ref (ad (u + 1) 0)), (3, .ref (ad (k + 1) 0)), (0, .ref (ad 0 0)), (1, .int (nI k)), (2, .int (nI u))]) C0.1 C0.2.1 dX4_moveFromTape_122 hl (by decide) rfl (fun ls hl => ?_)
                  refine lv_iload C0.1 C0.2.1 dX4_moveFromTape_124 (lv_at hl 0 rfl) ?_
                  refine lv_iload_n C0.1 C0.2.1 dX4_moveFromTape_126 rfl (lv_at hl 7 rfl) ?_
                  refine lv_icmp_eq (tgt := 146) C0.1 C0.2.1 dX4_moveFromTape_127 (by decide) (fun c28 => ?_) (fun c28 => ?_)
                  · have d28 : pp = u := (nI_eq (a := pp) (b := u) (by omega) (by omega)).mp c28
                    refine lv_aload_n C0.1 C0.2.1 dX4_moveFromTape_146 rfl (lv_at hl 5 rfl) ?_
                    refine lv_iload_n C0.1 C0.2.1 dX4_moveFromTape_147 rfl (lv_at hl 6 rfl) ?_
                    refine lv_iload C0.1 C0.2.1 dX4_moveFromTape_148 (lv_at hl 0 rfl) ?_
                    refine me_cVwv (n := 2) C0 hml hP hS (c_X4_detach l G B0 w9 D ad ex R9 N cnt hFN T Bn hCT9 k pp pm pp3) ⟨kw_356, kw_31, kw_353, ⟨by decide, by decide, by decide +kernel⟩, ⟨rfl, rfl⟩, ⟨Nat.le_of_ble_eq_true rfl, Nat.le_of_ble_eq_true rfl⟩⟩ kw_355 kw_13 hFN.1 rfl rfl hl.1 rfl (Nat.le_of_ble_eq_true rfl) ⟨Nat.le_of_ble_eq_true rfl, Nat.le_of_ble_eq_true rfl⟩ dX4_moveFromTape_150 (fun w29 H locs hw29 hP hS => ?_)
                    obtain ⟨R29, hFN, hFD29, hOw29, hCT29⟩ := hw29
                    have hFD := hFD.tr hFD29
                    rw [← detT_e hTk pp2 pp1] at hCT29
                    obtain ⟨huk, hpk, hT1k, hJ1, hJ2, hT2k, hS2, n2, hT2u, h40, -, -⟩ := mov_pre hI hSB hTk hk0 pp2 pp1 hTu hok hoo hwi hEB (Or.inl d28)
                    obtain ⟨-, hxk3, hnk30, hnk31, hnk32, hrk31, hrk33, hrk35, hrk37⟩ := hCT29.2 k nk hT1k
                    have hT12 : opT (detT T k) k (sN nk.2.2.1) = detT T k := by rw [opT_e hT1k, show sN nk.2.2.1 nk = nk by unfold sN; rw [← hvf]]; funext v; by_cases e : v = k; rw [e, setT_s]; exact hT1k.symm; rw [setT_n e]
                    have hCT2 : CT ex R29 N (opT (detT T k) k (sN nk.2.2.1)) (upB Bn pp (rOut (Bn pp) (nI k))) := by rw [hT12]; exact hCT29
                    refine lv_iload C0.1 C0.2.1 dX4_moveFromTape_153 (lv_at hl 2 rfl) ?_
                    refine lv_if_eq (tgt := 170) C0.1 C0.2.1 dX4_moveFromTape_155 (by decide) (fun cx => ?_) (fun cx => absurd cx (by decide))
                    have hE2 : ∀ i, i < (upB Bn pp (rOut (Bn pp) (nI k)) u).length → ∃ (j : Nat) (m : Nod), j < 200 ∧ (upB Bn pp (rOut (Bn pp) (nI k)) u).getD i 0 = nI j ∧ opT (detT T k) k (sN nk.2.2.1) j = some m := fun i hi => by obtain ⟨j, m, j1, -, -, j3, j4, -⟩ := (hJ2.2.1 u n2 hT2u).2.2.2.1 _ ((hS2 u n2 hT2u).1.mem_iff.mp (by rw [List.getD_eq_getElem?_getD, List.getElem?_eq_getElem hi]; exact List.getElem_mem hi : (upB Bn pp (rOut (Bn pp) (nI k)) u).getD i 0 ∈ _)); exact ⟨j, m, j1, j3, j4⟩
                    refine lv_aload_n C0.1 C0.2.1 dX4_moveFromTape_170 rfl (lv_at hl 5 rfl) ?_
                    refine lv_iload_n C0.1 C0.2.1 dX4_moveFromTape_171 rfl (lv_at hl 6 rfl) ?_
                    refine lv_aload_n C0.1 C0.2.1 dX4_moveFromTape_172 rfl (lv_at hl 4 rfl) ?_
                    refine lv_iload_n C0.1 C0.2.1 dX4_moveFromTape_173 rfl (lv_at hl 7 rfl) ?_
                    refine lv_aload C0.1 C0.2.1 dX4_moveFromTape_174 (lv_at hl 3 rfl) ?_
                    refine me_cVwv (n := 4) C0 hml hP hS (c_X4_attach l G B0 w29 D ad ex R29 N cnt hFN (opT (detT T k) k (sN nk.2.2.1)) (upB Bn pp (rOut (Bn pp) (nI k))) hCT2 k u _ n2 hT2k hT2u (Ne.symm huk) h40 (by rw [hS2.len hT2u]; exact h40) (folds nk.2.2.1) ((hOw29 5).trans hv9_0_5) hE2) ⟨kw_309, kw_31, kw_306, ⟨by decide, by decide, by decide +kernel⟩, ⟨rfl, rfl⟩, ⟨Nat.le_of_ble_eq_true rfl, Nat.le_of_ble_eq_true rfl⟩⟩ kw_308 kw_6 hFN.1 rfl rfl hl.1 rfl (Nat.le_of_ble_eq_true rfl) ⟨Nat.le_of_ble_eq_true rfl, Nat.le_of_ble_eq_true rfl⟩ dX4_moveFromTape_176 (fun w31 H locs hw31 hP hS => ?_)
                    obtain ⟨R31, N31, hFN, hFD31, hOw31, hCT31⟩ := hw31
                    have hFD := hFD.tr hFD31
                    refine lv_iload C0.1 C0.2.1 dX4_moveFromTape_179 (lv_at hl 0 rfl) ?_
                    exact me_wiret _ C0.1 C0.2.1 B.returns B.notSynchronized hP hS (Nat.le_of_ble_eq_true rfl) (Nat.le_of_ble_eq_true rfl) (have hR : sMovR T tp (nI k) (nI u) = nI pp := (by unfold sMovR; rw [if_neg (show ¬ nI k = 0 from fun q => hk0 ((nI_eq (a := k) (b := 0) (by omega) (by omega)).mp q)), if_neg (noN_at0 hk hTk), if_neg (by rw [hnu]; decide), hmv, if_neg (by rw [hnm]; decide), entsOf_n hu hTu, hEB, if_neg (by decide), nI_clamp (by omega), nI_clamp (by omega), if_neg (by rw [hwi]; decide), parOf_n hk hTk, pp2, if_neg (fun q => q.1 (by rw [d28]))]); ⟨_, _, hFN, hFD, ((hOw31 1).trans ((hOw29 1).trans hv9_0_1)), ((hOw31 3).trans ((hOw29 3).trans hv9_0_3)), hR.symm, by rw [sMovT_s hR hk hu pp1, sMovB_s hR hk hu pp1, hmv]; unfold movT movB; rw [parN_s hTk pp2 pp1]; exact hCT31⟩) dX4_moveFromTape_181
                  · have d28 : pp ≠ u := fun h => c28 (congrArg nI h)
                    refine lv_aload C0.1 C0.2.1 dX4_moveFromTape_130 (lv_at hl 3 rfl) ?_
                    refine me_get C0 hP (hFN.2.2.1 u hxu) rfl inX1 2 (by decide) kw_86 rfl dX4_moveFromTape_132 ?_
                    refine me_cVi (n := 0) C0 hml hP hS (c_X2_size l G B0 w9 (ad (u + 1) 5) (ad (u + 1) (5 + 1)) (capR (u + 1) 5) nu.2.2.2.2 (hFN.rw0 (u + 1) 5 hxu (Or.inr (Or.inr (Or.inl rfl))) hv9_u1_5)) ⟨kw_141, kw_32, kw_138, ⟨by decide, by decide, by decide +kernel⟩, ⟨rfl, rfl⟩, ⟨Nat.le_of_ble_eq_true rfl, Nat.le_of_ble_eq_true rfl⟩⟩ kw_139 kw_140 (hFN.2.2.2.1 (u + 1) 5 hxu (Or.inr (Or.inr (Or.inl rfl)))).1 rfl rfl hl.1 rfl (Nat.le_of_ble_eq_true rfl) ⟨Nat.le_of_ble_eq_true rfl, Nat.le_of_ble_eq_true rfl⟩ dX4_moveFromTape_135 (fun r32 hr32 => ?_)
                    subst hr32
                    have hlcr32 : nu.2.2.2.2.length ≤ 40 := (hFN.rw0 (u + 1) 5 hxu (Or.inr (Or.inr (Or.inl rfl))) hv9_u1_5).2.1
                    refine lv_bipush (v := 40) C0.1 C0.2.1 dX4_moveFromTape_138 (by decide) ?_
                    refine lv_icmp_lt (tgt := 146) C0.1 C0.2.1 dX4_moveFromTape_140 (by decide) (fun c33 => ?_) (fun c33 => ?_)
                    · have d33 : nu.2.2.2.2.length < 40 := (nI_ltI (a := nu.2.2.2.2.length) (b := 40) (by omega) (by omega)).mp c33
                      refine lv_aload_n C0.1 C0.2.1 dX4_moveFromTape_146 rfl (lv_at hl 5 rfl) ?_
                      refine lv_iload_n C0.1 C0.2.1 dX4_moveFromTape_147 rfl (lv_at hl 6 rfl) ?_
                      refine lv_iload C0.1 C0.2.1 dX4_moveFromTape_148 (lv_at hl 0 rfl) ?_
                      refine me_cVwv (n := 2) C0 hml hP hS (c_X4_detach l G B0 w9 D ad ex R9 N cnt hFN T Bn hCT9 k pp pm pp3) ⟨kw_356, kw_31, kw_353, ⟨by decide, by decide, by decide +kernel⟩, ⟨rfl, rfl⟩, ⟨Nat.le_of_ble_eq_true rfl, Nat.le_of_ble_eq_true rfl⟩⟩ kw_355 kw_13 hFN.1 rfl rfl hl.1 rfl (Nat.le_of_ble_eq_true rfl) ⟨Nat.le_of_ble_eq_true rfl, Nat.le_of_ble_eq_true rfl⟩ dX4_moveFromTape_150 (fun w34 H locs hw34 hP hS => ?_)
                      obtain ⟨R34, hFN, hFD34, hOw34, hCT34⟩ := hw34
                      have hFD := hFD.tr hFD34
                      rw [← detT_e hTk pp2 pp1] at hCT34
                      obtain ⟨huk, hpk, hT1k, hJ1, hJ2, hT2k, hS2, n2, hT2u, h40, -, -⟩ := mov_pre hI hSB hTk hk0 pp2 pp1 hTu hok hoo hwi hEB (Or.inr (by omega))
                      obtain ⟨-, hxk3, hnk30, hnk31, hnk32, hrk31, hrk33, hrk35, hrk37⟩ := hCT34.2 k nk hT1k
                      have hT12 : opT (detT T k) k (sN nk.2.2.1) = detT T k := by rw [opT_e hT1k, show sN nk.2.2.1 nk = nk by unfold sN; rw [← hvf]]; funext v; by_cases e : v = k; rw [e, setT_s]; exact hT1k.symm; rw [setT_n e]
                      have hCT2 : CT ex R34 N (opT (detT T k) k (sN nk.2.2.1)) (upB Bn pp (rOut (Bn pp) (nI k))) := by rw [hT12]; exact hCT34
                      refine lv_iload C0.1 C0.2.1 dX4_moveFromTape_153 (lv_at hl 2 rfl) ?_
                      refine lv_if_eq (tgt := 170) C0.1 C0.2.1 dX4_moveFromTape_155 (by decide) (fun cx => ?_) (fun cx => absurd cx (by decide))
                      have hE2 : ∀ i, i < (upB Bn pp (rOut (Bn pp) (nI k)) u).length → ∃ (j : Nat) (m : Nod), j < 200 ∧ (upB Bn pp (rOut (Bn pp) (nI k)) u).getD i 0 = nI j ∧ opT (detT T k) k (sN nk.2.2.1) j = some m := fun i hi => by obtain ⟨j, m, j1, -, -, j3, j4, -⟩ := (hJ2.2.1 u n2 hT2u).2.2.2.1 _ ((hS2 u n2 hT2u).1.mem_iff.mp (by rw [List.getD_eq_getElem?_getD, List.getElem?_eq_getElem hi]; exact List.getElem_mem hi : (upB Bn pp (rOut (Bn pp) (nI k)) u).getD i 0 ∈ _)); exact ⟨j, m, j1, j3, j4⟩
                      refine lv_aload_n C0.1 C0.2.1 dX4_moveFromTape_170 rfl (lv_at hl 5 rfl) ?_
                      refine lv_iload_n C0.1 C0.2.1 dX4_moveFromTape_171 rfl (lv_at hl 6 rfl) ?_
                      refine lv_aload_n C0.1 C0.2.1 dX4_moveFromTape_172 rfl (lv_at hl 4 rfl) ?_
                      refine lv_iload_n C0.1 C0.2.1 dX4_moveFromTape_173 rfl (lv_at hl 7 rfl) ?_
                      refine lv_aload C0.1 C0.2.1 dX4_moveFromTape_174 (lv_at hl 3 rfl) ?_
                      refine me_cVwv (n := 4) C0 hml hP hS (c_X4_attach l G B0 w34 D ad ex R34 N cnt hFN (opT (detT T k) k (sN nk.2.2.1)) (upB Bn pp (rOut (Bn pp) (nI k))) hCT2 k u _ n2 hT2k hT2u (Ne.symm huk) h40 (by rw [hS2.len hT2u]; exact h40) (folds nk.2.2.1) ((hOw34 5).trans hv9_0_5) hE2) ⟨kw_309, kw_31, kw_306, ⟨by decide, by decide, by decide +kernel⟩, ⟨rfl, rfl⟩, ⟨Nat.le_of_ble_eq_true rfl, Nat.le_of_ble_eq_true rfl⟩⟩ kw_308 kw_6 hFN.1 rfl rfl hl.1 rfl (Nat.le_of_ble_eq_true rfl) ⟨Nat.le_of_ble_eq_true rfl, Nat.le_of_ble_eq_true rfl⟩ dX4_moveFromTape_176 (fun w36 H locs hw36 hP hS => ?_)
                      obtain ⟨R36, N36, hFN, hFD36, hOw36, hCT36⟩ := hw36
                      have hFD := hFD.tr hFD36
                      refine lv_iload C0.1 C0.2.1 dX4_moveFromTape_179 (lv_at hl 0 rfl) ?_
                      exact me_wiret _ C0.1 C0.2.1 B.returns B.notSynchronized hP hS (Nat.le_of_ble_eq_true rfl) (Nat.le_of_ble_eq_true rfl) (have hR : sMovR T tp (nI k) (nI u) = nI pp := (by unfold sMovR; rw [if_neg (show ¬ nI k = 0 from fun q => hk0 ((nI_eq (a := k) (b := 0) (by omega) (by omega)).mp q)), if_neg (noN_at0 hk hTk), if_neg (by rw [hnu]; decide), hmv, if_neg (by rw [hnm]; decide), entsOf_n hu hTu, hEB, if_neg (by decide), nI_clamp (by omega), nI_clamp (by omega), if_neg (by rw [hwi]; decide), parOf_n hk hTk, pp2, if_neg (fun q => absurd q.2 (by omega))]); ⟨_, _, hFN, hFD, ((hOw36 1).trans ((hOw34 1).trans hv9_0_1)), ((hOw36 3).trans ((hOw34 3).trans hv9_0_3)), hR.symm, by rw [sMovT_s hR hk hu pp1, sMovB_s hR hk hu pp1, hmv]; unfold movT movB; rw [parN_s hTk pp2 pp1]; exact hCT36⟩) dX4_moveFromTape_181
                    · have d33 : 40 ≤ nu.2.2.2.2.length := Nat.not_lt.mp (fun h => c33 (nI_lt (a := nu.2.2.2.2.length) (b := 40) h (by omega)))
                      refine lv_bipush (v := (-4)) C0.1 C0.2.1 dX4_moveFromTape_143 (by decide) ?_
                      exact me_wiret _ C0.1 C0.2.1 B.returns B.notSynchronized hP hS (Nat.le_of_ble_eq_true rfl) (Nat.le_of_ble_eq_true rfl) (have hR : sMovR T tp (nI k) (nI u) = (-4) := (by unfold sMovR; rw [if_neg (show ¬ nI k = 0 from fun q => hk0 ((nI_eq (a := k) (b := 0) (by omega) (by omega)).mp q)), if_neg (noN_at0 hk hTk), if_neg (by rw [hnu]; decide), hmv, if_neg (by rw [hnm]; decide), entsOf_n hu hTu, hEB, if_neg (by decide), nI_clamp (by omega), nI_clamp (by omega), if_neg (by rw [hwi]; decide), parOf_n hk hTk, pp2, if_pos ⟨fun q => d28 ((nI_eq (by omega) (by omega)).mp q), by omega⟩]); ⟨_, _, hFN, hFD, hv9_0_1, hv9_0_3, hR.symm, by rw [sMovT_f hR (by decide), sMovB_f hR (by decide)]; exact hCT9⟩) dX4_moveFromTape_145
                · rw [hwi] at hr26
                  subst hr26
                  refine lv_if_eq (tgt := 118) C0.1 C0.2.1 dX4_moveFromTape_112 (by decide) (fun cx => absurd cx (by decide)) (fun cx => ?_)
                  refine lv_bipush (v := (-6)) C0.1 C0.2.1 dX4_moveFromTape_115 (by decide) ?_
                  exact me_wiret _ C0.1 C0.2.1 B.returns B.notSynchronized hP hS (Nat.le_of_ble_eq_true rfl) (Nat.le_of_ble_eq_true rfl) (have hR : sMovR T tp (nI k) (nI u) = (-6) := (by unfold sMovR; rw [if_neg (show ¬ nI k = 0 from fun q => hk0 ((nI_eq (a := k) (b := 0) (by omega) (by omega)).mp q)), if_neg (noN_at0 hk hTk), if_neg (by rw [hnu]; decide), hmv, if_neg (by rw [hnm]; decide), entsOf_n hu hTu, hEB, if_neg (by decide), nI_clamp (by omega), nI_clamp (by omega), if_pos hwi]); ⟨_, _, hFN, hFD, hv9_0_1, hv9_0_3, hR.symm, by rw [sMovT_f hR (by decide), sMovB_f hR (by decide)]; exact hCT9⟩) dX4_moveFromTape_117
              · have d25 : e1 ≠ k := fun h => c25 (congrArg nI h)
                have hEB := ti_but2 hI hTu (bt := nI k) e17 ((folOf_n (by omega) e14).trans e16) (fun q => d25 ((nI_eq (by omega) (by omega)).mp q))
                refine lv_bipush (v := (-3)) C0.1 C0.2.1 dX4_moveFromTape_103 (by decide) ?_
                exact me_wiret _ C0.1 C0.2.1 B.returns B.notSynchronized hP hS (Nat.le_of_ble_eq_true rfl) (Nat.le_of_ble_eq_true rfl) (have hR : sMovR T tp (nI k) (nI u) = (-3) := (by unfold sMovR; rw [if_neg (show ¬ nI k = 0 from fun q => hk0 ((nI_eq (a := k) (b := 0) (by omega) (by omega)).mp q)), if_neg (noN_at0 hk hTk), if_neg (by rw [hnu]; decide), hmv, if_neg (by rw [hnm]; decide), entsOf_n hu hTu, hEB, if_pos (nI_pos (by omega))]); ⟨_, _, hFN, hFD, hv9_0_1, hv9_0_3, hR.symm, by rw [sMovT_f hR (by decide), sMovB_f hR (by decide)]; exact hCT9⟩) dX4_moveFromTape_105
        · have d7 : 0 < tp.length := Nat.not_le.mp (fun h => c7 (nI_le (a := tp.length) (b := 0) h (by omega)))
          refine lv_iconst (v := 1) C0.1 C0.2.1 dX4_moveFromTape_39 (by decide) ?_
          refine lv_goto (tgt := 44) C0.1 C0.2.1 dX4_moveFromTape_40 (by decide) ?_
          refine lv_istore (lv' := [(5, .int 1), (4, .ref (ad (u + 1) 0)), (3, .ref (ad (k + 1) 0)), (0, .ref (ad 0 0)), (1, .int (nI k)), (2, .int (nI u))]) C0.1 C0.2.1 dX4_moveFromTape_44 hl (by decide) rfl (fun ls hl => ?_)
          refine lv_iload C0.1 C0.2.1 dX4_moveFromTape_46 (lv_at hl 0 rfl) ?_
          refine lv_if_ne (tgt := 65) C0.1 C0.2.1 dX4_moveFromTape_48 (by decide) (fun cx => ?_) (fun cx => absurd cx (by decide))
          have hmv : mvN T tp (nI k) = tp := by unfold mvN; rw [if_neg (by omega)]
          have hoo := ho
          refine lv_aload_n C0.1 C0.2.1 dX4_moveFromTape_65 rfl (lv_at hl 3 rfl) ?_
          refine lv_iconst (v := 0) C0.1 C0.2.1 dX4_moveFromTape_66 (by decide) ?_
          refine lv_aload_n C0.1 C0.2.1 dX4_moveFromTape_67 rfl (lv_at hl 3 rfl) ?_
          refine me_get C0 hP hFN.1 rfl inX4 0 (by decide) kw_118 rfl dX4_moveFromTape_68 ?_
          refine me_cVi (n := 0) C0 hml hP hS (c_X2_size l G B0 w (ad 0 1) (ad 0 (1 + 1)) (capR 0 1) tp (hFN.rw0 0 1 hFN.2.2.2.2.1 (Or.inl rfl) htp)) ⟨kw_141, kw_32, kw_138, ⟨by decide, by decide, by decide +kernel⟩, ⟨rfl, rfl⟩, ⟨Nat.le_of_ble_eq_true rfl, Nat.le_of_ble_eq_true rfl⟩⟩ kw_139 kw_140 (hFN.2.2.2.1 0 1 hFN.2.2.2.2.1 (Or.inl rfl)).1 rfl rfl hl.1 rfl (Nat.le_of_ble_eq_true rfl) ⟨Nat.le_of_ble_eq_true rfl, Nat.le_of_ble_eq_true rfl⟩ dX4_moveFromTape_71 (fun r39 hr39 => ?_)
          subst hr39
          have hlcr39 : tp.length ≤ 200 := (hFN.rw0 0 1 hFN.2.2.2.2.1 (Or.inl rfl) htp).2.1
          refine me_cVwi (n := 2) C0 hml hP hS (c_X4_askForName l G B0 w D ad ex R N cnt hFN tp htp ho 0 tp.length (by omega) (by omega)) ⟨kw_276, kw_31, kw_273, ⟨by decide, by decide, by decide +kernel⟩, ⟨rfl, rfl⟩, ⟨Nat.le_of_ble_eq_true rfl, Nat.le_of_ble_eq_true rfl⟩⟩ kw_275 kw_3 hFN.1 rfl rfl hl.1 rfl (Nat.le_of_ble_eq_true rfl) ⟨Nat.le_of_ble_eq_true rfl, Nat.le_of_ble_eq_true rfl⟩ dX4_moveFromTape_74 (fun r40 w40 H locs hw40 hP hS => ?_)
          obtain ⟨R40, hFN, hFD40, hSR40, hres40⟩ := hw40
          have hFD := hFD.tr hFD40
          have hCT40 := hCT.sr hSR40 (by simp)
          rw [piece_all] at hres40
          rcases hres40 with ⟨hok, rfl, hX⟩ | ⟨hno, rfl⟩
          · have hnm : nmI tp = 1 := nmI_1 hok
            refine lv_if_ne (tgt := 83) C0.1 C0.2.1 dX4_moveFromTape_77 (by decide) (fun cx => ?_) (fun cx => absurd cx (by decide))
            refine lv_aload_n C0.1 C0.2.1 dX4_moveFromTape_83 rfl (lv_at hl 3 rfl) ?_
            refine lv_aload C0.1 C0.2.1 dX4_moveFromTape_84 (lv_at hl 1 rfl) ?_
            refine me_cVi (n := 1) C0 hml hP hS (c_X4_entryAsked l G B0 w40 D ad ex R40 N cnt hFN T Bn hCT40 u nu hTu (folds tp) nu.2.2.2.2 hX rfl (hI.ent u nu hTu)) ⟨kw_283, kw_31, kw_280, ⟨by decide, by decide, by decide +kernel⟩, ⟨rfl, rfl⟩, ⟨Nat.le_of_ble_eq_true rfl, Nat.le_of_ble_eq_true rfl⟩⟩ kw_282 kw_4 hFN.1 rfl rfl hl.1 rfl (Nat.le_of_ble_eq_true rfl) ⟨Nat.le_of_ble_eq_true rfl, Nat.le_of_ble_eq_true rfl⟩ dX4_moveFromTape_86 (fun r42 hr42 => ?_)
            rcases hI.elk hTu hr42 with ⟨hel, hel0⟩ | ⟨e1, me1, e11, e12, hel, e14, e15, e16, e17⟩
            · subst hel
              refine lv_istore (lv' := [(6, .int ((-1))), (5, .int 1), (4, .ref (ad (u + 1) 0)), (3, .ref (ad (k + 1) 0)), (0, .ref (ad 0 0)), (1, .int (nI k)), (2, .int (nI u))]) C0.1 C0.2.1 dX4_moveFromTape_89 hl (by decide) rfl (fun ls hl => ?_)
              refine lv_iload C0.1 C0.2.1 dX4_moveFromTape_91 (lv_at hl 0 rfl) ?_
              refine lv_iconst (v := (-1)) C0.1 C0.2.1 dX4_moveFromTape_93 (by decide) ?_
              refine lv_icmp_eq (tgt := 106) C0.1 C0.2.1 dX4_moveFromTape_94 (by decide) (fun cx => ?_) (fun cx => absurd cx (by decide))
              have hEB := ti_but0 hI hTu (bt := nI k) (hr42).symm
              refine lv_aload_n C0.1 C0.2.1 dX4_moveFromTape_106 rfl (lv_at hl 4 rfl) ?_
              refine lv_iload_n C0.1 C0.2.1 dX4_moveFromTape_107 rfl (lv_at hl 6 rfl) ?_
              refine lv_iload_n C0.1 C0.2.1 dX4_moveFromTape_108 rfl (lv_at hl 5 rfl) ?_
              obtain ⟨dp, hdp, hd200⟩ := hI.dp
              refine me_cVi (n := 2) C0 hml hP hS (c_X4_isWithin l G B0 w40 D ad ex R40 N cnt hFN T Bn hCT40 hI dp hdp hd200 u k nu hu hk hTu) ⟨kw_352, kw_31, kw_349, ⟨by decide, by decide, by decide +kernel⟩, ⟨rfl, rfl⟩, ⟨Nat.le_of_ble_eq_true rfl, Nat.le_of_ble_eq_true rfl⟩⟩ kw_351 kw_12 hFN.1 rfl rfl hl.1 rfl (Nat.le_of_ble_eq_true rfl) ⟨Nat.le_of_ble_eq_true rfl, Nat.le_of_ble_eq_true rfl⟩ dX4_moveFromTape_109 (fun r44 hr44 => ?_)
              rcases wF_r T k 200 u with hwi | hwi
              · rw [hwi] at hr44
                subst hr44
                refine lv_if_eq (tgt := 118) C0.1 C0.2.1 dX4_moveFromTape_112 (by decide) (fun cx => ?_) (fun cx => absurd cx (by decide))
                refine lv_aload_n C0.1 C0.2.1 dX4_moveFromTape_118 rfl (lv_at hl 3 rfl) ?_
                refine me_get C0 hP (hFN.2.2.1 k hxk) rfl inX1 6 (by decide) kw_94 rfl dX4_moveFromTape_119 ?_
                refine me_topi (y := nk.2.1) hnk2 ?_
                refine me_topi (y := nI pp) pp2 ?_
                refine lv_istore (lv' := [(7, .int (nI pp)), (6, .int ((-1))), (5, .int 1), (4, .ref (ad (u + 1) 0)), (3, .ref (ad (k + 1) 0)), (0, .ref (ad 0 0)), (1, .int (nI k)), (2, .int (nI u))]) C0.1 C0.2.1 dX4_moveFromTape_122 hl (by decide) rfl (fun ls hl => ?_)
                refine lv_iload C0.1 C0.2.1 dX4_moveFromTape_124 (lv_at hl 0 rfl) ?_
                refine lv_iload_n C0.1 C0.2.1 dX4_moveFromTape_126 rfl (lv_at hl 7 rfl) ?_
                refine lv_icmp_eq (tgt := 146) C0.1 C0.2.1 dX4_moveFromTape_127 (by decide) (fun c46 => ?_) (fun c46 => ?_)
                · have d46 : pp = u := (nI_eq (a := pp) (b := u) (by omega) (by omega)).mp c46
                  refine lv_aload_n C0.1 C0.2.1 dX4_moveFromTape_146 rfl (lv_at hl 5 rfl) ?_
                  refine lv_iload_n C0.1 C0.2.1 dX4_moveFromTape_147 rfl (lv_at hl 6 rfl) ?_
                  refine lv_iload C0.1 C0.2.1 dX4_moveFromTape_148 (lv_at hl 0 rfl) ?_
                  refine me_cVwv (n := 2) C0 hml hP hS (c_X4_detach l G B0 w40 D ad ex R40 N cnt hFN T Bn hCT40 k pp pm pp3) ⟨kw_356, kw_31, kw_353, ⟨by decide, by decide, by decide +kernel⟩, ⟨rfl, rfl⟩, ⟨Nat.le_of_ble_eq_true rfl, Nat.le_of_ble_eq_true rfl⟩⟩ kw_355 kw_13 hFN.1 rfl rfl hl.1 rfl (Nat.le_of_ble_eq_true rfl) ⟨Nat.le_of_ble_eq_true rfl, Nat.le_of_ble_eq_true rfl⟩ dX4_moveFromTape_150 (fun w47 H locs hw47 hP hS => ?_)
                  obtain ⟨R47, hFN, hFD47, hOw47, hCT47⟩ := hw47
                  have hFD := hFD.tr hFD47
                  rw [← detT_e hTk pp2 pp1] at hCT47
                  obtain ⟨huk, hpk, hT1k, hJ1, hJ2, hT2k, hS2, n2, hT2u, h40, -, -⟩ := mov_pre hI hSB hTk hk0 pp2 pp1 hTu hok hoo hwi hEB (Or.inl d46)
                  obtain ⟨-, hxk3, hnk30, hnk31, hnk32, hrk31, hrk33, hrk35, hrk37⟩ := hCT47.2 k nk hT1k
                  refine lv_iload C0.1 C0.2.1 dX4_moveFromTape_153 (lv_at hl 2 rfl) ?_
                  refine lv_if_eq (tgt := 170) C0.1 C0.2.1 dX4_moveFromTape_155 (by decide) (fun cx => absurd cx (by decide)) (fun cx => ?_)
                  refine lv_aload_n C0.1 C0.2.1 dX4_moveFromTape_158 rfl (lv_at hl 4 rfl) ?_
                  refine lv_aload_n C0.1 C0.2.1 dX4_moveFromTape_159 rfl (lv_at hl 5 rfl) ?_
                  refine me_get C0 hP hFN.1 rfl inX4 0 (by decide) kw_118 rfl dX4_moveFromTape_160 ?_
                  refine lv_aload_n C0.1 C0.2.1 dX4_moveFromTape_163 rfl (lv_at hl 5 rfl) ?_
                  refine me_get C0 hP hFN.1 rfl inX4 2 (by decide) kw_120 rfl dX4_moveFromTape_164 ?_
                  refine me_cVwv (n := 2) C0 hml hP hS (c_X1_takeName l G B0 w47 (ad (k + 1)) (R47 (k + 1)) (N (k + 1)) (hFN.nd hxk) (ad 0 1) (ad 0 (1 + 1)) (capR 0 1) tp (hFN.rw0 0 1 hFN.2.2.2.2.1 (Or.inl rfl) ((hOw47 1).trans ((hSR40 0 1 (by simp)).trans htp))) (fun j hj => ⟨hFN.ne hFN.2.2.2.2.1 hxk (rowJ_us (show rowJ 0 1 from (Or.inl rfl))).1 ⟨hj, by omega⟩ (by omega), hFN.ne hFN.2.2.2.2.1 hxk (rowJ_us (show rowJ 0 1 from (Or.inl rfl))).2.1 ⟨hj, by omega⟩ (by omega)⟩) (ad 0 5) (ad 0 (5 + 1)) (capR 0 5) (folds tp) (hFN.rw0 0 5 hFN.2.2.2.2.1 (Or.inr (Or.inr rfl)) ((hOw47 5).trans hX)) (fun j hj => ⟨hFN.ne hFN.2.2.2.2.1 hxk (rowJ_us (show rowJ 0 5 from (Or.inr (Or.inr rfl)))).1 ⟨hj, by omega⟩ (by omega), hFN.ne hFN.2.2.2.2.1 hxk (rowJ_us (show rowJ 0 5 from (Or.inr (Or.inr rfl)))).2.1 ⟨hj, by omega⟩ (by omega)⟩)) ⟨kw_301, kw_34, kw_298, ⟨by decide, by decide, by decide +kernel⟩, ⟨rfl, rfl⟩, ⟨Nat.le_of_ble_eq_true rfl, Nat.le_of_ble_eq_true rfl⟩⟩ kw_299 kw_300 (hFN.2.2.1 k hxk) rfl rfl hl.1 rfl (Nat.le_of_ble_eq_true rfl) ⟨Nat.le_of_ble_eq_true rfl, Nat.le_of_ble_eq_true rfl⟩ dX4_moveFromTape_167 (fun w49 H locs hw49 hP hS => ?_)
                  obtain ⟨hND49, hFB49⟩ := hw49
                  have hFD := hFN.dr hxk hFD hFB49
                  obtain ⟨R49, N49, hFN, hRo49, hNo49, hRk49, hNk49⟩ := ND.end hFN hxk hND49 hFB49
                  have ht60 : tp.take 60 = tp := List.take_of_length_le hok.1.2
                  have hf60 : (folds tp).take 60 = folds tp := List.take_of_length_le (nmOK_fl hok)
                  have hCT2 : CT ex R49 N49 (opT (detT T k) k (sN tp)) (upB Bn pp (rOut (Bn pp) (nI k))) := hCT47.opB hT1k rfl (fun kk hkk => ⟨rfl, fun i _ => hNo49 (kk + 1) i (by omega), fun jj _ => hRo49 (kk + 1) jj (by omega)⟩) ⟨hxk, (hNk49 0).trans hnk30, (hNk49 1).trans hnk31, (hNk49 2).trans hnk32, (hRk49 1).trans ht60, (hRk49 3).trans hf60, (hRk49 5).trans hrk35, (hRk49 7).trans hrk37⟩
                  have hE2 : ∀ i, i < (upB Bn pp (rOut (Bn pp) (nI k)) u).length → ∃ (j : Nat) (m : Nod), j < 200 ∧ (upB Bn pp (rOut (Bn pp) (nI k)) u).getD i 0 = nI j ∧ opT (detT T k) k (sN tp) j = some m := fun i hi => by obtain ⟨j, m, j1, -, -, j3, j4, -⟩ := (hJ2.2.1 u n2 hT2u).2.2.2.1 _ ((hS2 u n2 hT2u).1.mem_iff.mp (by rw [List.getD_eq_getElem?_getD, List.getElem?_eq_getElem hi]; exact List.getElem_mem hi : (upB Bn pp (rOut (Bn pp) (nI k)) u).getD i 0 ∈ _)); exact ⟨j, m, j1, j3, j4⟩
                  refine lv_aload_n C0.1 C0.2.1 dX4_moveFromTape_170 rfl (lv_at hl 5 rfl) ?_
                  refine lv_iload_n C0.1 C0.2.1 dX4_moveFromTape_171 rfl (lv_at hl 6 rfl) ?_
                  refine lv_aload_n C0.1 C0.2.1 dX4_moveFromTape_172 rfl (lv_at hl 4 rfl) ?_
                  refine lv_iload_n C0.1 C0.2.1 dX4_moveFromTape_173 rfl (lv_at hl 7 rfl) ?_
                  refine lv_aload C0.1 C0.2.1 dX4_moveFromTape_174 (lv_at hl 3 rfl) ?_
                  refine me_cVwv (n := 4) C0 hml hP hS (c_X4_attach l G B0 w49 D ad ex R49 N49 cnt hFN (opT (detT T k) k (sN tp)) (upB Bn pp (rOut (Bn pp) (nI k))) hCT2 k u _ n2 hT2k hT2u (Ne.symm huk) h40 (by rw [hS2.len hT2u]; exact h40) (folds tp) ((hRo49 0 5 (by omega)).trans ((hOw47 5).trans hX)) hE2) ⟨kw_309, kw_31, kw_306, ⟨by decide, by decide, by decide +kernel⟩, ⟨rfl, rfl⟩, ⟨Nat.le_of_ble_eq_true rfl, Nat.le_of_ble_eq_true rfl⟩⟩ kw_308 kw_6 hFN.1 rfl rfl hl.1 rfl (Nat.le_of_ble_eq_true rfl) ⟨Nat.le_of_ble_eq_true rfl, Nat.le_of_ble_eq_true rfl⟩ dX4_moveFromTape_176 (fun w50 H locs hw50 hP hS => ?_)
                  obtain ⟨R50, N50, hFN, hFD50, hOw50, hCT50⟩ := hw50
                  have hFD := hFD.tr hFD50
                  refine lv_iload C0.1 C0.2.1 dX4_moveFromTape_179 (lv_at hl 0 rfl) ?_
                  exact me_wiret _ C0.1 C0.2.1 B.returns B.notSynchronized hP hS (Nat.le_of_ble_eq_true rfl) (Nat.le_of_ble_eq_true rfl) (have hR : sMovR T tp (nI k) (nI u) = nI pp := (by unfold sMovR; rw [if_neg (show ¬ nI k = 0 from fun q => hk0 ((nI_eq (a := k) (b := 0) (by omega) (by omega)).mp q)), if_neg (noN_at0 hk hTk), if_neg (by rw [hnu]; decide), hmv, if_neg (by rw [hnm]; decide), entsOf_n hu hTu, hEB, if_neg (by decide), nI_clamp (by omega), nI_clamp (by omega), if_neg (by rw [hwi]; decide), parOf_n hk hTk, pp2, if_neg (fun q => q.1 (by rw [d46]))]); ⟨_, _, hFN, hFD, ((hOw50 1).trans ((hRo49 0 1 (by omega)).trans ((hOw47 1).trans ((hSR40 0 1 (by simp)).trans htp)))), ((hOw50 3).trans ((hRo49 0 3 (by omega)).trans ((hOw47 3).trans ((hSR40 0 3 (by simp)).trans (Eq.refl (R 0 3)))))), hR.symm, by rw [sMovT_s hR hk hu pp1, sMovB_s hR hk hu pp1, hmv]; unfold movT movB; rw [parN_s hTk pp2 pp1]; exact hCT50⟩) dX4_moveFromTape_181
                · have d46 : pp ≠ u := fun h => c46 (congrArg nI h)
                  refine lv_aload C0.1 C0.2.1 dX4_moveFromTape_130 (lv_at hl 3 rfl) ?_
                  refine me_get C0 hP (hFN.2.2.1 u hxu) rfl inX1 2 (by decide) kw_86 rfl dX4_moveFromTape_132 ?_
                  refine me_cVi (n := 0) C0 hml hP hS (c_X2_size l G B0 w40 (ad (u + 1) 5) (ad (u + 1) (5 + 1)) (capR (u + 1) 5) nu.2.2.2.2 (hFN.rw0 (u + 1) 5 hxu (Or.inr (Or.inr (Or.inl rfl))) ((hSR40 (u + 1) 5 (by simp)).trans hru5))) ⟨kw_141, kw_32, kw_138, ⟨by decide, by decide, by decide +kernel⟩, ⟨rfl, rfl⟩, ⟨Nat.le_of_ble_eq_true rfl, Nat.le_of_ble_eq_true rfl⟩⟩ kw_139 kw_140 (hFN.2.2.2.1 (u + 1) 5 hxu (Or.inr (Or.inr (Or.inl rfl)))).1 rfl rfl hl.1 rfl (Nat.le_of_ble_eq_true rfl) ⟨Nat.le_of_ble_eq_true rfl, Nat.le_of_ble_eq_true rfl⟩ dX4_moveFromTape_135 (fun r51 hr51 => ?_)
                  subst hr51
                  have hlcr51 : nu.2.2.2.2.length ≤ 40 := (hFN.rw0 (u + 1) 5 hxu (Or.inr (Or.inr (Or.inl rfl))) ((hSR40 (u + 1) 5 (by simp)).trans hru5)).2.1
                  refine lv_bipush (v := 40) C0.1 C0.2.1 dX4_moveFromTape_138 (by decide) ?_
                  refine lv_icmp_lt (tgt := 146) C0.1 C0.2.1 dX4_moveFromTape_140 (by decide) (fun c52 => ?_) (fun c52 => ?_)
                  · have d52 : nu.2.2.2.2.length < 40 := (nI_ltI (a := nu.2.2.2.2.length) (b := 40) (by omega) (by omega)).mp c52
                    refine lv_aload_n C0.1 C0.2.1 dX4_moveFromTape_146 rfl (lv_at hl 5 rfl) ?_
                    refine lv_iload_n C0.1 C0.2.1 dX4_moveFromTape_147 rfl (lv_at hl 6 rfl) ?_
                    refine lv_iload C0.1 C0.2.1 dX4_moveFromTape_148 (lv_at hl 0 rfl) ?_
                    refine me_cVwv (n := 2) C0 hml hP hS (c_X4_detach l G B0 w40 D ad ex R40 N cnt hFN T Bn hCT40 k pp pm pp3) ⟨kw_356, kw_31, kw_353, ⟨by decide, by decide, by decide +kernel⟩, ⟨rfl, rfl⟩, ⟨Nat.le_of_ble_eq_true rfl, Nat.le_of_ble_eq_true rfl⟩⟩ kw_355 kw_13 hFN.1 rfl rfl hl.1 rfl (Nat.le_of_ble_eq_true rfl) ⟨Nat.le_of_ble_eq_true rfl, Nat.le_of_ble_eq_true rfl⟩ dX4_moveFromTape_150 (fun w53 H locs hw53 hP hS => ?_)
                    obtain ⟨R53, hFN, hFD53, hOw53, hCT53⟩ := hw53
                    have hFD := hFD.tr hFD53
                    rw [← detT_e hTk pp2 pp1] at hCT53
                    obtain ⟨huk, hpk, hT1k, hJ1, hJ2, hT2k, hS2, n2, hT2u, h40, -, -⟩ := mov_pre hI hSB hTk hk0 pp2 pp1 hTu hok hoo hwi hEB (Or.inr (by omega))
                    obtain ⟨-, hxk3, hnk30, hnk31, hnk32, hrk31, hrk33, hrk35, hrk37⟩ := hCT53.2 k nk hT1k
                    refine lv_iload C0.1 C0.2.1 dX4_moveFromTape_153 (lv_at hl 2 rfl) ?_
                    refine lv_if_eq (tgt := 170) C0.1 C0.2.1 dX4_moveFromTape_155 (by decide) (fun cx => absurd cx (by decide)) (fun cx => ?_)
                    refine lv_aload_n C0.1 C0.2.1 dX4_moveFromTape_158 rfl (lv_at hl 4 rfl) ?_
                    refine lv_aload_n C0.1 C0.2.1 dX4_moveFromTape_159 rfl (lv_at hl 5 rfl) ?_
                    refine me_get C0 hP hFN.1 rfl inX4 0 (by decide) kw_118 rfl dX4_moveFromTape_160 ?_
                    refine lv_aload_n C0.1 C0.2.1 dX4_moveFromTape_163 rfl (lv_at hl 5 rfl) ?_
                    refine me_get C0 hP hFN.1 rfl inX4 2 (by decide) kw_120 rfl dX4_moveFromTape_164 ?_
                    refine me_cVwv (n := 2) C0 hml hP hS (c_X1_takeName l G B0 w53 (ad (k + 1)) (R53 (k + 1)) (N (k + 1)) (hFN.nd hxk) (ad 0 1) (ad 0 (1 + 1)) (capR 0 1) tp (hFN.rw0 0 1 hFN.2.2.2.2.1 (Or.inl rfl) ((hOw53 1).trans ((hSR40 0 1 (by simp)).trans htp))) (fun j hj => ⟨hFN.ne hFN.2.2.2.2.1 hxk (rowJ_us (show rowJ 0 1 from (Or.inl rfl))).1 ⟨hj, by omega⟩ (by omega), hFN.ne hFN.2.2.2.2.1 hxk (rowJ_us (show rowJ 0 1 from (Or.inl rfl))).2.1 ⟨hj, by omega⟩ (by omega)⟩) (ad 0 5) (ad 0 (5 + 1)) (capR 0 5) (folds tp) (hFN.rw0 0 5 hFN.2.2.2.2.1 (Or.inr (Or.inr rfl)) ((hOw53 5).trans hX)) (fun j hj => ⟨hFN.ne hFN.2.2.2.2.1 hxk (rowJ_us (show rowJ 0 5 from (Or.inr (Or.inr rfl)))).1 ⟨hj, by omega⟩ (by omega), hFN.ne hFN.2.2.2.2.1 hxk (rowJ_us (show rowJ 0 5 from (Or.inr (Or.inr rfl)))).2.1 ⟨hj, by omega⟩ (by omega)⟩)) ⟨kw_301, kw_34, kw_298, ⟨by decide, by decide, by decide +kernel⟩, ⟨rfl, rfl⟩, ⟨Nat.le_of_ble_eq_true rfl, Nat.le_of_ble_eq_true rfl⟩⟩ kw_299 kw_300 (hFN.2.2.1 k hxk) rfl rfl hl.1 rfl (Nat.le_of_ble_eq_true rfl) ⟨Nat.le_of_ble_eq_true rfl, Nat.le_of_ble_eq_true rfl⟩ dX4_moveFromTape_167 (fun w55 H locs hw55 hP hS => ?_)
                    obtain ⟨hND55, hFB55⟩ := hw55
                    have hFD := hFN.dr hxk hFD hFB55
                    obtain ⟨R55, N55, hFN, hRo55, hNo55, hRk55, hNk55⟩ := ND.end hFN hxk hND55 hFB55
                    have ht60 : tp.take 60 = tp := List.take_of_length_le hok.1.2
                    have hf60 : (folds tp).take 60 = folds tp := List.take_of_length_le (nmOK_fl hok)
                    have hCT2 : CT ex R55 N55 (opT (detT T k) k (sN tp)) (upB Bn pp (rOut (Bn pp) (nI k))) := hCT53.opB hT1k rfl (fun kk hkk => ⟨rfl, fun i _ => hNo55 (kk + 1) i (by omega), fun jj _ => hRo55 (kk + 1) jj (by omega)⟩) ⟨hxk, (hNk55 0).trans hnk30, (hNk55 1).trans hnk31, (hNk55 2).trans hnk32, (hRk55 1).trans ht60, (hRk55 3).trans hf60, (hRk55 5).trans hrk35, (hRk55 7).trans hrk37⟩
                    have hE2 : ∀ i, i < (upB Bn pp (rOut (Bn pp) (nI k)) u).length → ∃ (j : Nat) (m : Nod), j < 200 ∧ (upB Bn pp (rOut (Bn pp) (nI k)) u).getD i 0 = nI j ∧ opT (detT T k) k (sN tp) j = some m := fun i hi => by obtain ⟨j, m, j1, -, -, j3, j4, -⟩ := (hJ2.2.1 u n2 hT2u).2.2.2.1 _ ((hS2 u n2 hT2u).1.mem_iff.mp (by rw [List.getD_eq_getElem?_getD, List.getElem?_eq_getElem hi]; exact List.getElem_mem hi : (upB Bn pp (rOut (Bn pp) (nI k)) u).getD i 0 ∈ _)); exact ⟨j, m, j1, j3, j4⟩
                    refine lv_aload_n C0.1 C0.2.1 dX4_moveFromTape_170 rfl (lv_at hl 5 rfl) ?_
                    refine lv_iload_n C0.1 C0.2.1 dX4_moveFromTape_171 rfl (lv_at hl 6 rfl) ?_
                    refine lv_aload_n C0.1 C0.2.1 dX4_moveFromTape_172 rfl (lv_at hl 4 rfl) ?_
                    refine lv_iload_n C0.1 C0.2.1 dX4_moveFromTape_173 rfl (lv_at hl 7 rfl) ?_
                    refine lv_aload C0.1 C0.2.1 dX4_moveFromTape_174 (lv_at hl 3 rfl) ?_
                    refine me_cVwv (n := 4) C0 hml hP hS (c_X4_attach l G B0 w55 D ad ex R55 N55 cnt hFN (opT (detT T k) k (sN tp)) (upB Bn pp (rOut (Bn pp) (nI k))) hCT2 k u _ n2 hT2k hT2u (Ne.symm huk) h40 (by rw [hS2.len hT2u]; exact h40) (folds tp) ((hRo55 0 5 (by omega)).trans ((hOw53 5).trans hX)) hE2) ⟨kw_309, kw_31, kw_306, ⟨by decide, by decide, by decide +kernel⟩, ⟨rfl, rfl⟩, ⟨Nat.le_of_ble_eq_true rfl, Nat.le_of_ble_eq_true rfl⟩⟩ kw_308 kw_6 hFN.1 rfl rfl hl.1 rfl (Nat.le_of_ble_eq_true rfl) ⟨Nat.le_of_ble_eq_true rfl, Nat.le_of_ble_eq_true rfl⟩ dX4_moveFromTape_176 (fun w56 H locs hw56 hP hS => ?_)
                    obtain ⟨R56, N56, hFN, hFD56, hOw56, hCT56⟩ := hw56
                    have hFD := hFD.tr hFD56
                    refine lv_iload C0.1 C0.2.1 dX4_moveFromTape_179 (lv_at hl 0 rfl) ?_
                    exact me_wiret _ C0.1 C0.2.1 B.returns B.notSynchronized hP hS (Nat.le_of_ble_eq_true rfl) (Nat.le_of_ble_eq_true rfl) (have hR : sMovR T tp (nI k) (nI u) = nI pp := (by unfold sMovR; rw [if_neg (show ¬ nI k = 0 from fun q => hk0 ((nI_eq (a := k) (b := 0) (by omega) (by omega)).mp q)), if_neg (noN_at0 hk hTk), if_neg (by rw [hnu]; decide), hmv, if_neg (by rw [hnm]; decide), entsOf_n hu hTu, hEB, if_neg (by decide), nI_clamp (by omega), nI_clamp (by omega), if_neg (by rw [hwi]; decide), parOf_n hk hTk, pp2, if_neg (fun q => absurd q.2 (by omega))]); ⟨_, _, hFN, hFD, ((hOw56 1).trans ((hRo55 0 1 (by omega)).trans ((hOw53 1).trans ((hSR40 0 1 (by simp)).trans htp)))), ((hOw56 3).trans ((hRo55 0 3 (by omega)).trans ((hOw53 3).trans ((hSR40 0 3 (by simp)).trans (Eq.refl (R 0 3)))))), hR.symm, by rw [sMovT_s hR hk hu pp1, sMovB_s hR hk hu pp1, hmv]; unfold movT movB; rw [parN_s hTk pp2 pp1]; exact hCT56⟩) dX4_moveFromTape_181
                  · have d52 : 40 ≤ nu.2.2.2.2.length := Nat.not_lt.mp (fun h => c52 (nI_lt (a := nu.2.2.2.2.length) (b := 40) h (by omega)))
                    refine lv_bipush (v := (-4)) C0.1 C0.2.1 dX4_moveFromTape_143 (by decide) ?_
                    exact me_wiret _ C0.1 C0.2.1 B.returns B.notSynchronized hP hS (Nat.le_of_ble_eq_true rfl) (Nat.le_of_ble_eq_true rfl) (have hR : sMovR T tp (nI k) (nI u) = (-4) := (by unfold sMovR; rw [if_neg (show ¬ nI k = 0 from fun q => hk0 ((nI_eq (a := k) (b := 0) (by omega) (by omega)).mp q)), if_neg (noN_at0 hk hTk), if_neg (by rw [hnu]; decide), hmv, if_neg (by rw [hnm]; decide), entsOf_n hu hTu, hEB, if_neg (by decide), nI_clamp (by omega), nI_clamp (by omega), if_neg (by rw [hwi]; decide), parOf_n hk hTk, pp2, if_pos ⟨fun q => d46 ((nI_eq (by omega) (by omega)).mp q), by omega⟩]); ⟨_, _, hFN, hFD, ((hSR40 0 1 (by simp)).trans htp), ((hSR40 0 3 (by simp)).trans (Eq.refl (R 0 3))), hR.symm, by rw [sMovT_f hR (by decide), sMovB_f hR (by decide)]; exact hCT40⟩) dX4_moveFromTape_145
              · rw [hwi] at hr44
                subst hr44
                refine lv_if_eq (tgt := 118) C0.1 C0.2.1 dX4_moveFromTape_112 (by decide) (fun cx => absurd cx (by decide)) (fun cx => ?_)
                refine lv_bipush (v := (-6)) C0.1 C0.2.1 dX4_moveFromTape_115 (by decide) ?_
                exact me_wiret _ C0.1 C0.2.1 B.returns B.notSynchronized hP hS (Nat.le_of_ble_eq_true rfl) (Nat.le_of_ble_eq_true rfl) (have hR : sMovR T tp (nI k) (nI u) = (-6) := (by unfold sMovR; rw [if_neg (show ¬ nI k = 0 from fun q => hk0 ((nI_eq (a := k) (b := 0) (by omega) (by omega)).mp q)), if_neg (noN_at0 hk hTk), if_neg (by rw [hnu]; decide), hmv, if_neg (by rw [hnm]; decide), entsOf_n hu hTu, hEB, if_neg (by decide), nI_clamp (by omega), nI_clamp (by omega), if_pos hwi]); ⟨_, _, hFN, hFD, ((hSR40 0 1 (by simp)).trans htp), ((hSR40 0 3 (by simp)).trans (Eq.refl (R 0 3))), hR.symm, by rw [sMovT_f hR (by decide), sMovB_f hR (by decide)]; exact hCT40⟩) dX4_moveFromTape_117
            · subst hel
              refine lv_istore (lv' := [(6, .int (nI e1)), (5, .int 1), (4, .ref (ad (u + 1) 0)), (3, .ref (ad (k + 1) 0)), (0, .ref (ad 0 0)), (1, .int (nI k)), (2, .int (nI u))]) C0.1 C0.2.1 dX4_moveFromTape_89 hl (by decide) rfl (fun ls hl => ?_)
              refine lv_iload C0.1 C0.2.1 dX4_moveFromTape_91 (lv_at hl 0 rfl) ?_
              refine lv_iconst (v := (-1)) C0.1 C0.2.1 dX4_moveFromTape_93 (by decide) ?_
              refine lv_icmp_eq (tgt := 106) C0.1 C0.2.1 dX4_moveFromTape_94 (by decide) (fun c58 => ?_) (fun c58 => ?_)
              · exact absurd c58 (nI_nm1 (by omega))
              · refine lv_iload C0.1 C0.2.1 dX4_moveFromTape_97 (lv_at hl 0 rfl) ?_
                refine lv_iload_n C0.1 C0.2.1 dX4_moveFromTape_99 rfl (lv_at hl 5 rfl) ?_
                refine lv_icmp_eq (tgt := 106) C0.1 C0.2.1 dX4_moveFromTape_100 (by decide) (fun c59 => ?_) (fun c59 => ?_)
                · have d59 : e1 = k := (nI_eq (a := e1) (b := k) (by omega) (by omega)).mp c59
                  have hEB := ti_but1 hI hTu (bt := nI k) e17 ((folOf_n (by omega) e14).trans e16) (by rw [d59])
                  refine lv_aload_n C0.1 C0.2.1 dX4_moveFromTape_106 rfl (lv_at hl 4 rfl) ?_
                  refine lv_iload_n C0.1 C0.2.1 dX4_moveFromTape_107 rfl (lv_at hl 6 rfl) ?_
                  refine lv_iload_n C0.1 C0.2.1 dX4_moveFromTape_108 rfl (lv_at hl 5 rfl) ?_
                  obtain ⟨dp, hdp, hd200⟩ := hI.dp
                  refine me_cVi (n := 2) C0 hml hP hS (c_X4_isWithin l G B0 w40 D ad ex R40 N cnt hFN T Bn hCT40 hI dp hdp hd200 u k nu hu hk hTu) ⟨kw_352, kw_31, kw_349, ⟨by decide, by decide, by decide +kernel⟩, ⟨rfl, rfl⟩, ⟨Nat.le_of_ble_eq_true rfl, Nat.le_of_ble_eq_true rfl⟩⟩ kw_351 kw_12 hFN.1 rfl rfl hl.1 rfl (Nat.le_of_ble_eq_true rfl) ⟨Nat.le_of_ble_eq_true rfl, Nat.le_of_ble_eq_true rfl⟩ dX4_moveFromTape_109 (fun r60 hr60 => ?_)
                  rcases wF_r T k 200 u with hwi | hwi
                  · rw [hwi] at hr60
                    subst hr60
                    refine lv_if_eq (tgt := 118) C0.1 C0.2.1 dX4_moveFromTape_112 (by decide) (fun cx => ?_) (fun cx => absurd cx (by decide))
                    refine lv_aload_n C0.1 C0.2.1 dX4_moveFromTape_118 rfl (lv_at hl 3 rfl) ?_
                    refine me_get C0 hP (hFN.2.2.1 k hxk) rfl inX1 6 (by decide) kw_94 rfl dX4_moveFromTape_119 ?_
                    refine me_topi (y := nk.2.1) hnk2 ?_
                    refine me_topi (y := nI pp) pp2 ?_
                    refine lv_istore (lv' := [(7, .int (nI pp)), (6, .int (nI e1)), (5, .int 1), (4, .ref (ad (u + 1) 0)), (3, .ref (ad (k + 1) 0)), (0, .ref (ad 0 0)), (1, .int (nI k)), (2, .int (nI u))]) C0.1 C0.2.1 dX4_moveFromTape_122 hl (by decide) rfl (fun ls hl => ?_)
                    refine lv_iload C0.1 C0.2.1 dX4_moveFromTape_124 (lv_at hl 0 rfl) ?_
                    refine lv_iload_n C0.1 C0.2.1 dX4_moveFromTape_126 rfl (lv_at hl 7 rfl) ?_
                    refine lv_icmp_eq (tgt := 146) C0.1 C0.2.1 dX4_moveFromTape_127 (by decide) (fun c62 => ?_) (fun c62 => ?_)
                    · have d62 : pp = u := (nI_eq (a := pp) (b := u) (by omega) (by omega)).mp c62
                      refine lv_aload_n C0.1 C0.2.1 dX4_moveFromTape_146 rfl (lv_at hl 5 rfl) ?_
                      refine lv_iload_n C0.1 C0.2.1 dX4_moveFromTape_147 rfl (lv_at hl 6 rfl) ?_
                      refine lv_iload C0.1 C0.2.1 dX4_moveFromTape_148 (lv_at hl 0 rfl) ?_
                      refine me_cVwv (n := 2) C0 hml hP hS (c_X4_detach l G B0 w40 D ad ex R40 N cnt hFN T Bn hCT40 k pp pm pp3) ⟨kw_356, kw_31, kw_353, ⟨by decide, by decide, by decide +kernel⟩, ⟨rfl, rfl⟩, ⟨Nat.le_of_ble_eq_true rfl, Nat.le_of_ble_eq_true rfl⟩⟩ kw_355 kw_13 hFN.1 rfl rfl hl.1 rfl (Nat.le_of_ble_eq_true rfl) ⟨Nat.le_of_ble_eq_true rfl, Nat.le_of_ble_eq_true rfl⟩ dX4_moveFromTape_150 (fun w63 H locs hw63 hP hS => ?_)
                      obtain ⟨R63, hFN, hFD63, hOw63, hCT63⟩ := hw63
                      have hFD := hFD.tr hFD63
                      rw [← detT_e hTk pp2 pp1] at hCT63
                      obtain ⟨huk, hpk, hT1k, hJ1, hJ2, hT2k, hS2, n2, hT2u, h40, -, -⟩ := mov_pre hI hSB hTk hk0 pp2 pp1 hTu hok hoo hwi hEB (Or.inl d62)
                      obtain ⟨-, hxk3, hnk30, hnk31, hnk32, hrk31, hrk33, hrk35, hrk37⟩ := hCT63.2 k nk hT1k
                      refine lv_iload C0.1 C0.2.1 dX4_moveFromTape_153 (lv_at hl 2 rfl) ?_
                      refine lv_if_eq (tgt := 170) C0.1 C0.2.1 dX4_moveFromTape_155 (by decide) (fun cx => absurd cx (by decide)) (fun cx => ?_)
                      refine lv_aload_n C0.1 C0.2.1 dX4_moveFromTape_158 rfl (lv_at hl 4 rfl) ?_
                      refine lv_aload_n C0.1 C0.2.1 dX4_moveFromTape_159 rfl (lv_at hl 5 rfl) ?_
                      refine me_get C0 hP hFN.1 rfl inX4 0 (by decide) kw_118 rfl dX4_moveFromTape_160 ?_
                      refine lv_aload_n C0.1 C0.2.1 dX4_moveFromTape_163 rfl (lv_at hl 5 rfl) ?_
                      refine me_get C0 hP hFN.1 rfl inX4 2 (by decide) kw_120 rfl dX4_moveFromTape_164 ?_
                      refine me_cVwv (n := 2) C0 hml hP hS (c_X1_takeName l G B0 w63 (ad (k + 1)) (R63 (k + 1)) (N (k + 1)) (hFN.nd hxk) (ad 0 1) (ad 0 (1 + 1)) (capR 0 1) tp (hFN.rw0 0 1 hFN.2.2.2.2.1 (Or.inl rfl) ((hOw63 1).trans ((hSR40 0 1 (by simp)).trans htp))) (fun j hj => ⟨hFN.ne hFN.2.2.2.2.1 hxk (rowJ_us (show rowJ 0 1 from (Or.inl rfl))).1 ⟨hj, by omega⟩ (by omega), hFN.ne hFN.2.2.2.2.1 hxk (rowJ_us (show rowJ 0 1 from (Or.inl rfl))).2.1 ⟨hj, by omega⟩ (by omega)⟩) (ad 0 5) (ad 0 (5 + 1)) (capR 0 5) (folds tp) (hFN.rw0 0 5 hFN.2.2.2.2.1 (Or.inr (Or.inr rfl)) ((hOw63 5).trans hX)) (fun j hj => ⟨hFN.ne hFN.2.2.2.2.1 hxk (rowJ_us (show rowJ 0 5 from (Or.inr (Or.inr rfl)))).1 ⟨hj, by omega⟩ (by omega), hFN.ne hFN.2.2.2.2.1 hxk (rowJ_us (show rowJ 0 5 from (Or.inr (Or.inr rfl)))).2.1 ⟨hj, by omega⟩ (by omega)⟩)) ⟨kw_301, kw_34, kw_298, ⟨by decide, by decide, by decide +kernel⟩, ⟨rfl, rfl⟩, ⟨Nat.le_of_ble_eq_true rfl, Nat.le_of_ble_eq_true rfl⟩⟩ kw_299 kw_300 (hFN.2.2.1 k hxk) rfl rfl hl.1 rfl (Nat.le_of_ble_eq_true rfl) ⟨Nat.le_of_ble_eq_true rfl, Nat.le_of_ble_eq_true rfl⟩ dX4_moveFromTape_167 (fun w65 H locs hw65 hP hS => ?_)
                      obtain ⟨hND65, hFB65⟩ := hw65
                      have hFD := hFN.dr hxk hFD hFB65
                      obtain ⟨R65, N65, hFN, hRo65, hNo65, hRk65, hNk65⟩ := ND.end hFN hxk hND65 hFB65
                      have ht60 : tp.take 60 = tp := List.take_of_length_le hok.1.2
                      have hf60 : (folds tp).take 60 = folds tp := List.take_of_length_le (nmOK_fl hok)
                      have hCT2 : CT ex R65 N65 (opT (detT T k) k (sN tp)) (upB Bn pp (rOut (Bn pp) (nI k))) := hCT63.opB hT1k rfl (fun kk hkk => ⟨rfl, fun i _ => hNo65 (kk + 1) i (by omega), fun jj _ => hRo65 (kk + 1) jj (by omega)⟩) ⟨hxk, (hNk65 0).trans hnk30, (hNk65 1).trans hnk31, (hNk65 2).trans hnk32, (hRk65 1).trans ht60, (hRk65 3).trans hf60, (hRk65 5).trans hrk35, (hRk65 7).trans hrk37⟩
                      have hE2 : ∀ i, i < (upB Bn pp (rOut (Bn pp) (nI k)) u).length → ∃ (j : Nat) (m : Nod), j < 200 ∧ (upB Bn pp (rOut (Bn pp) (nI k)) u).getD i 0 = nI j ∧ opT (detT T k) k (sN tp) j = some m := fun i hi => by obtain ⟨j, m, j1, -, -, j3, j4, -⟩ := (hJ2.2.1 u n2 hT2u).2.2.2.1 _ ((hS2 u n2 hT2u).1.mem_iff.mp (by rw [List.getD_eq_getElem?_getD, List.getElem?_eq_getElem hi]; exact List.getElem_mem hi : (upB Bn pp (rOut (Bn pp) (nI k)) u).getD i 0 ∈ _)); exact ⟨j, m, j1, j3, j4⟩
                      refine lv_aload_n C0.1 C0.2.1 dX4_moveFromTape_170 rfl (lv_at hl 5 rfl) ?_
                      refine lv_iload_n C0.1 C0.2.1 dX4_moveFromTape_171 rfl (lv_at hl 6 rfl) ?_
                      refine lv_aload_n C0.1 C0.2.1 dX4_moveFromTape_172 rfl (lv_at hl 4 rfl) ?_
                      refine lv_iload_n C0.1 C0.2.1 dX4_moveFromTape_173 rfl (lv_at hl 7 rfl) ?_
                      refine lv_aload C0.1 C0.2.1 dX4_moveFromTape_174 (lv_at hl 3 rfl) ?_
                      refine me_cVwv (n := 4) C0 hml hP hS (c_X4_attach l G B0 w65 D ad ex R65 N65 cnt hFN (opT (detT T k) k (sN tp)) (upB Bn pp (rOut (Bn pp) (nI k))) hCT2 k u _ n2 hT2k hT2u (Ne.symm huk) h40 (by rw [hS2.len hT2u]; exact h40) (folds tp) ((hRo65 0 5 (by omega)).trans ((hOw63 5).trans hX)) hE2) ⟨kw_309, kw_31, kw_306, ⟨by decide, by decide, by decide +kernel⟩, ⟨rfl, rfl⟩, ⟨Nat.le_of_ble_eq_true rfl, Nat.le_of_ble_eq_true rfl⟩⟩ kw_308 kw_6 hFN.1 rfl rfl hl.1 rfl (Nat.le_of_ble_eq_true rfl) ⟨Nat.le_of_ble_eq_true rfl, Nat.le_of_ble_eq_true rfl⟩ dX4_moveFromTape_176 (fun w66 H locs hw66 hP hS => ?_)
                      obtain ⟨R66, N66, hFN, hFD66, hOw66, hCT66⟩ := hw66
                      have hFD := hFD.tr hFD66
                      refine lv_iload C0.1 C0.2.1 dX4_moveFromTape_179 (lv_at hl 0 rfl) ?_
                      exact me_wiret _ C0.1 C0.2.1 B.returns B.notSynchronized hP hS (Nat.le_of_ble_eq_true rfl) (Nat.le_of_ble_eq_true rfl) (have hR : sMovR T tp (nI k) (nI u) = nI pp := (by unfold sMovR; rw [if_neg (show ¬ nI k = 0 from fun q => hk0 ((nI_eq (a := k) (b := 0) (by omega) (by omega)).mp q)), if_neg (noN_at0 hk hTk), if_neg (by rw [hnu]; decide), hmv, if_neg (by rw [hnm]; decide), entsOf_n hu hTu, hEB, if_neg (by decide), nI_clamp (by omega), nI_clamp (by omega), if_neg (by rw [hwi]; decide), parOf_n hk hTk, pp2, if_neg (fun q => q.1 (by rw [d62]))]); ⟨_, _, hFN, hFD, ((hOw66 1).trans ((hRo65 0 1 (by omega)).trans ((hOw63 1).trans ((hSR40 0 1 (by simp)).trans htp)))), ((hOw66 3).trans ((hRo65 0 3 (by omega)).trans ((hOw63 3).trans ((hSR40 0 3 (by simp)).trans (Eq.refl (R 0 3)))))), hR.symm, by rw [sMovT_s hR hk hu pp1, sMovB_s hR hk hu pp1, hmv]; unfold movT movB; rw [parN_s hTk pp2 pp1]; exact hCT66⟩) dX4_moveFromTape_181
                    · have d62 : pp ≠ u := fun h => c62 (congrArg nI h)
                      refine lv_aload C0.1 C0.2.1 dX4_moveFromTape_130 (lv_at hl 3 rfl) ?_
                      refine me_get C0 hP (hFN.2.2.1 u hxu) rfl inX1 2 (by decide) kw_86 rfl dX4_moveFromTape_132 ?_
                      refine me_cVi (n := 0) C0 hml hP hS (c_X2_size l G B0 w40 (ad (u + 1) 5) (ad (u + 1) (5 + 1)) (capR (u + 1) 5) nu.2.2.2.2 (hFN.rw0 (u + 1) 5 hxu (Or.inr (Or.inr (Or.inl rfl))) ((hSR40 (u + 1) 5 (by simp)).trans hru5))) ⟨kw_141, kw_32, kw_138, ⟨by decide, by decide, by decide +kernel⟩, ⟨rfl, rfl⟩, ⟨Nat.le_of_ble_eq_true rfl, Nat.le_of_ble_eq_true rfl⟩⟩ kw_139 kw_140 (hFN.2.2.2.1 (u + 1) 5 hxu (Or.inr (Or.inr (Or.inl rfl)))).1 rfl rfl hl.1 rfl (Nat.le_of_ble_eq_true rfl) ⟨Nat.le_of_ble_eq_true rfl, Nat.le_of_ble_eq_true rfl⟩ dX4_moveFromTape_135 (fun r67 hr67 => ?_)
                      subst hr67
                      have hlcr67 : nu.2.2.2.2.length ≤ 40 := (hFN.rw0 (u + 1) 5 hxu (Or.inr (Or.inr (Or.inl rfl))) ((hSR40 (u + 1) 5 (by simp)).trans hru5)).2.1
                      refine lv_bipush (v := 40) C0.1 C0.2.1 dX4_moveFromTape_138 (by decide) ?_
                      refine lv_icmp_lt (tgt := 146) C0.1 C0.2.1 dX4_moveFromTape_140 (by decide) (fun c68 => ?_) (fun c68 => ?_)
                      · have d68 : nu.2.2.2.2.length < 40 := (nI_ltI (a := nu.2.2.2.2.length) (b := 40) (by omega) (by omega)).mp c68
                        refine lv_aload_n C0.1 C0.2.1 dX4_moveFromTape_146 rfl (lv_at hl 5 rfl) ?_
                        refine lv_iload_n C0.1 C0.2.1 dX4_moveFromTape_147 rfl (lv_at hl 6 rfl) ?_
                        refine lv_iload C0.1 C0.2.1 dX4_moveFromTape_148 (lv_at hl 0 rfl) ?_
                        refine me_cVwv (n := 2) C0 hml hP hS (c_X4_detach l G B0 w40 D ad ex R40 N cnt hFN T Bn hCT40 k pp pm pp3) ⟨kw_356, kw_31, kw_353, ⟨by decide, by decide, by decide +kernel⟩, ⟨rfl, rfl⟩, ⟨Nat.le_of_ble_eq_true rfl, Nat.le_of_ble_eq_true rfl⟩⟩ kw_355 kw_13 hFN.1 rfl rfl hl.1 rfl (Nat.le_of_ble_eq_true rfl) ⟨Nat.le_of_ble_eq_true rfl, Nat.le_of_ble_eq_true rfl⟩ dX4_moveFromTape_150 (fun w69 H locs hw69 hP hS => ?_)
                        obtain ⟨R69, hFN, hFD69, hOw69, hCT69⟩ := hw69
                        have hFD := hFD.tr hFD69
                        rw [← detT_e hTk pp2 pp1] at hCT69
                        obtain ⟨huk, hpk, hT1k, hJ1, hJ2, hT2k, hS2, n2, hT2u, h40, -, -⟩ := mov_pre hI hSB hTk hk0 pp2 pp1 hTu hok hoo hwi hEB (Or.inr (by omega))
                        obtain ⟨-, hxk3, hnk30, hnk31, hnk32, hrk31, hrk33, hrk35, hrk37⟩ := hCT69.2 k nk hT1k
                        refine lv_iload C0.1 C0.2.1 dX4_moveFromTape_153 (lv_at hl 2 rfl) ?_
                        refine lv_if_eq (tgt := 170) C0.1 C0.2.1 dX4_moveFromTape_155 (by decide) (fun cx => absurd cx (by decide)) (fun cx => ?_)
                        refine lv_aload_n C0.1 C0.2.1 dX4_moveFromTape_158 rfl (lv_at hl 4 rfl) ?_
                        refine lv_aload_n C0.1 C0.2.1 dX4_moveFromTape_159 rfl (lv_at hl 5 rfl) ?_
                        refine me_get C0 hP hFN.1 rfl inX4 0 (by decide) kw_118 rfl dX4_moveFromTape_160 ?_
                        refine lv_aload_n C0.1 C0.2.1 dX4_moveFromTape_163 rfl (lv_at hl 5 rfl) ?_
                        refine me_get C0 hP hFN.1 rfl inX4 2 (by decide) kw_120 rfl dX4_moveFromTape_164 ?_
                        refine me_cVwv (n := 2) C0 hml hP hS (c_X1_takeName l G B0 w69 (ad (k + 1)) (R69 (k + 1)) (N (k + 1)) (hFN.nd hxk) (ad 0 1) (ad 0 (1 + 1)) (capR 0 1) tp (hFN.rw0 0 1 hFN.2.2.2.2.1 (Or.inl rfl) ((hOw69 1).trans ((hSR40 0 1 (by simp)).trans htp))) (fun j hj => ⟨hFN.ne hFN.2.2.2.2.1 hxk (rowJ_us (show rowJ 0 1 from (Or.inl rfl))).1 ⟨hj, by omega⟩ (by omega), hFN.ne hFN.2.2.2.2.1 hxk (rowJ_us (show rowJ 0 1 from (Or.inl rfl))).2.1 ⟨hj, by omega⟩ (by omega)⟩) (ad 0 5) (ad 0 (5 + 1)) (capR 0 5) (folds tp) (hFN.rw0 0 5 hFN.2.2.2.2.1 (Or.inr (Or.inr rfl)) ((hOw69 5).trans hX)) (fun j hj => ⟨hFN.ne hFN.2.2.2.2.1 hxk (rowJ_us (show rowJ 0 5 from (Or.inr (Or.inr rfl)))).1 ⟨hj, by omega⟩ (by omega), hFN.ne hFN.2.2.2.2.1 hxk (rowJ_us (show rowJ 0 5 from (Or.inr (Or.inr rfl)))).2.1 ⟨hj, by omega⟩ (by omega)⟩)) ⟨kw_301, kw_34, kw_298, ⟨by decide, by decide, by decide +kernel⟩, ⟨rfl, rfl⟩, ⟨Nat.le_of_ble_eq_true rfl, Nat.le_of_ble_eq_true rfl⟩⟩ kw_299 kw_300 (hFN.2.2.1 k hxk) rfl rfl hl.1 rfl (Nat.le_of_ble_eq_true rfl) ⟨Nat.le_of_ble_eq_true rfl, Nat.le_of_ble_eq_true rfl⟩ dX4_moveFromTape_167 (fun w71 H locs hw71 hP hS => ?_)
                        obtain ⟨hND71, hFB71⟩ := hw71
                        have hFD := hFN.dr hxk hFD hFB71
                        obtain ⟨R71, N71, hFN, hRo71, hNo71, hRk71, hNk71⟩ := ND.end hFN hxk hND71 hFB71
                        have ht60 : tp.take 60 = tp := List.take_of_length_le hok.1.2
                        have hf60 : (folds tp).take 60 = folds tp := List.take_of_length_le (nmOK_fl hok)
                        have hCT2 : CT ex R71 N71 (opT (detT T k) k (sN tp)) (upB Bn pp (rOut (Bn pp) (nI k))) := hCT69.opB hT1k rfl (fun kk hkk => ⟨rfl, fun i _ => hNo71 (kk + 1) i (by omega), fun jj _ => hRo71 (kk + 1) jj (by omega)⟩) ⟨hxk, (hNk71 0).trans hnk30, (hNk71 1).trans hnk31, (hNk71 2).trans hnk32, (hRk71 1).trans ht60, (hRk71 3).trans hf60, (hRk71 5).trans hrk35, (hRk71 7).trans hrk37⟩
                        have hE2 : ∀ i, i < (upB Bn pp (rOut (Bn pp) (nI k)) u).length → ∃ (j : Nat) (m : Nod), j < 200 ∧ (upB Bn pp (rOut (Bn pp) (nI k)) u).getD i 0 = nI j ∧ opT (detT T k) k (sN tp) j = some m := fun i hi => by obtain ⟨j, m, j1, -, -, j3, j4, -⟩ := (hJ2.2.1 u n2 hT2u).2.2.2.1 _ ((hS2 u n2 hT2u).1.mem_iff.mp (by rw [List.getD_eq_getElem?_getD, List.getElem?_eq_getElem hi]; exact List.getElem_mem hi : (upB Bn pp (rOut (Bn pp) (nI k)) u).getD i 0 ∈ _)); exact ⟨j, m, j1, j3, j4⟩
                        refine lv_aload_n C0.1 C0.2.1 dX4_moveFromTape_170 rfl (lv_at hl 5 rfl) ?_
                        refine lv_iload_n C0.1 C0.2.1 dX4_moveFromTape_171 rfl (lv_at hl 6 rfl) ?_
                        refine lv_aload_n C0.1 C0.2.1 dX4_moveFromTape_172 rfl (lv_at hl 4 rfl) ?_
                        refine lv_iload_n C0.1 C0.2.1 dX4_moveFromTape_173 rfl (lv_at hl 7 rfl) ?_
                        refine lv_aload C0.1 C0.2.1 dX4_moveFromTape_174 (lv_at hl 3 rfl) ?_
                        refine me_cVwv (n := 4) C0 hml hP hS (c_X4_attach l G B0 w71 D ad ex R71 N71 cnt hFN (opT (detT T k) k (sN tp)) (upB Bn pp (rOut (Bn pp) (nI k))) hCT2 k u _ n2 hT2k hT2u (Ne.symm huk) h40 (by rw [hS2.len hT2u]; exact h40) (folds tp) ((hRo71 0 5 (by omega)).trans ((hOw69 5).trans hX)) hE2) ⟨kw_309, kw_31, kw_306, ⟨by decide, by decide, by decide +kernel⟩, ⟨rfl, rfl⟩, ⟨Nat.le_of_ble_eq_true rfl, Nat.le_of_ble_eq_true rfl⟩⟩ kw_308 kw_6 hFN.1 rfl rfl hl.1 rfl (Nat.le_of_ble_eq_true rfl) ⟨Nat.le_of_ble_eq_true rfl, Nat.le_of_ble_eq_true rfl⟩ dX4_moveFromTape_176 (fun w72 H locs hw72 hP hS => ?_)
                        obtain ⟨R72, N72, hFN, hFD72, hOw72, hCT72⟩ := hw72
                        have hFD := hFD.tr hFD72
                        refine lv_iload C0.1 C0.2.1 dX4_moveFromTape_179 (lv_at hl 0 rfl) ?_
                        exact me_wiret _ C0.1 C0.2.1 B.returns B.notSynchronized hP hS (Nat.le_of_ble_eq_true rfl) (Nat.le_of_ble_eq_true rfl) (have hR : sMovR T tp (nI k) (nI u) = nI pp := (by unfold sMovR; rw [if_neg (show ¬ nI k = 0 from fun q => hk0 ((nI_eq (a := k) (b := 0) (by omega) (by omega)).mp q)), if_neg (noN_at0 hk hTk), if_neg (by rw [hnu]; decide), hmv, if_neg (by rw [hnm]; decide), entsOf_n hu hTu, hEB, if_neg (by decide), nI_clamp (by omega), nI_clamp (by omega), if_neg (by rw [hwi]; decide), parOf_n hk hTk, pp2, if_neg (fun q => absurd q.2 (by omega))]); ⟨_, _, hFN, hFD, ((hOw72 1).trans ((hRo71 0 1 (by omega)).trans ((hOw69 1).trans ((hSR40 0 1 (by simp)).trans htp)))), ((hOw72 3).trans ((hRo71 0 3 (by omega)).trans ((hOw69 3).trans ((hSR40 0 3 (by simp)).trans (Eq.refl (R 0 3)))))), hR.symm, by rw [sMovT_s hR hk hu pp1, sMovB_s hR hk hu pp1, hmv]; unfold movT movB; rw [parN_s hTk pp2 pp1]; exact hCT72⟩) dX4_moveFromTape_181
                      · have d68 : 40 ≤ nu.2.2.2.2.length := Nat.not_lt.mp (fun h => c68 (nI_lt (a := nu.2.2.2.2.length) (b := 40) h (by omega)))
                        refine lv_bipush (v := (-4)) C0.1 C0.2.1 dX4_moveFromTape_143 (by decide) ?_
                        exact me_wiret _ C0.1 C0.2.1 B.returns B.notSynchronized hP hS (Nat.le_of_ble_eq_true rfl) (Nat.le_of_ble_eq_true rfl) (have hR : sMovR T tp (nI k) (nI u) = (-4) := (by unfold sMovR; rw [if_neg (show ¬ nI k = 0 from fun q => hk0 ((nI_eq (a := k) (b := 0) (by omega) (by omega)).mp q)), if_neg (noN_at0 hk hTk), if_neg (by rw [hnu]; decide), hmv, if_neg (by rw [hnm]; decide), entsOf_n hu hTu, hEB, if_neg (by decide), nI_clamp (by omega), nI_clamp (by omega), if_neg (by rw [hwi]; decide), parOf_n hk hTk, pp2, if_pos ⟨fun q => d62 ((nI_eq (by omega) (by omega)).mp q), by omega⟩]); ⟨_, _, hFN, hFD, ((hSR40 0 1 (by simp)).trans htp), ((hSR40 0 3 (by simp)).trans (Eq.refl (R 0 3))), hR.symm, by rw [sMovT_f hR (by decide), sMovB_f hR (by decide)]; exact hCT40⟩) dX4_moveFromTape_145
                  · rw [hwi] at hr60
                    subst hr60
                    refine lv_if_eq (tgt := 118) C0.1 C0.2.1 dX4_moveFromTape_112 (by decide) (fun cx => absurd cx (by decide)) (fun cx => ?_)
                    refine lv_bipush (v := (-6)) C0.1 C0.2.1 dX4_moveFromTape_115 (by decide) ?_
                    exact me_wiret _ C0.1 C0.2.1 B.returns B.notSynchronized hP hS (Nat.le_of_ble_eq_true rfl) (Nat.le_of_ble_eq_true rfl) (have hR : sMovR T tp (nI k) (nI u) = (-6) := (by unfold sMovR; rw [if_neg (show ¬ nI k = 0 from fun q => hk0 ((nI_eq (a := k) (b := 0) (by omega) (by omega)).mp q)), if_neg (noN_at0 hk hTk), if_neg (by rw [hnu]; decide), hmv, if_neg (by rw [hnm]; decide), entsOf_n hu hTu, hEB, if_neg (by decide), nI_clamp (by omega), nI_clamp (by omega), if_pos hwi]); ⟨_, _, hFN, hFD, ((hSR40 0 1 (by simp)).trans htp), ((hSR40 0 3 (by simp)).trans (Eq.refl (R 0 3))), hR.symm, by rw [sMovT_f hR (by decide), sMovB_f hR (by decide)]; exact hCT40⟩) dX4_moveFromTape_117
                · have d59 : e1 ≠ k := fun h => c59 (congrArg nI h)
                  have hEB := ti_but2 hI hTu (bt := nI k) e17 ((folOf_n (by omega) e14).trans e16) (fun q => d59 ((nI_eq (by omega) (by omega)).mp q))
                  refine lv_bipush (v := (-3)) C0.1 C0.2.1 dX4_moveFromTape_103 (by decide) ?_
                  exact me_wiret _ C0.1 C0.2.1 B.returns B.notSynchronized hP hS (Nat.le_of_ble_eq_true rfl) (Nat.le_of_ble_eq_true rfl) (have hR : sMovR T tp (nI k) (nI u) = (-3) := (by unfold sMovR; rw [if_neg (show ¬ nI k = 0 from fun q => hk0 ((nI_eq (a := k) (b := 0) (by omega) (by omega)).mp q)), if_neg (noN_at0 hk hTk), if_neg (by rw [hnu]; decide), hmv, if_neg (by rw [hnm]; decide), entsOf_n hu hTu, hEB, if_pos (nI_pos (by omega))]); ⟨_, _, hFN, hFD, ((hSR40 0 1 (by simp)).trans htp), ((hSR40 0 3 (by simp)).trans (Eq.refl (R 0 3))), hR.symm, by rw [sMovT_f hR (by decide), sMovB_f hR (by decide)]; exact hCT40⟩) dX4_moveFromTape_105
          · have hnm : nmI tp = 0 := nmI_0 hno
            refine lv_if_ne (tgt := 83) C0.1 C0.2.1 dX4_moveFromTape_77 (by decide) (fun cx => absurd cx (by decide)) (fun cx => ?_)
            refine lv_bipush (v := (-2)) C0.1 C0.2.1 dX4_moveFromTape_80 (by decide) ?_
            exact me_wiret _ C0.1 C0.2.1 B.returns B.notSynchronized hP hS (Nat.le_of_ble_eq_true rfl) (Nat.le_of_ble_eq_true rfl) (have hR : sMovR T tp (nI k) (nI u) = (-2) := (by unfold sMovR; rw [if_neg (show ¬ nI k = 0 from fun q => hk0 ((nI_eq (a := k) (b := 0) (by omega) (by omega)).mp q)), if_neg (noN_at0 hk hTk), if_neg (by rw [hnu]; decide), hmv, if_pos hnm]); ⟨_, _, hFN, hFD, ((hSR40 0 1 (by simp)).trans htp), ((hSR40 0 3 (by simp)).trans (Eq.refl (R 0 3))), hR.symm, by rw [sMovT_f hR (by decide), sMovB_f hR (by decide)]; exact hCT40⟩) dX4_moveFromTape_82

set_option maxHeartbeats 4000000 in
set_option maxRecDepth 100000 in
/-- move(node, directory) -/
theorem c_X4_move (l : Launch) (G : me_G) (B0 : Nat) (w : Me) (D : Nat → Prop) (ad : Nat → Nat → Nat) (ex : Nat → Bool) (R : Nat → Nat → List Int32) (N : Nat → Nat → Int32) (cnt : Int32) (hFN : FN G B0 D w ad ex R N cnt) (T : Tre) (Bn : Nat → List Int32) (hCT : CT ex R N T Bn) (hI : TI T) (hSB : SB T Bn) (tp : List Int32) (htp : R 0 1 = tp) (ho : Oct tp) (v d : Int32) : CtWI l yX4_move (Cond.code yX4_move cX4_move 4 (some .int)) ({ frames := 9, cells := 0, slots := 0, locals := 206 }) G B0 w [.ref (ad 0 0), .int v, .int d] (fun r w' => ∃ (R' : Nat → Nat → List Int32) (N' : Nat → Nat → Int32), FN G B0 D w' ad ex R' N' cnt ∧ FDr D w w' ∧ R' 0 1 = [] ∧ R' 0 3 = R 0 3 ∧ r = sMovR T tp v d ∧ CT ex R' N' (sMovT T tp v d) (sMovB T Bn tp v d)) 0 0 := by
  refine Met.ofW (cc := cX4_move) (maxL := 4) (ret := (some .int)) (by decide) rfl ?_
  intro p e s m args below meth c s₁ B hml hv
  obtain ⟨rfl, hK, hP, hKq, hBs⟩ := hv
  have hts := fun w h => atoms_spec (ws := Cond.code yX4_move cX4_move 4 (some .int) :: tbG) B.pre w (List.mem_cons_of_mem _ h)
  have hown : s.vm.findClass RX4 = some m.cls := findClass_of_methodNamed B.named
  have C0 : Cx G B0 p s m _ c cX4_move RX4 := ⟨B.exec, B.bytes, hown, hts, hK, hKq, hBs⟩
  have hS : va_S (me_A B0) s.heap s.heap [] := va_S.rf
  have hl := lv_entry ([.ref (ad 0 0), .int v, .int d]) (n := 4) (Nat.le_of_ble_eq_true rfl)
  rw [lg_entry_eq]
  generalize (lg_sl ([.ref (ad 0 0), .int v, .int d]) ++ List.replicate (4 - (lg_sl ([.ref (ad 0 0), .int v, .int d])).length) Slot.unset).toArray = ls at hl ⊢
  have hl : lv_has ls 4 [(0, .ref (ad 0 0)), (1, .int v), (2, .int d)] := hl
  have hFD : FDr D w w := FDr.rf
  have htl : tp.length ≤ 200 := (hFN.rw0 0 1 hFN.2.2.2.2.1 (Or.inl rfl) htp).2.1
  refine lv_aload_n C0.1 C0.2.1 dX4_move_0 rfl (lv_at hl 0 rfl) ?_
  refine lv_iload_n C0.1 C0.2.1 dX4_move_1 rfl (lv_at hl 1 rfl) ?_
  refine lv_iload_n C0.1 C0.2.1 dX4_move_2 rfl (lv_at hl 2 rfl) ?_
  refine me_cVwi (n := 2) C0 hml hP hS (c_X4_moveFromTape l G B0 w D ad ex R N cnt hFN T Bn hCT hI hSB tp htp ho v d) ⟨kw_347, kw_31, kw_344, ⟨by decide, by decide, by decide +kernel⟩, ⟨rfl, rfl⟩, ⟨Nat.le_of_ble_eq_true rfl, Nat.le_of_ble_eq_true rfl⟩⟩ kw_346 kw_11 hFN.1 rfl rfl hl.1 rfl (Nat.le_of_ble_eq_true rfl) ⟨Nat.le_of_ble_eq_true rfl, Nat.le_of_ble_eq_true rfl⟩ dX4_move_3 (fun r1 w1 H locs hw1 hP hS => ?_)
  obtain ⟨R1, N1, hFN, hFD, htp2, hfo2, hres, hCT2⟩ := hw1
  refine lv_istore_n (lv' := [(3, .int r1), (0, .ref (ad 0 0)), (1, .int v), (2, .int d)]) C0.1 C0.2.1 dX4_move_6 rfl hl (by decide) rfl (fun ls hl => ?_)
  refine lv_aload_n C0.1 C0.2.1 dX4_move_7 rfl (lv_at hl 1 rfl) ?_
  refine me_get C0 hP hFN.1 rfl inX4 0 (by decide) kw_118 rfl dX4_move_8 ?_
  refine me_cVwv (n := 0) C0 hml hP hS (c_X2_clear l G B0 w1 (ad 0 1) (ad 0 (1 + 1)) (capR 0 1) tp (hFN.rw0 0 1 hFN.2.2.2.2.1 (Or.inl rfl) htp2) (hFN.bb hFN.2.2.2.2.1 (rowJ_us (show rowJ 0 1 from (Or.inl rfl))).1) (hFN.bb hFN.2.2.2.2.1 (rowJ_us (show rowJ 0 1 from (Or.inl rfl))).2.1)) ⟨kw_117, kw_32, kw_162, ⟨by decide, by decide, by decide +kernel⟩, ⟨rfl, rfl⟩, ⟨Nat.le_of_ble_eq_true rfl, Nat.le_of_ble_eq_true rfl⟩⟩ kw_115 kw_116 (hFN.2.2.2.1 0 1 hFN.2.2.2.2.1 (Or.inl rfl)).1 rfl rfl hl.1 rfl (Nat.le_of_ble_eq_true rfl) ⟨Nat.le_of_ble_eq_true rfl, Nat.le_of_ble_eq_true rfl⟩ dX4_move_11 (fun w2 H locs hw2 hP hS => ?_)
  obtain ⟨hRw2, hCh2⟩ := hw2
  have hFD := hFD.ch (hFN.dd hFN.2.2.2.2.1 (rowJ_us (show rowJ 0 1 from (Or.inl rfl))).1) (hFN.dd hFN.2.2.2.2.1 (rowJ_us (show rowJ 0 1 from (Or.inl rfl))).2.1) hCh2
  have hFN := hFN.row (a := 0) (j := 1) hFN.2.2.2.2.1 (Or.inl rfl) hRw2 hCh2
  obtain ⟨R2, hR2⟩ : ∃ x, x = updR R1 0 1 ([]) := ⟨_, rfl⟩
  have hFN : FN G B0 D w2 ad ex R2 N1 cnt := by rw [hR2]; exact hFN
  have hv2_0_3 : R2 0 3 = R 0 3 := (show R2 0 3 = R1 0 3 by rw [hR2, updR_n (by omega)]).trans hfo2
  have hv2_0_1 : R2 0 1 = [] := by rw [hR2, updR_s]
  have hCT2 := hCT2.sr ((SR.rf : SR _ _ [(0, 1)]).wr hR2 (by simp)) (by simp)
  refine lv_iload_n C0.1 C0.2.1 dX4_move_14 rfl (lv_at hl 0 rfl) ?_
  exact me_wiret _ C0.1 C0.2.1 B.returns B.notSynchronized hP hS (Nat.le_of_ble_eq_true rfl) (Nat.le_of_ble_eq_true rfl) (⟨_, _, hFN, hFD, hv2_0_1, hv2_0_3, hres, hCT2⟩) dX4_move_15
