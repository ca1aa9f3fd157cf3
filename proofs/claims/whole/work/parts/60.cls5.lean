set_option maxHeartbeats 4000000 in
set_option maxRecDepth 100000 in
/-- remove(node) -/
theorem c_X4_remove (l : Launch) (G : me_G) (B0 : Nat) (w : Me) (D : Nat → Prop) (ad : Nat → Nat → Nat) (ex : Nat → Bool) (R : Nat → Nat → List Int32) (N : Nat → Nat → Int32) (T : Tre) (hFN : FN G B0 D w ad ex R N (nI (cntF T 200))) (Bn : Nat → List Int32) (hCT : CT ex R N T Bn) (hI : TI T) (v : Int32) : CtWI l yX4_remove (Cond.code yX4_remove cX4_remove 3 (some .int)) ({ frames := 2, cells := 0, slots := 0, locals := 46 }) G B0 w [.ref (ad 0 0), .int v] (fun r w' => ∃ (R' : Nat → Nat → List Int32) (N' : Nat → Nat → Int32), FN G B0 D w' ad ex R' N' (nI (cntF (sRemT T v) 200)) ∧ FDr D w w' ∧ (∀ i, R' 0 i = R 0 i) ∧ r = sRemR T v ∧ CT ex R' N' (sRemT T v) (sRemB T Bn v)) 0 0 := by
  refine Met.ofW (cc := cX4_remove) (maxL := 3) (ret := (some .int)) (by decide) rfl ?_
  intro p e s m args below meth c s₁ B hml hv
  obtain ⟨rfl, hK, hP, hKq, hBs⟩ := hv
  have hts := fun w h => atoms_spec (ws := Cond.code yX4_remove cX4_remove 3 (some .int) :: tbG) B.pre w (List.mem_cons_of_mem _ h)
  have hown : s.vm.findClass RX4 = some m.cls := findClass_of_methodNamed B.named
  have C0 : Cx G B0 p s m _ c cX4_remove RX4 := ⟨B.exec, B.bytes, hown, hts, hK, hKq, hBs⟩
  have hS : va_S (me_A B0) s.heap s.heap [] := va_S.rf
  have hl := lv_entry ([.ref (ad 0 0), .int v]) (n := 3) (Nat.le_of_ble_eq_true rfl)
  rw [lg_entry_eq]
  generalize (lg_sl ([.ref (ad 0 0), .int v]) ++ List.replicate (3 - (lg_sl ([.ref (ad 0 0), .int v])).length) Slot.unset).toArray = ls at hl ⊢
  have hl : lv_has ls 3 [(0, .ref (ad 0 0)), (1, .int v)] := hl
  have hFD : FDr D w w := FDr.rf
  refine lv_aload_n C0.1 C0.2.1 dX4_remove_0 rfl (lv_at hl 0 rfl) ?_
  refine lv_iload_n C0.1 C0.2.1 dX4_remove_1 rfl (lv_at hl 1 rfl) ?_
  refine me_cVq (n := 1) C0 hml hP hS (c_X4_nodeAt l G B0 w D ad ex R N (nI (cntF T 200)) hFN T Bn hCT v) ⟨kw_272, kw_31, kw_269, ⟨by decide, by decide, by decide +kernel⟩, ⟨rfl, rfl⟩, ⟨Nat.le_of_ble_eq_true rfl, Nat.le_of_ble_eq_true rfl⟩⟩ kw_271 kw_2 hFN.1 rfl rfl hl.1 rfl (Nat.le_of_ble_eq_true rfl) ⟨Nat.le_of_ble_eq_true rfl, Nat.le_of_ble_eq_true rfl⟩ dX4_remove_2 (fun r1 hr1 => ?_)
  rcases hr1 with ⟨hnok, rfl⟩ | ⟨k, n, hk, rfl, hTk, rfl⟩
  · refine W.eq (g2 := F0 m 5 ls [.null]) rfl ?_
    refine lv_astore_nN (lv' := [(2, .null), (0, .ref (ad 0 0)), (1, .int v)]) C0.1 C0.2.1 dX4_remove_5 rfl hl (by decide) rfl (fun ls hl => ?_)
    refine lv_aload_nN C0.1 C0.2.1 dX4_remove_6 rfl (lv_at hl 0 rfl) ?_
    refine lv_ifnullN (tgt := 14) C0.1 C0.2.1 dX4_remove_7 (by decide) ?_
    refine lv_bipush (v := (-5)) C0.1 C0.2.1 dX4_remove_14 (by decide) ?_
    exact me_wiret _ C0.1 C0.2.1 B.returns B.notSynchronized hP hS (Nat.le_of_ble_eq_true rfl) (Nat.le_of_ble_eq_true rfl) (have hR : sRemR T v = (-5) := (by unfold sRemR; split; rfl; rw [if_pos (noN_at hnok)]); ⟨R, N, by rw [sRemT_f hR (by decide)]; exact hFN, hFD, fun i => rfl, hR.symm, by rw [sRemT_f hR (by decide), sRemB_f hR (by decide)]; exact hCT⟩) dX4_remove_16
  · obtain ⟨hk200, hxk, hnk0, hnk1, hnk2, hrk1, hrk3, hrk5, hrk7⟩ := hCT.2 k n hTk
    refine W.eq (g2 := F0 m 5 ls [.ref (ad (k + 1) 0)]) rfl ?_
    refine lv_astore_n (lv' := [(2, .ref (ad (k + 1) 0)), (0, .ref (ad 0 0)), (1, .int (nI k))]) C0.1 C0.2.1 dX4_remove_5 rfl hl (by decide) rfl (fun ls hl => ?_)
    refine lv_aload_n C0.1 C0.2.1 dX4_remove_6 rfl (lv_at hl 0 rfl) ?_
    refine lv_ifnull C0.1 C0.2.1 dX4_remove_7 ?_
    refine lv_iload_n C0.1 C0.2.1 dX4_remove_10 rfl (lv_at hl 2 rfl) ?_
    refine lv_if_ne (tgt := 17) C0.1 C0.2.1 dX4_remove_11 (by decide) (fun c2 => ?_) (fun c2 => ?_)
    · have d2 : k ≠ 0 := fun h => c2 (congrArg nI h)
      refine lv_aload_n C0.1 C0.2.1 dX4_remove_17 rfl (lv_at hl 0 rfl) ?_
      refine me_get C0 hP (hFN.2.2.1 k hxk) rfl inX1 2 (by decide) kw_86 rfl dX4_remove_18 ?_
      refine me_cVi (n := 0) C0 hml hP hS (c_X2_size l G B0 w (ad (k + 1) 5) (ad (k + 1) (5 + 1)) (capR (k + 1) 5) n.2.2.2.2 (hFN.rw0 (k + 1) 5 hxk (Or.inr (Or.inr (Or.inl rfl))) hrk5)) ⟨kw_141, kw_32, kw_138, ⟨by decide, by decide, by decide +kernel⟩, ⟨rfl, rfl⟩, ⟨Nat.le_of_ble_eq_true rfl, Nat.le_of_ble_eq_true rfl⟩⟩ kw_139 kw_140 (hFN.2.2.2.1 (k + 1) 5 hxk (Or.inr (Or.inr (Or.inl rfl)))).1 rfl rfl hl.1 rfl (Nat.le_of_ble_eq_true rfl) ⟨Nat.le_of_ble_eq_true rfl, Nat.le_of_ble_eq_true rfl⟩ dX4_remove_21 (fun r3 hr3 => ?_)
      subst hr3
      have hlcr3 : n.2.2.2.2.length ≤ 40 := (hFN.rw0 (k + 1) 5 hxk (Or.inr (Or.inr (Or.inl rfl))) hrk5).2.1
      refine lv_if_le (tgt := 30) C0.1 C0.2.1 dX4_remove_24 (by decide) (fun c4 => ?_) (fun c4 => ?_)
      · have d4 : n.2.2.2.2.length ≤ 0 := (nI_leI (a := n.2.2.2.2.length) (b := 0) (by omega) (by omega)).mp c4
        refine lv_aload_n C0.1 C0.2.1 dX4_remove_30 rfl (lv_at hl 1 rfl) ?_
        refine lv_iload_n C0.1 C0.2.1 dX4_remove_31 rfl (lv_at hl 2 rfl) ?_
        refine lv_aload_n C0.1 C0.2.1 dX4_remove_32 rfl (lv_at hl 0 rfl) ?_
        refine me_get C0 hP (hFN.2.2.1 k hxk) rfl inX1 6 (by decide) kw_94 rfl dX4_remove_33 ?_
        refine me_topi (y := n.2.1) hnk2 ?_
        obtain ⟨-, pp, pm, pp1, pp2, pp3, -⟩ := hI.2.2.1 k n hTk (by omega)
        refine me_topi (y := nI pp) pp2 ?_
        refine me_cVwv (n := 2) C0 hml hP hS (c_X4_detach l G B0 w D ad ex R N (nI (cntF T 200)) hFN T Bn hCT k pp pm pp3) ⟨kw_356, kw_31, kw_353, ⟨by decide, by decide, by decide +kernel⟩, ⟨rfl, rfl⟩, ⟨Nat.le_of_ble_eq_true rfl, Nat.le_of_ble_eq_true rfl⟩⟩ kw_355 kw_13 hFN.1 rfl rfl hl.1 rfl (Nat.le_of_ble_eq_true rfl) ⟨Nat.le_of_ble_eq_true rfl, Nat.le_of_ble_eq_true rfl⟩ dX4_remove_36 (fun w5 H locs hw5 hP hS => ?_)
        obtain ⟨R5, hFN, hFD5, hOw5, hCT5⟩ := hw5
        have hFD := hFD.tr hFD5
        have hcd := cntF_rem hTk hk
        have hdT := detT_e hTk pp2 pp1
        refine lv_aload_n C0.1 C0.2.1 dX4_remove_39 rfl (lv_at hl 0 rfl) ?_
        refine lv_iconst (v := 0) C0.1 C0.2.1 dX4_remove_40 (by decide) ?_
        refine me_put C0 hP hS (hFN.bb hxk ⟨by omega, by omega⟩) (hFN.2.2.1 k hxk) rfl inX1 tyX1 tyX1_ok nmX1 4 (by decide) kw_90 rfl narrow_b0 rfl (Nat.le_of_ble_eq_true rfl) dX4_remove_41 (fun H locs hP hS => ?_)
        obtain ⟨w6, hw6⟩ : ∃ x : Me, x = me_u w5 (ad (k + 1) 0) (eO 0 [.ref (ad (k + 1) 1), .ref (ad (k + 1) 3), .ref (ad (k + 1) 5), .ref (ad (k + 1) 7), .int 0, .int (N (k + 1) 1), .int (N (k + 1) 2)]) := ⟨_, rfl⟩
        obtain ⟨N6, hN6⟩ : ∃ x, x = updN N (k + 1) 0 0 := ⟨_, rfl⟩
        have hFN : FN G B0 D w6 ad ex R5 N6 (nI (cntF T 200)) := by rw [hw6, hN6]; exact hFN.putn hxk 0 (by decide) 0
        have hN6_k1_1 : N6 (k + 1) 1 = n.1 := (show N6 (k + 1) 1 = N (k + 1) 1 by rw [hN6, updN_n (by omega)]).trans hnk1
        have hN6_k1_2 : N6 (k + 1) 2 = n.2.1 := (show N6 (k + 1) 2 = N (k + 1) 2 by rw [hN6, updN_n (by omega)]).trans hnk2
        have hN6_k1_0 : N6 (k + 1) 0 = 0 := by rw [hN6, updN_s]
        have hFD : FDr D w w6 := by rw [hw6]; exact hFD.at (hFN.dd hxk ⟨by omega, by omega⟩)
        have hP : me_P G.1 w6 H := by rw [hw6]; exact hP
        refine lv_aload_n C0.1 C0.2.1 dX4_remove_44 rfl (lv_at hl 1 rfl) ?_
        refine lv_dup C0.1 C0.2.1 dX4_remove_45 rfl ?_
        refine me_get C0 hP hFN.1 rfl inX4 4 (by decide) kw_122 rfl dX4_remove_46 ?_
        refine lv_iconst (v := 1) C0.1 C0.2.1 dX4_remove_49 (by decide) ?_
        refine lv_isub C0.1 C0.2.1 dX4_remove_50 ?_
        refine me_topi (y := nI ((cntF T 200) - 1)) (pk_sub (a := (cntF T 200)) (b := 1) (by omega)) ?_
        refine me_put C0 hP hS (hFN.bb hFN.2.2.2.2.1 ⟨by omega, by omega⟩) hFN.1 rfl inX4 tyX4 tyX4_ok nmX4 4 (by decide) kw_122 rfl rfl rfl (Nat.le_of_ble_eq_true rfl) dX4_remove_51 (fun H locs hP hS => ?_)
        obtain ⟨w7, hw7⟩ : ∃ x : Me, x = me_u w6 (ad 0 0) (eO 2 [.ref (ad 0 1), .ref (ad 0 3), .ref (ad 0 5), .ref (ad 0 7), .int (nI ((cntF T 200) - 1))]) := ⟨_, rfl⟩
        have hFN : FN G B0 D w7 ad ex R5 N6 (nI ((cntF T 200) - 1)) := by rw [hw7]; exact hFN.scnt
        have hFD : FDr D w w7 := by rw [hw7]; exact hFD.at (hFN.dd hFN.2.2.2.2.1 ⟨by omega, by omega⟩)
        have hP : me_P G.1 w7 H := by rw [hw7]; exact hP
        refine lv_aload_n C0.1 C0.2.1 dX4_remove_54 rfl (lv_at hl 0 rfl) ?_
        refine me_get C0 hP (hFN.2.2.1 k hxk) rfl inX1 6 (by decide) kw_94 rfl dX4_remove_55 ?_
        refine me_topi (y := n.2.1) hN6_k1_2 ?_
        exact me_wiret _ C0.1 C0.2.1 B.returns B.notSynchronized hP hS (Nat.le_of_ble_eq_true rfl) (Nat.le_of_ble_eq_true rfl) (have hR : sRemR T (nI k) = nI pp := (by unfold sRemR; rw [if_neg (show ¬ nI k = 0 from fun q => absurd ((nI_eq (a := k) (b := 0) (by omega) (by omega)).mp q) (by omega)), if_neg (noN_at0 hk hTk), entsOf_n hk hTk, if_neg (by omega), parOf_n hk hTk]; exact pp2); ⟨_, _, by rw [sRemT_s hR hk pp1, show cntF (remT T k) 200 = cntF T 200 - 1 by omega]; exact hFN, hFD, hOw5, by rw [hR]; exact pp2, by rw [sRemT_s hR hk pp1, sRemB_s hR hk pp1, parN_s hTk pp2 pp1]; unfold remT; rw [hdT]; exact hCT5.del hk hN6⟩) dX4_remove_58
      · have d4 : 0 < n.2.2.2.2.length := Nat.not_le.mp (fun h => c4 (nI_le (a := n.2.2.2.2.length) (b := 0) h (by omega)))
        refine lv_bipush (v := (-6)) C0.1 C0.2.1 dX4_remove_27 (by decide) ?_
        exact me_wiret _ C0.1 C0.2.1 B.returns B.notSynchronized hP hS (Nat.le_of_ble_eq_true rfl) (Nat.le_of_ble_eq_true rfl) (have hR : sRemR T (nI k) = (-6) := (by unfold sRemR; rw [if_neg (show ¬ nI k = 0 from fun q => absurd ((nI_eq (a := k) (b := 0) (by omega) (by omega)).mp q) (by omega)), if_neg (noN_at0 hk hTk), entsOf_n hk hTk, if_pos (by omega)]); ⟨R, N, by rw [sRemT_f hR (by decide)]; exact hFN, hFD, fun i => rfl, hR.symm, by rw [sRemT_f hR (by decide), sRemB_f hR (by decide)]; exact hCT⟩) dX4_remove_29
    · have d2 : k = 0 := (nI_eq (a := k) (b := 0) (by omega) (by omega)).mp c2
      refine lv_bipush (v := (-5)) C0.1 C0.2.1 dX4_remove_14 (by decide) ?_
      exact me_wiret _ C0.1 C0.2.1 B.returns B.notSynchronized hP hS (Nat.le_of_ble_eq_true rfl) (Nat.le_of_ble_eq_true rfl) (have hR : sRemR T (nI k) = (-5) := (by unfold sRemR; rw [if_pos (show nI k = 0 by rw [show k = 0 by omega]; rfl)]); ⟨R, N, by rw [sRemT_f hR (by decide)]; exact hFN, hFD, fun i => rfl, hR.symm, by rw [sRemT_f hR (by decide), sRemB_f hR (by decide)]; exact hCT⟩) dX4_remove_16

set_option maxHeartbeats 4000000 in
set_option maxRecDepth 100000 in
/-- findFromTape(directory) -/
theorem c_X4_findFromTape (l : Launch) (G : me_G) (B0 : Nat) (w : Me) (D : Nat → Prop) (ad : Nat → Nat → Nat) (ex : Nat → Bool) (R : Nat → Nat → List Int32) (N : Nat → Nat → Int32) (cnt : Int32) (hFN : FN G B0 D w ad ex R N cnt) (T : Tre) (Bn : Nat → List Int32) (hCT : CT ex R N T Bn) (hI : TI T) (tp : List Int32) (htp : R 0 1 = tp) (ho : Oct tp) (d : Int32) : CtWI l yX4_findFromTape (Cond.code yX4_findFromTape cX4_findFromTape 3 (some .int)) ({ frames := 8, cells := 0, slots := 0, locals := 179 }) G B0 w [.ref (ad 0 0), .int d] (fun r w' => ∃ (R' : Nat → Nat → List Int32), FN G B0 D w' ad ex R' N cnt ∧ FDr D w w' ∧ (∀ i, i ≠ 5 → R' 0 i = R 0 i) ∧ CT ex R' N T Bn ∧ r = sFind T tp d) 0 0 := by
  refine Met.ofW (cc := cX4_findFromTape) (maxL := 3) (ret := (some .int)) (by decide) rfl ?_
  intro p e s m args below meth c s₁ B hml hv
  obtain ⟨rfl, hK, hP, hKq, hBs⟩ := hv
  have hts := fun w h => atoms_spec (ws := Cond.code yX4_findFromTape cX4_findFromTape 3 (some .int) :: tbG) B.pre w (List.mem_cons_of_mem _ h)
  have hown : s.vm.findClass RX4 = some m.cls := findClass_of_methodNamed B.named
  have C0 : Cx G B0 p s m _ c cX4_findFromTape RX4 := ⟨B.exec, B.bytes, hown, hts, hK, hKq, hBs⟩
  have hS : va_S (me_A B0) s.heap s.heap [] := va_S.rf
  have hl := lv_entry ([.ref (ad 0 0), .int d]) (n := 3) (Nat.le_of_ble_eq_true rfl)
  rw [lg_entry_eq]
  generalize (lg_sl ([.ref (ad 0 0), .int d]) ++ List.replicate (3 - (lg_sl ([.ref (ad 0 0), .int d])).length) Slot.unset).toArray = ls at hl ⊢
  have hl : lv_has ls 3 [(0, .ref (ad 0 0)), (1, .int d)] := hl
  have hFD : FDr D w w := FDr.rf
  have htl : tp.length ≤ 200 := (hFN.rw0 0 1 hFN.2.2.2.2.1 (Or.inl rfl) htp).2.1
  refine lv_aload_n C0.1 C0.2.1 dX4_findFromTape_0 rfl (lv_at hl 0 rfl) ?_
  refine lv_iload_n C0.1 C0.2.1 dX4_findFromTape_1 rfl (lv_at hl 1 rfl) ?_
  refine me_cVq (n := 1) C0 hml hP hS (c_X4_directoryAt l G B0 w D ad ex R N cnt hFN T Bn hCT d) ⟨kw_268, kw_31, kw_265, ⟨by decide, by decide, by decide +kernel⟩, ⟨rfl, rfl⟩, ⟨Nat.le_of_ble_eq_true rfl, Nat.le_of_ble_eq_true rfl⟩⟩ kw_267 kw_1 hFN.1 rfl rfl hl.1 rfl (Nat.le_of_ble_eq_true rfl) ⟨Nat.le_of_ble_eq_true rfl, Nat.le_of_ble_eq_true rfl⟩ dX4_findFromTape_2 (fun r1 hr1 => ?_)
  rcases hr1 with ⟨hnok, rfl⟩ | ⟨k, n, hk, rfl, hTk, hdirk, hnk, rfl⟩
  · refine W.eq (g2 := F0 m 5 ls [.null]) rfl ?_
    refine lv_astore_nN (lv' := [(2, .null), (0, .ref (ad 0 0)), (1, .int d)]) C0.1 C0.2.1 dX4_findFromTape_5 rfl hl (by decide) rfl (fun ls hl => ?_)
    refine lv_aload_nN C0.1 C0.2.1 dX4_findFromTape_6 rfl (lv_at hl 0 rfl) ?_
    refine lv_ifnonnullN C0.1 C0.2.1 dX4_findFromTape_7 ?_
    refine lv_bipush (v := (-5)) C0.1 C0.2.1 dX4_findFromTape_10 (by decide) ?_
    exact me_wiret _ C0.1 C0.2.1 B.returns B.notSynchronized hP hS (Nat.le_of_ble_eq_true rfl) (Nat.le_of_ble_eq_true rfl) (⟨_, hFN, hFD, (fun i hi => rfl), hCT, by unfold sFind; rw [if_pos hnok]⟩) dX4_findFromTape_12
  · obtain ⟨hk200, hxk, hnk0, hnk1, hnk2, hrk1, hrk3, hrk5, hrk7⟩ := hCT.2 k n hTk
    refine W.eq (g2 := F0 m 5 ls [.ref (ad (k + 1) 0)]) rfl ?_
    refine lv_astore_n (lv' := [(2, .ref (ad (k + 1) 0)), (0, .ref (ad 0 0)), (1, .int (nI k))]) C0.1 C0.2.1 dX4_findFromTape_5 rfl hl (by decide) rfl (fun ls hl => ?_)
    refine lv_aload_n C0.1 C0.2.1 dX4_findFromTape_6 rfl (lv_at hl 0 rfl) ?_
    refine lv_ifnonnull (tgt := 13) C0.1 C0.2.1 dX4_findFromTape_7 (by decide) ?_
    refine lv_aload_n C0.1 C0.2.1 dX4_findFromTape_13 rfl (lv_at hl 1 rfl) ?_
    refine lv_iconst (v := 0) C0.1 C0.2.1 dX4_findFromTape_14 (by decide) ?_
    refine lv_aload_n C0.1 C0.2.1 dX4_findFromTape_15 rfl (lv_at hl 1 rfl) ?_
    refine me_get C0 hP hFN.1 rfl inX4 0 (by decide) kw_118 rfl dX4_findFromTape_16 ?_
    refine me_cVi (n := 0) C0 hml hP hS (c_X2_size l G B0 w (ad 0 1) (ad 0 (1 + 1)) (capR 0 1) tp (hFN.rw0 0 1 hFN.2.2.2.2.1 (Or.inl rfl) htp)) ⟨kw_141, kw_32, kw_138, ⟨by decide, by decide, by decide +kernel⟩, ⟨rfl, rfl⟩, ⟨Nat.le_of_ble_eq_true rfl, Nat.le_of_ble_eq_true rfl⟩⟩ kw_139 kw_140 (hFN.2.2.2.1 0 1 hFN.2.2.2.2.1 (Or.inl rfl)).1 rfl rfl hl.1 rfl (Nat.le_of_ble_eq_true rfl) ⟨Nat.le_of_ble_eq_true rfl, Nat.le_of_ble_eq_true rfl⟩ dX4_findFromTape_19 (fun r2 hr2 => ?_)
    subst hr2
    have hlcr2 : tp.length ≤ 200 := (hFN.rw0 0 1 hFN.2.2.2.2.1 (Or.inl rfl) htp).2.1
    refine me_cVwi (n := 2) C0 hml hP hS (c_X4_askForName l G B0 w D ad ex R N cnt hFN tp htp ho 0 tp.length (by omega) (by omega)) ⟨kw_276, kw_31, kw_273, ⟨by decide, by decide, by decide +kernel⟩, ⟨rfl, rfl⟩, ⟨Nat.le_of_ble_eq_true rfl, Nat.le_of_ble_eq_true rfl⟩⟩ kw_275 kw_3 hFN.1 rfl rfl hl.1 rfl (Nat.le_of_ble_eq_true rfl) ⟨Nat.le_of_ble_eq_true rfl, Nat.le_of_ble_eq_true rfl⟩ dX4_findFromTape_22 (fun r3 w3 H locs hw3 hP hS => ?_)
    obtain ⟨R3, hFN, hFD3, hSR3, hres3⟩ := hw3
    have hFD := hFD.tr hFD3
    have hCT3 := hCT.sr hSR3 (by simp)
    rw [piece_all] at hres3
    rcases hres3 with ⟨hok, rfl, hX⟩ | ⟨hno, rfl⟩
    · have hnm : nmI tp = 1 := nmI_1 hok
      refine lv_if_eq (tgt := 36) C0.1 C0.2.1 dX4_findFromTape_25 (by decide) (fun cx => absurd cx (by decide)) (fun cx => ?_)
      refine lv_aload_n C0.1 C0.2.1 dX4_findFromTape_28 rfl (lv_at hl 1 rfl) ?_
      refine lv_aload_n C0.1 C0.2.1 dX4_findFromTape_29 rfl (lv_at hl 0 rfl) ?_
      refine me_cVi (n := 1) C0 hml hP hS (c_X4_entryAsked l G B0 w3 D ad ex R3 N cnt hFN T Bn hCT3 k n hTk (folds tp) n.2.2.2.2 hX rfl (hI.ent k n hTk)) ⟨kw_283, kw_31, kw_280, ⟨by decide, by decide, by decide +kernel⟩, ⟨rfl, rfl⟩, ⟨Nat.le_of_ble_eq_true rfl, Nat.le_of_ble_eq_true rfl⟩⟩ kw_282 kw_4 hFN.1 rfl rfl hl.1 rfl (Nat.le_of_ble_eq_true rfl) ⟨Nat.le_of_ble_eq_true rfl, Nat.le_of_ble_eq_true rfl⟩ dX4_findFromTape_30 (fun r5 hr5 => ?_)
      rcases hI.elk hTk hr5 with ⟨hel, hel0⟩ | ⟨e1, me1, e11, e12, hel, e14, e15, e16, e17⟩
      · subst hel
        refine lv_goto (tgt := 38) C0.1 C0.2.1 dX4_findFromTape_33 (by decide) ?_
        exact me_wiret _ C0.1 C0.2.1 B.returns B.notSynchronized hP hS (Nat.le_of_ble_eq_true rfl) (Nat.le_of_ble_eq_true rfl) (⟨_, hFN, hFD, (fun i hi => hSR3 0 i (by simp; omega)), hCT3, by unfold sFind; rw [hnk, if_neg (by decide), if_neg (by rw [hnm]; decide), entsOf_n hk hTk]; exact hr5⟩) dX4_findFromTape_38
      · subst hel
        refine lv_goto (tgt := 38) C0.1 C0.2.1 dX4_findFromTape_33 (by decide) ?_
        exact me_wiret _ C0.1 C0.2.1 B.returns B.notSynchronized hP hS (Nat.le_of_ble_eq_true rfl) (Nat.le_of_ble_eq_true rfl) (⟨_, hFN, hFD, (fun i hi => hSR3 0 i (by simp; omega)), hCT3, by unfold sFind; rw [hnk, if_neg (by decide), if_neg (by rw [hnm]; decide), entsOf_n hk hTk]; exact hr5⟩) dX4_findFromTape_38
    · have hnm : nmI tp = 0 := nmI_0 hno
      refine lv_if_eq (tgt := 36) C0.1 C0.2.1 dX4_findFromTape_25 (by decide) (fun cx => ?_) (fun cx => absurd cx (by decide))
      refine lv_bipush (v := (-2)) C0.1 C0.2.1 dX4_findFromTape_36 (by decide) ?_
      exact me_wiret _ C0.1 C0.2.1 B.returns B.notSynchronized hP hS (Nat.le_of_ble_eq_true rfl) (Nat.le_of_ble_eq_true rfl) (⟨_, hFN, hFD, (fun i hi => hSR3 0 i (by simp; omega)), hCT3, by unfold sFind; rw [hnk, if_neg (by decide), if_pos hnm]⟩) dX4_findFromTape_38

set_option maxHeartbeats 4000000 in
set_option maxRecDepth 100000 in
/-- find(directory) -/
theorem c_X4_find (l : Launch) (G : me_G) (B0 : Nat) (w : Me) (D : Nat → Prop) (ad : Nat → Nat → Nat) (ex : Nat → Bool) (R : Nat → Nat → List Int32) (N : Nat → Nat → Int32) (cnt : Int32) (hFN : FN G B0 D w ad ex R N cnt) (T : Tre) (Bn : Nat → List Int32) (hCT : CT ex R N T Bn) (hI : TI T) (tp : List Int32) (htp : R 0 1 = tp) (ho : Oct tp) (d : Int32) : CtWI l yX4_find (Cond.code yX4_find cX4_find 3 (some .int)) ({ frames := 9, cells := 0, slots := 0, locals := 201 }) G B0 w [.ref (ad 0 0), .int d] (fun r w' => ∃ (R' : Nat → Nat → List Int32), FN G B0 D w' ad ex R' N cnt ∧ FDr D w w' ∧ (∀ i, i ≠ 1 → i ≠ 5 → R' 0 i = R 0 i) ∧ R' 0 1 = [] ∧ CT ex R' N T Bn ∧ r = sFind T tp d) 0 0 := by
  refine Met.ofW (cc := cX4_find) (maxL := 3) (ret := (some .int)) (by decide) rfl ?_
  intro p e s m args below meth c s₁ B hml hv
  obtain ⟨rfl, hK, hP, hKq, hBs⟩ := hv
  have hts := fun w h => atoms_spec (ws := Cond.code yX4_find cX4_find 3 (some .int) :: tbG) B.pre w (List.mem_cons_of_mem _ h)
  have hown : s.vm.findClass RX4 = some m.cls := findClass_of_methodNamed B.named
  have C0 : Cx G B0 p s m _ c cX4_find RX4 := ⟨B.exec, B.bytes, hown, hts, hK, hKq, hBs⟩
  have hS : va_S (me_A B0) s.heap s.heap [] := va_S.rf
  have hl := lv_entry ([.ref (ad 0 0), .int d]) (n := 3) (Nat.le_of_ble_eq_true rfl)
  rw [lg_entry_eq]
  generalize (lg_sl ([.ref (ad 0 0), .int d]) ++ List.replicate (3 - (lg_sl ([.ref (ad 0 0), .int d])).length) Slot.unset).toArray = ls at hl ⊢
  have hl : lv_has ls 3 [(0, .ref (ad 0 0)), (1, .int d)] := hl
  have hFD : FDr D w w := FDr.rf
  have htl : tp.length ≤ 200 := (hFN.rw0 0 1 hFN.2.2.2.2.1 (Or.inl rfl) htp).2.1
  refine lv_aload_n C0.1 C0.2.1 dX4_find_0 rfl (lv_at hl 0 rfl) ?_
  refine lv_iload_n C0.1 C0.2.1 dX4_find_1 rfl (lv_at hl 1 rfl) ?_
  refine me_cVwi (n := 1) C0 hml hP hS (c_X4_findFromTape l G B0 w D ad ex R N cnt hFN T Bn hCT hI tp htp ho d) ⟨kw_327, kw_31, kw_324, ⟨by decide, by decide, by decide +kernel⟩, ⟨rfl, rfl⟩, ⟨Nat.le_of_ble_eq_true rfl, Nat.le_of_ble_eq_true rfl⟩⟩ kw_326 kw_8 hFN.1 rfl rfl hl.1 rfl (Nat.le_of_ble_eq_true rfl) ⟨Nat.le_of_ble_eq_true rfl, Nat.le_of_ble_eq_true rfl⟩ dX4_find_2 (fun r1 w1 H locs hw1 hP hS => ?_)
  obtain ⟨R1, hFN, hFD1, hOw1, hCT1, hres⟩ := hw1
  have hFD := hFD.tr hFD1
  refine lv_istore_n (lv' := [(2, .int r1), (0, .ref (ad 0 0)), (1, .int d)]) C0.1 C0.2.1 dX4_find_5 rfl hl (by decide) rfl (fun ls hl => ?_)
  refine lv_aload_n C0.1 C0.2.1 dX4_find_6 rfl (lv_at hl 1 rfl) ?_
  refine me_get C0 hP hFN.1 rfl inX4 0 (by decide) kw_118 rfl dX4_find_7 ?_
  refine me_cVwv (n := 0) C0 hml hP hS (c_X2_clear l G B0 w1 (ad 0 1) (ad 0 (1 + 1)) (capR 0 1) tp (hFN.rw0 0 1 hFN.2.2.2.2.1 (Or.inl rfl) ((hOw1 1 (by decide)).trans htp)) (hFN.bb hFN.2.2.2.2.1 (rowJ_us (show rowJ 0 1 from (Or.inl rfl))).1) (hFN.bb hFN.2.2.2.2.1 (rowJ_us (show rowJ 0 1 from (Or.inl rfl))).2.1)) ⟨kw_117, kw_32, kw_162, ⟨by decide, by decide, by decide +kernel⟩, ⟨rfl, rfl⟩, ⟨Nat.le_of_ble_eq_true rfl, Nat.le_of_ble_eq_true rfl⟩⟩ kw_115 kw_116 (hFN.2.2.2.1 0 1 hFN.2.2.2.2.1 (Or.inl rfl)).1 rfl rfl hl.1 rfl (Nat.le_of_ble_eq_true rfl) ⟨Nat.le_of_ble_eq_true rfl, Nat.le_of_ble_eq_true rfl⟩ dX4_find_10 (fun w2 H locs hw2 hP hS => ?_)
  obtain ⟨hRw2, hCh2⟩ := hw2
  have hFD := hFD.ch (hFN.dd hFN.2.2.2.2.1 (rowJ_us (show rowJ 0 1 from (Or.inl rfl))).1) (hFN.dd hFN.2.2.2.2.1 (rowJ_us (show rowJ 0 1 from (Or.inl rfl))).2.1) hCh2
  have hFN := hFN.row (a := 0) (j := 1) hFN.2.2.2.2.1 (Or.inl rfl) hRw2 hCh2
  obtain ⟨R2, hR2⟩ : ∃ x, x = updR R1 0 1 ([]) := ⟨_, rfl⟩
  have hFN : FN G B0 D w2 ad ex R2 N cnt := by rw [hR2]; exact hFN
  have hv2_0_1 : R2 0 1 = [] := by rw [hR2, updR_s]
  have hCT2 := hCT1.sr ((SR.rf : SR _ _ [(0, 1)]).wr hR2 (by simp)) (by simp)
  refine lv_iload_n C0.1 C0.2.1 dX4_find_13 rfl (lv_at hl 0 rfl) ?_
  exact me_wiret _ C0.1 C0.2.1 B.returns B.notSynchronized hP hS (Nat.le_of_ble_eq_true rfl) (Nat.le_of_ble_eq_true rfl) (⟨_, hFN, hFD, (fun i h1 h5 => ((((SR.rf : SR R1 R1 [(0, 1)]).wr hR2 (by simp)) : SR R1 R2 [(0, 1)]) 0 i (by simp; omega)).trans (hOw1 i h5)), hv2_0_1, hCT2, hres⟩) dX4_find_14

set_option maxHeartbeats 4000000 in
set_option maxRecDepth 100000 in
/-- stepFrom(here, from, to) -/
theorem c_X4_stepFrom (l : Launch) (G : me_G) (B0 : Nat) (w : Me) (D : Nat → Prop) (ad : Nat → Nat → Nat) (ex : Nat → Bool) (R : Nat → Nat → List Int32) (N : Nat → Nat → Int32) (cnt : Int32) (hFN : FN G B0 D w ad ex R N cnt) (T : Tre) (Bn : Nat → List Int32) (hCT : CT ex R N T Bn) (hI : TI T) (tp : List Int32) (htp : R 0 1 = tp) (ho : Oct tp) (v0 f t : Nat) (nv : Nod) (hv2 : v0 < 200) (hTv0 : T v0 = some nv) (hft : f < t) (ht : t ≤ tp.length) : CtWI l yX4_stepFrom (Cond.code yX4_stepFrom cX4_stepFrom 6 (some .int)) ({ frames := 8, cells := 0, slots := 0, locals := 179 }) G B0 w [.ref (ad 0 0), .int (nI v0), .int (nI f), .int (nI t)] (fun r w' => ∃ (R' : Nat → Nat → List Int32), FN G B0 D w' ad ex R' N cnt ∧ FDr D w w' ∧ (∀ i, i ≠ 5 → R' 0 i = R 0 i) ∧ CT ex R' N T Bn ∧ r = stp T v0 (pieceL tp f t)) 0 0 := by
  refine Met.ofW (cc := cX4_stepFrom) (maxL := 6) (ret := (some .int)) (by decide) rfl ?_
  intro p e s m args below meth c s₁ B hml hv
  obtain ⟨rfl, hK, hP, hKq, hBs⟩ := hv
  have hts := fun w h => atoms_spec (ws := Cond.code yX4_stepFrom cX4_stepFrom 6 (some .int) :: tbG) B.pre w (List.mem_cons_of_mem _ h)
  have hown : s.vm.findClass RX4 = some m.cls := findClass_of_methodNamed B.named
  have C0 : Cx G B0 p s m _ c cX4_stepFrom RX4 := ⟨B.exec, B.bytes, hown, hts, hK, hKq, hBs⟩
  have hS : va_S (me_A B0) s.heap s.heap [] := va_S.rf
  have hl := lv_entry ([.ref (ad 0 0), .int (nI v0), .int (nI f), .int (nI t)]) (n := 6) (Nat.le_of_ble_eq_true rfl)
  rw [lg_entry_eq]
  generalize (lg_sl ([.ref (ad 0 0), .int (nI v0), .int (nI f), .int (nI t)]) ++ List.replicate (6 - (lg_sl ([.ref (ad 0 0), .int (nI v0), .int (nI f), .int (nI t)])).length) Slot.unset).toArray = ls at hl ⊢
  have hl : lv_has ls 6 [(0, .ref (ad 0 0)), (1, .int (nI v0)), (2, .int (nI f)), (3, .int (nI t))] := hl
  have hFD : FDr D w w := FDr.rf
  have htl : tp.length ≤ 200 := (hFN.rw0 0 1 hFN.2.2.2.2.1 (Or.inl rfl) htp).2.1
  refine lv_aload_n C0.1 C0.2.1 dX4_stepFrom_0 rfl (lv_at hl 0 rfl) ?_
  refine lv_iload_n C0.1 C0.2.1 dX4_stepFrom_1 rfl (lv_at hl 1 rfl) ?_
  refine me_cVq (n := 1) C0 hml hP hS (c_X4_nodeAt l G B0 w D ad ex R N cnt hFN T Bn hCT (nI v0)) ⟨kw_272, kw_31, kw_269, ⟨by decide, by decide, by decide +kernel⟩, ⟨rfl, rfl⟩, ⟨Nat.le_of_ble_eq_true rfl, Nat.le_of_ble_eq_true rfl⟩⟩ kw_271 kw_2 hFN.1 rfl rfl hl.1 rfl (Nat.le_of_ble_eq_true rfl) ⟨Nat.le_of_ble_eq_true rfl, Nat.le_of_ble_eq_true rfl⟩ dX4_stepFrom_2 (fun r1 hr1 => ?_)
  have hsor1 := hr1.so (by omega) hTv0
  subst hsor1
  obtain ⟨hv0200, hxv0, hnv00, hnv01, hnv02, hrv01, hrv03, hrv05, hrv07⟩ := hCT.2 v0 nv hTv0
  refine W.eq (g2 := F0 m 5 ls [.ref (ad (v0 + 1) 0)]) rfl ?_
  refine lv_astore (lv' := [(4, .ref (ad (v0 + 1) 0)), (0, .ref (ad 0 0)), (1, .int (nI v0)), (2, .int (nI f)), (3, .int (nI t))]) C0.1 C0.2.1 dX4_stepFrom_5 hl (by decide) rfl (fun ls hl => ?_)
  refine lv_aload C0.1 C0.2.1 dX4_stepFrom_7 (lv_at hl 0 rfl) ?_
  refine lv_ifnonnull (tgt := 15) C0.1 C0.2.1 dX4_stepFrom_9 (by decide) ?_
  refine lv_aload_n C0.1 C0.2.1 dX4_stepFrom_15 rfl (lv_at hl 1 rfl) ?_
  refine me_get C0 hP hFN.1 rfl inX4 0 (by decide) kw_118 rfl dX4_stepFrom_16 ?_
  refine lv_iload_n C0.1 C0.2.1 dX4_stepFrom_19 rfl (lv_at hl 3 rfl) ?_
  refine lv_iload_n C0.1 C0.2.1 dX4_stepFrom_20 rfl (lv_at hl 4 rfl) ?_
  refine me_cSi (n := 3) C0 hml hP hS (c_X3_isDots l G B0 w (ad 0 1) (ad 0 (1 + 1)) (capR 0 1) tp (hFN.rw0 0 1 hFN.2.2.2.2.1 (Or.inl rfl) htp) f t (by omega) (by omega)) ⟨kw_279, kw_40, kw_277, ⟨by decide, by decide, by decide +kernel⟩, ⟨rfl, rfl⟩, ⟨Nat.le_of_ble_eq_true rfl, Nat.le_of_ble_eq_true rfl⟩⟩ kw_278 rfl hl.1 rfl (Nat.le_of_ble_eq_true rfl) ⟨Nat.le_of_ble_eq_true rfl, Nat.le_of_ble_eq_true rfl⟩ dX4_stepFrom_21 (fun r2 hr2 => ?_)
  by_cases hisd : isD tp f t
  · rw [if_pos hisd] at hr2
    subst hr2
    refine lv_istore (lv' := [(5, .int 1), (4, .ref (ad (v0 + 1) 0)), (0, .ref (ad 0 0)), (1, .int (nI v0)), (2, .int (nI f)), (3, .int (nI t))]) C0.1 C0.2.1 dX4_stepFrom_24 hl (by decide) rfl (fun ls hl => ?_)
    refine lv_iload C0.1 C0.2.1 dX4_stepFrom_26 (lv_at hl 0 rfl) ?_
    refine lv_if_ne (tgt := 43) C0.1 C0.2.1 dX4_stepFrom_28 (by decide) (fun cx => ?_) (fun cx => absurd cx (by decide))
    refine lv_aload C0.1 C0.2.1 dX4_stepFrom_43 (lv_at hl 1 rfl) ?_
    refine me_get C0 hP (hFN.2.2.1 v0 hxv0) rfl inX1 5 (by decide) kw_92 rfl dX4_stepFrom_45 ?_
    refine me_topi (y := nv.1) hnv01 ?_
    refine lv_if_ne (tgt := 53) C0.1 C0.2.1 dX4_stepFrom_48 (by decide) (fun c4 => ?_) (fun c4 => ?_)
    · refine lv_iload C0.1 C0.2.1 dX4_stepFrom_53 (lv_at hl 0 rfl) ?_
      refine lv_if_ne (tgt := 65) C0.1 C0.2.1 dX4_stepFrom_55 (by decide) (fun cx => ?_) (fun cx => absurd cx (by decide))
      refine lv_iload_n C0.1 C0.2.1 dX4_stepFrom_65 rfl (lv_at hl 5 rfl) ?_
      refine lv_iload_n C0.1 C0.2.1 dX4_stepFrom_66 rfl (lv_at hl 4 rfl) ?_
      refine lv_isub C0.1 C0.2.1 dX4_stepFrom_67 ?_
      refine me_topi (y := nI (t - f)) (pk_sub (a := t) (b := f) (by omega)) ?_
      refine lv_iconst (v := 1) C0.1 C0.2.1 dX4_stepFrom_68 (by decide) ?_
      refine lv_icmp_eq (tgt := 76) C0.1 C0.2.1 dX4_stepFrom_69 (by decide) (fun c6 => ?_) (fun c6 => ?_)
      · have d6 : (t - f) = 1 := (nI_eq (a := (t - f)) (b := 1) (by omega) (by omega)).mp c6
        refine lv_iload_n C0.1 C0.2.1 dX4_stepFrom_76 rfl (lv_at hl 3 rfl) ?_
        refine lv_goto (tgt := 85) C0.1 C0.2.1 dX4_stepFrom_77 (by decide) ?_
        exact me_wiret _ C0.1 C0.2.1 B.returns B.notSynchronized hP hS (Nat.le_of_ble_eq_true rfl) (Nat.le_of_ble_eq_true rfl) (⟨_, hFN, hFD, (fun i hi => rfl), hCT, by rw [stp_n hTv0, if_pos ((isD_piece ht hft).mp hisd), if_neg c4, piece_len ht, if_pos (by omega)]⟩) dX4_stepFrom_85
      · have d6 : (t - f) ≠ 1 := fun h => c6 (congrArg nI h)
        refine lv_iload_n C0.1 C0.2.1 dX4_stepFrom_72 rfl (lv_at hl 3 rfl) ?_
        refine lv_if_ne (tgt := 80) C0.1 C0.2.1 dX4_stepFrom_73 (by decide) (fun c7 => ?_) (fun c7 => ?_)
        · have d7 : v0 ≠ 0 := fun h => c7 (congrArg nI h)
          refine lv_aload C0.1 C0.2.1 dX4_stepFrom_80 (lv_at hl 1 rfl) ?_
          refine me_get C0 hP (hFN.2.2.1 v0 hxv0) rfl inX1 6 (by decide) kw_94 rfl dX4_stepFrom_82 ?_
          refine me_topi (y := nv.2.1) hnv02 ?_
          exact me_wiret _ C0.1 C0.2.1 B.returns B.notSynchronized hP hS (Nat.le_of_ble_eq_true rfl) (Nat.le_of_ble_eq_true rfl) (⟨_, hFN, hFD, (fun i hi => rfl), hCT, by rw [stp_n hTv0, if_pos ((isD_piece ht hft).mp hisd), if_neg c4, piece_len ht, if_neg (by omega), if_neg (by omega)]⟩) dX4_stepFrom_85
        · have d7 : v0 = 0 := (nI_eq (a := v0) (b := 0) (by omega) (by omega)).mp c7
          refine lv_iload_n C0.1 C0.2.1 dX4_stepFrom_76 rfl (lv_at hl 3 rfl) ?_
          refine lv_goto (tgt := 85) C0.1 C0.2.1 dX4_stepFrom_77 (by decide) ?_
          exact me_wiret _ C0.1 C0.2.1 B.returns B.notSynchronized hP hS (Nat.le_of_ble_eq_true rfl) (Nat.le_of_ble_eq_true rfl) (⟨_, hFN, hFD, (fun i hi => rfl), hCT, by rw [stp_n hTv0, if_pos ((isD_piece ht hft).mp hisd), if_neg c4, piece_len ht, if_neg (by omega), if_pos (by omega), show v0 = 0 by omega]; rfl⟩) dX4_stepFrom_85
    · refine lv_iconst (v := (-1)) C0.1 C0.2.1 dX4_stepFrom_51 (by decide) ?_
      exact me_wiret _ C0.1 C0.2.1 B.returns B.notSynchronized hP hS (Nat.le_of_ble_eq_true rfl) (Nat.le_of_ble_eq_true rfl) (⟨_, hFN, hFD, (fun i hi => rfl), hCT, by rw [stp_n hTv0, if_pos ((isD_piece ht hft).mp hisd), if_pos c4]⟩) dX4_stepFrom_52
  · rw [if_neg hisd] at hr2
    subst hr2
    refine lv_istore (lv' := [(5, .int 0), (4, .ref (ad (v0 + 1) 0)), (0, .ref (ad 0 0)), (1, .int (nI v0)), (2, .int (nI f)), (3, .int (nI t))]) C0.1 C0.2.1 dX4_stepFrom_24 hl (by decide) rfl (fun ls hl => ?_)
    refine lv_iload C0.1 C0.2.1 dX4_stepFrom_26 (lv_at hl 0 rfl) ?_
    refine lv_if_ne (tgt := 43) C0.1 C0.2.1 dX4_stepFrom_28 (by decide) (fun cx => absurd cx (by decide)) (fun cx => ?_)
    refine lv_aload_n C0.1 C0.2.1 dX4_stepFrom_31 rfl (lv_at hl 2 rfl) ?_
    refine lv_iload_n C0.1 C0.2.1 dX4_stepFrom_32 rfl (lv_at hl 4 rfl) ?_
    refine lv_iload_n C0.1 C0.2.1 dX4_stepFrom_33 rfl (lv_at hl 5 rfl) ?_
    refine me_cVwi (n := 2) C0 hml hP hS (c_X4_askForName l G B0 w D ad ex R N cnt hFN tp htp ho f t (by omega) (by omega)) ⟨kw_276, kw_31, kw_273, ⟨by decide, by decide, by decide +kernel⟩, ⟨rfl, rfl⟩, ⟨Nat.le_of_ble_eq_true rfl, Nat.le_of_ble_eq_true rfl⟩⟩ kw_275 kw_3 hFN.1 rfl rfl hl.1 rfl (Nat.le_of_ble_eq_true rfl) ⟨Nat.le_of_ble_eq_true rfl, Nat.le_of_ble_eq_true rfl⟩ dX4_stepFrom_34 (fun r9 w9 H locs hw9 hP hS => ?_)
    obtain ⟨R9, hFN, hFD9, hSR9, hres9⟩ := hw9
    have hFD := hFD.tr hFD9
    have hCT9 := hCT.sr hSR9 (by simp)
    rcases hres9 with ⟨hok, rfl, hX⟩ | ⟨hno, rfl⟩
    · have hnm : nmI (pieceL tp f t) = 1 := nmI_1 hok
      refine lv_if_ne (tgt := 43) C0.1 C0.2.1 dX4_stepFrom_37 (by decide) (fun cx => ?_) (fun cx => absurd cx (by decide))
      refine lv_aload C0.1 C0.2.1 dX4_stepFrom_43 (lv_at hl 1 rfl) ?_
      refine me_get C0 hP (hFN.2.2.1 v0 hxv0) rfl inX1 5 (by decide) kw_92 rfl dX4_stepFrom_45 ?_
      refine me_topi (y := nv.1) hnv01 ?_
      refine lv_if_ne (tgt := 53) C0.1 C0.2.1 dX4_stepFrom_48 (by decide) (fun c11 => ?_) (fun c11 => ?_)
      · refine lv_iload C0.1 C0.2.1 dX4_stepFrom_53 (lv_at hl 0 rfl) ?_
        refine lv_if_ne (tgt := 65) C0.1 C0.2.1 dX4_stepFrom_55 (by decide) (fun cx => absurd cx (by decide)) (fun cx => ?_)
        refine lv_aload_n C0.1 C0.2.1 dX4_stepFrom_58 rfl (lv_at hl 2 rfl) ?_
        refine lv_aload C0.1 C0.2.1 dX4_stepFrom_59 (lv_at hl 1 rfl) ?_
        refine me_cVi (n := 1) C0 hml hP hS (c_X4_entryAsked l G B0 w9 D ad ex R9 N cnt hFN T Bn hCT9 v0 nv hTv0 (folds (pieceL tp f t)) nv.2.2.2.2 hX rfl (hI.ent v0 nv hTv0)) ⟨kw_283, kw_31, kw_280, ⟨by decide, by decide, by decide +kernel⟩, ⟨rfl, rfl⟩, ⟨Nat.le_of_ble_eq_true rfl, Nat.le_of_ble_eq_true rfl⟩⟩ kw_282 kw_4 hFN.1 rfl rfl hl.1 rfl (Nat.le_of_ble_eq_true rfl) ⟨Nat.le_of_ble_eq_true rfl, Nat.le_of_ble_eq_true rfl⟩ dX4_stepFrom_61 (fun r13 hr13 => ?_)
        rcases hI.elk hTv0 hr13 with ⟨hel, hel0⟩ | ⟨e1, me1, e11, e12, hel, e14, e15, e16, e17⟩
        · subst hel
          exact me_wiret _ C0.1 C0.2.1 B.returns B.notSynchronized hP hS (Nat.le_of_ble_eq_true rfl) (Nat.le_of_ble_eq_true rfl) (⟨_, hFN, hFD, (fun i hi => hSR9 0 i (by simp; omega)), hCT9, by rw [stp_n hTv0, if_neg (fun q => hisd ((isD_piece ht hft).mpr q)), if_neg (by rw [hnm]; decide), if_neg c11]; exact hr13⟩) dX4_stepFrom_64
        · subst hel
          exact me_wiret _ C0.1 C0.2.1 B.returns B.notSynchronized hP hS (Nat.le_of_ble_eq_true rfl) (Nat.le_of_ble_eq_true rfl) (⟨_, hFN, hFD, (fun i hi => hSR9 0 i (by simp; omega)), hCT9, by rw [stp_n hTv0, if_neg (fun q => hisd ((isD_piece ht hft).mpr q)), if_neg (by rw [hnm]; decide), if_neg c11]; exact hr13⟩) dX4_stepFrom_64
      · refine lv_iconst (v := (-1)) C0.1 C0.2.1 dX4_stepFrom_51 (by decide) ?_
        exact me_wiret _ C0.1 C0.2.1 B.returns B.notSynchronized hP hS (Nat.le_of_ble_eq_true rfl) (Nat.le_of_ble_eq_true rfl) (⟨_, hFN, hFD, (fun i hi => hSR9 0 i (by simp; omega)), hCT9, by rw [stp_n hTv0, if_neg (fun q => hisd ((isD_piece ht hft).mpr q)), if_neg (by rw [hnm]; decide), if_pos c11]⟩) dX4_stepFrom_52
    · have hnm : nmI (pieceL tp f t) = 0 := nmI_0 hno
      refine lv_if_ne (tgt := 43) C0.1 C0.2.1 dX4_stepFrom_37 (by decide) (fun cx => absurd cx (by decide)) (fun cx => ?_)
      refine lv_bipush (v := (-2)) C0.1 C0.2.1 dX4_stepFrom_40 (by decide) ?_
      exact me_wiret _ C0.1 C0.2.1 B.returns B.notSynchronized hP hS (Nat.le_of_ble_eq_true rfl) (Nat.le_of_ble_eq_true rfl) (⟨_, hFN, hFD, (fun i hi => hSR9 0 i (by simp; omega)), hCT9, by rw [stp_n hTv0, if_neg (fun q => hisd ((isD_piece ht hft).mpr q)), if_pos hnm]⟩) dX4_stepFrom_42
