set_option maxHeartbeats 4000000 in
set_option maxRecDepth 100000 in
/-- detach(number, directory) -/
theorem c_X4_detach (l : Launch) (G : me_G) (B0 : Nat) (w : Me) (D : Nat → Prop) (ad : Nat → Nat → Nat) (ex : Nat → Bool) (R : Nat → Nat → List Int32) (N : Nat → Nat → Int32) (cnt : Int32) (hFN : FN G B0 D w ad ex R N cnt) (T : Tre) (Bn : Nat → List Int32) (hCT : CT ex R N T Bn) (j u : Nat) (nu : Nod) (hTu : T u = some nu) : CtWV l yX4_detach (Cond.code yX4_detach cX4_detach 4 none) ({ frames := 1, cells := 0, slots := 0, locals := 23 }) G B0 w [.ref (ad 0 0), .int (nI j), .int (nI u)] (fun w' => ∃ (R' : Nat → Nat → List Int32), FN G B0 D w' ad ex R' N cnt ∧ FDr D w w' ∧ (∀ i, R' 0 i = R 0 i) ∧ CT ex R' N (opT T u (rE (nI j))) (upB Bn u (rOut (Bn u) (nI j)))) 0 0 := by
  refine Met.ofW (cc := cX4_detach) (maxL := 4) (ret := none) (by decide) rfl ?_
  intro p e s m args below meth c s₁ B hml hv
  obtain ⟨rfl, hK, hP, hKq, hBs⟩ := hv
  have hts := fun w h => atoms_spec (ws := Cond.code yX4_detach cX4_detach 4 none :: tbG) B.pre w (List.mem_cons_of_mem _ h)
  have hown : s.vm.findClass RX4 = some m.cls := findClass_of_methodNamed B.named
  have C0 : Cx G B0 p s m _ c cX4_detach RX4 := ⟨B.exec, B.bytes, hown, hts, hK, hKq, hBs⟩
  have hS : va_S (me_A B0) s.heap s.heap [] := va_S.rf
  have hl := lv_entry ([.ref (ad 0 0), .int (nI j), .int (nI u)]) (n := 4) (Nat.le_of_ble_eq_true rfl)
  rw [lg_entry_eq]
  generalize (lg_sl ([.ref (ad 0 0), .int (nI j), .int (nI u)]) ++ List.replicate (4 - (lg_sl ([.ref (ad 0 0), .int (nI j), .int (nI u)])).length) Slot.unset).toArray = ls at hl ⊢
  have hl : lv_has ls 4 [(0, .ref (ad 0 0)), (1, .int (nI j)), (2, .int (nI u))] := hl
  have hFD : FDr D w w := FDr.rf
  obtain ⟨hu200, -⟩ := hCT.2 u nu hTu
  refine lv_aload_n C0.1 C0.2.1 dX4_detach_0 rfl (lv_at hl 0 rfl) ?_
  refine lv_iload_n C0.1 C0.2.1 dX4_detach_1 rfl (lv_at hl 2 rfl) ?_
  refine me_cVq (n := 1) C0 hml hP hS (c_X4_nodeAt l G B0 w D ad ex R N cnt hFN T Bn hCT (nI u)) ⟨kw_272, kw_31, kw_269, ⟨by decide, by decide, by decide +kernel⟩, ⟨rfl, rfl⟩, ⟨Nat.le_of_ble_eq_true rfl, Nat.le_of_ble_eq_true rfl⟩⟩ kw_271 kw_2 hFN.1 rfl rfl hl.1 rfl (Nat.le_of_ble_eq_true rfl) ⟨Nat.le_of_ble_eq_true rfl, Nat.le_of_ble_eq_true rfl⟩ dX4_detach_2 (fun r1 hr1 => ?_)
  have hsor1 := hr1.so (by omega) hTu
  subst hsor1
  obtain ⟨hu200, hxu, hnu0, hnu1, hnu2, hru1, hru3, hru5, hru7⟩ := hCT.2 u nu hTu
  refine W.eq (g2 := F0 m 5 ls [.ref (ad (u + 1) 0)]) rfl ?_
  refine lv_astore_n (lv' := [(3, .ref (ad (u + 1) 0)), (0, .ref (ad 0 0)), (1, .int (nI j)), (2, .int (nI u))]) C0.1 C0.2.1 dX4_detach_5 rfl hl (by decide) rfl (fun ls hl => ?_)
  refine lv_aload_n C0.1 C0.2.1 dX4_detach_6 rfl (lv_at hl 0 rfl) ?_
  refine lv_ifnull C0.1 C0.2.1 dX4_detach_7 ?_
  refine lv_aload_n C0.1 C0.2.1 dX4_detach_10 rfl (lv_at hl 0 rfl) ?_
  refine me_get C0 hP (hFN.2.2.1 u hxu) rfl inX1 2 (by decide) kw_86 rfl dX4_detach_11 ?_
  refine lv_iload_n C0.1 C0.2.1 dX4_detach_14 rfl (lv_at hl 2 rfl) ?_
  refine me_cVwv (n := 1) C0 hml hP hS (c_X2_takeOut l G B0 w (ad (u + 1) 5) (ad (u + 1) (5 + 1)) (capR (u + 1) 5) nu.2.2.2.2 (hFN.rw0 (u + 1) 5 hxu (Or.inr (Or.inr (Or.inl rfl))) hru5) (hFN.bb hxu (rowJ_us (show rowJ (u + 1) 5 from (Or.inr (Or.inr (Or.inl rfl))))).1) (hFN.bb hxu (rowJ_us (show rowJ (u + 1) 5 from (Or.inr (Or.inr (Or.inl rfl))))).2.1) (nI j)) ⟨kw_360, kw_32, kw_357, ⟨by decide, by decide, by decide +kernel⟩, ⟨rfl, rfl⟩, ⟨Nat.le_of_ble_eq_true rfl, Nat.le_of_ble_eq_true rfl⟩⟩ kw_358 kw_359 (hFN.2.2.2.1 (u + 1) 5 hxu (Or.inr (Or.inr (Or.inl rfl)))).1 rfl rfl hl.1 rfl (Nat.le_of_ble_eq_true rfl) ⟨Nat.le_of_ble_eq_true rfl, Nat.le_of_ble_eq_true rfl⟩ dX4_detach_15 (fun w2 H locs hw2 hP hS => ?_)
  obtain ⟨hRw2, hCh2⟩ := hw2
  have hFD := hFD.ch (hFN.dd hxu (rowJ_us (show rowJ (u + 1) 5 from (Or.inr (Or.inr (Or.inl rfl))))).1) (hFN.dd hxu (rowJ_us (show rowJ (u + 1) 5 from (Or.inr (Or.inr (Or.inl rfl))))).2.1) hCh2
  have hFN := hFN.row (a := (u + 1)) (j := 5) hxu (Or.inr (Or.inr (Or.inl rfl))) hRw2 hCh2
  obtain ⟨R2, hR2⟩ : ∃ x, x = updR R (u + 1) 5 (rOut nu.2.2.2.2 (nI j)) := ⟨_, rfl⟩
  have hFN : FN G B0 D w2 ad ex R2 N cnt := by rw [hR2]; exact hFN
  have hv2_u1_1 : R2 (u + 1) 1 = nu.2.2.1 := (show R2 (u + 1) 1 = R (u + 1) 1 by rw [hR2, updR_n (by omega)]).trans hru1
  have hv2_u1_3 : R2 (u + 1) 3 = nu.2.2.2.1 := (show R2 (u + 1) 3 = R (u + 1) 3 by rw [hR2, updR_n (by omega)]).trans hru3
  have hv2_u1_7 : R2 (u + 1) 7 = Bn u := (show R2 (u + 1) 7 = R (u + 1) 7 by rw [hR2, updR_n (by omega)]).trans hru7
  have hv2_u1_5 : R2 (u + 1) 5 = rOut nu.2.2.2.2 (nI j) := by rw [hR2, updR_s]
  refine lv_aload_n C0.1 C0.2.1 dX4_detach_18 rfl (lv_at hl 0 rfl) ?_
  refine me_get C0 hP (hFN.2.2.1 u hxu) rfl inX1 3 (by decide) kw_88 rfl dX4_detach_19 ?_
  refine lv_iload_n C0.1 C0.2.1 dX4_detach_22 rfl (lv_at hl 2 rfl) ?_
  refine me_cVwv (n := 1) C0 hml hP hS (c_X2_takeOut l G B0 w2 (ad (u + 1) 7) (ad (u + 1) (7 + 1)) (capR (u + 1) 7) (Bn u) (hFN.rw0 (u + 1) 7 hxu (Or.inr (Or.inr (Or.inr rfl))) hv2_u1_7) (hFN.bb hxu (rowJ_us (show rowJ (u + 1) 7 from (Or.inr (Or.inr (Or.inr rfl))))).1) (hFN.bb hxu (rowJ_us (show rowJ (u + 1) 7 from (Or.inr (Or.inr (Or.inr rfl))))).2.1) (nI j)) ⟨kw_360, kw_32, kw_357, ⟨by decide, by decide, by decide +kernel⟩, ⟨rfl, rfl⟩, ⟨Nat.le_of_ble_eq_true rfl, Nat.le_of_ble_eq_true rfl⟩⟩ kw_358 kw_359 (hFN.2.2.2.1 (u + 1) 7 hxu (Or.inr (Or.inr (Or.inr rfl)))).1 rfl rfl hl.1 rfl (Nat.le_of_ble_eq_true rfl) ⟨Nat.le_of_ble_eq_true rfl, Nat.le_of_ble_eq_true rfl⟩ dX4_detach_23 (fun w3 H locs hw3 hP hS => ?_)
  obtain ⟨hRw3, hCh3⟩ := hw3
  have hFD := hFD.ch (hFN.dd hxu (rowJ_us (show rowJ (u + 1) 7 from (Or.inr (Or.inr (Or.inr rfl))))).1) (hFN.dd hxu (rowJ_us (show rowJ (u + 1) 7 from (Or.inr (Or.inr (Or.inr rfl))))).2.1) hCh3
  have hFN := hFN.row (a := (u + 1)) (j := 7) hxu (Or.inr (Or.inr (Or.inr rfl))) hRw3 hCh3
  obtain ⟨R3, hR3⟩ : ∃ x, x = updR R2 (u + 1) 7 (rOut (Bn u) (nI j)) := ⟨_, rfl⟩
  have hFN : FN G B0 D w3 ad ex R3 N cnt := by rw [hR3]; exact hFN
  have hv3_u1_1 : R3 (u + 1) 1 = nu.2.2.1 := (show R3 (u + 1) 1 = R2 (u + 1) 1 by rw [hR3, updR_n (by omega)]).trans hv2_u1_1
  have hv3_u1_3 : R3 (u + 1) 3 = nu.2.2.2.1 := (show R3 (u + 1) 3 = R2 (u + 1) 3 by rw [hR3, updR_n (by omega)]).trans hv2_u1_3
  have hv3_u1_5 : R3 (u + 1) 5 = rOut nu.2.2.2.2 (nI j) := (show R3 (u + 1) 5 = R2 (u + 1) 5 by rw [hR3, updR_n (by omega)]).trans hv2_u1_5
  have hv3_u1_7 : R3 (u + 1) 7 = rOut (Bn u) (nI j) := by rw [hR3, updR_s]
  have hSR : SR R R3 [(u + 1, 5), (u + 1, 7)] := (((SR.rf : SR R R [(u + 1, 5), (u + 1, 7)]).wr hR2 (by simp)).wr hR3 (by simp))
  exact me_wvret _ C0.1 C0.2.1 B.returns B.notSynchronized hP hS (Nat.le_of_ble_eq_true rfl) (Nat.le_of_ble_eq_true rfl) (⟨_, hFN, hFD, hSR.own (by simp), hCT.op (B := rOut (Bn u) (nI j)) hTu rfl (fun kk hkk => ⟨rfl, fun i _ => rfl, fun jj hj => (hSR).oth (v := u) (by simp) kk hkk jj hj⟩) ⟨hxu, hnu0, hnu1, hnu2, hv3_u1_1, hv3_u1_3, hv3_u1_5, hv3_u1_7⟩⟩) dX4_detach_26

set_option maxHeartbeats 4000000 in
set_option maxRecDepth 100000 in
/-- attach(number, node, directory, into) -/
theorem c_X4_attach (l : Launch) (G : me_G) (B0 : Nat) (w : Me) (D : Nat → Prop) (ad : Nat → Nat → Nat) (ex : Nat → Bool) (R : Nat → Nat → List Int32) (N : Nat → Nat → Int32) (cnt : Int32) (hFN : FN G B0 D w ad ex R N cnt) (T : Tre) (Bn : Nat → List Int32) (hCT : CT ex R N T Bn) (j k : Nat) (nj nk : Nod) (hTj : T j = some nj) (hTk : T k = some nk) (hjk : j ≠ k) (hkl : nk.2.2.2.2.length < 40) (hbl : (Bn k).length < 40) (X : List Int32) (hX : R 0 5 = X) (hE : ∀ i, i < (Bn k).length → ∃ (j : Nat) (m : Nod), j < 200 ∧ (Bn k).getD i 0 = nI j ∧ T j = some m) : CtWV l yX4_attach (Cond.code yX4_attach cX4_attach 5 none) ({ frames := 3, cells := 0, slots := 0, locals := 68 }) G B0 w [.ref (ad 0 0), .int (nI j), .ref (ad (j + 1) 0), .int (nI k), .ref (ad (k + 1) 0)] (fun w' => ∃ (R' : Nat → Nat → List Int32) (N' : Nat → Nat → Int32), FN G B0 D w' ad ex R' N' cnt ∧ FDr D w w' ∧ (∀ i, R' 0 i = R 0 i) ∧ CT ex R' N' (appT T j k) (attB T X Bn j k)) 0 0 := by
  refine Met.ofW (cc := cX4_attach) (maxL := 5) (ret := none) (by decide) rfl ?_
  intro p e s m args below meth c s₁ B hml hv
  obtain ⟨rfl, hK, hP, hKq, hBs⟩ := hv
  have hts := fun w h => atoms_spec (ws := Cond.code yX4_attach cX4_attach 5 none :: tbG) B.pre w (List.mem_cons_of_mem _ h)
  have hown : s.vm.findClass RX4 = some m.cls := findClass_of_methodNamed B.named
  have C0 : Cx G B0 p s m _ c cX4_attach RX4 := ⟨B.exec, B.bytes, hown, hts, hK, hKq, hBs⟩
  have hS : va_S (me_A B0) s.heap s.heap [] := va_S.rf
  have hl := lv_entry ([.ref (ad 0 0), .int (nI j), .ref (ad (j + 1) 0), .int (nI k), .ref (ad (k + 1) 0)]) (n := 5) (Nat.le_of_ble_eq_true rfl)
  rw [lg_entry_eq]
  generalize (lg_sl ([.ref (ad 0 0), .int (nI j), .ref (ad (j + 1) 0), .int (nI k), .ref (ad (k + 1) 0)]) ++ List.replicate (5 - (lg_sl ([.ref (ad 0 0), .int (nI j), .ref (ad (j + 1) 0), .int (nI k), .ref (ad (k + 1) 0)])).length) Slot.unset).toArray = ls at hl ⊢
  have hl : lv_has ls 5 [(0, .ref (ad 0 0)), (1, .int (nI j)), (2, .ref (ad (j + 1) 0)), (3, .int (nI k)), (4, .ref (ad (k + 1) 0))] := hl
  have hFD : FDr D w w := FDr.rf
  obtain ⟨hj200, -⟩ := hCT.2 j nj hTj
  obtain ⟨hk200, -⟩ := hCT.2 k nk hTk
  obtain ⟨hj200, hxj, hnj0, hnj1, hnj2, hrj1, hrj3, hrj5, hrj7⟩ := hCT.2 j nj hTj
  obtain ⟨hk200, hxk, hnk0, hnk1, hnk2, hrk1, hrk3, hrk5, hrk7⟩ := hCT.2 k nk hTk
  refine lv_aload_n C0.1 C0.2.1 dX4_attach_0 rfl (lv_at hl 2 rfl) ?_
  refine lv_iload_n C0.1 C0.2.1 dX4_attach_1 rfl (lv_at hl 3 rfl) ?_
  refine me_put C0 hP hS (hFN.bb hxj ⟨by omega, by omega⟩) (hFN.2.2.1 j hxj) rfl inX1 tyX1 tyX1_ok nmX1 6 (by decide) kw_94 rfl rfl rfl (Nat.le_of_ble_eq_true rfl) dX4_attach_2 (fun H locs hP hS => ?_)
  obtain ⟨w1, hw1⟩ : ∃ x : Me, x = me_u w (ad (j + 1) 0) (eO 0 [.ref (ad (j + 1) 1), .ref (ad (j + 1) 3), .ref (ad (j + 1) 5), .ref (ad (j + 1) 7), .int (N (j + 1) 0), .int (N (j + 1) 1), .int (nI k)]) := ⟨_, rfl⟩
  obtain ⟨N1, hN1⟩ : ∃ x, x = updN N (j + 1) 2 (nI k) := ⟨_, rfl⟩
  have hFN : FN G B0 D w1 ad ex R N1 cnt := by rw [hw1, hN1]; exact hFN.putn hxj 2 (by decide) (nI k)
  have hN1_j1_0 : N1 (j + 1) 0 = 1 := (show N1 (j + 1) 0 = N (j + 1) 0 by rw [hN1, updN_n (by omega)]).trans hnj0
  have hN1_j1_1 : N1 (j + 1) 1 = nj.1 := (show N1 (j + 1) 1 = N (j + 1) 1 by rw [hN1, updN_n (by omega)]).trans hnj1
  have hN1_k1_0 : N1 (k + 1) 0 = 1 := (show N1 (k + 1) 0 = N (k + 1) 0 by rw [hN1, updN_n (by omega)]).trans hnk0
  have hN1_k1_1 : N1 (k + 1) 1 = nk.1 := (show N1 (k + 1) 1 = N (k + 1) 1 by rw [hN1, updN_n (by omega)]).trans hnk1
  have hN1_k1_2 : N1 (k + 1) 2 = nk.2.1 := (show N1 (k + 1) 2 = N (k + 1) 2 by rw [hN1, updN_n (by omega)]).trans hnk2
  have hN1_j1_2 : N1 (j + 1) 2 = nI k := by rw [hN1, updN_s]
  have hFD : FDr D w w1 := by rw [hw1]; exact hFD.at (hFN.dd hxj ⟨by omega, by omega⟩)
  have hP : me_P G.1 w1 H := by rw [hw1]; exact hP
  have hCTa : CT ex R N1 (opT T j (sP (nI k))) Bn := hCT.opB hTj rfl (fun kk hkk => ⟨rfl, fun i _ => by rw [hN1, updN_n (by omega)], fun jj _ => rfl⟩) ⟨hxj, hN1_j1_0, hN1_j1_1, hN1_j1_2, hrj1, hrj3, hrj5, hrj7⟩
  have hTk1 : opT T j (sP (nI k)) k = some nk := (opT_n (Ne.symm hjk)).trans hTk
  refine lv_aload C0.1 C0.2.1 dX4_attach_5 (lv_at hl 4 rfl) ?_
  refine me_get C0 hP (hFN.2.2.1 k hxk) rfl inX1 2 (by decide) kw_86 rfl dX4_attach_7 ?_
  refine lv_iload_n C0.1 C0.2.1 dX4_attach_10 rfl (lv_at hl 1 rfl) ?_
  refine me_cVwv (n := 1) C0 hml hP hS (c_X2_add l G B0 w1 (ad (k + 1) 5) (ad (k + 1) (5 + 1)) (capR (k + 1) 5) nk.2.2.2.2 (hFN.rw0 (k + 1) 5 hxk (Or.inr (Or.inr (Or.inl rfl))) hrk5) (hFN.bb hxk (rowJ_us (show rowJ (k + 1) 5 from (Or.inr (Or.inr (Or.inl rfl))))).1) (hFN.bb hxk (rowJ_us (show rowJ (k + 1) 5 from (Or.inr (Or.inr (Or.inl rfl))))).2.1) (nI j)) ⟨kw_313, kw_32, kw_310, ⟨by decide, by decide, by decide +kernel⟩, ⟨rfl, rfl⟩, ⟨Nat.le_of_ble_eq_true rfl, Nat.le_of_ble_eq_true rfl⟩⟩ kw_311 kw_312 (hFN.2.2.2.1 (k + 1) 5 hxk (Or.inr (Or.inr (Or.inl rfl)))).1 rfl rfl hl.1 rfl (Nat.le_of_ble_eq_true rfl) ⟨Nat.le_of_ble_eq_true rfl, Nat.le_of_ble_eq_true rfl⟩ dX4_attach_11 (fun w2 H locs hw2 hP hS => ?_)
  obtain ⟨hRw2, hCh2⟩ := hw2
  have hFD := hFD.ch (hFN.dd hxk (rowJ_us (show rowJ (k + 1) 5 from (Or.inr (Or.inr (Or.inl rfl))))).1) (hFN.dd hxk (rowJ_us (show rowJ (k + 1) 5 from (Or.inr (Or.inr (Or.inl rfl))))).2.1) hCh2
  have hFN := hFN.row (a := (k + 1)) (j := 5) hxk (Or.inr (Or.inr (Or.inl rfl))) hRw2 hCh2
  obtain ⟨R2, hR2⟩ : ∃ x, x = updR R (k + 1) 5 (rIns (capR (k + 1) 5) nk.2.2.2.2 nk.2.2.2.2.length (nI j)) := ⟨_, rfl⟩
  have hFN : FN G B0 D w2 ad ex R2 N1 cnt := by rw [hR2]; exact hFN
  have hv2_j1_1 : R2 (j + 1) 1 = nj.2.2.1 := (show R2 (j + 1) 1 = R (j + 1) 1 by rw [hR2, updR_n (by omega)]).trans hrj1
  have hv2_j1_3 : R2 (j + 1) 3 = nj.2.2.2.1 := (show R2 (j + 1) 3 = R (j + 1) 3 by rw [hR2, updR_n (by omega)]).trans hrj3
  have hv2_j1_5 : R2 (j + 1) 5 = nj.2.2.2.2 := (show R2 (j + 1) 5 = R (j + 1) 5 by rw [hR2, updR_n (by omega)]).trans hrj5
  have hv2_j1_7 : R2 (j + 1) 7 = Bn j := (show R2 (j + 1) 7 = R (j + 1) 7 by rw [hR2, updR_n (by omega)]).trans hrj7
  have hv2_k1_1 : R2 (k + 1) 1 = nk.2.2.1 := (show R2 (k + 1) 1 = R (k + 1) 1 by rw [hR2, updR_n (by omega)]).trans hrk1
  have hv2_k1_3 : R2 (k + 1) 3 = nk.2.2.2.1 := (show R2 (k + 1) 3 = R (k + 1) 3 by rw [hR2, updR_n (by omega)]).trans hrk3
  have hv2_k1_7 : R2 (k + 1) 7 = Bn k := (show R2 (k + 1) 7 = R (k + 1) 7 by rw [hR2, updR_n (by omega)]).trans hrk7
  have hv2_0_5 : R2 0 5 = X := (show R2 0 5 = R 0 5 by rw [hR2, updR_n (by omega)]).trans hX
  have hv2_k1_5 : R2 (k + 1) 5 = rIns (capR (k + 1) 5) nk.2.2.2.2 nk.2.2.2.2.length (nI j) := by rw [hR2, updR_s]
  have hCTb : CT ex R2 N1 (appT T j k) Bn := hCTa.opB hTk1 rfl (fun kk hkk => ⟨rfl, fun i _ => rfl, ((SR.rf : SR R R [(k + 1, 5)]).wr hR2 (by simp)).oth (by simp) kk hkk⟩) ⟨hxk, hN1_k1_0, hN1_k1_1, hN1_k1_2, hv2_k1_1, hv2_k1_3, (hv2_k1_5).trans (rIns_lt hkl), hv2_k1_7⟩
  have hTk2 : appT T j k k = some (aE (nI j) nk) := opT_s hTk1
  have hE2 : ∀ i, i < (Bn k).length → ∃ (u : Nat) (m : Nod), u < 200 ∧ (Bn k).getD i 0 = nI u ∧ appT T j k u = some m := fun i hi => by obtain ⟨u, m, a1, a2, a3⟩ := hE i hi; obtain ⟨m2, hm2⟩ := appT_some (j := j) (k := k) a3; exact ⟨u, m2, a1, a2, hm2⟩
  refine lv_aload C0.1 C0.2.1 dX4_attach_14 (lv_at hl 4 rfl) ?_
  refine me_get C0 hP (hFN.2.2.1 k hxk) rfl inX1 3 (by decide) kw_88 rfl dX4_attach_16 ?_
  refine lv_aload_n C0.1 C0.2.1 dX4_attach_19 rfl (lv_at hl 0 rfl) ?_
  refine lv_aload C0.1 C0.2.1 dX4_attach_20 (lv_at hl 4 rfl) ?_
  refine me_cVi (n := 1) C0 hml hP hS (c_X4_placeByName l G B0 w2 D ad ex R2 N1 cnt hFN (appT T j k) Bn hCTb k (aE (nI j) nk) hTk2 X (Bn k) hv2_0_5 rfl hE2) ⟨kw_318, kw_31, kw_315, ⟨by decide, by decide, by decide +kernel⟩, ⟨rfl, rfl⟩, ⟨Nat.le_of_ble_eq_true rfl, Nat.le_of_ble_eq_true rfl⟩⟩ kw_317 kw_7 hFN.1 rfl rfl hl.1 rfl (Nat.le_of_ble_eq_true rfl) ⟨Nat.le_of_ble_eq_true rfl, Nat.le_of_ble_eq_true rfl⟩ dX4_attach_22 (fun r3 hr3 => ?_)
  subst hr3
  refine lv_iload_n C0.1 C0.2.1 dX4_attach_25 rfl (lv_at hl 1 rfl) ?_
  refine me_cVwv (n := 2) C0 hml hP hS (c_X2_insert l G B0 w2 (ad (k + 1) 7) (ad (k + 1) (7 + 1)) (capR (k + 1) 7) (Bn k) (hFN.rw0 (k + 1) 7 hxk (Or.inr (Or.inr (Or.inr rfl))) hv2_k1_7) (hFN.bb hxk (rowJ_us (show rowJ (k + 1) 7 from (Or.inr (Or.inr (Or.inr rfl))))).1) (hFN.bb hxk (rowJ_us (show rowJ (k + 1) 7 from (Or.inr (Or.inr (Or.inr rfl))))).2.1) (plB (appT T j k) X (Bn k)) (plB_le ..) (nI j)) ⟨kw_244, kw_32, kw_319, ⟨by decide, by decide, by decide +kernel⟩, ⟨rfl, rfl⟩, ⟨Nat.le_of_ble_eq_true rfl, Nat.le_of_ble_eq_true rfl⟩⟩ kw_242 kw_243 (hFN.2.2.2.1 (k + 1) 7 hxk (Or.inr (Or.inr (Or.inr rfl)))).1 rfl rfl hl.1 rfl (Nat.le_of_ble_eq_true rfl) ⟨Nat.le_of_ble_eq_true rfl, Nat.le_of_ble_eq_true rfl⟩ dX4_attach_26 (fun w4 H locs hw4 hP hS => ?_)
  obtain ⟨hRw4, hCh4⟩ := hw4
  have hFD := hFD.ch (hFN.dd hxk (rowJ_us (show rowJ (k + 1) 7 from (Or.inr (Or.inr (Or.inr rfl))))).1) (hFN.dd hxk (rowJ_us (show rowJ (k + 1) 7 from (Or.inr (Or.inr (Or.inr rfl))))).2.1) hCh4
  have hFN := hFN.row (a := (k + 1)) (j := 7) hxk (Or.inr (Or.inr (Or.inr rfl))) hRw4 hCh4
  obtain ⟨R4, hR4⟩ : ∃ x, x = updR R2 (k + 1) 7 (rIns 40 (Bn k) (plB (appT T j k) X (Bn k)) (nI j)) := ⟨_, rfl⟩
  have hFN : FN G B0 D w4 ad ex R4 N1 cnt := by rw [hR4]; exact hFN
  have hv4_j1_1 : R4 (j + 1) 1 = nj.2.2.1 := (show R4 (j + 1) 1 = R2 (j + 1) 1 by rw [hR4, updR_n (by omega)]).trans hv2_j1_1
  have hv4_j1_3 : R4 (j + 1) 3 = nj.2.2.2.1 := (show R4 (j + 1) 3 = R2 (j + 1) 3 by rw [hR4, updR_n (by omega)]).trans hv2_j1_3
  have hv4_j1_5 : R4 (j + 1) 5 = nj.2.2.2.2 := (show R4 (j + 1) 5 = R2 (j + 1) 5 by rw [hR4, updR_n (by omega)]).trans hv2_j1_5
  have hv4_j1_7 : R4 (j + 1) 7 = Bn j := (show R4 (j + 1) 7 = R2 (j + 1) 7 by rw [hR4, updR_n (by omega)]).trans hv2_j1_7
  have hv4_k1_1 : R4 (k + 1) 1 = nk.2.2.1 := (show R4 (k + 1) 1 = R2 (k + 1) 1 by rw [hR4, updR_n (by omega)]).trans hv2_k1_1
  have hv4_k1_3 : R4 (k + 1) 3 = nk.2.2.2.1 := (show R4 (k + 1) 3 = R2 (k + 1) 3 by rw [hR4, updR_n (by omega)]).trans hv2_k1_3
  have hv4_k1_5 : R4 (k + 1) 5 = rIns (capR (k + 1) 5) nk.2.2.2.2 nk.2.2.2.2.length (nI j) := (show R4 (k + 1) 5 = R2 (k + 1) 5 by rw [hR4, updR_n (by omega)]).trans hv2_k1_5
  have hv4_0_5 : R4 0 5 = X := (show R4 0 5 = R2 0 5 by rw [hR4, updR_n (by omega)]).trans hv2_0_5
  have hv4_k1_7 : R4 (k + 1) 7 = rIns 40 (Bn k) (plB (appT T j k) X (Bn k)) (nI j) := by rw [hR4, updR_s]
  exact me_wvret _ C0.1 C0.2.1 B.returns B.notSynchronized hP hS (Nat.le_of_ble_eq_true rfl) (Nat.le_of_ble_eq_true rfl) (⟨_, _, hFN, hFD, ((((SR.rf : SR R R [(k + 1, 5), (k + 1, 7)]).wr hR2 (by simp)).wr hR4 (by simp)) : SR R R4 [(k + 1, 5), (k + 1, 7)]).own (by simp), hCTb.bn hTk2 ((SR.rf : SR _ _ [(k + 1, 7)]).wr hR4 (by simp)) hv4_k1_7⟩) dX4_attach_29
