set_option maxHeartbeats 4000000 in
set_option maxRecDepth 100000 in
/-- new Row(200) -/
theorem c_X2_init_200 (l : Launch) (G : me_G) (B0 : Nat) (w : Me) (r : Nat) (hBr : B0 ≤ r) (hr : w r = some (eO 1 [.null, .int 0])) : CtWV l yX2_init (Cond.code yX2_init cX2_init 2 none) ({ frames := 1, cells := 1, slots := 200, locals := 14 }) G B0 w [.ref r, .int 200] (fun w' => ∃ b : Nat, w b = none ∧ B0 ≤ b ∧ Rw G w' r b 200 [] ∧ FrN w w' r) 1 200 := by
  refine Met.ofW (cc := cX2_init) (maxL := 2) (ret := none) (by decide) rfl ?_
  intro p e s m args below meth c s₁ B hml hv
  obtain ⟨rfl, hK, hP, hKq, hBs⟩ := hv
  have hts := fun w h => atoms_spec (ws := Cond.code yX2_init cX2_init 2 none :: tbG) B.pre w (List.mem_cons_of_mem _ h)
  have hown : s.vm.findClass RX2 = some m.cls := findClass_of_methodNamed B.named
  have C0 : Cx G B0 p s m _ c cX2_init RX2 := ⟨B.exec, B.bytes, hown, hts, hK, hKq, hBs⟩
  have hS : va_S (me_A B0) s.heap s.heap [] := va_S.rf
  have hin : meth.name = "<init>" := (name_of_methodNamed B.named B.method).1
  have hl := lv_entry ([.ref r, .int 200]) (n := 2) (Nat.le_of_ble_eq_true rfl)
  rw [lg_entry_eq]
  generalize (lg_sl ([.ref r, .int 200]) ++ List.replicate (2 - (lg_sl ([.ref r, .int 200])).length) Slot.unset).toArray = ls at hl ⊢
  have hl : lv_has ls 2 [(0, .ref r), (1, .int 200)] := hl
  have hFr : FrN w w r := FrN.rf
  refine lv_aload_n C0.1 C0.2.1 dX2_init_0 rfl (lv_at hl 0 rfl) ?_
  refine W.objInit C0.1 C0.2.1 C0.2.2.1 (C0.2.2.2.1 _ kw_60) (C0.2.2.2.1 _ kw_53) (C0.2.2.2.1 _ kw_54) rfl (by rw [hml]; exact hl.1) rfl dX2_init_1 (Nat.le_of_ble_eq_true rfl) (Nat.le_of_ble_eq_true rfl) ?_
  refine W.eq (g2 := F0 m 4 ls []) rfl ?_
  refine lv_aload_n C0.1 C0.2.1 dX2_init_4 rfl (lv_at hl 0 rfl) ?_
  refine lv_iload_n C0.1 C0.2.1 dX2_init_5 rfl (lv_at hl 1 rfl) ?_
  refine lv_iconst (v := 0) C0.1 C0.2.1 dX2_init_6 (by decide) ?_
  refine va_mmax C0.1 C0.2.1 (hml.trans hl.1.symm) C0.2.2.1 (C0.2.2.2.1 _ kw_61) (C0.2.2.2.1 _ kw_62) (C0.2.2.2.1 _ kw_33) (C0.2.2.2.1 _ kw_63) (Nat.le_of_ble_eq_true rfl) (Nat.le_of_ble_eq_true rfl) (Nat.le_of_ble_eq_true rfl) (Nat.le_of_ble_eq_true rfl) dX2_init_7 ?_
  refine me_topi (y := 200) (by decide) ?_
  refine me_newI C0 hP hS kw_71 (N := 200) (by decide) (by decide) (by omega) (Nat.le_of_ble_eq_true rfl) (Nat.le_of_ble_eq_true rfl) dX2_init_10 (fun q1 H hq1 hBq1 hP hS => ?_)
  have n1_r_q1 := me_ne hq1 hr
  have hw0q1 := hFr.no0 hq1 hr
  obtain ⟨w2, hw2⟩ : ∃ x : Me, x = me_u w q1 (eI G 200 (fun _ => 0)) := ⟨_, rfl⟩
  have hP : me_P G.1 w2 H := by rw [hw2]; exact hP
  have f2_r := (congrFun hw2 r).trans ((me_un n1_r_q1).trans hr)
  have f2_q1 := (congrFun hw2 q1).trans (me_us _ _ _)
  have hFr : FrN w w2 r := by rw [hw2]; exact hFr.wp hw0q1
  refine me_putF C0 hP hS hBr f2_r rfl inX2 tyX2 tyX2_ok nmX2 0 (by decide) kw_64 rfl hin rfl rfl rfl (Nat.le_of_ble_eq_true rfl) dX2_init_12 (fun H locs hP hS => ?_)
  obtain ⟨w3, hw3⟩ : ∃ x : Me, x = me_u w2 r (eO 1 [.ref q1, .int 0]) := ⟨_, rfl⟩
  have hP : me_P G.1 w3 H := by rw [hw3]; exact hP
  have f3_q1 := (congrFun hw3 q1).trans ((me_un (Ne.symm n1_r_q1)).trans f2_q1)
  have f3_r := (congrFun hw3 r).trans (me_us _ _ _)
  have hFr : FrN w w3 r := by rw [hw3]; exact hFr.wr
  refine lv_aload_n C0.1 C0.2.1 dX2_init_15 rfl (lv_at hl 0 rfl) ?_
  refine lv_iconst (v := 0) C0.1 C0.2.1 dX2_init_16 (by decide) ?_
  refine me_put C0 hP hS hBr f3_r rfl inX2 tyX2 tyX2_ok nmX2 1 (by decide) kw_65 rfl rfl rfl (Nat.le_of_ble_eq_true rfl) dX2_init_17 (fun H locs hP hS => ?_)
  obtain ⟨w4, hw4⟩ : ∃ x : Me, x = me_u w3 r (eO 1 [.ref q1, .int 0]) := ⟨_, rfl⟩
  have hP : me_P G.1 w4 H := by rw [hw4]; exact hP
  have f4_q1 := (congrFun hw4 q1).trans ((me_un (Ne.symm n1_r_q1)).trans f3_q1)
  have f4_r := (congrFun hw4 r).trans (me_us _ _ _)
  have hFr : FrN w w4 r := by rw [hw4]; exact hFr.wr
  exact me_wvret _ C0.1 C0.2.1 B.returns B.notSynchronized hP hS (Nat.le_of_ble_eq_true rfl) (Nat.le_of_ble_eq_true rfl) (⟨q1, hw0q1, hBq1, Rw.new f4_r f4_q1 (by omega) n1_r_q1, hFr⟩) dX2_init_20

set_option maxHeartbeats 4000000 in
set_option maxRecDepth 100000 in
/-- new Row(60) -/
theorem c_X2_init_60 (l : Launch) (G : me_G) (B0 : Nat) (w : Me) (r : Nat) (hBr : B0 ≤ r) (hr : w r = some (eO 1 [.null, .int 0])) : CtWV l yX2_init (Cond.code yX2_init cX2_init 2 none) ({ frames := 1, cells := 1, slots := 60, locals := 14 }) G B0 w [.ref r, .int 60] (fun w' => ∃ b : Nat, w b = none ∧ B0 ≤ b ∧ Rw G w' r b 60 [] ∧ FrN w w' r) 1 60 := by
  refine Met.ofW (cc := cX2_init) (maxL := 2) (ret := none) (by decide) rfl ?_
  intro p e s m args below meth c s₁ B hml hv
  obtain ⟨rfl, hK, hP, hKq, hBs⟩ := hv
  have hts := fun w h => atoms_spec (ws := Cond.code yX2_init cX2_init 2 none :: tbG) B.pre w (List.mem_cons_of_mem _ h)
  have hown : s.vm.findClass RX2 = some m.cls := findClass_of_methodNamed B.named
  have C0 : Cx G B0 p s m _ c cX2_init RX2 := ⟨B.exec, B.bytes, hown, hts, hK, hKq, hBs⟩
  have hS : va_S (me_A B0) s.heap s.heap [] := va_S.rf
  have hin : meth.name = "<init>" := (name_of_methodNamed B.named B.method).1
  have hl := lv_entry ([.ref r, .int 60]) (n := 2) (Nat.le_of_ble_eq_true rfl)
  rw [lg_entry_eq]
  generalize (lg_sl ([.ref r, .int 60]) ++ List.replicate (2 - (lg_sl ([.ref r, .int 60])).length) Slot.unset).toArray = ls at hl ⊢
  have hl : lv_has ls 2 [(0, .ref r), (1, .int 60)] := hl
  have hFr : FrN w w r := FrN.rf
  refine lv_aload_n C0.1 C0.2.1 dX2_init_0 rfl (lv_at hl 0 rfl) ?_
  refine W.objInit C0.1 C0.2.1 C0.2.2.1 (C0.2.2.2.1 _ kw_60) (C0.2.2.2.1 _ kw_53) (C0.2.2.2.1 _ kw_54) rfl (by rw [hml]; exact hl.1) rfl dX2_init_1 (Nat.le_of_ble_eq_true rfl) (Nat.le_of_ble_eq_true rfl) ?_
  refine W.eq (g2 := F0 m 4 ls []) rfl ?_
  refine lv_aload_n C0.1 C0.2.1 dX2_init_4 rfl (lv_at hl 0 rfl) ?_
  refine lv_iload_n C0.1 C0.2.1 dX2_init_5 rfl (lv_at hl 1 rfl) ?_
  refine lv_iconst (v := 0) C0.1 C0.2.1 dX2_init_6 (by decide) ?_
  refine va_mmax C0.1 C0.2.1 (hml.trans hl.1.symm) C0.2.2.1 (C0.2.2.2.1 _ kw_61) (C0.2.2.2.1 _ kw_62) (C0.2.2.2.1 _ kw_33) (C0.2.2.2.1 _ kw_63) (Nat.le_of_ble_eq_true rfl) (Nat.le_of_ble_eq_true rfl) (Nat.le_of_ble_eq_true rfl) (Nat.le_of_ble_eq_true rfl) dX2_init_7 ?_
  refine me_topi (y := 60) (by decide) ?_
  refine me_newI C0 hP hS kw_71 (N := 60) (by decide) (by decide) (by omega) (Nat.le_of_ble_eq_true rfl) (Nat.le_of_ble_eq_true rfl) dX2_init_10 (fun q1 H hq1 hBq1 hP hS => ?_)
  have n1_r_q1 := me_ne hq1 hr
  have hw0q1 := hFr.no0 hq1 hr
  obtain ⟨w2, hw2⟩ : ∃ x : Me, x = me_u w q1 (eI G 60 (fun _ => 0)) := ⟨_, rfl⟩
  have hP : me_P G.1 w2 H := by rw [hw2]; exact hP
  have f2_r := (congrFun hw2 r).trans ((me_un n1_r_q1).trans hr)
  have f2_q1 := (congrFun hw2 q1).trans (me_us _ _ _)
  have hFr : FrN w w2 r := by rw [hw2]; exact hFr.wp hw0q1
  refine me_putF C0 hP hS hBr f2_r rfl inX2 tyX2 tyX2_ok nmX2 0 (by decide) kw_64 rfl hin rfl rfl rfl (Nat.le_of_ble_eq_true rfl) dX2_init_12 (fun H locs hP hS => ?_)
  obtain ⟨w3, hw3⟩ : ∃ x : Me, x = me_u w2 r (eO 1 [.ref q1, .int 0]) := ⟨_, rfl⟩
  have hP : me_P G.1 w3 H := by rw [hw3]; exact hP
  have f3_q1 := (congrFun hw3 q1).trans ((me_un (Ne.symm n1_r_q1)).trans f2_q1)
  have f3_r := (congrFun hw3 r).trans (me_us _ _ _)
  have hFr : FrN w w3 r := by rw [hw3]; exact hFr.wr
  refine lv_aload_n C0.1 C0.2.1 dX2_init_15 rfl (lv_at hl 0 rfl) ?_
  refine lv_iconst (v := 0) C0.1 C0.2.1 dX2_init_16 (by decide) ?_
  refine me_put C0 hP hS hBr f3_r rfl inX2 tyX2 tyX2_ok nmX2 1 (by decide) kw_65 rfl rfl rfl (Nat.le_of_ble_eq_true rfl) dX2_init_17 (fun H locs hP hS => ?_)
  obtain ⟨w4, hw4⟩ : ∃ x : Me, x = me_u w3 r (eO 1 [.ref q1, .int 0]) := ⟨_, rfl⟩
  have hP : me_P G.1 w4 H := by rw [hw4]; exact hP
  have f4_q1 := (congrFun hw4 q1).trans ((me_un (Ne.symm n1_r_q1)).trans f3_q1)
  have f4_r := (congrFun hw4 r).trans (me_us _ _ _)
  have hFr : FrN w w4 r := by rw [hw4]; exact hFr.wr
  exact me_wvret _ C0.1 C0.2.1 B.returns B.notSynchronized hP hS (Nat.le_of_ble_eq_true rfl) (Nat.le_of_ble_eq_true rfl) (⟨q1, hw0q1, hBq1, Rw.new f4_r f4_q1 (by omega) n1_r_q1, hFr⟩) dX2_init_20

set_option maxHeartbeats 4000000 in
set_option maxRecDepth 100000 in
/-- new Row(40) -/
theorem c_X2_init_40 (l : Launch) (G : me_G) (B0 : Nat) (w : Me) (r : Nat) (hBr : B0 ≤ r) (hr : w r = some (eO 1 [.null, .int 0])) : CtWV l yX2_init (Cond.code yX2_init cX2_init 2 none) ({ frames := 1, cells := 1, slots := 40, locals := 14 }) G B0 w [.ref r, .int 40] (fun w' => ∃ b : Nat, w b = none ∧ B0 ≤ b ∧ Rw G w' r b 40 [] ∧ FrN w w' r) 1 40 := by
  refine Met.ofW (cc := cX2_init) (maxL := 2) (ret := none) (by decide) rfl ?_
  intro p e s m args below meth c s₁ B hml hv
  obtain ⟨rfl, hK, hP, hKq, hBs⟩ := hv
  have hts := fun w h => atoms_spec (ws := Cond.code yX2_init cX2_init 2 none :: tbG) B.pre w (List.mem_cons_of_mem _ h)
  have hown : s.vm.findClass RX2 = some m.cls := findClass_of_methodNamed B.named
  have C0 : Cx G B0 p s m _ c cX2_init RX2 := ⟨B.exec, B.bytes, hown, hts, hK, hKq, hBs⟩
  have hS : va_S (me_A B0) s.heap s.heap [] := va_S.rf
  have hin : meth.name = "<init>" := (name_of_methodNamed B.named B.method).1
  have hl := lv_entry ([.ref r, .int 40]) (n := 2) (Nat.le_of_ble_eq_true rfl)
  rw [lg_entry_eq]
  generalize (lg_sl ([.ref r, .int 40]) ++ List.replicate (2 - (lg_sl ([.ref r, .int 40])).length) Slot.unset).toArray = ls at hl ⊢
  have hl : lv_has ls 2 [(0, .ref r), (1, .int 40)] := hl
  have hFr : FrN w w r := FrN.rf
  refine lv_aload_n C0.1 C0.2.1 dX2_init_0 rfl (lv_at hl 0 rfl) ?_
  refine W.objInit C0.1 C0.2.1 C0.2.2.1 (C0.2.2.2.1 _ kw_60) (C0.2.2.2.1 _ kw_53) (C0.2.2.2.1 _ kw_54) rfl (by rw [hml]; exact hl.1) rfl dX2_init_1 (Nat.le_of_ble_eq_true rfl) (Nat.le_of_ble_eq_true rfl) ?_
  refine W.eq (g2 := F0 m 4 ls []) rfl ?_
  refine lv_aload_n C0.1 C0.2.1 dX2_init_4 rfl (lv_at hl 0 rfl) ?_
  refine lv_iload_n C0.1 C0.2.1 dX2_init_5 rfl (lv_at hl 1 rfl) ?_
  refine lv_iconst (v := 0) C0.1 C0.2.1 dX2_init_6 (by decide) ?_
  refine va_mmax C0.1 C0.2.1 (hml.trans hl.1.symm) C0.2.2.1 (C0.2.2.2.1 _ kw_61) (C0.2.2.2.1 _ kw_62) (C0.2.2.2.1 _ kw_33) (C0.2.2.2.1 _ kw_63) (Nat.le_of_ble_eq_true rfl) (Nat.le_of_ble_eq_true rfl) (Nat.le_of_ble_eq_true rfl) (Nat.le_of_ble_eq_true rfl) dX2_init_7 ?_
  refine me_topi (y := 40) (by decide) ?_
  refine me_newI C0 hP hS kw_71 (N := 40) (by decide) (by decide) (by omega) (Nat.le_of_ble_eq_true rfl) (Nat.le_of_ble_eq_true rfl) dX2_init_10 (fun q1 H hq1 hBq1 hP hS => ?_)
  have n1_r_q1 := me_ne hq1 hr
  have hw0q1 := hFr.no0 hq1 hr
  obtain ⟨w2, hw2⟩ : ∃ x : Me, x = me_u w q1 (eI G 40 (fun _ => 0)) := ⟨_, rfl⟩
  have hP : me_P G.1 w2 H := by rw [hw2]; exact hP
  have f2_r := (congrFun hw2 r).trans ((me_un n1_r_q1).trans hr)
  have f2_q1 := (congrFun hw2 q1).trans (me_us _ _ _)
  have hFr : FrN w w2 r := by rw [hw2]; exact hFr.wp hw0q1
  refine me_putF C0 hP hS hBr f2_r rfl inX2 tyX2 tyX2_ok nmX2 0 (by decide) kw_64 rfl hin rfl rfl rfl (Nat.le_of_ble_eq_true rfl) dX2_init_12 (fun H locs hP hS => ?_)
  obtain ⟨w3, hw3⟩ : ∃ x : Me, x = me_u w2 r (eO 1 [.ref q1, .int 0]) := ⟨_, rfl⟩
  have hP : me_P G.1 w3 H := by rw [hw3]; exact hP
  have f3_q1 := (congrFun hw3 q1).trans ((me_un (Ne.symm n1_r_q1)).trans f2_q1)
  have f3_r := (congrFun hw3 r).trans (me_us _ _ _)
  have hFr : FrN w w3 r := by rw [hw3]; exact hFr.wr
  refine lv_aload_n C0.1 C0.2.1 dX2_init_15 rfl (lv_at hl 0 rfl) ?_
  refine lv_iconst (v := 0) C0.1 C0.2.1 dX2_init_16 (by decide) ?_
  refine me_put C0 hP hS hBr f3_r rfl inX2 tyX2 tyX2_ok nmX2 1 (by decide) kw_65 rfl rfl rfl (Nat.le_of_ble_eq_true rfl) dX2_init_17 (fun H locs hP hS => ?_)
  obtain ⟨w4, hw4⟩ : ∃ x : Me, x = me_u w3 r (eO 1 [.ref q1, .int 0]) := ⟨_, rfl⟩
  have hP : me_P G.1 w4 H := by rw [hw4]; exact hP
  have f4_q1 := (congrFun hw4 q1).trans ((me_un (Ne.symm n1_r_q1)).trans f3_q1)
  have f4_r := (congrFun hw4 r).trans (me_us _ _ _)
  have hFr : FrN w w4 r := by rw [hw4]; exact hFr.wr
  exact me_wvret _ C0.1 C0.2.1 B.returns B.notSynchronized hP hS (Nat.le_of_ble_eq_true rfl) (Nat.le_of_ble_eq_true rfl) (⟨q1, hw0q1, hBq1, Rw.new f4_r f4_q1 (by omega) n1_r_q1, hFr⟩) dX2_init_20

set_option maxHeartbeats 4000000 in
set_option maxRecDepth 100000 in
/-- new Node() -/
theorem c_X1_init (l : Launch) (G : me_G) (B0 : Nat) (w : Me) (o : Nat) (hBo : B0 ≤ o) (ho : w o = some (eO 0 [.null, .null, .null, .null, .int 0, .int 0, .int 0])) : CtWV l yX1_init (Cond.code yX1_init cX1_init 1 none) ({ frames := 2, cells := 8, slots := 208, locals := 35 }) G B0 w [.ref o] (fun w' => ∃ b : Nat → Nat, b 0 = o ∧ ND G B0 w' b (fun _ => []) (fun _ => 0) ∧ (∀ j, 0 < j → j < 9 → w (b j) = none) ∧ FrN w w' o) 8 208 := by
  refine Met.ofW (cc := cX1_init) (maxL := 1) (ret := none) (by decide) rfl ?_
  intro p e s m args below meth c s₁ B hml hv
  obtain ⟨rfl, hK, hP, hKq, hBs⟩ := hv
  have hts := fun w h => atoms_spec (ws := Cond.code yX1_init cX1_init 1 none :: tbG) B.pre w (List.mem_cons_of_mem _ h)
  have hown : s.vm.findClass RX1 = some m.cls := findClass_of_methodNamed B.named
  have C0 : Cx G B0 p s m _ c cX1_init RX1 := ⟨B.exec, B.bytes, hown, hts, hK, hKq, hBs⟩
  have hS : va_S (me_A B0) s.heap s.heap [] := va_S.rf
  have hin : meth.name = "<init>" := (name_of_methodNamed B.named B.method).1
  have hl := lv_entry ([.ref o]) (n := 1) (Nat.le_of_ble_eq_true rfl)
  rw [lg_entry_eq]
  generalize (lg_sl ([.ref o]) ++ List.replicate (1 - (lg_sl ([.ref o])).length) Slot.unset).toArray = ls at hl ⊢
  have hl : lv_has ls 1 [(0, .ref o)] := hl
  have hFr : FrN w w o := FrN.rf
  refine lv_aload_n C0.1 C0.2.1 dX1_init_0 rfl (lv_at hl 0 rfl) ?_
  refine W.objInit C0.1 C0.2.1 C0.2.2.1 (C0.2.2.2.1 _ kw_78) (C0.2.2.2.1 _ kw_53) (C0.2.2.2.1 _ kw_54) rfl (by rw [hml]; exact hl.1) rfl dX1_init_1 (Nat.le_of_ble_eq_true rfl) (Nat.le_of_ble_eq_true rfl) ?_
  refine W.eq (g2 := F0 m 4 ls []) rfl ?_
  refine lv_aload_n C0.1 C0.2.1 dX1_init_4 rfl (lv_at hl 0 rfl) ?_
  refine me_new C0 hP hS (ci := 1) (fs := [.null, .int 0]) rfl inX2 tyX2 tyX2_ok kw_79 kw_56 kw_32 (by decide) (Nat.le_of_ble_eq_true rfl) (Nat.le_of_ble_eq_true rfl) dX1_init_5 (fun q1 H hq1 hBq1 hP hS => ?_)
  have n1_o_q1 := me_ne hq1 ho
  have hw0q1 := hFr.no0 hq1 ho
  obtain ⟨w2, hw2⟩ : ∃ x : Me, x = me_u w q1 (eO 1 [.null, .int 0]) := ⟨_, rfl⟩
  have hP : me_P G.1 w2 H := by rw [hw2]; exact hP
  have f2_o := (congrFun hw2 o).trans ((me_un n1_o_q1).trans ho)
  have f2_q1 := (congrFun hw2 q1).trans (me_us _ _ _)
  have hFr : FrN w w2 o := by rw [hw2]; exact hFr.wp hw0q1
  refine lv_dup C0.1 C0.2.1 dX1_init_8 rfl ?_
  refine lv_bipush (v := 60) C0.1 C0.2.1 dX1_init_9 (by decide) ?_
  refine me_cIwv (n := 1) C0 hml hP hS (c_X2_init_60 l G B0 w2 q1 hBq1 f2_q1) ⟨kw_59, kw_32, kw_80, ⟨by decide, by decide, by decide +kernel⟩, ⟨rfl, rfl⟩, ⟨Nat.le_of_ble_eq_true rfl, Nat.le_of_ble_eq_true rfl⟩⟩ kw_58 rfl rfl hl.1 rfl (Nat.le_of_ble_eq_true rfl) ⟨Nat.le_of_ble_eq_true rfl, Nat.le_of_ble_eq_true rfl⟩ dX1_init_11 (fun w3 H locs hw3 hP hS => ?_)
  obtain ⟨b3, hbn3, hBb3, hRw3, hFr3⟩ := hw3
  have n3_o_b3 := me_ne hbn3 f2_o
  have n3_q1_b3 := me_ne hbn3 f2_q1
  have hw0b3 := hFr.no0 hbn3 f2_o
  have hFr := hFr.tr hw0q1 hFr3
  have f3_o := hFr3.at f2_o n1_o_q1
  refine me_putF C0 hP hS hBo f3_o rfl inX1 tyX1 tyX1_ok nmX1 0 (by decide) kw_81 rfl hin rfl rfl rfl (Nat.le_of_ble_eq_true rfl) dX1_init_14 (fun H locs hP hS => ?_)
  obtain ⟨w4, hw4⟩ : ∃ x : Me, x = me_u w3 o (eO 0 [.ref q1, .null, .null, .null, .int 0, .int 0, .int 0]) := ⟨_, rfl⟩
  have hP : me_P G.1 w4 H := by rw [hw4]; exact hP
  have f4_o := (congrFun hw4 o).trans (me_us _ _ _)
  have rw4_q1 := hRw3.of ((congrFun hw4 q1).trans (me_un (Ne.symm n1_o_q1))) ((congrFun hw4 b3).trans (me_un (Ne.symm n3_o_b3)))
  have hFr : FrN w w4 o := by rw [hw4]; exact hFr.wr
  refine lv_aload_n C0.1 C0.2.1 dX1_init_17 rfl (lv_at hl 0 rfl) ?_
  refine me_new C0 hP hS (ci := 1) (fs := [.null, .int 0]) rfl inX2 tyX2 tyX2_ok kw_79 kw_56 kw_32 (by decide) (Nat.le_of_ble_eq_true rfl) (Nat.le_of_ble_eq_true rfl) dX1_init_18 (fun q5 H hq5 hBq5 hP hS => ?_)
  have n5_o_q5 := me_ne hq5 f4_o
  have n5_q1_q5 : q1 ≠ q5 := me_ne hq5 rw4_q1.1
  have n5_b3_q5 : b3 ≠ q5 := rw4_q1.bne hq5
  have hw0q5 := hFr.no0 hq5 f4_o
  obtain ⟨w6, hw6⟩ : ∃ x : Me, x = me_u w4 q5 (eO 1 [.null, .int 0]) := ⟨_, rfl⟩
  have hP : me_P G.1 w6 H := by rw [hw6]; exact hP
  have f6_o := (congrFun hw6 o).trans ((me_un n5_o_q5).trans f4_o)
  have f6_q5 := (congrFun hw6 q5).trans (me_us _ _ _)
  have rw6_q1 := rw4_q1.of ((congrFun hw6 q1).trans (me_un n5_q1_q5)) ((congrFun hw6 b3).trans (me_un n5_b3_q5))
  have hFr : FrN w w6 o := by rw [hw6]; exact hFr.wp hw0q5
  refine lv_dup C0.1 C0.2.1 dX1_init_21 rfl ?_
  refine lv_bipush (v := 60) C0.1 C0.2.1 dX1_init_22 (by decide) ?_
  refine me_cIwv (n := 1) C0 hml hP hS (c_X2_init_60 l G B0 w6 q5 hBq5 f6_q5) ⟨kw_59, kw_32, kw_80, ⟨by decide, by decide, by decide +kernel⟩, ⟨rfl, rfl⟩, ⟨Nat.le_of_ble_eq_true rfl, Nat.le_of_ble_eq_true rfl⟩⟩ kw_58 rfl rfl hl.1 rfl (Nat.le_of_ble_eq_true rfl) ⟨Nat.le_of_ble_eq_true rfl, Nat.le_of_ble_eq_true rfl⟩ dX1_init_24 (fun w7 H locs hw7 hP hS => ?_)
  obtain ⟨b7, hbn7, hBb7, hRw7, hFr7⟩ := hw7
  have n7_o_b7 := me_ne hbn7 f6_o
  have n7_q5_b7 := me_ne hbn7 f6_q5
  have n7_q1_b7 : q1 ≠ b7 := me_ne hbn7 rw6_q1.1
  have n7_b3_b7 : b3 ≠ b7 := rw6_q1.bne hbn7
  have hw0b7 := hFr.no0 hbn7 f6_o
  have hFr := hFr.tr hw0q5 hFr7
  have f7_o := hFr7.at f6_o n5_o_q5
  have rw7_q1 := hFr7.rw rw6_q1 n5_q1_q5 n5_b3_q5
  refine me_putF C0 hP hS hBo f7_o rfl inX1 tyX1 tyX1_ok nmX1 1 (by decide) kw_83 rfl hin rfl rfl rfl (Nat.le_of_ble_eq_true rfl) dX1_init_27 (fun H locs hP hS => ?_)
  obtain ⟨w8, hw8⟩ : ∃ x : Me, x = me_u w7 o (eO 0 [.ref q1, .ref q5, .null, .null, .int 0, .int 0, .int 0]) := ⟨_, rfl⟩
  have hP : me_P G.1 w8 H := by rw [hw8]; exact hP
  have f8_o := (congrFun hw8 o).trans (me_us _ _ _)
  have rw8_q1 := rw7_q1.of ((congrFun hw8 q1).trans (me_un (Ne.symm n1_o_q1))) ((congrFun hw8 b3).trans (me_un (Ne.symm n3_o_b3)))
  have rw8_q5 := hRw7.of ((congrFun hw8 q5).trans (me_un (Ne.symm n5_o_q5))) ((congrFun hw8 b7).trans (me_un (Ne.symm n7_o_b7)))
  have hFr : FrN w w8 o := by rw [hw8]; exact hFr.wr
  refine lv_aload_n C0.1 C0.2.1 dX1_init_30 rfl (lv_at hl 0 rfl) ?_
  refine me_new C0 hP hS (ci := 1) (fs := [.null, .int 0]) rfl inX2 tyX2 tyX2_ok kw_79 kw_56 kw_32 (by decide) (Nat.le_of_ble_eq_true rfl) (Nat.le_of_ble_eq_true rfl) dX1_init_31 (fun q9 H hq9 hBq9 hP hS => ?_)
  have n9_o_q9 := me_ne hq9 f8_o
  have n9_q1_q9 : q1 ≠ q9 := me_ne hq9 rw8_q1.1
  have n9_b3_q9 : b3 ≠ q9 := rw8_q1.bne hq9
  have n9_q5_q9 : q5 ≠ q9 := me_ne hq9 rw8_q5.1
  have n9_b7_q9 : b7 ≠ q9 := rw8_q5.bne hq9
  have hw0q9 := hFr.no0 hq9 f8_o
  obtain ⟨w10, hw10⟩ : ∃ x : Me, x = me_u w8 q9 (eO 1 [.null, .int 0]) := ⟨_, rfl⟩
  have hP : me_P G.1 w10 H := by rw [hw10]; exact hP
  have f10_o := (congrFun hw10 o).trans ((me_un n9_o_q9).trans f8_o)
  have f10_q9 := (congrFun hw10 q9).trans (me_us _ _ _)
  have rw10_q1 := rw8_q1.of ((congrFun hw10 q1).trans (me_un n9_q1_q9)) ((congrFun hw10 b3).trans (me_un n9_b3_q9))
  have rw10_q5 := rw8_q5.of ((congrFun hw10 q5).trans (me_un n9_q5_q9)) ((congrFun hw10 b7).trans (me_un n9_b7_q9))
  have hFr : FrN w w10 o := by rw [hw10]; exact hFr.wp hw0q9
  refine lv_dup C0.1 C0.2.1 dX1_init_34 rfl ?_
  refine lv_bipush (v := 40) C0.1 C0.2.1 dX1_init_35 (by decide) ?_
  refine me_cIwv (n := 1) C0 hml hP hS (c_X2_init_40 l G B0 w10 q9 hBq9 f10_q9) ⟨kw_59, kw_32, kw_80, ⟨by decide, by decide, by decide +kernel⟩, ⟨rfl, rfl⟩, ⟨Nat.le_of_ble_eq_true rfl, Nat.le_of_ble_eq_true rfl⟩⟩ kw_58 rfl rfl hl.1 rfl (Nat.le_of_ble_eq_true rfl) ⟨Nat.le_of_ble_eq_true rfl, Nat.le_of_ble_eq_true rfl⟩ dX1_init_37 (fun w11 H locs hw11 hP hS => ?_)
  obtain ⟨b11, hbn11, hBb11, hRw11, hFr11⟩ := hw11
  have n11_o_b11 := me_ne hbn11 f10_o
  have n11_q9_b11 := me_ne hbn11 f10_q9
  have n11_q1_b11 : q1 ≠ b11 := me_ne hbn11 rw10_q1.1
  have n11_b3_b11 : b3 ≠ b11 := rw10_q1.bne hbn11
  have n11_q5_b11 : q5 ≠ b11 := me_ne hbn11 rw10_q5.1
  have n11_b7_b11 : b7 ≠ b11 := rw10_q5.bne hbn11
  have hw0b11 := hFr.no0 hbn11 f10_o
  have hFr := hFr.tr hw0q9 hFr11
  have f11_o := hFr11.at f10_o n9_o_q9
  have rw11_q1 := hFr11.rw rw10_q1 n9_q1_q9 n9_b3_q9
  have rw11_q5 := hFr11.rw rw10_q5 n9_q5_q9 n9_b7_q9
  refine me_putF C0 hP hS hBo f11_o rfl inX1 tyX1 tyX1_ok nmX1 2 (by decide) kw_85 rfl hin rfl rfl rfl (Nat.le_of_ble_eq_true rfl) dX1_init_40 (fun H locs hP hS => ?_)
  obtain ⟨w12, hw12⟩ : ∃ x : Me, x = me_u w11 o (eO 0 [.ref q1, .ref q5, .ref q9, .null, .int 0, .int 0, .int 0]) := ⟨_, rfl⟩
  have hP : me_P G.1 w12 H := by rw [hw12]; exact hP
  have f12_o := (congrFun hw12 o).trans (me_us _ _ _)
  have rw12_q1 := rw11_q1.of ((congrFun hw12 q1).trans (me_un (Ne.symm n1_o_q1))) ((congrFun hw12 b3).trans (me_un (Ne.symm n3_o_b3)))
  have rw12_q5 := rw11_q5.of ((congrFun hw12 q5).trans (me_un (Ne.symm n5_o_q5))) ((congrFun hw12 b7).trans (me_un (Ne.symm n7_o_b7)))
  have rw12_q9 := hRw11.of ((congrFun hw12 q9).trans (me_un (Ne.symm n9_o_q9))) ((congrFun hw12 b11).trans (me_un (Ne.symm n11_o_b11)))
  have hFr : FrN w w12 o := by rw [hw12]; exact hFr.wr
  refine lv_aload_n C0.1 C0.2.1 dX1_init_43 rfl (lv_at hl 0 rfl) ?_
  refine me_new C0 hP hS (ci := 1) (fs := [.null, .int 0]) rfl inX2 tyX2 tyX2_ok kw_79 kw_56 kw_32 (by decide) (Nat.le_of_ble_eq_true rfl) (Nat.le_of_ble_eq_true rfl) dX1_init_44 (fun q13 H hq13 hBq13 hP hS => ?_)
  have n13_o_q13 := me_ne hq13 f12_o
  have n13_q1_q13 : q1 ≠ q13 := me_ne hq13 rw12_q1.1
  have n13_b3_q13 : b3 ≠ q13 := rw12_q1.bne hq13
  have n13_q5_q13 : q5 ≠ q13 := me_ne hq13 rw12_q5.1
  have n13_b7_q13 : b7 ≠ q13 := rw12_q5.bne hq13
  have n13_q9_q13 : q9 ≠ q13 := me_ne hq13 rw12_q9.1
  have n13_b11_q13 : b11 ≠ q13 := rw12_q9.bne hq13
  have hw0q13 := hFr.no0 hq13 f12_o
  obtain ⟨w14, hw14⟩ : ∃ x : Me, x = me_u w12 q13 (eO 1 [.null, .int 0]) := ⟨_, rfl⟩
  have hP : me_P G.1 w14 H := by rw [hw14]; exact hP
  have f14_o := (congrFun hw14 o).trans ((me_un n13_o_q13).trans f12_o)
  have f14_q13 := (congrFun hw14 q13).trans (me_us _ _ _)
  have rw14_q1 := rw12_q1.of ((congrFun hw14 q1).trans (me_un n13_q1_q13)) ((congrFun hw14 b3).trans (me_un n13_b3_q13))
  have rw14_q5 := rw12_q5.of ((congrFun hw14 q5).trans (me_un n13_q5_q13)) ((congrFun hw14 b7).trans (me_un n13_b7_q13))
  have rw14_q9 := rw12_q9.of ((congrFun hw14 q9).trans (me_un n13_q9_q13)) ((congrFun hw14 b11).trans (me_un n13_b11_q13))
  have hFr : FrN w w14 o := by rw [hw14]; exact hFr.wp hw0q13
  refine lv_dup C0.1 C0.2.1 dX1_init_47 rfl ?_
  refine lv_bipush (v := 40) C0.1 C0.2.1 dX1_init_48 (by decide) ?_
  refine me_cIwv (n := 1) C0 hml hP hS (c_X2_init_40 l G B0 w14 q13 hBq13 f14_q13) ⟨kw_59, kw_32, kw_80, ⟨by decide, by decide, by decide +kernel⟩, ⟨rfl, rfl⟩, ⟨Nat.le_of_ble_eq_true rfl, Nat.le_of_ble_eq_true rfl⟩⟩ kw_58 rfl rfl hl.1 rfl (Nat.le_of_ble_eq_true rfl) ⟨Nat.le_of_ble_eq_true rfl, Nat.le_of_ble_eq_true rfl⟩ dX1_init_50 (fun w15 H locs hw15 hP hS => ?_)
  obtain ⟨b15, hbn15, hBb15, hRw15, hFr15⟩ := hw15
  have n15_o_b15 := me_ne hbn15 f14_o
  have n15_q13_b15 := me_ne hbn15 f14_q13
  have n15_q1_b15 : q1 ≠ b15 := me_ne hbn15 rw14_q1.1
  have n15_b3_b15 : b3 ≠ b15 := rw14_q1.bne hbn15
  have n15_q5_b15 : q5 ≠ b15 := me_ne hbn15 rw14_q5.1
  have n15_b7_b15 : b7 ≠ b15 := rw14_q5.bne hbn15
  have n15_q9_b15 : q9 ≠ b15 := me_ne hbn15 rw14_q9.1
  have n15_b11_b15 : b11 ≠ b15 := rw14_q9.bne hbn15
  have hw0b15 := hFr.no0 hbn15 f14_o
  have hFr := hFr.tr hw0q13 hFr15
  have f15_o := hFr15.at f14_o n13_o_q13
  have rw15_q1 := hFr15.rw rw14_q1 n13_q1_q13 n13_b3_q13
  have rw15_q5 := hFr15.rw rw14_q5 n13_q5_q13 n13_b7_q13
  have rw15_q9 := hFr15.rw rw14_q9 n13_q9_q13 n13_b11_q13
  refine me_putF C0 hP hS hBo f15_o rfl inX1 tyX1 tyX1_ok nmX1 3 (by decide) kw_87 rfl hin rfl rfl rfl (Nat.le_of_ble_eq_true rfl) dX1_init_53 (fun H locs hP hS => ?_)
  obtain ⟨w16, hw16⟩ : ∃ x : Me, x = me_u w15 o (eO 0 [.ref q1, .ref q5, .ref q9, .ref q13, .int 0, .int 0, .int 0]) := ⟨_, rfl⟩
  have hP : me_P G.1 w16 H := by rw [hw16]; exact hP
  have f16_o := (congrFun hw16 o).trans (me_us _ _ _)
  have rw16_q1 := rw15_q1.of ((congrFun hw16 q1).trans (me_un (Ne.symm n1_o_q1))) ((congrFun hw16 b3).trans (me_un (Ne.symm n3_o_b3)))
  have rw16_q5 := rw15_q5.of ((congrFun hw16 q5).trans (me_un (Ne.symm n5_o_q5))) ((congrFun hw16 b7).trans (me_un (Ne.symm n7_o_b7)))
  have rw16_q9 := rw15_q9.of ((congrFun hw16 q9).trans (me_un (Ne.symm n9_o_q9))) ((congrFun hw16 b11).trans (me_un (Ne.symm n11_o_b11)))
  have rw16_q13 := hRw15.of ((congrFun hw16 q13).trans (me_un (Ne.symm n13_o_q13))) ((congrFun hw16 b15).trans (me_un (Ne.symm n15_o_b15)))
  have hFr : FrN w w16 o := by rw [hw16]; exact hFr.wr
  have hLn : ([o, q1, b3, q5, b7, q9, b11, q13, b15] : List Nat).Nodup := (List.nodup_cons.mpr ⟨(nm_cons n1_o_q1 (nm_cons n3_o_b3 (nm_cons n5_o_q5 (nm_cons n7_o_b7 (nm_cons n9_o_q9 (nm_cons n11_o_b11 (nm_cons n13_o_q13 (nm_cons n15_o_b15 nm_nil)))))))), (List.nodup_cons.mpr ⟨(nm_cons n3_q1_b3 (nm_cons n5_q1_q5 (nm_cons n7_q1_b7 (nm_cons n9_q1_q9 (nm_cons n11_q1_b11 (nm_cons n13_q1_q13 (nm_cons n15_q1_b15 nm_nil))))))), (List.nodup_cons.mpr ⟨(nm_cons n5_b3_q5 (nm_cons n7_b3_b7 (nm_cons n9_b3_q9 (nm_cons n11_b3_b11 (nm_cons n13_b3_q13 (nm_cons n15_b3_b15 nm_nil)))))), (List.nodup_cons.mpr ⟨(nm_cons n7_q5_b7 (nm_cons n9_q5_q9 (nm_cons n11_q5_b11 (nm_cons n13_q5_q13 (nm_cons n15_q5_b15 nm_nil))))), (List.nodup_cons.mpr ⟨(nm_cons n9_b7_q9 (nm_cons n11_b7_b11 (nm_cons n13_b7_q13 (nm_cons n15_b7_b15 nm_nil)))), (List.nodup_cons.mpr ⟨(nm_cons n11_q9_b11 (nm_cons n13_q9_q13 (nm_cons n15_q9_b15 nm_nil))), (List.nodup_cons.mpr ⟨(nm_cons n13_b11_q13 (nm_cons n15_b11_b15 nm_nil)), (List.nodup_cons.mpr ⟨(nm_cons n15_q13_b15 nm_nil), (List.nodup_cons.mpr ⟨nm_nil, List.nodup_nil⟩)⟩)⟩)⟩)⟩)⟩)⟩)⟩)⟩)
  exact me_wvret _ C0.1 C0.2.1 B.returns B.notSynchronized hP hS (Nat.le_of_ble_eq_true rfl) (Nat.le_of_ble_eq_true rfl) (⟨fun j => ([o, q1, b3, q5, b7, q9, b11, q13, b15] : List Nat).getD j 0, rfl, ⟨f16_o, (by intro j hj; rcases hj with rfl | rfl | rfl | rfl; exact rw16_q1; exact rw16_q5; exact rw16_q9; exact rw16_q13), fun i j hi hj e => nodup_getD hLn hi hj e, (by intro j hj; rcases (show j = 0 ∨ j = 1 ∨ j = 2 ∨ j = 3 ∨ j = 4 ∨ j = 5 ∨ j = 6 ∨ j = 7 ∨ j = 8 by omega) with rfl | rfl | rfl | rfl | rfl | rfl | rfl | rfl | rfl; exact hBo; exact hBq1; exact hBb3; exact hBq5; exact hBb7; exact hBq9; exact hBb11; exact hBq13; exact hBb15)⟩, (by intro j h0 hj; rcases (show j = 1 ∨ j = 2 ∨ j = 3 ∨ j = 4 ∨ j = 5 ∨ j = 6 ∨ j = 7 ∨ j = 8 by omega) with rfl | rfl | rfl | rfl | rfl | rfl | rfl | rfl; exact hw0q1; exact hw0b3; exact hw0q5; exact hw0b7; exact hw0q9; exact hw0b11; exact hw0q13; exact hw0b15), hFr⟩) dX1_init_56
