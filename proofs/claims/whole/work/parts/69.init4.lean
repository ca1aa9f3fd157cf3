set_option maxHeartbeats 4000000 in
set_option maxRecDepth 100000 in
/-- new FoldedNames() -/
theorem c_X4_init (l : Launch) (G : me_G) (B0 : Nat) (w : Me) (o : Nat) (hBo : B0 ≤ o) (ho : w o = some (eO 2 [.null, .null, .null, .null, .int 0])) : CtWA l yX4_init (Cond.code yX4_init cX4_init 2 none) ({ frames := 3, cells := 16, slots := 881, locals := 55 }) G B0 w [.ref o] (fun w' => ∃ (ad : Nat → Nat → Nat) (ex : Nat → Bool) (R : Nat → Nat → List Int32) (N : Nat → Nat → Int32), ad 0 0 = o ∧ FN G B0 (fun _ => True) w' ad ex R N 1 ∧ R 0 1 = [] ∧ R 0 3 = [] ∧ CT ex R N T0 (fun _ => []) ∧ FrN w w' o) 16 881 := by
  refine Met.ofW (cc := cX4_init) (maxL := 2) (ret := none) (by decide) rfl ?_
  intro p e s m args below meth c s₁ B hml hv
  obtain ⟨rfl, ⟨hK, hP, hKq, hBs⟩, hAO⟩ := hv
  have hts := fun w h => atoms_spec (ws := Cond.code yX4_init cX4_init 2 none :: tbG) B.pre w (List.mem_cons_of_mem _ h)
  have hown : s.vm.findClass RX4 = some m.cls := findClass_of_methodNamed B.named
  have C0 : Cx G B0 p s m _ c cX4_init RX4 := ⟨B.exec, B.bytes, hown, hts, hK, hKq, hBs⟩
  have hS : va_S (me_A B0) s.heap s.heap [] := va_S.rf
  have hin : meth.name = "<init>" := (name_of_methodNamed B.named B.method).1
  have hl := lv_entry ([.ref o]) (n := 2) (Nat.le_of_ble_eq_true rfl)
  rw [lg_entry_eq]
  generalize (lg_sl ([.ref o]) ++ List.replicate (2 - (lg_sl ([.ref o])).length) Slot.unset).toArray = ls at hl ⊢
  have hl : lv_has ls 2 [(0, .ref o)] := hl
  have hFr : FrN w w o := FrN.rf
  refine lv_aload_n C0.1 C0.2.1 dX4_init_0 rfl (lv_at hl 0 rfl) ?_
  refine W.objInit C0.1 C0.2.1 C0.2.2.1 (C0.2.2.2.1 _ kw_52) (C0.2.2.2.1 _ kw_53) (C0.2.2.2.1 _ kw_54) rfl (by rw [hml]; exact hl.1) rfl dX4_init_1 (Nat.le_of_ble_eq_true rfl) (Nat.le_of_ble_eq_true rfl) ?_
  refine W.eq (g2 := F0 m 4 ls []) rfl ?_
  refine lv_aload_n C0.1 C0.2.1 dX4_init_4 rfl (lv_at hl 0 rfl) ?_
  refine me_new C0 hP hS (ci := 1) (fs := [.null, .int 0]) rfl inX2 tyX2 tyX2_ok kw_55 kw_56 kw_32 (by decide) (Nat.le_of_ble_eq_true rfl) (Nat.le_of_ble_eq_true rfl) dX4_init_5 (fun q1 H hq1 hBq1 hP hS => ?_)
  have n1_o_q1 := me_ne hq1 ho
  have hw0q1 := hFr.no0 hq1 ho
  obtain ⟨w2, hw2⟩ : ∃ x : Me, x = me_u w q1 (eO 1 [.null, .int 0]) := ⟨_, rfl⟩
  have hP : me_P G.1 w2 H := by rw [hw2]; exact hP
  have f2_o := (congrFun hw2 o).trans ((me_un n1_o_q1).trans ho)
  have f2_q1 := (congrFun hw2 q1).trans (me_us _ _ _)
  have hFr : FrN w w2 o := by rw [hw2]; exact hFr.wp hw0q1
  refine lv_dup C0.1 C0.2.1 dX4_init_8 rfl ?_
  refine lv_sipush (v := 200) C0.1 C0.2.1 dX4_init_9 (by decide) ?_
  refine me_cIwv (n := 1) C0 hml hP hS (c_X2_init_200 l G B0 w2 q1 hBq1 f2_q1) ⟨kw_59, kw_32, kw_57, ⟨by decide, by decide, by decide +kernel⟩, ⟨rfl, rfl⟩, ⟨Nat.le_of_ble_eq_true rfl, Nat.le_of_ble_eq_true rfl⟩⟩ kw_58 rfl rfl hl.1 rfl (Nat.le_of_ble_eq_true rfl) ⟨Nat.le_of_ble_eq_true rfl, Nat.le_of_ble_eq_true rfl⟩ dX4_init_12 (fun w3 H locs hw3 hP hS => ?_)
  obtain ⟨b3, hbn3, hBb3, hRw3, hFr3⟩ := hw3
  have n3_o_b3 := me_ne hbn3 f2_o
  have n3_q1_b3 := me_ne hbn3 f2_q1
  have hw0b3 := hFr.no0 hbn3 f2_o
  have hFr := hFr.tr hw0q1 hFr3
  have f3_o := hFr3.at f2_o n1_o_q1
  refine me_putF C0 hP hS hBo f3_o rfl inX4 tyX4 tyX4_ok nmX4 0 (by decide) kw_118 rfl hin rfl rfl rfl (Nat.le_of_ble_eq_true rfl) dX4_init_15 (fun H locs hP hS => ?_)
  obtain ⟨w4, hw4⟩ : ∃ x : Me, x = me_u w3 o (eO 2 [.ref q1, .null, .null, .null, .int 0]) := ⟨_, rfl⟩
  have hP : me_P G.1 w4 H := by rw [hw4]; exact hP
  have f4_o := (congrFun hw4 o).trans (me_us _ _ _)
  have rw4_q1 := hRw3.of ((congrFun hw4 q1).trans (me_un (Ne.symm n1_o_q1))) ((congrFun hw4 b3).trans (me_un (Ne.symm n3_o_b3)))
  have hFr : FrN w w4 o := by rw [hw4]; exact hFr.wr
  refine lv_aload_n C0.1 C0.2.1 dX4_init_18 rfl (lv_at hl 0 rfl) ?_
  refine me_new C0 hP hS (ci := 1) (fs := [.null, .int 0]) rfl inX2 tyX2 tyX2_ok kw_55 kw_56 kw_32 (by decide) (Nat.le_of_ble_eq_true rfl) (Nat.le_of_ble_eq_true rfl) dX4_init_19 (fun q5 H hq5 hBq5 hP hS => ?_)
  have n5_o_q5 := me_ne hq5 f4_o
  have n5_q1_q5 : q1 ≠ q5 := me_ne hq5 rw4_q1.1
  have n5_b3_q5 : b3 ≠ q5 := rw4_q1.bne hq5
  have hw0q5 := hFr.no0 hq5 f4_o
  obtain ⟨w6, hw6⟩ : ∃ x : Me, x = me_u w4 q5 (eO 1 [.null, .int 0]) := ⟨_, rfl⟩
  have hP : me_P G.1 w6 H := by rw [hw6]; exact hP
  have f6_o := (congrFun hw6 o).trans ((me_un n5_o_q5).trans f4_o)
  have f6_q5 := (congrFun hw6 q5).trans (me_us _ _ _)
  have rw6_q1 := rw4_q1.of ((congrFun hw6 q1).trans (me_un n5_q1_q5)) ((congrFun hw6 b3).trans (me_un n5_b3_q5))
  have hFr : FrN w w6 o := by rw [hw6]; exact hFr.wp hw0q5
  refine lv_dup C0.1 C0.2.1 dX4_init_22 rfl ?_
  refine lv_sipush (v := 200) C0.1 C0.2.1 dX4_init_23 (by decide) ?_
  refine me_cIwv (n := 1) C0 hml hP hS (c_X2_init_200 l G B0 w6 q5 hBq5 f6_q5) ⟨kw_59, kw_32, kw_57, ⟨by decide, by decide, by decide +kernel⟩, ⟨rfl, rfl⟩, ⟨Nat.le_of_ble_eq_true rfl, Nat.le_of_ble_eq_true rfl⟩⟩ kw_58 rfl rfl hl.1 rfl (Nat.le_of_ble_eq_true rfl) ⟨Nat.le_of_ble_eq_true rfl, Nat.le_of_ble_eq_true rfl⟩ dX4_init_26 (fun w7 H locs hw7 hP hS => ?_)
  obtain ⟨b7, hbn7, hBb7, hRw7, hFr7⟩ := hw7
  have n7_o_b7 := me_ne hbn7 f6_o
  have n7_q5_b7 := me_ne hbn7 f6_q5
  have n7_q1_b7 : q1 ≠ b7 := me_ne hbn7 rw6_q1.1
  have n7_b3_b7 : b3 ≠ b7 := rw6_q1.bne hbn7
  have hw0b7 := hFr.no0 hbn7 f6_o
  have hFr := hFr.tr hw0q5 hFr7
  have f7_o := hFr7.at f6_o n5_o_q5
  have rw7_q1 := hFr7.rw rw6_q1 n5_q1_q5 n5_b3_q5
  refine me_putF C0 hP hS hBo f7_o rfl inX4 tyX4 tyX4_ok nmX4 1 (by decide) kw_119 rfl hin rfl rfl rfl (Nat.le_of_ble_eq_true rfl) dX4_init_29 (fun H locs hP hS => ?_)
  obtain ⟨w8, hw8⟩ : ∃ x : Me, x = me_u w7 o (eO 2 [.ref q1, .ref q5, .null, .null, .int 0]) := ⟨_, rfl⟩
  have hP : me_P G.1 w8 H := by rw [hw8]; exact hP
  have f8_o := (congrFun hw8 o).trans (me_us _ _ _)
  have rw8_q1 := rw7_q1.of ((congrFun hw8 q1).trans (me_un (Ne.symm n1_o_q1))) ((congrFun hw8 b3).trans (me_un (Ne.symm n3_o_b3)))
  have rw8_q5 := hRw7.of ((congrFun hw8 q5).trans (me_un (Ne.symm n5_o_q5))) ((congrFun hw8 b7).trans (me_un (Ne.symm n7_o_b7)))
  have hFr : FrN w w8 o := by rw [hw8]; exact hFr.wr
  refine lv_aload_n C0.1 C0.2.1 dX4_init_32 rfl (lv_at hl 0 rfl) ?_
  refine me_new C0 hP hS (ci := 1) (fs := [.null, .int 0]) rfl inX2 tyX2 tyX2_ok kw_55 kw_56 kw_32 (by decide) (Nat.le_of_ble_eq_true rfl) (Nat.le_of_ble_eq_true rfl) dX4_init_33 (fun q9 H hq9 hBq9 hP hS => ?_)
  have n9_o_q9 := me_ne hq9 f8_o
  have n9_q1_q9 : q1 ≠ q9 := me_ne hq9 rw8_q1.1
  have n9_b3_q9 : b3 ≠ q9 := rw8_q1.bne hq9
  have n9_q5_q9 : q5 ≠ q9 := me_ne hq9 rw8_q5.1
  have n9_b7_q9 : b7 ≠ q9 := rw8_q5.bne hq9
  have hw0q9 := hFr.no0 hq9 f8_o
  obtain ⟨w10, hw10⟩ : ∃ x : Me, x = me_u w8 q9 (eO 1 [.null, .int 0]) := ⟨_, rfl⟩
  have hP : me_P G.1 w10 H := by rw [hw10]; exact hP
  have f10_o := (congrFun hw10 o).trans ((me_un n9_o_q9).trans f8_o)
  have f10_q9 := (congrFun hw10 q9).trans (me_us _ _ _)
  have rw10_q1 := rw8_q1.of ((congrFun hw10 q1).trans (me_un n9_q1_q9)) ((congrFun hw10 b3).trans (me_un n9_b3_q9))
  have rw10_q5 := rw8_q5.of ((congrFun hw10 q5).trans (me_un n9_q5_q9)) ((congrFun hw10 b7).trans (me_un n9_b7_q9))
  have hFr : FrN w w10 o := by rw [hw10]; exact hFr.wp hw0q9
  refine lv_dup C0.1 C0.2.1 dX4_init_36 rfl ?_
  refine lv_bipush (v := 60) C0.1 C0.2.1 dX4_init_37 (by decide) ?_
  refine me_cIwv (n := 1) C0 hml hP hS (c_X2_init_60 l G B0 w10 q9 hBq9 f10_q9) ⟨kw_59, kw_32, kw_57, ⟨by decide, by decide, by decide +kernel⟩, ⟨rfl, rfl⟩, ⟨Nat.le_of_ble_eq_true rfl, Nat.le_of_ble_eq_true rfl⟩⟩ kw_58 rfl rfl hl.1 rfl (Nat.le_of_ble_eq_true rfl) ⟨Nat.le_of_ble_eq_true rfl, Nat.le_of_ble_eq_true rfl⟩ dX4_init_39 (fun w11 H locs hw11 hP hS => ?_)
  obtain ⟨b11, hbn11, hBb11, hRw11, hFr11⟩ := hw11
  have n11_o_b11 := me_ne hbn11 f10_o
  have n11_q9_b11 := me_ne hbn11 f10_q9
  have n11_q1_b11 : q1 ≠ b11 := me_ne hbn11 rw10_q1.1
  have n11_b3_b11 : b3 ≠ b11 := rw10_q1.bne hbn11
  have n11_q5_b11 : q5 ≠ b11 := me_ne hbn11 rw10_q5.1
  have n11_b7_b11 : b7 ≠ b11 := rw10_q5.bne hbn11
  have hw0b11 := hFr.no0 hbn11 f10_o
  have hFr := hFr.tr hw0q9 hFr11
  have f11_o := hFr11.at f10_o n9_o_q9
  have rw11_q1 := hFr11.rw rw10_q1 n9_q1_q9 n9_b3_q9
  have rw11_q5 := hFr11.rw rw10_q5 n9_q5_q9 n9_b7_q9
  refine me_putF C0 hP hS hBo f11_o rfl inX4 tyX4 tyX4_ok nmX4 2 (by decide) kw_120 rfl hin rfl rfl rfl (Nat.le_of_ble_eq_true rfl) dX4_init_42 (fun H locs hP hS => ?_)
  obtain ⟨w12, hw12⟩ : ∃ x : Me, x = me_u w11 o (eO 2 [.ref q1, .ref q5, .ref q9, .null, .int 0]) := ⟨_, rfl⟩
  have hP : me_P G.1 w12 H := by rw [hw12]; exact hP
  have f12_o := (congrFun hw12 o).trans (me_us _ _ _)
  have rw12_q1 := rw11_q1.of ((congrFun hw12 q1).trans (me_un (Ne.symm n1_o_q1))) ((congrFun hw12 b3).trans (me_un (Ne.symm n3_o_b3)))
  have rw12_q5 := rw11_q5.of ((congrFun hw12 q5).trans (me_un (Ne.symm n5_o_q5))) ((congrFun hw12 b7).trans (me_un (Ne.symm n7_o_b7)))
  have rw12_q9 := hRw11.of ((congrFun hw12 q9).trans (me_un (Ne.symm n9_o_q9))) ((congrFun hw12 b11).trans (me_un (Ne.symm n11_o_b11)))
  have hFr : FrN w w12 o := by rw [hw12]; exact hFr.wr
  refine lv_aload_n C0.1 C0.2.1 dX4_init_45 rfl (lv_at hl 0 rfl) ?_
  refine lv_sipush (v := 200) C0.1 C0.2.1 dX4_init_46 (by decide) ?_
  refine me_newN C0 hP hS hAO kw_72 (N := 200) (by decide) (by decide) (by omega) (Nat.le_of_ble_eq_true rfl) (Nat.le_of_ble_eq_true rfl) dX4_init_49 (fun q13 H hq13 hBq13 hP hS => ?_)
  have n13_o_q13 := me_ne hq13 f12_o
  have n13_q1_q13 : q1 ≠ q13 := me_ne hq13 rw12_q1.1
  have n13_b3_q13 : b3 ≠ q13 := rw12_q1.bne hq13
  have n13_q5_q13 : q5 ≠ q13 := me_ne hq13 rw12_q5.1
  have n13_b7_q13 : b7 ≠ q13 := rw12_q5.bne hq13
  have n13_q9_q13 : q9 ≠ q13 := me_ne hq13 rw12_q9.1
  have n13_b11_q13 : b11 ≠ q13 := rw12_q9.bne hq13
  have hw0q13 := hFr.no0 hq13 f12_o
  obtain ⟨w14, hw14⟩ : ∃ x : Me, x = me_u w12 q13 (eN G 200 (fun _ => none)) := ⟨_, rfl⟩
  have hP : me_P G.1 w14 H := by rw [hw14]; exact hP
  have f14_o := (congrFun hw14 o).trans ((me_un n13_o_q13).trans f12_o)
  have f14_q13 := (congrFun hw14 q13).trans (me_us _ _ _)
  have rw14_q1 := rw12_q1.of ((congrFun hw14 q1).trans (me_un n13_q1_q13)) ((congrFun hw14 b3).trans (me_un n13_b3_q13))
  have rw14_q5 := rw12_q5.of ((congrFun hw14 q5).trans (me_un n13_q5_q13)) ((congrFun hw14 b7).trans (me_un n13_b7_q13))
  have rw14_q9 := rw12_q9.of ((congrFun hw14 q9).trans (me_un n13_q9_q13)) ((congrFun hw14 b11).trans (me_un n13_b11_q13))
  have hFr : FrN w w14 o := by rw [hw14]; exact hFr.wp hw0q13
  refine me_putF C0 hP hS hBo f14_o rfl inX4 tyX4 tyX4_ok nmX4 3 (by decide) kw_121 rfl hin rfl rfl rfl (Nat.le_of_ble_eq_true rfl) dX4_init_52 (fun H locs hP hS => ?_)
  obtain ⟨w15, hw15⟩ : ∃ x : Me, x = me_u w14 o (eO 2 [.ref q1, .ref q5, .ref q9, .ref q13, .int 0]) := ⟨_, rfl⟩
  have hP : me_P G.1 w15 H := by rw [hw15]; exact hP
  have f15_q13 := (congrFun hw15 q13).trans ((me_un (Ne.symm n13_o_q13)).trans f14_q13)
  have f15_o := (congrFun hw15 o).trans (me_us _ _ _)
  have rw15_q1 := rw14_q1.of ((congrFun hw15 q1).trans (me_un (Ne.symm n1_o_q1))) ((congrFun hw15 b3).trans (me_un (Ne.symm n3_o_b3)))
  have rw15_q5 := rw14_q5.of ((congrFun hw15 q5).trans (me_un (Ne.symm n5_o_q5))) ((congrFun hw15 b7).trans (me_un (Ne.symm n7_o_b7)))
  have rw15_q9 := rw14_q9.of ((congrFun hw15 q9).trans (me_un (Ne.symm n9_o_q9))) ((congrFun hw15 b11).trans (me_un (Ne.symm n11_o_b11)))
  have hFr : FrN w w15 o := by rw [hw15]; exact hFr.wr
  refine me_new C0 hP hS (ci := 0) (fs := [.null, .null, .null, .null, .int 0, .int 0, .int 0]) rfl inX1 tyX1 tyX1_ok kw_72 kw_74 kw_34 (by decide) (Nat.le_of_ble_eq_true rfl) (Nat.le_of_ble_eq_true rfl) dX4_init_55 (fun q16 H hq16 hBq16 hP hS => ?_)
  have n16_o_q16 := me_ne hq16 f15_o
  have n16_q13_q16 := me_ne hq16 f15_q13
  have n16_q1_q16 : q1 ≠ q16 := me_ne hq16 rw15_q1.1
  have n16_b3_q16 : b3 ≠ q16 := rw15_q1.bne hq16
  have n16_q5_q16 : q5 ≠ q16 := me_ne hq16 rw15_q5.1
  have n16_b7_q16 : b7 ≠ q16 := rw15_q5.bne hq16
  have n16_q9_q16 : q9 ≠ q16 := me_ne hq16 rw15_q9.1
  have n16_b11_q16 : b11 ≠ q16 := rw15_q9.bne hq16
  have hw0q16 := hFr.no0 hq16 f15_o
  obtain ⟨w17, hw17⟩ : ∃ x : Me, x = me_u w15 q16 (eO 0 [.null, .null, .null, .null, .int 0, .int 0, .int 0]) := ⟨_, rfl⟩
  have hP : me_P G.1 w17 H := by rw [hw17]; exact hP
  have f17_o := (congrFun hw17 o).trans ((me_un n16_o_q16).trans f15_o)
  have f17_q13 := (congrFun hw17 q13).trans ((me_un n16_q13_q16).trans f15_q13)
  have f17_q16 := (congrFun hw17 q16).trans (me_us _ _ _)
  have rw17_q1 := rw15_q1.of ((congrFun hw17 q1).trans (me_un n16_q1_q16)) ((congrFun hw17 b3).trans (me_un n16_b3_q16))
  have rw17_q5 := rw15_q5.of ((congrFun hw17 q5).trans (me_un n16_q5_q16)) ((congrFun hw17 b7).trans (me_un n16_b7_q16))
  have rw17_q9 := rw15_q9.of ((congrFun hw17 q9).trans (me_un n16_q9_q16)) ((congrFun hw17 b11).trans (me_un n16_b11_q16))
  have hFr : FrN w w17 o := by rw [hw17]; exact hFr.wp hw0q16
  refine lv_dup C0.1 C0.2.1 dX4_init_58 rfl ?_
  refine me_cIwv (n := 0) C0 hml hP hS (c_X1_init l G B0 w17 q16 hBq16 f17_q16) ⟨kw_77, kw_34, kw_75, ⟨by decide, by decide, by decide +kernel⟩, ⟨rfl, rfl⟩, ⟨Nat.le_of_ble_eq_true rfl, Nat.le_of_ble_eq_true rfl⟩⟩ kw_76 rfl rfl hl.1 rfl (Nat.le_of_ble_eq_true rfl) ⟨Nat.le_of_ble_eq_true rfl, Nat.le_of_ble_eq_true rfl⟩ dX4_init_59 (fun w18 H locs hw18 hP hS => ?_)
  obtain ⟨b, hb0, hND, hbn, hFrq⟩ := hw18
  have hnb_o : ∀ j, j < 9 → o ≠ b j := fun j hj => by by_cases e : j = 0; rw [e, hb0]; exact n16_o_q16; exact me_ne (hbn j (by omega) hj) f17_o
  have hnb_q13 : ∀ j, j < 9 → q13 ≠ b j := fun j hj => by by_cases e : j = 0; rw [e, hb0]; exact n16_q13_q16; exact me_ne (hbn j (by omega) hj) f17_q13
  have hnb_q1 : ∀ j, j < 9 → q1 ≠ b j := fun j hj => by by_cases e : j = 0; rw [e, hb0]; exact n16_q1_q16; exact me_ne (hbn j (by omega) hj) rw17_q1.1
  have hnb_b3 : ∀ j, j < 9 → b3 ≠ b j := fun j hj => by by_cases e : j = 0; rw [e, hb0]; exact n16_b3_q16; exact rw17_q1.bne (hbn j (by omega) hj)
  have hnb_q5 : ∀ j, j < 9 → q5 ≠ b j := fun j hj => by by_cases e : j = 0; rw [e, hb0]; exact n16_q5_q16; exact me_ne (hbn j (by omega) hj) rw17_q5.1
  have hnb_b7 : ∀ j, j < 9 → b7 ≠ b j := fun j hj => by by_cases e : j = 0; rw [e, hb0]; exact n16_b7_q16; exact rw17_q5.bne (hbn j (by omega) hj)
  have hnb_q9 : ∀ j, j < 9 → q9 ≠ b j := fun j hj => by by_cases e : j = 0; rw [e, hb0]; exact n16_q9_q16; exact me_ne (hbn j (by omega) hj) rw17_q9.1
  have hnb_b11 : ∀ j, j < 9 → b11 ≠ b j := fun j hj => by by_cases e : j = 0; rw [e, hb0]; exact n16_b11_q16; exact rw17_q9.bne (hbn j (by omega) hj)
  have hwb : ∀ j, j < 9 → w (b j) = none := fun j hj => by by_cases e : j = 0; rw [e, hb0]; exact hw0q16; exact hFr.no0 (hbn j (by omega) hj) f17_o
  have hFr := hFr.tr hw0q16 hFrq
  have f18_o := hFrq.at f17_o n16_o_q16
  have f18_q13 := hFrq.at f17_q13 n16_q13_q16
  have rw18_q1 := hFrq.rw rw17_q1 n16_q1_q16 n16_b3_q16
  have rw18_q5 := hFrq.rw rw17_q5 n16_q5_q16 n16_b7_q16
  have rw18_q9 := hFrq.rw rw17_q9 n16_q9_q16 n16_b11_q16
  have hNq : w18 q16 = _ := (congrArg w18 hb0.symm).trans hND.1
  refine lv_astore_n (lv' := [(1, .ref q16), (0, .ref o)]) C0.1 C0.2.1 dX4_init_62 rfl hl (by decide) rfl (fun ls hl => ?_)
  refine lv_aload_n C0.1 C0.2.1 dX4_init_63 rfl (lv_at hl 0 rfl) ?_
  refine lv_iconst (v := 1) C0.1 C0.2.1 dX4_init_64 (by decide) ?_
  refine me_cVwv (n := 1) C0 hml hP hS (hb0 ▸ c_X1_begin l G B0 w18 b _ _ hND 1 narrow_b1 rfl) ⟨kw_113, kw_34, kw_110, ⟨by decide, by decide, by decide +kernel⟩, ⟨rfl, rfl⟩, ⟨Nat.le_of_ble_eq_true rfl, Nat.le_of_ble_eq_true rfl⟩⟩ kw_111 kw_112 hNq rfl rfl hl.1 rfl (Nat.le_of_ble_eq_true rfl) ⟨Nat.le_of_ble_eq_true rfl, Nat.le_of_ble_eq_true rfl⟩ dX4_init_65 (fun w19 H locs hw19 hP hS => ?_)
  obtain ⟨hND, hFB19⟩ := hw19
  have f19_o := (hFB19 o hnb_o).trans f18_o
  have f19_q13 := (hFB19 q13 hnb_q13).trans f18_q13
  have rw19_q1 := rw18_q1.of (hFB19 q1 hnb_q1) (hFB19 b3 hnb_b3)
  have rw19_q5 := rw18_q5.of (hFB19 q5 hnb_q5) (hFB19 b7 hnb_b7)
  have rw19_q9 := rw18_q9.of (hFB19 q9 hnb_q9) (hFB19 b11 hnb_b11)
  have hFr : FrN w w19 o := fun q h1 h2 => (hFB19 q (fun j hj e => h1 (by rw [e]; exact hwb j hj))).trans (hFr q h1 h2)
  have hNq : w19 q16 = _ := (congrArg w19 hb0.symm).trans hND.1
  refine lv_aload_n C0.1 C0.2.1 dX4_init_68 rfl (lv_at hl 1 rfl) ?_
  refine me_get C0 hP f19_o rfl inX4 3 (by decide) kw_121 rfl dX4_init_69 ?_
  refine lv_iconst (v := 0) C0.1 C0.2.1 dX4_init_72 (by decide) ?_
  refine lv_aload_n C0.1 C0.2.1 dX4_init_73 rfl (lv_at hl 0 rfl) ?_
  refine me_aastN C0 hP hS hBq13 f19_q13 hNq (i := 0) (by omega) (by omega) dX4_init_74 (fun H locs hP hS => ?_)
  obtain ⟨w20, hw20⟩ : ∃ x : Me, x = me_u w19 q13 (eN G 200 (va_up (fun _ => none) 0 (some q16))) := ⟨_, rfl⟩
  have hP : me_P G.1 w20 H := by rw [hw20]; exact hP
  have f20_o := (congrFun hw20 o).trans ((me_un n13_o_q13).trans f19_o)
  have f20_q13 := (congrFun hw20 q13).trans (me_us _ _ _)
  have rw20_q1 := rw19_q1.of ((congrFun hw20 q1).trans (me_un n13_q1_q13)) ((congrFun hw20 b3).trans (me_un n13_b3_q13))
  have rw20_q5 := rw19_q5.of ((congrFun hw20 q5).trans (me_un n13_q5_q13)) ((congrFun hw20 b7).trans (me_un n13_b7_q13))
  have rw20_q9 := rw19_q9.of ((congrFun hw20 q9).trans (me_un n13_q9_q13)) ((congrFun hw20 b11).trans (me_un n13_b11_q13))
  have hFr : FrN w w20 o := by rw [hw20]; exact hFr.wp hw0q13
  have hND : ND G B0 w20 b (fun _ => []) (fun i => if i = 0 then 1 else if i = 1 then 1 else -1) := ⟨(congrFun hw20 _).trans ((me_un (Ne.symm (hnb_q13 0 (by omega)))).trans hND.1), fun j hj => (hND.2.1 j hj).of ((congrFun hw20 _).trans (me_un (Ne.symm (hnb_q13 j (by have := rowJ1 hj; omega))))) ((congrFun hw20 _).trans (me_un (Ne.symm (hnb_q13 (j + 1) (by have := rowJ1 hj; omega))))), hND.2.2⟩
  refine lv_aload_n C0.1 C0.2.1 dX4_init_75 rfl (lv_at hl 1 rfl) ?_
  refine lv_iconst (v := 1) C0.1 C0.2.1 dX4_init_76 (by decide) ?_
  refine me_put C0 hP hS hBo f20_o rfl inX4 tyX4 tyX4_ok nmX4 4 (by decide) kw_122 rfl rfl rfl (Nat.le_of_ble_eq_true rfl) dX4_init_77 (fun H locs hP hS => ?_)
  obtain ⟨w21, hw21⟩ : ∃ x : Me, x = me_u w20 o (eO 2 [.ref q1, .ref q5, .ref q9, .ref q13, .int 1]) := ⟨_, rfl⟩
  have hP : me_P G.1 w21 H := by rw [hw21]; exact hP
  have f21_q13 := (congrFun hw21 q13).trans ((me_un (Ne.symm n13_o_q13)).trans f20_q13)
  have f21_o := (congrFun hw21 o).trans (me_us _ _ _)
  have rw21_q1 := rw20_q1.of ((congrFun hw21 q1).trans (me_un (Ne.symm n1_o_q1))) ((congrFun hw21 b3).trans (me_un (Ne.symm n3_o_b3)))
  have rw21_q5 := rw20_q5.of ((congrFun hw21 q5).trans (me_un (Ne.symm n5_o_q5))) ((congrFun hw21 b7).trans (me_un (Ne.symm n7_o_b7)))
  have rw21_q9 := rw20_q9.of ((congrFun hw21 q9).trans (me_un (Ne.symm n9_o_q9))) ((congrFun hw21 b11).trans (me_un (Ne.symm n11_o_b11)))
  have hFr : FrN w w21 o := by rw [hw21]; exact hFr.wr
  have hND : ND G B0 w21 b (fun _ => []) (fun i => if i = 0 then 1 else if i = 1 then 1 else -1) := ⟨(congrFun hw21 _).trans ((me_un (Ne.symm (hnb_o 0 (by omega)))).trans hND.1), fun j hj => (hND.2.1 j hj).of ((congrFun hw21 _).trans (me_un (Ne.symm (hnb_o j (by have := rowJ1 hj; omega))))) ((congrFun hw21 _).trans (me_un (Ne.symm (hnb_o (j + 1) (by have := rowJ1 hj; omega))))), hND.2.2⟩
  have hLn : ([o, q1, b3, q5, b7, q9, b11, q13] : List Nat).Nodup := (List.nodup_cons.mpr ⟨(nm_cons n1_o_q1 (nm_cons n3_o_b3 (nm_cons n5_o_q5 (nm_cons n7_o_b7 (nm_cons n9_o_q9 (nm_cons n11_o_b11 (nm_cons n13_o_q13 nm_nil))))))), (List.nodup_cons.mpr ⟨(nm_cons n3_q1_b3 (nm_cons n5_q1_q5 (nm_cons n7_q1_b7 (nm_cons n9_q1_q9 (nm_cons n11_q1_b11 (nm_cons n13_q1_q13 nm_nil)))))), (List.nodup_cons.mpr ⟨(nm_cons n5_b3_q5 (nm_cons n7_b3_b7 (nm_cons n9_b3_q9 (nm_cons n11_b3_b11 (nm_cons n13_b3_q13 nm_nil))))), (List.nodup_cons.mpr ⟨(nm_cons n7_q5_b7 (nm_cons n9_q5_q9 (nm_cons n11_q5_b11 (nm_cons n13_q5_q13 nm_nil)))), (List.nodup_cons.mpr ⟨(nm_cons n9_b7_q9 (nm_cons n11_b7_b11 (nm_cons n13_b7_q13 nm_nil))), (List.nodup_cons.mpr ⟨(nm_cons n11_q9_b11 (nm_cons n13_q9_q13 nm_nil)), (List.nodup_cons.mpr ⟨(nm_cons n13_b11_q13 nm_nil), (List.nodup_cons.mpr ⟨nm_nil, List.nodup_nil⟩)⟩)⟩)⟩)⟩)⟩)⟩)⟩)
  have hLB : ∀ x ∈ ([o, q1, b3, q5, b7, q9, b11, q13] : List Nat), B0 ≤ x := by intro x hx; simp only [List.mem_cons, List.not_mem_nil, or_false] at hx; rcases hx with rfl | rfl | rfl | rfl | rfl | rfl | rfl | rfl; exact hBo; exact hBq1; exact hBb3; exact hBq5; exact hBb7; exact hBq9; exact hBb11; exact hBq13
  have hLb : ∀ x ∈ ([o, q1, b3, q5, b7, q9, b11, q13] : List Nat), ∀ j, j < 9 → x ≠ b j := by intro x hx; simp only [List.mem_cons, List.not_mem_nil, or_false] at hx; rcases hx with rfl | rfl | rfl | rfl | rfl | rfl | rfl | rfl; exact hnb_o; exact hnb_q1; exact hnb_b3; exact hnb_q5; exact hnb_b7; exact hnb_q9; exact hnb_b11; exact hnb_q13
  obtain ⟨ad, ex, R0, N0, i1, i2, i3, i4, i5⟩ := fn_init hLn hLB hLb f21_o rw21_q1 rw21_q5 rw21_q9 (by rw [hb0]; exact f21_q13) hND
  exact me_wvret _ C0.1 C0.2.1 B.returns B.notSynchronized hP hS (Nat.le_of_ble_eq_true rfl) (Nat.le_of_ble_eq_true rfl) (⟨ad, ex, R0, N0, i1, i2, i3, i4, i5, hFr⟩) dX4_init_80
