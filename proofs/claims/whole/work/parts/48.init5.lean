theorem nm_nil {x : Nat} : ¬ x ∈ ([] : List Nat) := fun h => by cases h
theorem nm_cons {x y : Nat} {L : List Nat} (h : x ≠ y) (h2 : ¬ x ∈ L) : ¬ x ∈ y :: L := fun q => by
  rcases List.mem_cons.mp q with e | e
  · exact h e
  · exact h2 e

set_option maxHeartbeats 4000000 in
set_option maxRecDepth 100000 in
/-- new FoldedNamesModel() -/
theorem c_X5_init (l : Launch) (G : me_G) (B0 : Nat) (w : Me) (o : Nat) (hBo : B0 ≤ o) (ho : w o = some (eO 3 [.null, .int 0, .null, .null, .null, .null, .null, .null, .null, .null, .null, .null, .int 0, .int 0, .null, .int 0, .null, .int 0, .null, .int 0, .null])) : CtWV l yX5_init (Cond.code yX5_init cX5_init 1 none) ({ frames := 1, cells := 15, slots := 34800, locals := 12 }) G B0 w [.ref o] (fun w' => ∃ a : Nat → Nat, MD G B0 w' o a F0M (fun _ => 0) ∧ (∀ k ∈ mdA, w (a k) = none) ∧ FrN w w' o) 15 34800 := by
  refine Met.ofW (cc := cX5_init) (maxL := 1) (ret := none) (by decide) rfl ?_
  intro p e s m args below meth c s₁ B hml hv
  obtain ⟨rfl, hK, hP, hKq, hBs⟩ := hv
  have hts := fun w h => atoms_spec (ws := Cond.code yX5_init cX5_init 1 none :: tbG) B.pre w (List.mem_cons_of_mem _ h)
  have hown : s.vm.findClass RX5 = some m.cls := findClass_of_methodNamed B.named
  have C0 : Cx G B0 p s m _ c cX5_init RX5 := ⟨B.exec, B.bytes, hown, hts, hK, hKq, hBs⟩
  have hS : va_S (me_A B0) s.heap s.heap [] := va_S.rf
  have hin : meth.name = "<init>" := (name_of_methodNamed B.named B.method).1
  have hl := lv_entry ([.ref o]) (n := 1) (Nat.le_of_ble_eq_true rfl)
  rw [lg_entry_eq]
  generalize (lg_sl ([.ref o]) ++ List.replicate (1 - (lg_sl ([.ref o])).length) Slot.unset).toArray = ls at hl ⊢
  have hl : lv_has ls 1 [(0, .ref o)] := hl
  have hFr : FrN w w o := FrN.rf
  refine lv_aload_n C0.1 C0.2.1 dX5_init_0 rfl (lv_at hl 0 rfl) ?_
  refine W.objInit C0.1 C0.2.1 C0.2.2.1 (C0.2.2.2.1 _ kw_476) (C0.2.2.2.1 _ kw_53) (C0.2.2.2.1 _ kw_54) rfl (by rw [hml]; exact hl.1) rfl dX5_init_1 (Nat.le_of_ble_eq_true rfl) (Nat.le_of_ble_eq_true rfl) ?_
  refine W.eq (g2 := F0 m 4 ls []) rfl ?_
  refine lv_aload_n C0.1 C0.2.1 dX5_init_4 rfl (lv_at hl 0 rfl) ?_
  refine lv_sipush (v := 200) C0.1 C0.2.1 dX5_init_5 (by decide) ?_
  refine me_newI C0 hP hS kw_71 (N := 200) (by decide) (by decide) (by omega) (Nat.le_of_ble_eq_true rfl) (Nat.le_of_ble_eq_true rfl) dX5_init_8 (fun q1 H hq1 hBq1 hP hS => ?_)
  have n1_o_q1 := me_ne hq1 ho
  have hw0q1 := hFr.no0 hq1 ho
  obtain ⟨w2, hw2⟩ : ∃ x : Me, x = me_u w q1 (eI G 200 (fun _ => 0)) := ⟨_, rfl⟩
  have hP : me_P G.1 w2 H := by rw [hw2]; exact hP
  have f2_o := (congrFun hw2 o).trans ((me_un n1_o_q1).trans ho)
  have f2_q1 := (congrFun hw2 q1).trans (me_us _ _ _)
  have hFr : FrN w w2 o := by rw [hw2]; exact hFr.wp hw0q1
  refine me_putF C0 hP hS hBo f2_o rfl inX5 tyX5 tyX5_ok nmX5 0 (by decide) kw_477 rfl hin rfl rfl rfl (Nat.le_of_ble_eq_true rfl) dX5_init_10 (fun H locs hP hS => ?_)
  obtain ⟨w3, hw3⟩ : ∃ x : Me, x = me_u w2 o (eO 3 [.ref q1, .int 0, .null, .null, .null, .null, .null, .null, .null, .null, .null, .null, .int 0, .int 0, .null, .int 0, .null, .int 0, .null, .int 0, .null]) := ⟨_, rfl⟩
  have hP : me_P G.1 w3 H := by rw [hw3]; exact hP
  have f3_q1 := (congrFun hw3 q1).trans ((me_un (Ne.symm n1_o_q1)).trans f2_q1)
  have f3_o := (congrFun hw3 o).trans (me_us _ _ _)
  have hFr : FrN w w3 o := by rw [hw3]; exact hFr.wr
  refine lv_aload_n C0.1 C0.2.1 dX5_init_13 rfl (lv_at hl 0 rfl) ?_
  refine lv_sipush (v := 200) C0.1 C0.2.1 dX5_init_14 (by decide) ?_
  refine me_newZ C0 hP hS kw_541 (N := 200) (by decide) (by decide) (by omega) (Nat.le_of_ble_eq_true rfl) (Nat.le_of_ble_eq_true rfl) dX5_init_17 (fun q4 H hq4 hBq4 hP hS => ?_)
  have n4_o_q4 := me_ne hq4 f3_o
  have n4_q1_q4 := me_ne hq4 f3_q1
  have hw0q4 := hFr.no0 hq4 f3_o
  obtain ⟨w5, hw5⟩ : ∃ x : Me, x = me_u w3 q4 (eZ G 200 (fun _ => 0)) := ⟨_, rfl⟩
  have hP : me_P G.1 w5 H := by rw [hw5]; exact hP
  have f5_o := (congrFun hw5 o).trans ((me_un n4_o_q4).trans f3_o)
  have f5_q1 := (congrFun hw5 q1).trans ((me_un n4_q1_q4).trans f3_q1)
  have f5_q4 := (congrFun hw5 q4).trans (me_us _ _ _)
  have hFr : FrN w w5 o := by rw [hw5]; exact hFr.wp hw0q4
  refine me_putF C0 hP hS hBo f5_o rfl inX5 tyX5 tyX5_ok nmX5 2 (by decide) kw_479 rfl hin rfl rfl rfl (Nat.le_of_ble_eq_true rfl) dX5_init_19 (fun H locs hP hS => ?_)
  obtain ⟨w6, hw6⟩ : ∃ x : Me, x = me_u w5 o (eO 3 [.ref q1, .int 0, .ref q4, .null, .null, .null, .null, .null, .null, .null, .null, .null, .int 0, .int 0, .null, .int 0, .null, .int 0, .null, .int 0, .null]) := ⟨_, rfl⟩
  have hP : me_P G.1 w6 H := by rw [hw6]; exact hP
  have f6_q1 := (congrFun hw6 q1).trans ((me_un (Ne.symm n1_o_q1)).trans f5_q1)
  have f6_q4 := (congrFun hw6 q4).trans ((me_un (Ne.symm n4_o_q4)).trans f5_q4)
  have f6_o := (congrFun hw6 o).trans (me_us _ _ _)
  have hFr : FrN w w6 o := by rw [hw6]; exact hFr.wr
  refine lv_aload_n C0.1 C0.2.1 dX5_init_22 rfl (lv_at hl 0 rfl) ?_
  refine lv_sipush (v := 200) C0.1 C0.2.1 dX5_init_23 (by decide) ?_
  refine me_newZ C0 hP hS kw_541 (N := 200) (by decide) (by decide) (by omega) (Nat.le_of_ble_eq_true rfl) (Nat.le_of_ble_eq_true rfl) dX5_init_26 (fun q7 H hq7 hBq7 hP hS => ?_)
  have n7_o_q7 := me_ne hq7 f6_o
  have n7_q1_q7 := me_ne hq7 f6_q1
  have n7_q4_q7 := me_ne hq7 f6_q4
  have hw0q7 := hFr.no0 hq7 f6_o
  obtain ⟨w8, hw8⟩ : ∃ x : Me, x = me_u w6 q7 (eZ G 200 (fun _ => 0)) := ⟨_, rfl⟩
  have hP : me_P G.1 w8 H := by rw [hw8]; exact hP
  have f8_o := (congrFun hw8 o).trans ((me_un n7_o_q7).trans f6_o)
  have f8_q1 := (congrFun hw8 q1).trans ((me_un n7_q1_q7).trans f6_q1)
  have f8_q4 := (congrFun hw8 q4).trans ((me_un n7_q4_q7).trans f6_q4)
  have f8_q7 := (congrFun hw8 q7).trans (me_us _ _ _)
  have hFr : FrN w w8 o := by rw [hw8]; exact hFr.wp hw0q7
  refine me_putF C0 hP hS hBo f8_o rfl inX5 tyX5 tyX5_ok nmX5 3 (by decide) kw_480 rfl hin rfl rfl rfl (Nat.le_of_ble_eq_true rfl) dX5_init_28 (fun H locs hP hS => ?_)
  obtain ⟨w9, hw9⟩ : ∃ x : Me, x = me_u w8 o (eO 3 [.ref q1, .int 0, .ref q4, .ref q7, .null, .null, .null, .null, .null, .null, .null, .null, .int 0, .int 0, .null, .int 0, .null, .int 0, .null, .int 0, .null]) := ⟨_, rfl⟩
  have hP : me_P G.1 w9 H := by rw [hw9]; exact hP
  have f9_q1 := (congrFun hw9 q1).trans ((me_un (Ne.symm n1_o_q1)).trans f8_q1)
  have f9_q4 := (congrFun hw9 q4).trans ((me_un (Ne.symm n4_o_q4)).trans f8_q4)
  have f9_q7 := (congrFun hw9 q7).trans ((me_un (Ne.symm n7_o_q7)).trans f8_q7)
  have f9_o := (congrFun hw9 o).trans (me_us _ _ _)
  have hFr : FrN w w9 o := by rw [hw9]; exact hFr.wr
  refine lv_aload_n C0.1 C0.2.1 dX5_init_31 rfl (lv_at hl 0 rfl) ?_
  refine lv_sipush (v := 200) C0.1 C0.2.1 dX5_init_32 (by decide) ?_
  refine me_newI C0 hP hS kw_71 (N := 200) (by decide) (by decide) (by omega) (Nat.le_of_ble_eq_true rfl) (Nat.le_of_ble_eq_true rfl) dX5_init_35 (fun q10 H hq10 hBq10 hP hS => ?_)
  have n10_o_q10 := me_ne hq10 f9_o
  have n10_q1_q10 := me_ne hq10 f9_q1
  have n10_q4_q10 := me_ne hq10 f9_q4
  have n10_q7_q10 := me_ne hq10 f9_q7
  have hw0q10 := hFr.no0 hq10 f9_o
  obtain ⟨w11, hw11⟩ : ∃ x : Me, x = me_u w9 q10 (eI G 200 (fun _ => 0)) := ⟨_, rfl⟩
  have hP : me_P G.1 w11 H := by rw [hw11]; exact hP
  have f11_o := (congrFun hw11 o).trans ((me_un n10_o_q10).trans f9_o)
  have f11_q1 := (congrFun hw11 q1).trans ((me_un n10_q1_q10).trans f9_q1)
  have f11_q4 := (congrFun hw11 q4).trans ((me_un n10_q4_q10).trans f9_q4)
  have f11_q7 := (congrFun hw11 q7).trans ((me_un n10_q7_q10).trans f9_q7)
  have f11_q10 := (congrFun hw11 q10).trans (me_us _ _ _)
  have hFr : FrN w w11 o := by rw [hw11]; exact hFr.wp hw0q10
  refine me_putF C0 hP hS hBo f11_o rfl inX5 tyX5 tyX5_ok nmX5 4 (by decide) kw_481 rfl hin rfl rfl rfl (Nat.le_of_ble_eq_true rfl) dX5_init_37 (fun H locs hP hS => ?_)
  obtain ⟨w12, hw12⟩ : ∃ x : Me, x = me_u w11 o (eO 3 [.ref q1, .int 0, .ref q4, .ref q7, .ref q10, .null, .null, .null, .null, .null, .null, .null, .int 0, .int 0, .null, .int 0, .null, .int 0, .null, .int 0, .null]) := ⟨_, rfl⟩
  have hP : me_P G.1 w12 H := by rw [hw12]; exact hP
  have f12_q1 := (congrFun hw12 q1).trans ((me_un (Ne.symm n1_o_q1)).trans f11_q1)
  have f12_q4 := (congrFun hw12 q4).trans ((me_un (Ne.symm n4_o_q4)).trans f11_q4)
  have f12_q7 := (congrFun hw12 q7).trans ((me_un (Ne.symm n7_o_q7)).trans f11_q7)
  have f12_q10 := (congrFun hw12 q10).trans ((me_un (Ne.symm n10_o_q10)).trans f11_q10)
  have f12_o := (congrFun hw12 o).trans (me_us _ _ _)
  have hFr : FrN w w12 o := by rw [hw12]; exact hFr.wr
  refine lv_aload_n C0.1 C0.2.1 dX5_init_40 rfl (lv_at hl 0 rfl) ?_
  refine lv_sipush (v := 12000) C0.1 C0.2.1 dX5_init_41 (by decide) ?_
  refine me_newI C0 hP hS kw_71 (N := 12000) (by decide) (by decide) (by omega) (Nat.le_of_ble_eq_true rfl) (Nat.le_of_ble_eq_true rfl) dX5_init_44 (fun q13 H hq13 hBq13 hP hS => ?_)
  have n13_o_q13 := me_ne hq13 f12_o
  have n13_q1_q13 := me_ne hq13 f12_q1
  have n13_q4_q13 := me_ne hq13 f12_q4
  have n13_q7_q13 := me_ne hq13 f12_q7
  have n13_q10_q13 := me_ne hq13 f12_q10
  have hw0q13 := hFr.no0 hq13 f12_o
  obtain ⟨w14, hw14⟩ : ∃ x : Me, x = me_u w12 q13 (eI G 12000 (fun _ => 0)) := ⟨_, rfl⟩
  have hP : me_P G.1 w14 H := by rw [hw14]; exact hP
  have f14_o := (congrFun hw14 o).trans ((me_un n13_o_q13).trans f12_o)
  have f14_q1 := (congrFun hw14 q1).trans ((me_un n13_q1_q13).trans f12_q1)
  have f14_q4 := (congrFun hw14 q4).trans ((me_un n13_q4_q13).trans f12_q4)
  have f14_q7 := (congrFun hw14 q7).trans ((me_un n13_q7_q13).trans f12_q7)
  have f14_q10 := (congrFun hw14 q10).trans ((me_un n13_q10_q13).trans f12_q10)
  have f14_q13 := (congrFun hw14 q13).trans (me_us _ _ _)
  have hFr : FrN w w14 o := by rw [hw14]; exact hFr.wp hw0q13
  refine me_putF C0 hP hS hBo f14_o rfl inX5 tyX5 tyX5_ok nmX5 5 (by decide) kw_482 rfl hin rfl rfl rfl (Nat.le_of_ble_eq_true rfl) dX5_init_46 (fun H locs hP hS => ?_)
  obtain ⟨w15, hw15⟩ : ∃ x : Me, x = me_u w14 o (eO 3 [.ref q1, .int 0, .ref q4, .ref q7, .ref q10, .ref q13, .null, .null, .null, .null, .null, .null, .int 0, .int 0, .null, .int 0, .null, .int 0, .null, .int 0, .null]) := ⟨_, rfl⟩
  have hP : me_P G.1 w15 H := by rw [hw15]; exact hP
  have f15_q1 := (congrFun hw15 q1).trans ((me_un (Ne.symm n1_o_q1)).trans f14_q1)
  have f15_q4 := (congrFun hw15 q4).trans ((me_un (Ne.symm n4_o_q4)).trans f14_q4)
  have f15_q7 := (congrFun hw15 q7).trans ((me_un (Ne.symm n7_o_q7)).trans f14_q7)
  have f15_q10 := (congrFun hw15 q10).trans ((me_un (Ne.symm n10_o_q10)).trans f14_q10)
  have f15_q13 := (congrFun hw15 q13).trans ((me_un (Ne.symm n13_o_q13)).trans f14_q13)
  have f15_o := (congrFun hw15 o).trans (me_us _ _ _)
  have hFr : FrN w w15 o := by rw [hw15]; exact hFr.wr
  refine lv_aload_n C0.1 C0.2.1 dX5_init_49 rfl (lv_at hl 0 rfl) ?_
  refine lv_sipush (v := 200) C0.1 C0.2.1 dX5_init_50 (by decide) ?_
  refine me_newI C0 hP hS kw_71 (N := 200) (by decide) (by decide) (by omega) (Nat.le_of_ble_eq_true rfl) (Nat.le_of_ble_eq_true rfl) dX5_init_53 (fun q16 H hq16 hBq16 hP hS => ?_)
  have n16_o_q16 := me_ne hq16 f15_o
  have n16_q1_q16 := me_ne hq16 f15_q1
  have n16_q4_q16 := me_ne hq16 f15_q4
  have n16_q7_q16 := me_ne hq16 f15_q7
  have n16_q10_q16 := me_ne hq16 f15_q10
  have n16_q13_q16 := me_ne hq16 f15_q13
  have hw0q16 := hFr.no0 hq16 f15_o
  obtain ⟨w17, hw17⟩ : ∃ x : Me, x = me_u w15 q16 (eI G 200 (fun _ => 0)) := ⟨_, rfl⟩
  have hP : me_P G.1 w17 H := by rw [hw17]; exact hP
  have f17_o := (congrFun hw17 o).trans ((me_un n16_o_q16).trans f15_o)
  have f17_q1 := (congrFun hw17 q1).trans ((me_un n16_q1_q16).trans f15_q1)
  have f17_q4 := (congrFun hw17 q4).trans ((me_un n16_q4_q16).trans f15_q4)
  have f17_q7 := (congrFun hw17 q7).trans ((me_un n16_q7_q16).trans f15_q7)
  have f17_q10 := (congrFun hw17 q10).trans ((me_un n16_q10_q16).trans f15_q10)
  have f17_q13 := (congrFun hw17 q13).trans ((me_un n16_q13_q16).trans f15_q13)
  have f17_q16 := (congrFun hw17 q16).trans (me_us _ _ _)
  have hFr : FrN w w17 o := by rw [hw17]; exact hFr.wp hw0q16
  refine me_putF C0 hP hS hBo f17_o rfl inX5 tyX5 tyX5_ok nmX5 6 (by decide) kw_483 rfl hin rfl rfl rfl (Nat.le_of_ble_eq_true rfl) dX5_init_55 (fun H locs hP hS => ?_)
  obtain ⟨w18, hw18⟩ : ∃ x : Me, x = me_u w17 o (eO 3 [.ref q1, .int 0, .ref q4, .ref q7, .ref q10, .ref q13, .ref q16, .null, .null, .null, .null, .null, .int 0, .int 0, .null, .int 0, .null, .int 0, .null, .int 0, .null]) := ⟨_, rfl⟩
  have hP : me_P G.1 w18 H := by rw [hw18]; exact hP
  have f18_q1 := (congrFun hw18 q1).trans ((me_un (Ne.symm n1_o_q1)).trans f17_q1)
  have f18_q4 := (congrFun hw18 q4).trans ((me_un (Ne.symm n4_o_q4)).trans f17_q4)
  have f18_q7 := (congrFun hw18 q7).trans ((me_un (Ne.symm n7_o_q7)).trans f17_q7)
  have f18_q10 := (congrFun hw18 q10).trans ((me_un (Ne.symm n10_o_q10)).trans f17_q10)
  have f18_q13 := (congrFun hw18 q13).trans ((me_un (Ne.symm n13_o_q13)).trans f17_q13)
  have f18_q16 := (congrFun hw18 q16).trans ((me_un (Ne.symm n16_o_q16)).trans f17_q16)
  have f18_o := (congrFun hw18 o).trans (me_us _ _ _)
  have hFr : FrN w w18 o := by rw [hw18]; exact hFr.wr
  refine lv_aload_n C0.1 C0.2.1 dX5_init_58 rfl (lv_at hl 0 rfl) ?_
  refine lv_sipush (v := 12000) C0.1 C0.2.1 dX5_init_59 (by decide) ?_
  refine me_newI C0 hP hS kw_71 (N := 12000) (by decide) (by decide) (by omega) (Nat.le_of_ble_eq_true rfl) (Nat.le_of_ble_eq_true rfl) dX5_init_62 (fun q19 H hq19 hBq19 hP hS => ?_)
  have n19_o_q19 := me_ne hq19 f18_o
  have n19_q1_q19 := me_ne hq19 f18_q1
  have n19_q4_q19 := me_ne hq19 f18_q4
  have n19_q7_q19 := me_ne hq19 f18_q7
  have n19_q10_q19 := me_ne hq19 f18_q10
  have n19_q13_q19 := me_ne hq19 f18_q13
  have n19_q16_q19 := me_ne hq19 f18_q16
  have hw0q19 := hFr.no0 hq19 f18_o
  obtain ⟨w20, hw20⟩ : ∃ x : Me, x = me_u w18 q19 (eI G 12000 (fun _ => 0)) := ⟨_, rfl⟩
  have hP : me_P G.1 w20 H := by rw [hw20]; exact hP
  have f20_o := (congrFun hw20 o).trans ((me_un n19_o_q19).trans f18_o)
  have f20_q1 := (congrFun hw20 q1).trans ((me_un n19_q1_q19).trans f18_q1)
  have f20_q4 := (congrFun hw20 q4).trans ((me_un n19_q4_q19).trans f18_q4)
  have f20_q7 := (congrFun hw20 q7).trans ((me_un n19_q7_q19).trans f18_q7)
  have f20_q10 := (congrFun hw20 q10).trans ((me_un n19_q10_q19).trans f18_q10)
  have f20_q13 := (congrFun hw20 q13).trans ((me_un n19_q13_q19).trans f18_q13)
  have f20_q16 := (congrFun hw20 q16).trans ((me_un n19_q16_q19).trans f18_q16)
  have f20_q19 := (congrFun hw20 q19).trans (me_us _ _ _)
  have hFr : FrN w w20 o := by rw [hw20]; exact hFr.wp hw0q19
  refine me_putF C0 hP hS hBo f20_o rfl inX5 tyX5 tyX5_ok nmX5 7 (by decide) kw_484 rfl hin rfl rfl rfl (Nat.le_of_ble_eq_true rfl) dX5_init_64 (fun H locs hP hS => ?_)
  obtain ⟨w21, hw21⟩ : ∃ x : Me, x = me_u w20 o (eO 3 [.ref q1, .int 0, .ref q4, .ref q7, .ref q10, .ref q13, .ref q16, .ref q19, .null, .null, .null, .null, .int 0, .int 0, .null, .int 0, .null, .int 0, .null, .int 0, .null]) := ⟨_, rfl⟩
  have hP : me_P G.1 w21 H := by rw [hw21]; exact hP
  have f21_q1 := (congrFun hw21 q1).trans ((me_un (Ne.symm n1_o_q1)).trans f20_q1)
  have f21_q4 := (congrFun hw21 q4).trans ((me_un (Ne.symm n4_o_q4)).trans f20_q4)
  have f21_q7 := (congrFun hw21 q7).trans ((me_un (Ne.symm n7_o_q7)).trans f20_q7)
  have f21_q10 := (congrFun hw21 q10).trans ((me_un (Ne.symm n10_o_q10)).trans f20_q10)
  have f21_q13 := (congrFun hw21 q13).trans ((me_un (Ne.symm n13_o_q13)).trans f20_q13)
  have f21_q16 := (congrFun hw21 q16).trans ((me_un (Ne.symm n16_o_q16)).trans f20_q16)
  have f21_q19 := (congrFun hw21 q19).trans ((me_un (Ne.symm n19_o_q19)).trans f20_q19)
  have f21_o := (congrFun hw21 o).trans (me_us _ _ _)
  have hFr : FrN w w21 o := by rw [hw21]; exact hFr.wr
  refine lv_aload_n C0.1 C0.2.1 dX5_init_67 rfl (lv_at hl 0 rfl) ?_
  refine lv_sipush (v := 200) C0.1 C0.2.1 dX5_init_68 (by decide) ?_
  refine me_newI C0 hP hS kw_71 (N := 200) (by decide) (by decide) (by omega) (Nat.le_of_ble_eq_true rfl) (Nat.le_of_ble_eq_true rfl) dX5_init_71 (fun q22 H hq22 hBq22 hP hS => ?_)
  have n22_o_q22 := me_ne hq22 f21_o
  have n22_q1_q22 := me_ne hq22 f21_q1
  have n22_q4_q22 := me_ne hq22 f21_q4
  have n22_q7_q22 := me_ne hq22 f21_q7
  have n22_q10_q22 := me_ne hq22 f21_q10
  have n22_q13_q22 := me_ne hq22 f21_q13
  have n22_q16_q22 := me_ne hq22 f21_q16
  have n22_q19_q22 := me_ne hq22 f21_q19
  have hw0q22 := hFr.no0 hq22 f21_o
  obtain ⟨w23, hw23⟩ : ∃ x : Me, x = me_u w21 q22 (eI G 200 (fun _ => 0)) := ⟨_, rfl⟩
  have hP : me_P G.1 w23 H := by rw [hw23]; exact hP
  have f23_o := (congrFun hw23 o).trans ((me_un n22_o_q22).trans f21_o)
  have f23_q1 := (congrFun hw23 q1).trans ((me_un n22_q1_q22).trans f21_q1)
  have f23_q4 := (congrFun hw23 q4).trans ((me_un n22_q4_q22).trans f21_q4)
  have f23_q7 := (congrFun hw23 q7).trans ((me_un n22_q7_q22).trans f21_q7)
  have f23_q10 := (congrFun hw23 q10).trans ((me_un n22_q10_q22).trans f21_q10)
  have f23_q13 := (congrFun hw23 q13).trans ((me_un n22_q13_q22).trans f21_q13)
  have f23_q16 := (congrFun hw23 q16).trans ((me_un n22_q16_q22).trans f21_q16)
  have f23_q19 := (congrFun hw23 q19).trans ((me_un n22_q19_q22).trans f21_q19)
  have f23_q22 := (congrFun hw23 q22).trans (me_us _ _ _)
  have hFr : FrN w w23 o := by rw [hw23]; exact hFr.wp hw0q22
  refine me_putF C0 hP hS hBo f23_o rfl inX5 tyX5 tyX5_ok nmX5 8 (by decide) kw_485 rfl hin rfl rfl rfl (Nat.le_of_ble_eq_true rfl) dX5_init_73 (fun H locs hP hS => ?_)
  obtain ⟨w24, hw24⟩ : ∃ x : Me, x = me_u w23 o (eO 3 [.ref q1, .int 0, .ref q4, .ref q7, .ref q10, .ref q13, .ref q16, .ref q19, .ref q22, .null, .null, .null, .int 0, .int 0, .null, .int 0, .null, .int 0, .null, .int 0, .null]) := ⟨_, rfl⟩
  have hP : me_P G.1 w24 H := by rw [hw24]; exact hP
  have f24_q1 := (congrFun hw24 q1).trans ((me_un (Ne.symm n1_o_q1)).trans f23_q1)
  have f24_q4 := (congrFun hw24 q4).trans ((me_un (Ne.symm n4_o_q4)).trans f23_q4)
  have f24_q7 := (congrFun hw24 q7).trans ((me_un (Ne.symm n7_o_q7)).trans f23_q7)
  have f24_q10 := (congrFun hw24 q10).trans ((me_un (Ne.symm n10_o_q10)).trans f23_q10)
  have f24_q13 := (congrFun hw24 q13).trans ((me_un (Ne.symm n13_o_q13)).trans f23_q13)
  have f24_q16 := (congrFun hw24 q16).trans ((me_un (Ne.symm n16_o_q16)).trans f23_q16)
  have f24_q19 := (congrFun hw24 q19).trans ((me_un (Ne.symm n19_o_q19)).trans f23_q19)
  have f24_q22 := (congrFun hw24 q22).trans ((me_un (Ne.symm n22_o_q22)).trans f23_q22)
  have f24_o := (congrFun hw24 o).trans (me_us _ _ _)
  have hFr : FrN w w24 o := by rw [hw24]; exact hFr.wr
  refine lv_aload_n C0.1 C0.2.1 dX5_init_76 rfl (lv_at hl 0 rfl) ?_
  refine lv_sipush (v := 8000) C0.1 C0.2.1 dX5_init_77 (by decide) ?_
  refine me_newI C0 hP hS kw_71 (N := 8000) (by decide) (by decide) (by omega) (Nat.le_of_ble_eq_true rfl) (Nat.le_of_ble_eq_true rfl) dX5_init_80 (fun q25 H hq25 hBq25 hP hS => ?_)
  have n25_o_q25 := me_ne hq25 f24_o
  have n25_q1_q25 := me_ne hq25 f24_q1
  have n25_q4_q25 := me_ne hq25 f24_q4
  have n25_q7_q25 := me_ne hq25 f24_q7
  have n25_q10_q25 := me_ne hq25 f24_q10
  have n25_q13_q25 := me_ne hq25 f24_q13
  have n25_q16_q25 := me_ne hq25 f24_q16
  have n25_q19_q25 := me_ne hq25 f24_q19
  have n25_q22_q25 := me_ne hq25 f24_q22
  have hw0q25 := hFr.no0 hq25 f24_o
  obtain ⟨w26, hw26⟩ : ∃ x : Me, x = me_u w24 q25 (eI G 8000 (fun _ => 0)) := ⟨_, rfl⟩
  have hP : me_P G.1 w26 H := by rw [hw26]; exact hP
  have f26_o := (congrFun hw26 o).trans ((me_un n25_o_q25).trans f24_o)
  have f26_q1 := (congrFun hw26 q1).trans ((me_un n25_q1_q25).trans f24_q1)
  have f26_q4 := (congrFun hw26 q4).trans ((me_un n25_q4_q25).trans f24_q4)
  have f26_q7 := (congrFun hw26 q7).trans ((me_un n25_q7_q25).trans f24_q7)
  have f26_q10 := (congrFun hw26 q10).trans ((me_un n25_q10_q25).trans f24_q10)
  have f26_q13 := (congrFun hw26 q13).trans ((me_un n25_q13_q25).trans f24_q13)
  have f26_q16 := (congrFun hw26 q16).trans ((me_un n25_q16_q25).trans f24_q16)
  have f26_q19 := (congrFun hw26 q19).trans ((me_un n25_q19_q25).trans f24_q19)
  have f26_q22 := (congrFun hw26 q22).trans ((me_un n25_q22_q25).trans f24_q22)
  have f26_q25 := (congrFun hw26 q25).trans (me_us _ _ _)
  have hFr : FrN w w26 o := by rw [hw26]; exact hFr.wp hw0q25
  refine me_putF C0 hP hS hBo f26_o rfl inX5 tyX5 tyX5_ok nmX5 9 (by decide) kw_486 rfl hin rfl rfl rfl (Nat.le_of_ble_eq_true rfl) dX5_init_82 (fun H locs hP hS => ?_)
  obtain ⟨w27, hw27⟩ : ∃ x : Me, x = me_u w26 o (eO 3 [.ref q1, .int 0, .ref q4, .ref q7, .ref q10, .ref q13, .ref q16, .ref q19, .ref q22, .ref q25, .null, .null, .int 0, .int 0, .null, .int 0, .null, .int 0, .null, .int 0, .null]) := ⟨_, rfl⟩
  have hP : me_P G.1 w27 H := by rw [hw27]; exact hP
  have f27_q1 := (congrFun hw27 q1).trans ((me_un (Ne.symm n1_o_q1)).trans f26_q1)
  have f27_q4 := (congrFun hw27 q4).trans ((me_un (Ne.symm n4_o_q4)).trans f26_q4)
  have f27_q7 := (congrFun hw27 q7).trans ((me_un (Ne.symm n7_o_q7)).trans f26_q7)
  have f27_q10 := (congrFun hw27 q10).trans ((me_un (Ne.symm n10_o_q10)).trans f26_q10)
  have f27_q13 := (congrFun hw27 q13).trans ((me_un (Ne.symm n13_o_q13)).trans f26_q13)
  have f27_q16 := (congrFun hw27 q16).trans ((me_un (Ne.symm n16_o_q16)).trans f26_q16)
  have f27_q19 := (congrFun hw27 q19).trans ((me_un (Ne.symm n19_o_q19)).trans f26_q19)
  have f27_q22 := (congrFun hw27 q22).trans ((me_un (Ne.symm n22_o_q22)).trans f26_q22)
  have f27_q25 := (congrFun hw27 q25).trans ((me_un (Ne.symm n25_o_q25)).trans f26_q25)
  have f27_o := (congrFun hw27 o).trans (me_us _ _ _)
  have hFr : FrN w w27 o := by rw [hw27]; exact hFr.wr
  refine lv_aload_n C0.1 C0.2.1 dX5_init_85 rfl (lv_at hl 0 rfl) ?_
  refine lv_sipush (v := 200) C0.1 C0.2.1 dX5_init_86 (by decide) ?_
  refine me_newI C0 hP hS kw_71 (N := 200) (by decide) (by decide) (by omega) (Nat.le_of_ble_eq_true rfl) (Nat.le_of_ble_eq_true rfl) dX5_init_89 (fun q28 H hq28 hBq28 hP hS => ?_)
  have n28_o_q28 := me_ne hq28 f27_o
  have n28_q1_q28 := me_ne hq28 f27_q1
  have n28_q4_q28 := me_ne hq28 f27_q4
  have n28_q7_q28 := me_ne hq28 f27_q7
  have n28_q10_q28 := me_ne hq28 f27_q10
  have n28_q13_q28 := me_ne hq28 f27_q13
  have n28_q16_q28 := me_ne hq28 f27_q16
  have n28_q19_q28 := me_ne hq28 f27_q19
  have n28_q22_q28 := me_ne hq28 f27_q22
  have n28_q25_q28 := me_ne hq28 f27_q25
  have hw0q28 := hFr.no0 hq28 f27_o
  obtain ⟨w29, hw29⟩ : ∃ x : Me, x = me_u w27 q28 (eI G 200 (fun _ => 0)) := ⟨_, rfl⟩
  have hP : me_P G.1 w29 H := by rw [hw29]; exact hP
  have f29_o := (congrFun hw29 o).trans ((me_un n28_o_q28).trans f27_o)
  have f29_q1 := (congrFun hw29 q1).trans ((me_un n28_q1_q28).trans f27_q1)
  have f29_q4 := (congrFun hw29 q4).trans ((me_un n28_q4_q28).trans f27_q4)
  have f29_q7 := (congrFun hw29 q7).trans ((me_un n28_q7_q28).trans f27_q7)
  have f29_q10 := (congrFun hw29 q10).trans ((me_un n28_q10_q28).trans f27_q10)
  have f29_q13 := (congrFun hw29 q13).trans ((me_un n28_q13_q28).trans f27_q13)
  have f29_q16 := (congrFun hw29 q16).trans ((me_un n28_q16_q28).trans f27_q16)
  have f29_q19 := (congrFun hw29 q19).trans ((me_un n28_q19_q28).trans f27_q19)
  have f29_q22 := (congrFun hw29 q22).trans ((me_un n28_q22_q28).trans f27_q22)
  have f29_q25 := (congrFun hw29 q25).trans ((me_un n28_q25_q28).trans f27_q25)
  have f29_q28 := (congrFun hw29 q28).trans (me_us _ _ _)
  have hFr : FrN w w29 o := by rw [hw29]; exact hFr.wp hw0q28
  refine me_putF C0 hP hS hBo f29_o rfl inX5 tyX5 tyX5_ok nmX5 10 (by decide) kw_487 rfl hin rfl rfl rfl (Nat.le_of_ble_eq_true rfl) dX5_init_91 (fun H locs hP hS => ?_)
  obtain ⟨w30, hw30⟩ : ∃ x : Me, x = me_u w29 o (eO 3 [.ref q1, .int 0, .ref q4, .ref q7, .ref q10, .ref q13, .ref q16, .ref q19, .ref q22, .ref q25, .ref q28, .null, .int 0, .int 0, .null, .int 0, .null, .int 0, .null, .int 0, .null]) := ⟨_, rfl⟩
  have hP : me_P G.1 w30 H := by rw [hw30]; exact hP
  have f30_q1 := (congrFun hw30 q1).trans ((me_un (Ne.symm n1_o_q1)).trans f29_q1)
  have f30_q4 := (congrFun hw30 q4).trans ((me_un (Ne.symm n4_o_q4)).trans f29_q4)
  have f30_q7 := (congrFun hw30 q7).trans ((me_un (Ne.symm n7_o_q7)).trans f29_q7)
  have f30_q10 := (congrFun hw30 q10).trans ((me_un (Ne.symm n10_o_q10)).trans f29_q10)
  have f30_q13 := (congrFun hw30 q13).trans ((me_un (Ne.symm n13_o_q13)).trans f29_q13)
  have f30_q16 := (congrFun hw30 q16).trans ((me_un (Ne.symm n16_o_q16)).trans f29_q16)
  have f30_q19 := (congrFun hw30 q19).trans ((me_un (Ne.symm n19_o_q19)).trans f29_q19)
  have f30_q22 := (congrFun hw30 q22).trans ((me_un (Ne.symm n22_o_q22)).trans f29_q22)
  have f30_q25 := (congrFun hw30 q25).trans ((me_un (Ne.symm n25_o_q25)).trans f29_q25)
  have f30_q28 := (congrFun hw30 q28).trans ((me_un (Ne.symm n28_o_q28)).trans f29_q28)
  have f30_o := (congrFun hw30 o).trans (me_us _ _ _)
  have hFr : FrN w w30 o := by rw [hw30]; exact hFr.wr
  refine lv_aload_n C0.1 C0.2.1 dX5_init_94 rfl (lv_at hl 0 rfl) ?_
  refine lv_sipush (v := 400) C0.1 C0.2.1 dX5_init_95 (by decide) ?_
  refine me_newI C0 hP hS kw_71 (N := 400) (by decide) (by decide) (by omega) (Nat.le_of_ble_eq_true rfl) (Nat.le_of_ble_eq_true rfl) dX5_init_98 (fun q31 H hq31 hBq31 hP hS => ?_)
  have n31_o_q31 := me_ne hq31 f30_o
  have n31_q1_q31 := me_ne hq31 f30_q1
  have n31_q4_q31 := me_ne hq31 f30_q4
  have n31_q7_q31 := me_ne hq31 f30_q7
  have n31_q10_q31 := me_ne hq31 f30_q10
  have n31_q13_q31 := me_ne hq31 f30_q13
  have n31_q16_q31 := me_ne hq31 f30_q16
  have n31_q19_q31 := me_ne hq31 f30_q19
  have n31_q22_q31 := me_ne hq31 f30_q22
  have n31_q25_q31 := me_ne hq31 f30_q25
  have n31_q28_q31 := me_ne hq31 f30_q28
  have hw0q31 := hFr.no0 hq31 f30_o
  obtain ⟨w32, hw32⟩ : ∃ x : Me, x = me_u w30 q31 (eI G 400 (fun _ => 0)) := ⟨_, rfl⟩
  have hP : me_P G.1 w32 H := by rw [hw32]; exact hP
  have f32_o := (congrFun hw32 o).trans ((me_un n31_o_q31).trans f30_o)
  have f32_q1 := (congrFun hw32 q1).trans ((me_un n31_q1_q31).trans f30_q1)
  have f32_q4 := (congrFun hw32 q4).trans ((me_un n31_q4_q31).trans f30_q4)
  have f32_q7 := (congrFun hw32 q7).trans ((me_un n31_q7_q31).trans f30_q7)
  have f32_q10 := (congrFun hw32 q10).trans ((me_un n31_q10_q31).trans f30_q10)
  have f32_q13 := (congrFun hw32 q13).trans ((me_un n31_q13_q31).trans f30_q13)
  have f32_q16 := (congrFun hw32 q16).trans ((me_un n31_q16_q31).trans f30_q16)
  have f32_q19 := (congrFun hw32 q19).trans ((me_un n31_q19_q31).trans f30_q19)
  have f32_q22 := (congrFun hw32 q22).trans ((me_un n31_q22_q31).trans f30_q22)
  have f32_q25 := (congrFun hw32 q25).trans ((me_un n31_q25_q31).trans f30_q25)
  have f32_q28 := (congrFun hw32 q28).trans ((me_un n31_q28_q31).trans f30_q28)
  have f32_q31 := (congrFun hw32 q31).trans (me_us _ _ _)
  have hFr : FrN w w32 o := by rw [hw32]; exact hFr.wp hw0q31
  refine me_putF C0 hP hS hBo f32_o rfl inX5 tyX5 tyX5_ok nmX5 11 (by decide) kw_488 rfl hin rfl rfl rfl (Nat.le_of_ble_eq_true rfl) dX5_init_100 (fun H locs hP hS => ?_)
  obtain ⟨w33, hw33⟩ : ∃ x : Me, x = me_u w32 o (eO 3 [.ref q1, .int 0, .ref q4, .ref q7, .ref q10, .ref q13, .ref q16, .ref q19, .ref q22, .ref q25, .ref q28, .ref q31, .int 0, .int 0, .null, .int 0, .null, .int 0, .null, .int 0, .null]) := ⟨_, rfl⟩
  have hP : me_P G.1 w33 H := by rw [hw33]; exact hP
  have f33_q1 := (congrFun hw33 q1).trans ((me_un (Ne.symm n1_o_q1)).trans f32_q1)
  have f33_q4 := (congrFun hw33 q4).trans ((me_un (Ne.symm n4_o_q4)).trans f32_q4)
  have f33_q7 := (congrFun hw33 q7).trans ((me_un (Ne.symm n7_o_q7)).trans f32_q7)
  have f33_q10 := (congrFun hw33 q10).trans ((me_un (Ne.symm n10_o_q10)).trans f32_q10)
  have f33_q13 := (congrFun hw33 q13).trans ((me_un (Ne.symm n13_o_q13)).trans f32_q13)
  have f33_q16 := (congrFun hw33 q16).trans ((me_un (Ne.symm n16_o_q16)).trans f32_q16)
  have f33_q19 := (congrFun hw33 q19).trans ((me_un (Ne.symm n19_o_q19)).trans f32_q19)
  have f33_q22 := (congrFun hw33 q22).trans ((me_un (Ne.symm n22_o_q22)).trans f32_q22)
  have f33_q25 := (congrFun hw33 q25).trans ((me_un (Ne.symm n25_o_q25)).trans f32_q25)
  have f33_q28 := (congrFun hw33 q28).trans ((me_un (Ne.symm n28_o_q28)).trans f32_q28)
  have f33_q31 := (congrFun hw33 q31).trans ((me_un (Ne.symm n31_o_q31)).trans f32_q31)
  have f33_o := (congrFun hw33 o).trans (me_us _ _ _)
  have hFr : FrN w w33 o := by rw [hw33]; exact hFr.wr
  refine lv_aload_n C0.1 C0.2.1 dX5_init_103 rfl (lv_at hl 0 rfl) ?_
  refine lv_sipush (v := 200) C0.1 C0.2.1 dX5_init_104 (by decide) ?_
  refine me_newI C0 hP hS kw_71 (N := 200) (by decide) (by decide) (by omega) (Nat.le_of_ble_eq_true rfl) (Nat.le_of_ble_eq_true rfl) dX5_init_107 (fun q34 H hq34 hBq34 hP hS => ?_)
  have n34_o_q34 := me_ne hq34 f33_o
  have n34_q1_q34 := me_ne hq34 f33_q1
  have n34_q4_q34 := me_ne hq34 f33_q4
  have n34_q7_q34 := me_ne hq34 f33_q7
  have n34_q10_q34 := me_ne hq34 f33_q10
  have n34_q13_q34 := me_ne hq34 f33_q13
  have n34_q16_q34 := me_ne hq34 f33_q16
  have n34_q19_q34 := me_ne hq34 f33_q19
  have n34_q22_q34 := me_ne hq34 f33_q22
  have n34_q25_q34 := me_ne hq34 f33_q25
  have n34_q28_q34 := me_ne hq34 f33_q28
  have n34_q31_q34 := me_ne hq34 f33_q31
  have hw0q34 := hFr.no0 hq34 f33_o
  obtain ⟨w35, hw35⟩ : ∃ x : Me, x = me_u w33 q34 (eI G 200 (fun _ => 0)) := ⟨_, rfl⟩
  have hP : me_P G.1 w35 H := by rw [hw35]; exact hP
  have f35_o := (congrFun hw35 o).trans ((me_un n34_o_q34).trans f33_o)
  have f35_q1 := (congrFun hw35 q1).trans ((me_un n34_q1_q34).trans f33_q1)
  have f35_q4 := (congrFun hw35 q4).trans ((me_un n34_q4_q34).trans f33_q4)
  have f35_q7 := (congrFun hw35 q7).trans ((me_un n34_q7_q34).trans f33_q7)
  have f35_q10 := (congrFun hw35 q10).trans ((me_un n34_q10_q34).trans f33_q10)
  have f35_q13 := (congrFun hw35 q13).trans ((me_un n34_q13_q34).trans f33_q13)
  have f35_q16 := (congrFun hw35 q16).trans ((me_un n34_q16_q34).trans f33_q16)
  have f35_q19 := (congrFun hw35 q19).trans ((me_un n34_q19_q34).trans f33_q19)
  have f35_q22 := (congrFun hw35 q22).trans ((me_un n34_q22_q34).trans f33_q22)
  have f35_q25 := (congrFun hw35 q25).trans ((me_un n34_q25_q34).trans f33_q25)
  have f35_q28 := (congrFun hw35 q28).trans ((me_un n34_q28_q34).trans f33_q28)
  have f35_q31 := (congrFun hw35 q31).trans ((me_un n34_q31_q34).trans f33_q31)
  have f35_q34 := (congrFun hw35 q34).trans (me_us _ _ _)
  have hFr : FrN w w35 o := by rw [hw35]; exact hFr.wp hw0q34
  refine me_putF C0 hP hS hBo f35_o rfl inX5 tyX5 tyX5_ok nmX5 14 (by decide) kw_491 rfl hin rfl rfl rfl (Nat.le_of_ble_eq_true rfl) dX5_init_109 (fun H locs hP hS => ?_)
  obtain ⟨w36, hw36⟩ : ∃ x : Me, x = me_u w35 o (eO 3 [.ref q1, .int 0, .ref q4, .ref q7, .ref q10, .ref q13, .ref q16, .ref q19, .ref q22, .ref q25, .ref q28, .ref q31, .int 0, .int 0, .ref q34, .int 0, .null, .int 0, .null, .int 0, .null]) := ⟨_, rfl⟩
  have hP : me_P G.1 w36 H := by rw [hw36]; exact hP
  have f36_q1 := (congrFun hw36 q1).trans ((me_un (Ne.symm n1_o_q1)).trans f35_q1)
  have f36_q4 := (congrFun hw36 q4).trans ((me_un (Ne.symm n4_o_q4)).trans f35_q4)
  have f36_q7 := (congrFun hw36 q7).trans ((me_un (Ne.symm n7_o_q7)).trans f35_q7)
  have f36_q10 := (congrFun hw36 q10).trans ((me_un (Ne.symm n10_o_q10)).trans f35_q10)
  have f36_q13 := (congrFun hw36 q13).trans ((me_un (Ne.symm n13_o_q13)).trans f35_q13)
  have f36_q16 := (congrFun hw36 q16).trans ((me_un (Ne.symm n16_o_q16)).trans f35_q16)
  have f36_q19 := (congrFun hw36 q19).trans ((me_un (Ne.symm n19_o_q19)).trans f35_q19)
  have f36_q22 := (congrFun hw36 q22).trans ((me_un (Ne.symm n22_o_q22)).trans f35_q22)
  have f36_q25 := (congrFun hw36 q25).trans ((me_un (Ne.symm n25_o_q25)).trans f35_q25)
  have f36_q28 := (congrFun hw36 q28).trans ((me_un (Ne.symm n28_o_q28)).trans f35_q28)
  have f36_q31 := (congrFun hw36 q31).trans ((me_un (Ne.symm n31_o_q31)).trans f35_q31)
  have f36_q34 := (congrFun hw36 q34).trans ((me_un (Ne.symm n34_o_q34)).trans f35_q34)
  have f36_o := (congrFun hw36 o).trans (me_us _ _ _)
  have hFr : FrN w w36 o := by rw [hw36]; exact hFr.wr
  refine lv_aload_n C0.1 C0.2.1 dX5_init_112 rfl (lv_at hl 0 rfl) ?_
  refine lv_sipush (v := 200) C0.1 C0.2.1 dX5_init_113 (by decide) ?_
  refine me_newI C0 hP hS kw_71 (N := 200) (by decide) (by decide) (by omega) (Nat.le_of_ble_eq_true rfl) (Nat.le_of_ble_eq_true rfl) dX5_init_116 (fun q37 H hq37 hBq37 hP hS => ?_)
  have n37_o_q37 := me_ne hq37 f36_o
  have n37_q1_q37 := me_ne hq37 f36_q1
  have n37_q4_q37 := me_ne hq37 f36_q4
  have n37_q7_q37 := me_ne hq37 f36_q7
  have n37_q10_q37 := me_ne hq37 f36_q10
  have n37_q13_q37 := me_ne hq37 f36_q13
  have n37_q16_q37 := me_ne hq37 f36_q16
  have n37_q19_q37 := me_ne hq37 f36_q19
  have n37_q22_q37 := me_ne hq37 f36_q22
  have n37_q25_q37 := me_ne hq37 f36_q25
  have n37_q28_q37 := me_ne hq37 f36_q28
  have n37_q31_q37 := me_ne hq37 f36_q31
  have n37_q34_q37 := me_ne hq37 f36_q34
  have hw0q37 := hFr.no0 hq37 f36_o
  obtain ⟨w38, hw38⟩ : ∃ x : Me, x = me_u w36 q37 (eI G 200 (fun _ => 0)) := ⟨_, rfl⟩
  have hP : me_P G.1 w38 H := by rw [hw38]; exact hP
  have f38_o := (congrFun hw38 o).trans ((me_un n37_o_q37).trans f36_o)
  have f38_q1 := (congrFun hw38 q1).trans ((me_un n37_q1_q37).trans f36_q1)
  have f38_q4 := (congrFun hw38 q4).trans ((me_un n37_q4_q37).trans f36_q4)
  have f38_q7 := (congrFun hw38 q7).trans ((me_un n37_q7_q37).trans f36_q7)
  have f38_q10 := (congrFun hw38 q10).trans ((me_un n37_q10_q37).trans f36_q10)
  have f38_q13 := (congrFun hw38 q13).trans ((me_un n37_q13_q37).trans f36_q13)
  have f38_q16 := (congrFun hw38 q16).trans ((me_un n37_q16_q37).trans f36_q16)
  have f38_q19 := (congrFun hw38 q19).trans ((me_un n37_q19_q37).trans f36_q19)
  have f38_q22 := (congrFun hw38 q22).trans ((me_un n37_q22_q37).trans f36_q22)
  have f38_q25 := (congrFun hw38 q25).trans ((me_un n37_q25_q37).trans f36_q25)
  have f38_q28 := (congrFun hw38 q28).trans ((me_un n37_q28_q37).trans f36_q28)
  have f38_q31 := (congrFun hw38 q31).trans ((me_un n37_q31_q37).trans f36_q31)
  have f38_q34 := (congrFun hw38 q34).trans ((me_un n37_q34_q37).trans f36_q34)
  have f38_q37 := (congrFun hw38 q37).trans (me_us _ _ _)
  have hFr : FrN w w38 o := by rw [hw38]; exact hFr.wp hw0q37
  refine me_putF C0 hP hS hBo f38_o rfl inX5 tyX5 tyX5_ok nmX5 16 (by decide) kw_493 rfl hin rfl rfl rfl (Nat.le_of_ble_eq_true rfl) dX5_init_118 (fun H locs hP hS => ?_)
  obtain ⟨w39, hw39⟩ : ∃ x : Me, x = me_u w38 o (eO 3 [.ref q1, .int 0, .ref q4, .ref q7, .ref q10, .ref q13, .ref q16, .ref q19, .ref q22, .ref q25, .ref q28, .ref q31, .int 0, .int 0, .ref q34, .int 0, .ref q37, .int 0, .null, .int 0, .null]) := ⟨_, rfl⟩
  have hP : me_P G.1 w39 H := by rw [hw39]; exact hP
  have f39_q1 := (congrFun hw39 q1).trans ((me_un (Ne.symm n1_o_q1)).trans f38_q1)
  have f39_q4 := (congrFun hw39 q4).trans ((me_un (Ne.symm n4_o_q4)).trans f38_q4)
  have f39_q7 := (congrFun hw39 q7).trans ((me_un (Ne.symm n7_o_q7)).trans f38_q7)
  have f39_q10 := (congrFun hw39 q10).trans ((me_un (Ne.symm n10_o_q10)).trans f38_q10)
  have f39_q13 := (congrFun hw39 q13).trans ((me_un (Ne.symm n13_o_q13)).trans f38_q13)
  have f39_q16 := (congrFun hw39 q16).trans ((me_un (Ne.symm n16_o_q16)).trans f38_q16)
  have f39_q19 := (congrFun hw39 q19).trans ((me_un (Ne.symm n19_o_q19)).trans f38_q19)
  have f39_q22 := (congrFun hw39 q22).trans ((me_un (Ne.symm n22_o_q22)).trans f38_q22)
  have f39_q25 := (congrFun hw39 q25).trans ((me_un (Ne.symm n25_o_q25)).trans f38_q25)
  have f39_q28 := (congrFun hw39 q28).trans ((me_un (Ne.symm n28_o_q28)).trans f38_q28)
  have f39_q31 := (congrFun hw39 q31).trans ((me_un (Ne.symm n31_o_q31)).trans f38_q31)
  have f39_q34 := (congrFun hw39 q34).trans ((me_un (Ne.symm n34_o_q34)).trans f38_q34)
  have f39_q37 := (congrFun hw39 q37).trans ((me_un (Ne.symm n37_o_q37)).trans f38_q37)
  have f39_o := (congrFun hw39 o).trans (me_us _ _ _)
  have hFr : FrN w w39 o := by rw [hw39]; exact hFr.wr
  refine lv_aload_n C0.1 C0.2.1 dX5_init_121 rfl (lv_at hl 0 rfl) ?_
  refine lv_sipush (v := 400) C0.1 C0.2.1 dX5_init_122 (by decide) ?_
  refine me_newI C0 hP hS kw_71 (N := 400) (by decide) (by decide) (by omega) (Nat.le_of_ble_eq_true rfl) (Nat.le_of_ble_eq_true rfl) dX5_init_125 (fun q40 H hq40 hBq40 hP hS => ?_)
  have n40_o_q40 := me_ne hq40 f39_o
  have n40_q1_q40 := me_ne hq40 f39_q1
  have n40_q4_q40 := me_ne hq40 f39_q4
  have n40_q7_q40 := me_ne hq40 f39_q7
  have n40_q10_q40 := me_ne hq40 f39_q10
  have n40_q13_q40 := me_ne hq40 f39_q13
  have n40_q16_q40 := me_ne hq40 f39_q16
  have n40_q19_q40 := me_ne hq40 f39_q19
  have n40_q22_q40 := me_ne hq40 f39_q22
  have n40_q25_q40 := me_ne hq40 f39_q25
  have n40_q28_q40 := me_ne hq40 f39_q28
  have n40_q31_q40 := me_ne hq40 f39_q31
  have n40_q34_q40 := me_ne hq40 f39_q34
  have n40_q37_q40 := me_ne hq40 f39_q37
  have hw0q40 := hFr.no0 hq40 f39_o
  obtain ⟨w41, hw41⟩ : ∃ x : Me, x = me_u w39 q40 (eI G 400 (fun _ => 0)) := ⟨_, rfl⟩
  have hP : me_P G.1 w41 H := by rw [hw41]; exact hP
  have f41_o := (congrFun hw41 o).trans ((me_un n40_o_q40).trans f39_o)
  have f41_q1 := (congrFun hw41 q1).trans ((me_un n40_q1_q40).trans f39_q1)
  have f41_q4 := (congrFun hw41 q4).trans ((me_un n40_q4_q40).trans f39_q4)
  have f41_q7 := (congrFun hw41 q7).trans ((me_un n40_q7_q40).trans f39_q7)
  have f41_q10 := (congrFun hw41 q10).trans ((me_un n40_q10_q40).trans f39_q10)
  have f41_q13 := (congrFun hw41 q13).trans ((me_un n40_q13_q40).trans f39_q13)
  have f41_q16 := (congrFun hw41 q16).trans ((me_un n40_q16_q40).trans f39_q16)
  have f41_q19 := (congrFun hw41 q19).trans ((me_un n40_q19_q40).trans f39_q19)
  have f41_q22 := (congrFun hw41 q22).trans ((me_un n40_q22_q40).trans f39_q22)
  have f41_q25 := (congrFun hw41 q25).trans ((me_un n40_q25_q40).trans f39_q25)
  have f41_q28 := (congrFun hw41 q28).trans ((me_un n40_q28_q40).trans f39_q28)
  have f41_q31 := (congrFun hw41 q31).trans ((me_un n40_q31_q40).trans f39_q31)
  have f41_q34 := (congrFun hw41 q34).trans ((me_un n40_q34_q40).trans f39_q34)
  have f41_q37 := (congrFun hw41 q37).trans ((me_un n40_q37_q40).trans f39_q37)
  have f41_q40 := (congrFun hw41 q40).trans (me_us _ _ _)
  have hFr : FrN w w41 o := by rw [hw41]; exact hFr.wp hw0q40
  refine me_putF C0 hP hS hBo f41_o rfl inX5 tyX5 tyX5_ok nmX5 18 (by decide) kw_495 rfl hin rfl rfl rfl (Nat.le_of_ble_eq_true rfl) dX5_init_127 (fun H locs hP hS => ?_)
  obtain ⟨w42, hw42⟩ : ∃ x : Me, x = me_u w41 o (eO 3 [.ref q1, .int 0, .ref q4, .ref q7, .ref q10, .ref q13, .ref q16, .ref q19, .ref q22, .ref q25, .ref q28, .ref q31, .int 0, .int 0, .ref q34, .int 0, .ref q37, .int 0, .ref q40, .int 0, .null]) := ⟨_, rfl⟩
  have hP : me_P G.1 w42 H := by rw [hw42]; exact hP
  have f42_q1 := (congrFun hw42 q1).trans ((me_un (Ne.symm n1_o_q1)).trans f41_q1)
  have f42_q4 := (congrFun hw42 q4).trans ((me_un (Ne.symm n4_o_q4)).trans f41_q4)
  have f42_q7 := (congrFun hw42 q7).trans ((me_un (Ne.symm n7_o_q7)).trans f41_q7)
  have f42_q10 := (congrFun hw42 q10).trans ((me_un (Ne.symm n10_o_q10)).trans f41_q10)
  have f42_q13 := (congrFun hw42 q13).trans ((me_un (Ne.symm n13_o_q13)).trans f41_q13)
  have f42_q16 := (congrFun hw42 q16).trans ((me_un (Ne.symm n16_o_q16)).trans f41_q16)
  have f42_q19 := (congrFun hw42 q19).trans ((me_un (Ne.symm n19_o_q19)).trans f41_q19)
  have f42_q22 := (congrFun hw42 q22).trans ((me_un (Ne.symm n22_o_q22)).trans f41_q22)
  have f42_q25 := (congrFun hw42 q25).trans ((me_un (Ne.symm n25_o_q25)).trans f41_q25)
  have f42_q28 := (congrFun hw42 q28).trans ((me_un (Ne.symm n28_o_q28)).trans f41_q28)
  have f42_q31 := (congrFun hw42 q31).trans ((me_un (Ne.symm n31_o_q31)).trans f41_q31)
  have f42_q34 := (congrFun hw42 q34).trans ((me_un (Ne.symm n34_o_q34)).trans f41_q34)
  have f42_q37 := (congrFun hw42 q37).trans ((me_un (Ne.symm n37_o_q37)).trans f41_q37)
  have f42_q40 := (congrFun hw42 q40).trans ((me_un (Ne.symm n40_o_q40)).trans f41_q40)
  have f42_o := (congrFun hw42 o).trans (me_us _ _ _)
  have hFr : FrN w w42 o := by rw [hw42]; exact hFr.wr
  refine lv_aload_n C0.1 C0.2.1 dX5_init_130 rfl (lv_at hl 0 rfl) ?_
  refine lv_sipush (v := 200) C0.1 C0.2.1 dX5_init_131 (by decide) ?_
  refine me_newI C0 hP hS kw_71 (N := 200) (by decide) (by decide) (by omega) (Nat.le_of_ble_eq_true rfl) (Nat.le_of_ble_eq_true rfl) dX5_init_134 (fun q43 H hq43 hBq43 hP hS => ?_)
  have n43_o_q43 := me_ne hq43 f42_o
  have n43_q1_q43 := me_ne hq43 f42_q1
  have n43_q4_q43 := me_ne hq43 f42_q4
  have n43_q7_q43 := me_ne hq43 f42_q7
  have n43_q10_q43 := me_ne hq43 f42_q10
  have n43_q13_q43 := me_ne hq43 f42_q13
  have n43_q16_q43 := me_ne hq43 f42_q16
  have n43_q19_q43 := me_ne hq43 f42_q19
  have n43_q22_q43 := me_ne hq43 f42_q22
  have n43_q25_q43 := me_ne hq43 f42_q25
  have n43_q28_q43 := me_ne hq43 f42_q28
  have n43_q31_q43 := me_ne hq43 f42_q31
  have n43_q34_q43 := me_ne hq43 f42_q34
  have n43_q37_q43 := me_ne hq43 f42_q37
  have n43_q40_q43 := me_ne hq43 f42_q40
  have hw0q43 := hFr.no0 hq43 f42_o
  obtain ⟨w44, hw44⟩ : ∃ x : Me, x = me_u w42 q43 (eI G 200 (fun _ => 0)) := ⟨_, rfl⟩
  have hP : me_P G.1 w44 H := by rw [hw44]; exact hP
  have f44_o := (congrFun hw44 o).trans ((me_un n43_o_q43).trans f42_o)
  have f44_q1 := (congrFun hw44 q1).trans ((me_un n43_q1_q43).trans f42_q1)
  have f44_q4 := (congrFun hw44 q4).trans ((me_un n43_q4_q43).trans f42_q4)
  have f44_q7 := (congrFun hw44 q7).trans ((me_un n43_q7_q43).trans f42_q7)
  have f44_q10 := (congrFun hw44 q10).trans ((me_un n43_q10_q43).trans f42_q10)
  have f44_q13 := (congrFun hw44 q13).trans ((me_un n43_q13_q43).trans f42_q13)
  have f44_q16 := (congrFun hw44 q16).trans ((me_un n43_q16_q43).trans f42_q16)
  have f44_q19 := (congrFun hw44 q19).trans ((me_un n43_q19_q43).trans f42_q19)
  have f44_q22 := (congrFun hw44 q22).trans ((me_un n43_q22_q43).trans f42_q22)
  have f44_q25 := (congrFun hw44 q25).trans ((me_un n43_q25_q43).trans f42_q25)
  have f44_q28 := (congrFun hw44 q28).trans ((me_un n43_q28_q43).trans f42_q28)
  have f44_q31 := (congrFun hw44 q31).trans ((me_un n43_q31_q43).trans f42_q31)
  have f44_q34 := (congrFun hw44 q34).trans ((me_un n43_q34_q43).trans f42_q34)
  have f44_q37 := (congrFun hw44 q37).trans ((me_un n43_q37_q43).trans f42_q37)
  have f44_q40 := (congrFun hw44 q40).trans ((me_un n43_q40_q43).trans f42_q40)
  have f44_q43 := (congrFun hw44 q43).trans (me_us _ _ _)
  have hFr : FrN w w44 o := by rw [hw44]; exact hFr.wp hw0q43
  refine me_putF C0 hP hS hBo f44_o rfl inX5 tyX5 tyX5_ok nmX5 20 (by decide) kw_497 rfl hin rfl rfl rfl (Nat.le_of_ble_eq_true rfl) dX5_init_136 (fun H locs hP hS => ?_)
  obtain ⟨w45, hw45⟩ : ∃ x : Me, x = me_u w44 o (eO 3 [.ref q1, .int 0, .ref q4, .ref q7, .ref q10, .ref q13, .ref q16, .ref q19, .ref q22, .ref q25, .ref q28, .ref q31, .int 0, .int 0, .ref q34, .int 0, .ref q37, .int 0, .ref q40, .int 0, .ref q43]) := ⟨_, rfl⟩
  have hP : me_P G.1 w45 H := by rw [hw45]; exact hP
  have f45_q1 := (congrFun hw45 q1).trans ((me_un (Ne.symm n1_o_q1)).trans f44_q1)
  have f45_q4 := (congrFun hw45 q4).trans ((me_un (Ne.symm n4_o_q4)).trans f44_q4)
  have f45_q7 := (congrFun hw45 q7).trans ((me_un (Ne.symm n7_o_q7)).trans f44_q7)
  have f45_q10 := (congrFun hw45 q10).trans ((me_un (Ne.symm n10_o_q10)).trans f44_q10)
  have f45_q13 := (congrFun hw45 q13).trans ((me_un (Ne.symm n13_o_q13)).trans f44_q13)
  have f45_q16 := (congrFun hw45 q16).trans ((me_un (Ne.symm n16_o_q16)).trans f44_q16)
  have f45_q19 := (congrFun hw45 q19).trans ((me_un (Ne.symm n19_o_q19)).trans f44_q19)
  have f45_q22 := (congrFun hw45 q22).trans ((me_un (Ne.symm n22_o_q22)).trans f44_q22)
  have f45_q25 := (congrFun hw45 q25).trans ((me_un (Ne.symm n25_o_q25)).trans f44_q25)
  have f45_q28 := (congrFun hw45 q28).trans ((me_un (Ne.symm n28_o_q28)).trans f44_q28)
  have f45_q31 := (congrFun hw45 q31).trans ((me_un (Ne.symm n31_o_q31)).trans f44_q31)
  have f45_q34 := (congrFun hw45 q34).trans ((me_un (Ne.symm n34_o_q34)).trans f44_q34)
  have f45_q37 := (congrFun hw45 q37).trans ((me_un (Ne.symm n37_o_q37)).trans f44_q37)
  have f45_q40 := (congrFun hw45 q40).trans ((me_un (Ne.symm n40_o_q40)).trans f44_q40)
  have f45_q43 := (congrFun hw45 q43).trans ((me_un (Ne.symm n43_o_q43)).trans f44_q43)
  have f45_o := (congrFun hw45 o).trans (me_us _ _ _)
  have hFr : FrN w w45 o := by rw [hw45]; exact hFr.wr
  refine lv_aload_n C0.1 C0.2.1 dX5_init_139 rfl (lv_at hl 0 rfl) ?_
  refine me_get C0 hP f45_o rfl inX5 2 (by decide) kw_479 rfl dX5_init_140 ?_
  refine lv_iconst (v := 0) C0.1 C0.2.1 dX5_init_143 (by decide) ?_
  refine lv_iconst (v := 1) C0.1 C0.2.1 dX5_init_144 (by decide) ?_
  refine me_zastN C0 hP hS hBq4 f45_q4 (i := 0) (by omega) (by omega) narrow_b1 dX5_init_145 (fun H locs hP hS => ?_)
  obtain ⟨w46, hw46⟩ : ∃ x : Me, x = me_u w45 q4 (eZ G 200 (upd (fun _ => 0) 0 1)) := ⟨_, rfl⟩
  have hP : me_P G.1 w46 H := by rw [hw46]; exact hP
  have f46_o := (congrFun hw46 o).trans ((me_un n4_o_q4).trans f45_o)
  have f46_q1 := (congrFun hw46 q1).trans ((me_un n4_q1_q4).trans f45_q1)
  have f46_q7 := (congrFun hw46 q7).trans ((me_un (Ne.symm n7_q4_q7)).trans f45_q7)
  have f46_q10 := (congrFun hw46 q10).trans ((me_un (Ne.symm n10_q4_q10)).trans f45_q10)
  have f46_q13 := (congrFun hw46 q13).trans ((me_un (Ne.symm n13_q4_q13)).trans f45_q13)
  have f46_q16 := (congrFun hw46 q16).trans ((me_un (Ne.symm n16_q4_q16)).trans f45_q16)
  have f46_q19 := (congrFun hw46 q19).trans ((me_un (Ne.symm n19_q4_q19)).trans f45_q19)
  have f46_q22 := (congrFun hw46 q22).trans ((me_un (Ne.symm n22_q4_q22)).trans f45_q22)
  have f46_q25 := (congrFun hw46 q25).trans ((me_un (Ne.symm n25_q4_q25)).trans f45_q25)
  have f46_q28 := (congrFun hw46 q28).trans ((me_un (Ne.symm n28_q4_q28)).trans f45_q28)
  have f46_q31 := (congrFun hw46 q31).trans ((me_un (Ne.symm n31_q4_q31)).trans f45_q31)
  have f46_q34 := (congrFun hw46 q34).trans ((me_un (Ne.symm n34_q4_q34)).trans f45_q34)
  have f46_q37 := (congrFun hw46 q37).trans ((me_un (Ne.symm n37_q4_q37)).trans f45_q37)
  have f46_q40 := (congrFun hw46 q40).trans ((me_un (Ne.symm n40_q4_q40)).trans f45_q40)
  have f46_q43 := (congrFun hw46 q43).trans ((me_un (Ne.symm n43_q4_q43)).trans f45_q43)
  have f46_q4 := (congrFun hw46 q4).trans (me_us _ _ _)
  have hFr : FrN w w46 o := by rw [hw46]; exact hFr.wp hw0q4
  refine lv_aload_n C0.1 C0.2.1 dX5_init_146 rfl (lv_at hl 0 rfl) ?_
  refine me_get C0 hP f46_o rfl inX5 3 (by decide) kw_480 rfl dX5_init_147 ?_
  refine lv_iconst (v := 0) C0.1 C0.2.1 dX5_init_150 (by decide) ?_
  refine lv_iconst (v := 1) C0.1 C0.2.1 dX5_init_151 (by decide) ?_
  refine me_zastN C0 hP hS hBq7 f46_q7 (i := 0) (by omega) (by omega) narrow_b1 dX5_init_152 (fun H locs hP hS => ?_)
  obtain ⟨w47, hw47⟩ : ∃ x : Me, x = me_u w46 q7 (eZ G 200 (upd (fun _ => 0) 0 1)) := ⟨_, rfl⟩
  have hP : me_P G.1 w47 H := by rw [hw47]; exact hP
  have f47_o := (congrFun hw47 o).trans ((me_un n7_o_q7).trans f46_o)
  have f47_q1 := (congrFun hw47 q1).trans ((me_un n7_q1_q7).trans f46_q1)
  have f47_q4 := (congrFun hw47 q4).trans ((me_un n7_q4_q7).trans f46_q4)
  have f47_q10 := (congrFun hw47 q10).trans ((me_un (Ne.symm n10_q7_q10)).trans f46_q10)
  have f47_q13 := (congrFun hw47 q13).trans ((me_un (Ne.symm n13_q7_q13)).trans f46_q13)
  have f47_q16 := (congrFun hw47 q16).trans ((me_un (Ne.symm n16_q7_q16)).trans f46_q16)
  have f47_q19 := (congrFun hw47 q19).trans ((me_un (Ne.symm n19_q7_q19)).trans f46_q19)
  have f47_q22 := (congrFun hw47 q22).trans ((me_un (Ne.symm n22_q7_q22)).trans f46_q22)
  have f47_q25 := (congrFun hw47 q25).trans ((me_un (Ne.symm n25_q7_q25)).trans f46_q25)
  have f47_q28 := (congrFun hw47 q28).trans ((me_un (Ne.symm n28_q7_q28)).trans f46_q28)
  have f47_q31 := (congrFun hw47 q31).trans ((me_un (Ne.symm n31_q7_q31)).trans f46_q31)
  have f47_q34 := (congrFun hw47 q34).trans ((me_un (Ne.symm n34_q7_q34)).trans f46_q34)
  have f47_q37 := (congrFun hw47 q37).trans ((me_un (Ne.symm n37_q7_q37)).trans f46_q37)
  have f47_q40 := (congrFun hw47 q40).trans ((me_un (Ne.symm n40_q7_q40)).trans f46_q40)
  have f47_q43 := (congrFun hw47 q43).trans ((me_un (Ne.symm n43_q7_q43)).trans f46_q43)
  have f47_q7 := (congrFun hw47 q7).trans (me_us _ _ _)
  have hFr : FrN w w47 o := by rw [hw47]; exact hFr.wp hw0q7
  refine lv_aload_n C0.1 C0.2.1 dX5_init_153 rfl (lv_at hl 0 rfl) ?_
  refine me_get C0 hP f47_o rfl inX5 4 (by decide) kw_481 rfl dX5_init_154 ?_
  refine lv_iconst (v := 0) C0.1 C0.2.1 dX5_init_157 (by decide) ?_
  refine lv_iconst (v := (-1)) C0.1 C0.2.1 dX5_init_158 (by decide) ?_
  refine me_iastN C0 hP hS hBq10 f47_q10 (i := 0) (by omega) (by omega) dX5_init_159 (fun H locs hP hS => ?_)
  obtain ⟨w48, hw48⟩ : ∃ x : Me, x = me_u w47 q10 (eI G 200 (upd (fun _ => 0) 0 (-1))) := ⟨_, rfl⟩
  have hP : me_P G.1 w48 H := by rw [hw48]; exact hP
  have f48_o := (congrFun hw48 o).trans ((me_un n10_o_q10).trans f47_o)
  have f48_q1 := (congrFun hw48 q1).trans ((me_un n10_q1_q10).trans f47_q1)
  have f48_q4 := (congrFun hw48 q4).trans ((me_un n10_q4_q10).trans f47_q4)
  have f48_q7 := (congrFun hw48 q7).trans ((me_un n10_q7_q10).trans f47_q7)
  have f48_q13 := (congrFun hw48 q13).trans ((me_un (Ne.symm n13_q10_q13)).trans f47_q13)
  have f48_q16 := (congrFun hw48 q16).trans ((me_un (Ne.symm n16_q10_q16)).trans f47_q16)
  have f48_q19 := (congrFun hw48 q19).trans ((me_un (Ne.symm n19_q10_q19)).trans f47_q19)
  have f48_q22 := (congrFun hw48 q22).trans ((me_un (Ne.symm n22_q10_q22)).trans f47_q22)
  have f48_q25 := (congrFun hw48 q25).trans ((me_un (Ne.symm n25_q10_q25)).trans f47_q25)
  have f48_q28 := (congrFun hw48 q28).trans ((me_un (Ne.symm n28_q10_q28)).trans f47_q28)
  have f48_q31 := (congrFun hw48 q31).trans ((me_un (Ne.symm n31_q10_q31)).trans f47_q31)
  have f48_q34 := (congrFun hw48 q34).trans ((me_un (Ne.symm n34_q10_q34)).trans f47_q34)
  have f48_q37 := (congrFun hw48 q37).trans ((me_un (Ne.symm n37_q10_q37)).trans f47_q37)
  have f48_q40 := (congrFun hw48 q40).trans ((me_un (Ne.symm n40_q10_q40)).trans f47_q40)
  have f48_q43 := (congrFun hw48 q43).trans ((me_un (Ne.symm n43_q10_q43)).trans f47_q43)
  have f48_q10 := (congrFun hw48 q10).trans (me_us _ _ _)
  have hFr : FrN w w48 o := by rw [hw48]; exact hFr.wp hw0q10
  have hLn : ([q1, q4, q7, q10, q13, q16, q19, q22, q25, q28, q31, q34, q37, q40, q43] : List Nat).Nodup := (List.nodup_cons.mpr ⟨(nm_cons n4_q1_q4 (nm_cons n7_q1_q7 (nm_cons n10_q1_q10 (nm_cons n13_q1_q13 (nm_cons n16_q1_q16 (nm_cons n19_q1_q19 (nm_cons n22_q1_q22 (nm_cons n25_q1_q25 (nm_cons n28_q1_q28 (nm_cons n31_q1_q31 (nm_cons n34_q1_q34 (nm_cons n37_q1_q37 (nm_cons n40_q1_q40 (nm_cons n43_q1_q43 (nm_nil))))))))))))))), (List.nodup_cons.mpr ⟨(nm_cons n7_q4_q7 (nm_cons n10_q4_q10 (nm_cons n13_q4_q13 (nm_cons n16_q4_q16 (nm_cons n19_q4_q19 (nm_cons n22_q4_q22 (nm_cons n25_q4_q25 (nm_cons n28_q4_q28 (nm_cons n31_q4_q31 (nm_cons n34_q4_q34 (nm_cons n37_q4_q37 (nm_cons n40_q4_q40 (nm_cons n43_q4_q43 (nm_nil)))))))))))))), (List.nodup_cons.mpr ⟨(nm_cons n10_q7_q10 (nm_cons n13_q7_q13 (nm_cons n16_q7_q16 (nm_cons n19_q7_q19 (nm_cons n22_q7_q22 (nm_cons n25_q7_q25 (nm_cons n28_q7_q28 (nm_cons n31_q7_q31 (nm_cons n34_q7_q34 (nm_cons n37_q7_q37 (nm_cons n40_q7_q40 (nm_cons n43_q7_q43 (nm_nil))))))))))))), (List.nodup_cons.mpr ⟨(nm_cons n13_q10_q13 (nm_cons n16_q10_q16 (nm_cons n19_q10_q19 (nm_cons n22_q10_q22 (nm_cons n25_q10_q25 (nm_cons n28_q10_q28 (nm_cons n31_q10_q31 (nm_cons n34_q10_q34 (nm_cons n37_q10_q37 (nm_cons n40_q10_q40 (nm_cons n43_q10_q43 (nm_nil)))))))))))), (List.nodup_cons.mpr ⟨(nm_cons n16_q13_q16 (nm_cons n19_q13_q19 (nm_cons n22_q13_q22 (nm_cons n25_q13_q25 (nm_cons n28_q13_q28 (nm_cons n31_q13_q31 (nm_cons n34_q13_q34 (nm_cons n37_q13_q37 (nm_cons n40_q13_q40 (nm_cons n43_q13_q43 (nm_nil))))))))))), (List.nodup_cons.mpr ⟨(nm_cons n19_q16_q19 (nm_cons n22_q16_q22 (nm_cons n25_q16_q25 (nm_cons n28_q16_q28 (nm_cons n31_q16_q31 (nm_cons n34_q16_q34 (nm_cons n37_q16_q37 (nm_cons n40_q16_q40 (nm_cons n43_q16_q43 (nm_nil)))))))))), (List.nodup_cons.mpr ⟨(nm_cons n22_q19_q22 (nm_cons n25_q19_q25 (nm_cons n28_q19_q28 (nm_cons n31_q19_q31 (nm_cons n34_q19_q34 (nm_cons n37_q19_q37 (nm_cons n40_q19_q40 (nm_cons n43_q19_q43 (nm_nil))))))))), (List.nodup_cons.mpr ⟨(nm_cons n25_q22_q25 (nm_cons n28_q22_q28 (nm_cons n31_q22_q31 (nm_cons n34_q22_q34 (nm_cons n37_q22_q37 (nm_cons n40_q22_q40 (nm_cons n43_q22_q43 (nm_nil)))))))), (List.nodup_cons.mpr ⟨(nm_cons n28_q25_q28 (nm_cons n31_q25_q31 (nm_cons n34_q25_q34 (nm_cons n37_q25_q37 (nm_cons n40_q25_q40 (nm_cons n43_q25_q43 (nm_nil))))))), (List.nodup_cons.mpr ⟨(nm_cons n31_q28_q31 (nm_cons n34_q28_q34 (nm_cons n37_q28_q37 (nm_cons n40_q28_q40 (nm_cons n43_q28_q43 (nm_nil)))))), (List.nodup_cons.mpr ⟨(nm_cons n34_q31_q34 (nm_cons n37_q31_q37 (nm_cons n40_q31_q40 (nm_cons n43_q31_q43 (nm_nil))))), (List.nodup_cons.mpr ⟨(nm_cons n37_q34_q37 (nm_cons n40_q34_q40 (nm_cons n43_q34_q43 (nm_nil)))), (List.nodup_cons.mpr ⟨(nm_cons n40_q37_q40 (nm_cons n43_q37_q43 (nm_nil))), (List.nodup_cons.mpr ⟨(nm_cons n43_q40_q43 (nm_nil)), (List.nodup_cons.mpr ⟨nm_nil, List.nodup_nil⟩)⟩)⟩)⟩)⟩)⟩)⟩)⟩)⟩)⟩)⟩)⟩)⟩)⟩)⟩)
  exact me_wvret _ C0.1 C0.2.1 B.returns B.notSynchronized hP hS (Nat.le_of_ble_eq_true rfl) (Nat.le_of_ble_eq_true rfl) (⟨fun k => ([q1, q4, q7, q10, q13, q16, q19, q22, q25, q28, q31, q34, q37, q40, q43] : List Nat).getD (ixA k) 0, ⟨f48_o, (by intro k hk; simp only [mdA, List.mem_cons, List.not_mem_nil, or_false] at hk; rcases hk with rfl | rfl | rfl | rfl | rfl | rfl | rfl | rfl | rfl | rfl | rfl | rfl | rfl | rfl | rfl; exact f48_q1; exact f48_q4; exact f48_q7; exact f48_q10; exact f48_q13; exact f48_q16; exact f48_q19; exact f48_q22; exact f48_q25; exact f48_q28; exact f48_q31; exact f48_q34; exact f48_q37; exact f48_q40; exact f48_q43), (by intro k hk; simp only [mdA, List.mem_cons, List.not_mem_nil, or_false] at hk; rcases hk with rfl | rfl | rfl | rfl | rfl | rfl | rfl | rfl | rfl | rfl | rfl | rfl | rfl | rfl | rfl; exact (Ne.symm n1_o_q1); exact (Ne.symm n4_o_q4); exact (Ne.symm n7_o_q7); exact (Ne.symm n10_o_q10); exact (Ne.symm n13_o_q13); exact (Ne.symm n16_o_q16); exact (Ne.symm n19_o_q19); exact (Ne.symm n22_o_q22); exact (Ne.symm n25_o_q25); exact (Ne.symm n28_o_q28); exact (Ne.symm n31_o_q31); exact (Ne.symm n34_o_q34); exact (Ne.symm n37_o_q37); exact (Ne.symm n40_o_q40); exact (Ne.symm n43_o_q43)), md_inj hLn rfl, hBo, (by intro k hk; simp only [mdA, List.mem_cons, List.not_mem_nil, or_false] at hk; rcases hk with rfl | rfl | rfl | rfl | rfl | rfl | rfl | rfl | rfl | rfl | rfl | rfl | rfl | rfl | rfl; exact hBq1; exact hBq4; exact hBq7; exact hBq10; exact hBq13; exact hBq16; exact hBq19; exact hBq22; exact hBq25; exact hBq28; exact hBq31; exact hBq34; exact hBq37; exact hBq40; exact hBq43)⟩, (by intro k hk; simp only [mdA, List.mem_cons, List.not_mem_nil, or_false] at hk; rcases hk with rfl | rfl | rfl | rfl | rfl | rfl | rfl | rfl | rfl | rfl | rfl | rfl | rfl | rfl | rfl; exact hw0q1; exact hw0q4; exact hw0q7; exact hw0q10; exact hw0q13; exact hw0q16; exact hw0q19; exact hw0q22; exact hw0q25; exact hw0q28; exact hw0q31; exact hw0q34; exact hw0q37; exact hw0q40; exact hw0q43), hFr⟩) dX5_init_160
