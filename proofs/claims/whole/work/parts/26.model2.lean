set_option maxHeartbeats 4000000 in
set_option maxRecDepth 100000 in
/-- letters(k) -/
theorem c_X5_letters (l : Launch) (G : me_G) (B0 : Nat) (w : Me) (k : Nat) (hk : k ≤ 7) : CtL l yX5_letters (Cond.code yX5_letters cX5_letters 1 (some .long)) ({ frames := 0, cells := 0, slots := 0, locals := 0 }) G B0 w [.int (nI k)] (fun r => r = lettL.getD k 0) := by
  refine Met.ofW (cc := cX5_letters) (maxL := 1) (ret := (some .long)) (by decide) rfl ?_
  intro p e s m args below meth c s₁ B hml hv
  obtain ⟨rfl, hK, hP, hKq, hBs⟩ := hv
  have hts := fun w h => atoms_spec (ws := Cond.code yX5_letters cX5_letters 1 (some .long) :: tbG) B.pre w (List.mem_cons_of_mem _ h)
  have hown : s.vm.findClass RX5 = some m.cls := findClass_of_methodNamed B.named
  have C0 : Cx G B0 p s m _ c cX5_letters RX5 := ⟨B.exec, B.bytes, hown, hts, hK, hKq, hBs⟩
  have hS : va_S (me_A B0) s.heap s.heap [] := va_S.rf
  have hl := lv_entry ([.int (nI k)]) (n := 1) (Nat.le_of_ble_eq_true rfl)
  rw [lg_entry_eq]
  generalize (lg_sl ([.int (nI k)]) ++ List.replicate (1 - (lg_sl ([.int (nI k)])).length) Slot.unset).toArray = ls at hl ⊢
  have hl : lv_has ls 1 [(0, .int (nI k))] := hl
  refine lv_iload_n C0.1 C0.2.1 dX5_letters_0 rfl (lv_at hl 0 rfl) ?_
  rcases (show k = 0 ∨ k = 1 ∨ k = 2 ∨ k = 3 ∨ k = 4 ∨ k = 5 ∨ k = 6 ∨ k = 7 by omega) with rfl | rfl | rfl | rfl | rfl | rfl | rfl | rfl
  · refine lv_tableIn (off := 43) (tgt := 44) C0.1 C0.2.1 dX5_letters_1 (by decide) (by decide) (by decide) (by decide) ?_
    refine lv_ldc2 (v := 4854670671852159297) C0.1 C0.2.1 C0.2.2.1 (C0.2.2.2.1 _ kw_578) dX5_letters_44 ?_
    exact me_lret C0.1 C0.2.1 B.returns B.notSynchronized rfl rfl (rfl) dX5_letters_47
  · refine lv_tableIn (off := 47) (tgt := 48) C0.1 C0.2.1 dX5_letters_1 (by decide) (by decide) (by decide) (by decide) ?_
    refine lv_ldc2 (v := 5280832617112225093) C0.1 C0.2.1 C0.2.2.1 (C0.2.2.2.1 _ kw_579) dX5_letters_48 ?_
    exact me_lret C0.1 C0.2.1 B.returns B.notSynchronized rfl rfl (rfl) dX5_letters_51
  · refine lv_tableIn (off := 51) (tgt := 52) C0.1 C0.2.1 dX5_letters_1 (by decide) (by decide) (by decide) (by decide) ?_
    refine lv_ldc2 (v := 6867795158814903903) C0.1 C0.2.1 C0.2.2.1 (C0.2.2.2.1 _ kw_580) dX5_letters_52 ?_
    exact me_lret C0.1 C0.2.1 B.returns B.notSynchronized rfl rfl (rfl) dX5_letters_55
  · refine lv_tableIn (off := 55) (tgt := 56) C0.1 C0.2.1 dX5_letters_1 (by decide) (by decide) (by decide) (by decide) ?_
    refine lv_ldc2 (v := 6872309779429414239) C0.1 C0.2.1 C0.2.2.1 (C0.2.2.2.1 _ kw_581) dX5_letters_56 ?_
    exact me_lret C0.1 C0.2.1 B.returns B.notSynchronized rfl rfl (rfl) dX5_letters_59
  · refine lv_tableIn (off := 59) (tgt := 60) C0.1 C0.2.1 dX5_letters_1 (by decide) (by decide) (by decide) (by decide) ?_
    refine lv_ldc2 (v := 7160549003415871841) C0.1 C0.2.1 C0.2.2.1 (C0.2.2.2.1 _ kw_582) dX5_letters_60 ?_
    exact me_lret C0.1 C0.2.1 B.returns B.notSynchronized rfl rfl (rfl) dX5_letters_63
  · refine lv_tableIn (off := 63) (tgt := 64) C0.1 C0.2.1 dX5_letters_1 (by decide) (by decide) (by decide) (by decide) ?_
    refine lv_ldc2 (v := 7595718147930678629) C0.1 C0.2.1 C0.2.2.1 (C0.2.2.2.1 _ kw_583) dX5_letters_64 ?_
    exact me_lret C0.1 C0.2.1 B.returns B.notSynchronized rfl rfl (rfl) dX5_letters_67
  · refine lv_tableIn (off := 67) (tgt := 68) C0.1 C0.2.1 dX5_letters_1 (by decide) (by decide) (by decide) (by decide) ?_
    refine lv_ldc2 (v := 6876837680419663455) C0.1 C0.2.1 C0.2.2.1 (C0.2.2.2.1 _ kw_584) dX5_letters_68 ?_
    exact me_lret C0.1 C0.2.1 B.returns B.notSynchronized rfl rfl (rfl) dX5_letters_71
  · refine lv_tableOut (tgt := 72) C0.1 C0.2.1 dX5_letters_1 (by decide) (by decide) ?_
    refine lv_ldc2 (v := 8745842546765559135) C0.1 C0.2.1 C0.2.2.1 (C0.2.2.2.1 _ kw_585) dX5_letters_72 ?_
    exact me_lret C0.1 C0.2.1 B.returns B.notSynchronized rfl rfl (rfl) dX5_letters_75

set_option maxHeartbeats 4000000 in
set_option maxRecDepth 100000 in
/-- marks(k) -/
theorem c_X5_marks (l : Launch) (G : me_G) (B0 : Nat) (w : Me) (k : Nat) (hk : k ≤ 7) : CtL l yX5_marks (Cond.code yX5_marks cX5_marks 1 (some .long)) ({ frames := 0, cells := 0, slots := 0, locals := 0 }) G B0 w [.int (nI k)] (fun r => r = markL.getD k 0) := by
  refine Met.ofW (cc := cX5_marks) (maxL := 1) (ret := (some .long)) (by decide) rfl ?_
  intro p e s m args below meth c s₁ B hml hv
  obtain ⟨rfl, hK, hP, hKq, hBs⟩ := hv
  have hts := fun w h => atoms_spec (ws := Cond.code yX5_marks cX5_marks 1 (some .long) :: tbG) B.pre w (List.mem_cons_of_mem _ h)
  have hown : s.vm.findClass RX5 = some m.cls := findClass_of_methodNamed B.named
  have C0 : Cx G B0 p s m _ c cX5_marks RX5 := ⟨B.exec, B.bytes, hown, hts, hK, hKq, hBs⟩
  have hS : va_S (me_A B0) s.heap s.heap [] := va_S.rf
  have hl := lv_entry ([.int (nI k)]) (n := 1) (Nat.le_of_ble_eq_true rfl)
  rw [lg_entry_eq]
  generalize (lg_sl ([.int (nI k)]) ++ List.replicate (1 - (lg_sl ([.int (nI k)])).length) Slot.unset).toArray = ls at hl ⊢
  have hl : lv_has ls 1 [(0, .int (nI k))] := hl
  refine lv_iload_n C0.1 C0.2.1 dX5_marks_0 rfl (lv_at hl 0 rfl) ?_
  rcases (show k = 0 ∨ k = 1 ∨ k = 2 ∨ k = 3 ∨ k = 4 ∨ k = 5 ∨ k = 6 ∨ k = 7 by omega) with rfl | rfl | rfl | rfl | rfl | rfl | rfl | rfl
  · refine lv_tableIn (off := 43) (tgt := 44) C0.1 C0.2.1 dX5_marks_1 (by decide) (by decide) (by decide) (by decide) ?_
    refine lv_ldc2 (v := 3917908699149119792) C0.1 C0.2.1 C0.2.2.1 (C0.2.2.2.1 _ kw_599) dX5_marks_44 ?_
    exact me_lret C0.1 C0.2.1 B.returns B.notSynchronized rfl rfl (rfl) dX5_marks_47
  · refine lv_tableIn (off := 47) (tgt := 48) C0.1 C0.2.1 dX5_marks_1 (by decide) (by decide) (by decide) (by decide) ?_
    refine lv_ldc2 (v := 3761122721911681328) C0.1 C0.2.1 C0.2.2.1 (C0.2.2.2.1 _ kw_600) dX5_marks_48 ?_
    exact me_lret C0.1 C0.2.1 B.returns B.notSynchronized rfl rfl (rfl) dX5_marks_51
  · refine lv_tableIn (off := 51) (tgt := 52) C0.1 C0.2.1 dX5_marks_1 (by decide) (by decide) (by decide) (by decide) ?_
    refine lv_ldc2 (v := 6860164423058731871) C0.1 C0.2.1 C0.2.2.1 (C0.2.2.2.1 _ kw_601) dX5_marks_52 ?_
    exact me_lret C0.1 C0.2.1 B.returns B.notSynchronized rfl rfl (rfl) dX5_marks_55
  · refine lv_tableIn (off := 55) (tgt := 56) C0.1 C0.2.1 dX5_marks_1 (by decide) (by decide) (by decide) (by decide) ?_
    refine lv_ldc2 (v := 6872265656640811103) C0.1 C0.2.1 C0.2.2.1 (C0.2.2.2.1 _ kw_602) dX5_marks_56 ?_
    exact me_lret C0.1 C0.2.1 B.returns B.notSynchronized rfl rfl (rfl) dX5_marks_59
  · refine lv_tableIn (off := 59) (tgt := 60) C0.1 C0.2.1 dX5_marks_1 (by decide) (by decide) (by decide) (by decide) ?_
    refine lv_ldc2 (v := 3917908699149119792) C0.1 C0.2.1 C0.2.2.1 (C0.2.2.2.1 _ kw_599) dX5_marks_60 ?_
    exact me_lret C0.1 C0.2.1 B.returns B.notSynchronized rfl rfl (rfl) dX5_marks_63
  · refine lv_tableIn (off := 63) (tgt := 64) C0.1 C0.2.1 dX5_marks_1 (by decide) (by decide) (by decide) (by decide) ?_
    refine lv_ldc2 (v := 3761122721911681328) C0.1 C0.2.1 C0.2.2.1 (C0.2.2.2.1 _ kw_600) dX5_marks_64 ?_
    exact me_lret C0.1 C0.2.1 B.returns B.notSynchronized rfl rfl (rfl) dX5_marks_67
  · refine lv_tableIn (off := 67) (tgt := 68) C0.1 C0.2.1 dX5_marks_1 (by decide) (by decide) (by decide) (by decide) ?_
    refine lv_ldc2 (v := 6860164423058731871) C0.1 C0.2.1 C0.2.2.1 (C0.2.2.2.1 _ kw_601) dX5_marks_68 ?_
    exact me_lret C0.1 C0.2.1 B.returns B.notSynchronized rfl rfl (rfl) dX5_marks_71
  · refine lv_tableOut (tgt := 72) C0.1 C0.2.1 dX5_marks_1 (by decide) (by decide) ?_
    refine lv_ldc2 (v := 3773789113009909855) C0.1 C0.2.1 C0.2.2.1 (C0.2.2.2.1 _ kw_603) dX5_marks_72 ?_
    exact me_lret C0.1 C0.2.1 B.returns B.notSynchronized rfl rfl (rfl) dX5_marks_75

set_option maxHeartbeats 4000000 in
set_option maxRecDepth 100000 in
/-- putPoint(p) -/
theorem c_X5_putPoint (l : Launch) (G : me_G) (B0 : Nat) (w : Me) (o : Nat) (a : Nat → Nat) (F : Nat → Nat → Int32) (z : Nat → Int32) (hM : MD G B0 w o a F z) (X : List Int32) (hX : Ls F z 18 19 400 X) (hX4 : X.length < 400) (p0 : Int32) : CtWV l yX5_putPoint (Cond.code yX5_putPoint cX5_putPoint 5 none) ({ frames := 1, cells := 0, slots := 0, locals := 20 }) G B0 w [.ref o, .int p0] (fun w' => ∃ (F' : Nat → Nat → Int32) (z' : Nat → Int32), MD G B0 w' o a F' z' ∧ MF w w' o a ∧ SameF F F' [18] ∧ SameZ z z' [19] ∧ Ls F' z' 18 19 400 (inOrd 400 X (smA p0))) 0 0 := by
  refine Met.ofW (cc := cX5_putPoint) (maxL := 5) (ret := none) (by decide) rfl ?_
  intro p e s m args below meth c s₁ B hml hv
  obtain ⟨rfl, hK, hP, hKq, hBs⟩ := hv
  have hts := fun w h => atoms_spec (ws := Cond.code yX5_putPoint cX5_putPoint 5 none :: tbG) B.pre w (List.mem_cons_of_mem _ h)
  have hown : s.vm.findClass RX5 = some m.cls := findClass_of_methodNamed B.named
  have C0 : Cx G B0 p s m _ c cX5_putPoint RX5 := ⟨B.exec, B.bytes, hown, hts, hK, hKq, hBs⟩
  have hS : va_S (me_A B0) s.heap s.heap [] := va_S.rf
  have hl := lv_entry ([.ref o, .int p0]) (n := 5) (Nat.le_of_ble_eq_true rfl)
  rw [lg_entry_eq]
  generalize (lg_sl ([.ref o, .int p0]) ++ List.replicate (5 - (lg_sl ([.ref o, .int p0])).length) Slot.unset).toArray = ls at hl ⊢
  have hl : lv_has ls 5 [(0, .ref o), (1, .int p0)] := hl
  have hMF : MF w w o a := MF.rf
  refine lv_iload_n C0.1 C0.2.1 dX5_putPoint_0 rfl (lv_at hl 1 rfl) ?_
  refine me_cSi (n := 1) C0 hml hP hS (c_X5_small l G B0 w p0) ⟨kw_592, kw_35, kw_590, ⟨by decide, by decide, by decide +kernel⟩, ⟨rfl, rfl⟩, ⟨Nat.le_of_ble_eq_true rfl, Nat.le_of_ble_eq_true rfl⟩⟩ kw_591 rfl hl.1 rfl (Nat.le_of_ble_eq_true rfl) ⟨Nat.le_of_ble_eq_true rfl, Nat.le_of_ble_eq_true rfl⟩ dX5_putPoint_1 (fun r1 hr1 => ?_)
  rw [sm_e] at hr1
  subst hr1
  refine lv_istore_n (lv' := [(2, .int (smA p0)), (0, .ref o), (1, .int p0)]) C0.1 C0.2.1 dX5_putPoint_4 rfl hl (by decide) rfl (fun ls hl => ?_)
  refine lv_iload_n C0.1 C0.2.1 dX5_putPoint_5 rfl (lv_at hl 0 rfl) ?_
  refine me_cSi (n := 1) C0 hml hP hS (c_X5_classOf l G B0 w (smA p0)) ⟨kw_595, kw_35, kw_593, ⟨by decide, by decide, by decide +kernel⟩, ⟨rfl, rfl⟩, ⟨Nat.le_of_ble_eq_true rfl, Nat.le_of_ble_eq_true rfl⟩⟩ kw_594 rfl hl.1 rfl (Nat.le_of_ble_eq_true rfl) ⟨Nat.le_of_ble_eq_true rfl, Nat.le_of_ble_eq_true rfl⟩ dX5_putPoint_6 (fun r2 hr2 => ?_)
  rw [mkClsR_e] at hr2
  subst hr2
  refine lv_istore_n (lv' := [(3, .int (mkCls (smA p0))), (2, .int (smA p0)), (0, .ref o), (1, .int p0)]) C0.1 C0.2.1 dX5_putPoint_9 rfl hl (by decide) rfl (fun ls hl => ?_)
  refine lv_aload_n C0.1 C0.2.1 dX5_putPoint_10 rfl (lv_at hl 2 rfl) ?_
  refine md_get C0 hP hM 19 (by decide) kw_496 (v := .int (nI X.length)) (by show some (Value.int (z 19)) = _; rw [hX.1]) dX5_putPoint_11 ?_
  refine lv_istore (lv' := [(4, .int (nI X.length)), (3, .int (mkCls (smA p0))), (2, .int (smA p0)), (0, .ref o), (1, .int p0)]) C0.1 C0.2.1 dX5_putPoint_14 hl (by decide) rfl (fun ls hl => ?_)
  have loop16 : ∀ (n : Nat) (i : Nat) (w1 : Me) (F1 : Nat → Nat → Int32), (i ≤ X.length) → (MD G B0 w1 o a F1 z) → (MF w w1 o a) → (SameF F F1 [18]) → (∀ q, F1 18 q = if i < q ∧ q ≤ X.length then F 18 (q - 1) else F 18 q) → (plc X (mkCls (smA p0)) X.length = plc X (mkCls (smA p0)) i) → i < n → ∀ (H : Heap) (locs : List Loc), ∀ (ls : Array Slot), me_P G.1 w1 H → va_S (me_A B0) s.heap H locs → lv_has ls 5 [(4, .int (nI i)), (3, .int (mkCls (smA p0))), (2, .int (smA p0)), (0, .ref o), (1, .int p0)] → W p l e ({ frames := 1, cells := 0, slots := 0, locals := 20 }) s m ([.ref o, .int p0] : List Value).toArray below meth c H locs 0 0 (MQ below (va_Qv (fun w' => ∃ (F' : Nat → Nat → Int32) (z' : Nat → Int32), MD G B0 w' o a F' z' ∧ MF w w' o a ∧ SameF F F' [18] ∧ SameZ z z' [19] ∧ Ls F' z' 18 19 400 (inOrd 400 X (smA p0))) (me_W G) (me_A B0)) ([.ref o, .int p0] : List Value).toArray s 0 0 (me_A B0)) (F0 m 16 ls []) := by
    intro n
    induction n with
    | zero => intro i w1 F1 _ _ _ _ _ _ hz; exact absurd hz (Nat.not_lt_zero _)
    | succ n ih16 =>
      intro i w1 F1 hil hM hMF hsF hff hpl hn16 H locs ls hP hS hl
      refine lv_iload_n C0.1 C0.2.1 dX5_putPoint_16 rfl (lv_at hl 1 rfl) ?_
      refine lv_if_le (tgt := 63) C0.1 C0.2.1 dX5_putPoint_17 (by decide) (fun c3 => ?_) (fun c3 => ?_)
      · refine lv_aload_n C0.1 C0.2.1 dX5_putPoint_63 rfl (lv_at hl 3 rfl) ?_
        refine md_get C0 hP hM 18 (by decide) kw_495 (v := .ref ((a 18))) rfl dX5_putPoint_64 ?_
        refine lv_iload C0.1 C0.2.1 dX5_putPoint_67 (lv_at hl 0 rfl) ?_
        refine lv_iload_n C0.1 C0.2.1 dX5_putPoint_69 rfl (lv_at hl 2 rfl) ?_
        refine md_iast C0 hP hS hM hMF 18 (by decide) (i := i) (by show i < 400; omega) dX5_putPoint_70 (fun w4 F4 H locs hF4 hM hMF hP hS => ?_)
        refine lv_aload_n C0.1 C0.2.1 dX5_putPoint_71 rfl (lv_at hl 3 rfl) ?_
        refine lv_dup C0.1 C0.2.1 dX5_putPoint_72 rfl ?_
        refine md_get C0 hP hM 19 (by decide) kw_496 (v := .int (nI X.length)) (by show some (Value.int (z 19)) = _; rw [hX.1]) dX5_putPoint_73 ?_
        refine lv_iconst (v := 1) C0.1 C0.2.1 dX5_putPoint_76 (by decide) ?_
        refine lv_iadd C0.1 C0.2.1 dX5_putPoint_77 ?_
        refine me_topi (y := nI (X.length + 1)) (nI_add X.length 1) ?_
        refine md_put C0 hP hS hM hMF 19 (by decide) kw_496 rfl rfl rfl dX5_putPoint_78 (fun w5 z5 H locs hz5 hM hMF hP hS => ?_)
        have hz5_19 : z5 19 = nI (X.length + 1) := by rw [hz5, upd_eq]
        exact me_wvret _ C0.1 C0.2.1 B.returns B.notSynchronized hP hS (Nat.le_of_ble_eq_true rfl) (Nat.le_of_ble_eq_true rfl) (by have he : i = plc X (mkCls (smA p0)) X.length := (hpl.trans (plc_own c3 i)).symm; exact ⟨_, _, hM, hMF, hsF.wr hF4 (by decide), SameZ.rf.wr hz5 (by decide), by unfold inOrd; rw [← he]; exact hX.ins hil hX4 hff hF4 hz5_19⟩) dX5_putPoint_81
      · refine lv_iload C0.1 C0.2.1 dX5_putPoint_20 (lv_at hl 0 rfl) ?_
        refine lv_if_le (tgt := 63) C0.1 C0.2.1 dX5_putPoint_22 (by decide) (fun c6 => ?_) (fun c6 => ?_)
        · have d6 : i ≤ 0 := (nI_leI (a := i) (b := 0) (by omega) (by omega)).mp c6
          refine lv_aload_n C0.1 C0.2.1 dX5_putPoint_63 rfl (lv_at hl 3 rfl) ?_
          refine md_get C0 hP hM 18 (by decide) kw_495 (v := .ref ((a 18))) rfl dX5_putPoint_64 ?_
          refine lv_iload C0.1 C0.2.1 dX5_putPoint_67 (lv_at hl 0 rfl) ?_
          refine lv_iload_n C0.1 C0.2.1 dX5_putPoint_69 rfl (lv_at hl 2 rfl) ?_
          refine md_iast C0 hP hS hM hMF 18 (by decide) (i := i) (by show i < 400; omega) dX5_putPoint_70 (fun w7 F7 H locs hF7 hM hMF hP hS => ?_)
          refine lv_aload_n C0.1 C0.2.1 dX5_putPoint_71 rfl (lv_at hl 3 rfl) ?_
          refine lv_dup C0.1 C0.2.1 dX5_putPoint_72 rfl ?_
          refine md_get C0 hP hM 19 (by decide) kw_496 (v := .int (nI X.length)) (by show some (Value.int (z 19)) = _; rw [hX.1]) dX5_putPoint_73 ?_
          refine lv_iconst (v := 1) C0.1 C0.2.1 dX5_putPoint_76 (by decide) ?_
          refine lv_iadd C0.1 C0.2.1 dX5_putPoint_77 ?_
          refine me_topi (y := nI (X.length + 1)) (nI_add X.length 1) ?_
          refine md_put C0 hP hS hM hMF 19 (by decide) kw_496 rfl rfl rfl dX5_putPoint_78 (fun w8 z8 H locs hz8 hM hMF hP hS => ?_)
          have hz8_19 : z8 19 = nI (X.length + 1) := by rw [hz8, upd_eq]
          exact me_wvret _ C0.1 C0.2.1 B.returns B.notSynchronized hP hS (Nat.le_of_ble_eq_true rfl) (Nat.le_of_ble_eq_true rfl) (by have he : i = plc X (mkCls (smA p0)) X.length := (hpl.trans ((show plc X (mkCls (smA p0)) i = i by rw [show i = 0 by omega]; rfl))).symm; exact ⟨_, _, hM, hMF, hsF.wr hF7 (by decide), SameZ.rf.wr hz8 (by decide), by unfold inOrd; rw [← he]; exact hX.ins hil hX4 hff hF7 hz8_19⟩) dX5_putPoint_81
        · have d6 : 0 < i := Nat.not_le.mp (fun h => c6 (nI_le (a := i) (b := 0) h (by omega)))
          refine lv_aload_n C0.1 C0.2.1 dX5_putPoint_25 rfl (lv_at hl 3 rfl) ?_
          refine md_get C0 hP hM 18 (by decide) kw_495 (v := .ref ((a 18))) rfl dX5_putPoint_26 ?_
          refine lv_iload C0.1 C0.2.1 dX5_putPoint_29 (lv_at hl 0 rfl) ?_
          refine lv_iconst (v := 1) C0.1 C0.2.1 dX5_putPoint_31 (by decide) ?_
          refine lv_isub C0.1 C0.2.1 dX5_putPoint_32 ?_
          refine me_topi (y := nI (i - 1)) (pk_sub (a := i) (b := 1) (by omega)) ?_
          refine md_iald C0 hP hM 18 (by decide) (i := (i - 1)) (by show (i - 1) < 400; omega) dX5_putPoint_33 ?_
          refine me_topi (y := X.getD (i - 1) 0) (by rw [hff, if_neg (by omega)]; exact hX.2.2 (i - 1) (by omega)) ?_
          refine me_cSi (n := 1) C0 hml hP hS (c_X5_classOf l G B0 w1 (X.getD (i - 1) 0)) ⟨kw_595, kw_35, kw_593, ⟨by decide, by decide, by decide +kernel⟩, ⟨rfl, rfl⟩, ⟨Nat.le_of_ble_eq_true rfl, Nat.le_of_ble_eq_true rfl⟩⟩ kw_594 rfl hl.1 rfl (Nat.le_of_ble_eq_true rfl) ⟨Nat.le_of_ble_eq_true rfl, Nat.le_of_ble_eq_true rfl⟩ dX5_putPoint_34 (fun r9 hr9 => ?_)
          rw [mkClsR_e] at hr9
          subst hr9
          refine lv_iload_n C0.1 C0.2.1 dX5_putPoint_37 rfl (lv_at hl 1 rfl) ?_
          refine lv_icmp_le (tgt := 63) C0.1 C0.2.1 dX5_putPoint_38 (by decide) (fun c10 => ?_) (fun c10 => ?_)
          · refine lv_aload_n C0.1 C0.2.1 dX5_putPoint_63 rfl (lv_at hl 3 rfl) ?_
            refine md_get C0 hP hM 18 (by decide) kw_495 (v := .ref ((a 18))) rfl dX5_putPoint_64 ?_
            refine lv_iload C0.1 C0.2.1 dX5_putPoint_67 (lv_at hl 0 rfl) ?_
            refine lv_iload_n C0.1 C0.2.1 dX5_putPoint_69 rfl (lv_at hl 2 rfl) ?_
            refine md_iast C0 hP hS hM hMF 18 (by decide) (i := i) (by show i < 400; omega) dX5_putPoint_70 (fun w11 F11 H locs hF11 hM hMF hP hS => ?_)
            refine lv_aload_n C0.1 C0.2.1 dX5_putPoint_71 rfl (lv_at hl 3 rfl) ?_
            refine lv_dup C0.1 C0.2.1 dX5_putPoint_72 rfl ?_
            refine md_get C0 hP hM 19 (by decide) kw_496 (v := .int (nI X.length)) (by show some (Value.int (z 19)) = _; rw [hX.1]) dX5_putPoint_73 ?_
            refine lv_iconst (v := 1) C0.1 C0.2.1 dX5_putPoint_76 (by decide) ?_
            refine lv_iadd C0.1 C0.2.1 dX5_putPoint_77 ?_
            refine me_topi (y := nI (X.length + 1)) (nI_add X.length 1) ?_
            refine md_put C0 hP hS hM hMF 19 (by decide) kw_496 rfl rfl rfl dX5_putPoint_78 (fun w12 z12 H locs hz12 hM hMF hP hS => ?_)
            have hz12_19 : z12 19 = nI (X.length + 1) := by rw [hz12, upd_eq]
            exact me_wvret _ C0.1 C0.2.1 B.returns B.notSynchronized hP hS (Nat.le_of_ble_eq_true rfl) (Nat.le_of_ble_eq_true rfl) (by have he : i = plc X (mkCls (smA p0)) X.length := (hpl.trans (plc_stop (by omega) c10)).symm; exact ⟨_, _, hM, hMF, hsF.wr hF11 (by decide), SameZ.rf.wr hz12 (by decide), by unfold inOrd; rw [← he]; exact hX.ins hil hX4 hff hF11 hz12_19⟩) dX5_putPoint_81
          · refine lv_aload_n C0.1 C0.2.1 dX5_putPoint_41 rfl (lv_at hl 3 rfl) ?_
            refine md_get C0 hP hM 18 (by decide) kw_495 (v := .ref ((a 18))) rfl dX5_putPoint_42 ?_
            refine lv_iload C0.1 C0.2.1 dX5_putPoint_45 (lv_at hl 0 rfl) ?_
            refine lv_aload_n C0.1 C0.2.1 dX5_putPoint_47 rfl (lv_at hl 3 rfl) ?_
            refine md_get C0 hP hM 18 (by decide) kw_495 (v := .ref ((a 18))) rfl dX5_putPoint_48 ?_
            refine lv_iload C0.1 C0.2.1 dX5_putPoint_51 (lv_at hl 0 rfl) ?_
            refine lv_iconst (v := 1) C0.1 C0.2.1 dX5_putPoint_53 (by decide) ?_
            refine lv_isub C0.1 C0.2.1 dX5_putPoint_54 ?_
            refine me_topi (y := nI (i - 1)) (pk_sub (a := i) (b := 1) (by omega)) ?_
            refine md_iald C0 hP hM 18 (by decide) (i := (i - 1)) (by show (i - 1) < 400; omega) dX5_putPoint_55 ?_
            refine md_iast C0 hP hS hM hMF 18 (by decide) (i := i) (by show i < 400; omega) dX5_putPoint_56 (fun w13 F13 H locs hF13 hM hMF hP hS => ?_)
            refine lv_iinc (v := nI (i - 1)) (lv' := [(4, .int (nI (i - 1))), (3, .int (mkCls (smA p0))), (2, .int (smA p0)), (0, .ref o), (1, .int p0)]) C0.1 C0.2.1 dX5_putPoint_57 hl (k := 0) rfl (sb_m1 (by omega)) (by decide) rfl (fun ls hl => ?_)
            refine lv_goto (tgt := 16) C0.1 C0.2.1 dX5_putPoint_60 (by decide) ?_
            exact ih16 (i - 1) _ _ (by omega) hM hMF (hsF.wr hF13 (by decide)) (by rw [hF13, uF_s]; exact ins_step hff (by omega) (by omega)) (by rw [hpl]; exact plc_go (by omega) c3 c10) (by omega) _ _ _ hP hS (lv_sub hl [0, 1, 2, 3, 4] rfl)
  exact loop16 (X.length + 1) X.length _ _ (Nat.le_refl _) hM hMF SameF.rf (fun q => by rw [if_neg (by omega)]) rfl (Nat.lt_succ_self _) _ _ _ hP hS (lv_sub hl [0, 1, 2, 3, 4] rfl)

set_option maxHeartbeats 4000000 in
set_option maxRecDepth 100000 in
/-- foldAll() -/
theorem c_X5_foldAll (l : Launch) (G : me_G) (B0 : Nat) (w : Me) (o : Nat) (a : Nat → Nat) (F : Nat → Nat → Int32) (z : Nat → Int32) (hM : MD G B0 w o a F z) (Pl : List Int32) (hPl : Ls F z 16 17 200 Pl) : CtWV l yX5_foldAll (Cond.code yX5_foldAll cX5_foldAll 5 none) ({ frames := 2, cells := 0, slots := 0, locals := 44 }) G B0 w [.ref o] (fun w' => ∃ (F' : Nat → Nat → Int32) (z' : Nat → Int32), MD G B0 w' o a F' z' ∧ MF w w' o a ∧ SameF F F' [18] ∧ SameZ z z' [19] ∧ Ls F' z' 18 19 400 (Pl.foldl (foldPt 400) [])) 0 0 := by
  refine Met.ofW (cc := cX5_foldAll) (maxL := 5) (ret := none) (by decide) rfl ?_
  intro p e s m args below meth c s₁ B hml hv
  obtain ⟨rfl, hK, hP, hKq, hBs⟩ := hv
  have hts := fun w h => atoms_spec (ws := Cond.code yX5_foldAll cX5_foldAll 5 none :: tbG) B.pre w (List.mem_cons_of_mem _ h)
  have hown : s.vm.findClass RX5 = some m.cls := findClass_of_methodNamed B.named
  have C0 : Cx G B0 p s m _ c cX5_foldAll RX5 := ⟨B.exec, B.bytes, hown, hts, hK, hKq, hBs⟩
  have hS : va_S (me_A B0) s.heap s.heap [] := va_S.rf
  have hl := lv_entry ([.ref o]) (n := 5) (Nat.le_of_ble_eq_true rfl)
  rw [lg_entry_eq]
  generalize (lg_sl ([.ref o]) ++ List.replicate (5 - (lg_sl ([.ref o])).length) Slot.unset).toArray = ls at hl ⊢
  have hl : lv_has ls 5 [(0, .ref o)] := hl
  have hMF : MF w w o a := MF.rf
  have hPl2 := hPl.2.1
  refine lv_aload_n C0.1 C0.2.1 dX5_foldAll_0 rfl (lv_at hl 0 rfl) ?_
  refine lv_iconst (v := 0) C0.1 C0.2.1 dX5_foldAll_1 (by decide) ?_
  refine md_put C0 hP hS hM hMF 19 (by decide) kw_496 rfl rfl rfl dX5_foldAll_2 (fun w1 z1 H locs hz1 hM hMF hP hS => ?_)
  have hz1_17 : z1 17 = nI Pl.length := by rw [hz1, upd_ne (by decide)]; exact hPl.1
  have hz1_19 : z1 19 = 0 := by rw [hz1, upd_eq]
  refine lv_iconst (v := 0) C0.1 C0.2.1 dX5_foldAll_5 (by decide) ?_
  refine lv_istore_n (lv' := [(1, .int 0), (0, .ref o)]) C0.1 C0.2.1 dX5_foldAll_6 rfl hl (by decide) rfl (fun ls hl => ?_)
  have loop7 : ∀ (n : Nat) (i : Nat) (X : List Int32) (w1 : Me) (F1 : Nat → Nat → Int32) (z1 : Nat → Int32), (i ≤ Pl.length) → (MD G B0 w1 o a F1 z1) → (MF w w1 o a) → (SameF F F1 [18]) → (SameZ z z1 [19]) → (Ls F1 z1 18 19 400 X) → (X.length ≤ 2 * i) → (Pl.foldl (foldPt 400) [] = (Pl.drop i).foldl (foldPt 400) X) → (Pl.length - i) < n → ∀ (H : Heap) (locs : List Loc), ∀ (ls : Array Slot), me_P G.1 w1 H → va_S (me_A B0) s.heap H locs → lv_has ls 5 [(1, .int (nI i)), (0, .ref o)] → W p l e ({ frames := 2, cells := 0, slots := 0, locals := 44 }) s m ([.ref o] : List Value).toArray below meth c H locs 0 0 (MQ below (va_Qv (fun w' => ∃ (F' : Nat → Nat → Int32) (z' : Nat → Int32), MD G B0 w' o a F' z' ∧ MF w w' o a ∧ SameF F F' [18] ∧ SameZ z z' [19] ∧ Ls F' z' 18 19 400 (Pl.foldl (foldPt 400) [])) (me_W G) (me_A B0)) ([.ref o] : List Value).toArray s 0 0 (me_A B0)) (F0 m 7 ls []) := by
    intro n
    induction n with
    | zero => intro i X w1 F1 z1 _ _ _ _ _ _ _ _ hz; exact absurd hz (Nat.not_lt_zero _)
    | succ n ih7 =>
      intro i X w1 F1 z1 hil hM hMF hsF hsZ hX hX2 hfo hn7 H locs ls hP hS hl
      have h17 : z1 17 = nI Pl.length := (hsZ 17 (by decide)).trans hPl.1
      have h16 : ∀ i, i < Pl.length → F1 16 i = Pl.getD i 0 := fun i hi => (congrFun (hsF 16 (by decide)) i).trans (hPl.2.2 i hi)
      refine lv_iload_n C0.1 C0.2.1 dX5_foldAll_7 rfl (lv_at hl 0 rfl) ?_
      refine lv_aload_n C0.1 C0.2.1 dX5_foldAll_8 rfl (lv_at hl 1 rfl) ?_
      refine md_get C0 hP hM 17 (by decide) kw_494 (v := .int (nI Pl.length)) (by show some (Value.int (z1 17)) = _; rw [h17]) dX5_foldAll_9 ?_
      refine lv_icmp_ge (tgt := 123) C0.1 C0.2.1 dX5_foldAll_12 (by decide) (fun c2 => ?_) (fun c2 => ?_)
      · have d2 : Pl.length ≤ i := (nI_leI (a := Pl.length) (b := i) (by omega) (by omega)).mp c2
        exact me_wvret _ C0.1 C0.2.1 B.returns B.notSynchronized hP hS (Nat.le_of_ble_eq_true rfl) (Nat.le_of_ble_eq_true rfl) (⟨_, _, hM, hMF, hsF, hsZ, by rw [hfo, show Pl.drop i = [] from List.drop_eq_nil_of_le (by omega)]; exact hX⟩) dX5_foldAll_123
      · have d2 : i < Pl.length := Nat.not_le.mp (fun h => c2 (nI_le (a := Pl.length) (b := i) h (by omega)))
        refine lv_aload_n C0.1 C0.2.1 dX5_foldAll_15 rfl (lv_at hl 1 rfl) ?_
        refine md_get C0 hP hM 16 (by decide) kw_493 (v := .ref ((a 16))) rfl dX5_foldAll_16 ?_
        refine lv_iload_n C0.1 C0.2.1 dX5_foldAll_19 rfl (lv_at hl 0 rfl) ?_
        refine md_iald C0 hP hM 16 (by decide) (i := i) (by show i < 200; omega) dX5_foldAll_20 ?_
        refine me_topi (y := Pl.getD i 0) (h16 i (by omega)) ?_
        refine lv_topi (fun x hx => ?_)
        refine lv_istore_n (lv' := [(2, .int x), (1, .int (nI i)), (0, .ref o)]) C0.1 C0.2.1 dX5_foldAll_21 rfl hl (by decide) rfl (fun ls hl => ?_)
        refine lv_iload_n C0.1 C0.2.1 dX5_foldAll_22 rfl (lv_at hl 0 rfl) ?_
        refine lv_sipush (v := 192) C0.1 C0.2.1 dX5_foldAll_23 (by decide) ?_
        refine lv_isub C0.1 C0.2.1 dX5_foldAll_26 ?_
        refine lv_istore_n (lv' := [(3, .int (x - 192)), (2, .int x), (1, .int (nI i)), (0, .ref o)]) C0.1 C0.2.1 dX5_foldAll_27 rfl hl (by decide) rfl (fun ls hl => ?_)
        refine lv_iload_n C0.1 C0.2.1 dX5_foldAll_28 rfl (lv_at hl 1 rfl) ?_
        refine lv_sipush (v := 192) C0.1 C0.2.1 dX5_foldAll_29 (by decide) ?_
        refine lv_icmp_lt (tgt := 65) C0.1 C0.2.1 dX5_foldAll_32 (by decide) (fun c3 => ?_) (fun c3 => ?_)
        · refine lv_bipush (v := 95) C0.1 C0.2.1 dX5_foldAll_65 (by decide) ?_
          refine lv_istore (lv' := [(4, .int 95), (3, .int (x - 192)), (2, .int x), (1, .int (nI i)), (0, .ref o)]) C0.1 C0.2.1 dX5_foldAll_67 hl (by decide) rfl (fun ls hl => ?_)
          refine lv_iload C0.1 C0.2.1 dX5_foldAll_69 (lv_at hl 0 rfl) ?_
          refine lv_bipush (v := 95) C0.1 C0.2.1 dX5_foldAll_71 (by decide) ?_
          refine lv_icmp_ne (tgt := 84) C0.1 C0.2.1 dX5_foldAll_73 (by decide) (fun c => absurd c (by decide)) (fun c => ?_)
          refine lv_aload_n C0.1 C0.2.1 dX5_foldAll_76 rfl (lv_at hl 4 rfl) ?_
          refine lv_iload_n C0.1 C0.2.1 dX5_foldAll_77 rfl (lv_at hl 2 rfl) ?_
          refine me_cVwv (n := 1) C0 hml hP hS (c_X5_putPoint l G B0 w1 o a F1 z1 hM X hX (by omega) x) ⟨kw_589, kw_35, kw_586, ⟨by decide, by decide, by decide +kernel⟩, ⟨rfl, rfl⟩, ⟨Nat.le_of_ble_eq_true rfl, Nat.le_of_ble_eq_true rfl⟩⟩ kw_588 kw_19 hM.1 rfl rfl hl.1 rfl (Nat.le_of_ble_eq_true rfl) ⟨Nat.le_of_ble_eq_true rfl, Nat.le_of_ble_eq_true rfl⟩ dX5_foldAll_78 (fun w5 H locs hw5 hP hS => ?_)
          obtain ⟨F5, z5, hM, hMF5, hpF5, hpZ5, hpX5⟩ := hw5
          have hMF := hMF.tr hMF5
          have hsF5 := hsF.tr hpF5 (by decide)
          have hsZ5 := hsZ.tr hpZ5 (by decide)
          refine lv_goto (tgt := 117) C0.1 C0.2.1 dX5_foldAll_81 (by decide) ?_
          refine lv_iinc (v := nI (i + 1)) (lv' := [(1, .int (nI (i + 1))), (4, .int 95), (3, .int (x - 192)), (2, .int x), (0, .ref o)]) C0.1 C0.2.1 dX5_foldAll_117 hl (k := 3) rfl (nI_add i 1) (by decide) rfl (fun ls hl => ?_)
          refine lv_goto (tgt := 7) C0.1 C0.2.1 dX5_foldAll_120 (by decide) ?_
          exact ih7 (i + 1) _ _ _ _ (by omega) hM hMF hsF5 hsZ5 hpX5 (by have := @inOrd_gr 400 X (smA x); omega) (by rw [hfo, drop_c (by omega), List.foldl_cons]; congr 1; rw [← hx, foldPt_no (Or.inl c3)]) (by omega) _ _ _ hP hS (lv_sub hl [0, 4] rfl)
        · refine lv_iload_n C0.1 C0.2.1 dX5_foldAll_35 rfl (lv_at hl 1 rfl) ?_
          refine lv_sipush (v := 255) C0.1 C0.2.1 dX5_foldAll_36 (by decide) ?_
          refine lv_icmp_gt (tgt := 65) C0.1 C0.2.1 dX5_foldAll_39 (by decide) (fun c6 => ?_) (fun c6 => ?_)
          · refine lv_bipush (v := 95) C0.1 C0.2.1 dX5_foldAll_65 (by decide) ?_
            refine lv_istore (lv' := [(4, .int 95), (3, .int (x - 192)), (2, .int x), (1, .int (nI i)), (0, .ref o)]) C0.1 C0.2.1 dX5_foldAll_67 hl (by decide) rfl (fun ls hl => ?_)
            refine lv_iload C0.1 C0.2.1 dX5_foldAll_69 (lv_at hl 0 rfl) ?_
            refine lv_bipush (v := 95) C0.1 C0.2.1 dX5_foldAll_71 (by decide) ?_
            refine lv_icmp_ne (tgt := 84) C0.1 C0.2.1 dX5_foldAll_73 (by decide) (fun c => absurd c (by decide)) (fun c => ?_)
            refine lv_aload_n C0.1 C0.2.1 dX5_foldAll_76 rfl (lv_at hl 4 rfl) ?_
            refine lv_iload_n C0.1 C0.2.1 dX5_foldAll_77 rfl (lv_at hl 2 rfl) ?_
            refine me_cVwv (n := 1) C0 hml hP hS (c_X5_putPoint l G B0 w1 o a F1 z1 hM X hX (by omega) x) ⟨kw_589, kw_35, kw_586, ⟨by decide, by decide, by decide +kernel⟩, ⟨rfl, rfl⟩, ⟨Nat.le_of_ble_eq_true rfl, Nat.le_of_ble_eq_true rfl⟩⟩ kw_588 kw_19 hM.1 rfl rfl hl.1 rfl (Nat.le_of_ble_eq_true rfl) ⟨Nat.le_of_ble_eq_true rfl, Nat.le_of_ble_eq_true rfl⟩ dX5_foldAll_78 (fun w8 H locs hw8 hP hS => ?_)
            obtain ⟨F8, z8, hM, hMF8, hpF8, hpZ8, hpX8⟩ := hw8
            have hMF := hMF.tr hMF8
            have hsF8 := hsF.tr hpF8 (by decide)
            have hsZ8 := hsZ.tr hpZ8 (by decide)
            refine lv_goto (tgt := 117) C0.1 C0.2.1 dX5_foldAll_81 (by decide) ?_
            refine lv_iinc (v := nI (i + 1)) (lv' := [(1, .int (nI (i + 1))), (4, .int 95), (3, .int (x - 192)), (2, .int x), (0, .ref o)]) C0.1 C0.2.1 dX5_foldAll_117 hl (k := 3) rfl (nI_add i 1) (by decide) rfl (fun ls hl => ?_)
            refine lv_goto (tgt := 7) C0.1 C0.2.1 dX5_foldAll_120 (by decide) ?_
            exact ih7 (i + 1) _ _ _ _ (by omega) hM hMF hsF8 hsZ8 hpX8 (by have := @inOrd_gr 400 X (smA x); omega) (by rw [hfo, drop_c (by omega), List.foldl_cons]; congr 1; rw [← hx, foldPt_no (Or.inr c6)]) (by omega) _ _ _ hP hS (lv_sub hl [0, 4] rfl)
          · obtain ⟨k, hk64, rfl⟩ : ∃ k : Nat, k < 64 ∧ x = nI (192 + k) := x64 c3 c6
            have hxk : nI (192 + k) - 192 = nI k := (pk_sub (a := 192 + k) (b := 192) (by omega)).trans (congrArg nI (by omega))
            rw [hxk] at hl
            refine lv_iload_n C0.1 C0.2.1 dX5_foldAll_42 rfl (lv_at hl 0 rfl) ?_
            refine lv_bipush (v := 8) C0.1 C0.2.1 dX5_foldAll_43 (by decide) ?_
            refine lv_idiv C0.1 C0.2.1 dX5_foldAll_45 (by decide) ?_
            refine me_topi (y := nI (k / 8)) (pk_div (a := k) (d := 8) (by omega) (by omega) (by omega)) ?_
            refine me_cSl (n := 1) C0 hml hP hS (c_X5_letters l G B0 w1 (k / 8) (by omega)) ⟨kw_577, kw_35, kw_575, ⟨by decide, by decide, by decide +kernel⟩, ⟨rfl, rfl⟩, ⟨Nat.le_of_ble_eq_true rfl, Nat.le_of_ble_eq_true rfl⟩⟩ kw_576 rfl hl.1 rfl (Nat.le_of_ble_eq_true rfl) ⟨Nat.le_of_ble_eq_true rfl, Nat.le_of_ble_eq_true rfl⟩ dX5_foldAll_46 (fun r9 hr9 => ?_)
            subst hr9
            refine lv_bipush (v := 8) C0.1 C0.2.1 dX5_foldAll_49 (by decide) ?_
            refine lv_iload_n C0.1 C0.2.1 dX5_foldAll_51 rfl (lv_at hl 0 rfl) ?_
            refine lv_bipush (v := 8) C0.1 C0.2.1 dX5_foldAll_52 (by decide) ?_
            refine lv_irem C0.1 C0.2.1 dX5_foldAll_54 (by decide) ?_
            refine me_topi (y := nI (k % 8)) (pk_rem (a := k) (d := 8) (by omega) (by omega) (by omega)) ?_
            refine lv_imul C0.1 C0.2.1 dX5_foldAll_55 ?_
            refine me_topi (y := nI (8 * (k % 8))) (pk_mul 8 (k % 8)) ?_
            refine lv_lshr C0.1 C0.2.1 dX5_foldAll_56 rfl ?_
            refine lv_ldc2 (v := 255) C0.1 C0.2.1 C0.2.2.1 (C0.2.2.2.1 _ kw_550) dX5_foldAll_57 ?_
            refine lv_land C0.1 C0.2.1 dX5_foldAll_60 ?_
            refine lv_l2i C0.1 C0.2.1 dX5_foldAll_61 rfl ?_
            refine lv_goto (tgt := 67) C0.1 C0.2.1 dX5_foldAll_62 (by decide) ?_
            refine me_topi (y := kch 0 k) (let_k k hk64) ?_
            refine lv_istore (lv' := [(4, .int (kch 0 k)), (3, .int (nI k)), (2, .int (nI (192 + k))), (1, .int (nI i)), (0, .ref o)]) C0.1 C0.2.1 dX5_foldAll_67 hl (by decide) rfl (fun ls hl => ?_)
            refine lv_iload C0.1 C0.2.1 dX5_foldAll_69 (lv_at hl 0 rfl) ?_
            refine lv_bipush (v := 95) C0.1 C0.2.1 dX5_foldAll_71 (by decide) ?_
            refine lv_icmp_ne (tgt := 84) C0.1 C0.2.1 dX5_foldAll_73 (by decide) (fun c10 => ?_) (fun c10 => ?_)
            · refine lv_aload_n C0.1 C0.2.1 dX5_foldAll_84 rfl (lv_at hl 4 rfl) ?_
              refine lv_iload C0.1 C0.2.1 dX5_foldAll_85 (lv_at hl 0 rfl) ?_
              refine me_cVwv (n := 1) C0 hml hP hS (c_X5_putPoint l G B0 w1 o a F1 z1 hM X hX (by omega) (kch 0 k)) ⟨kw_589, kw_35, kw_586, ⟨by decide, by decide, by decide +kernel⟩, ⟨rfl, rfl⟩, ⟨Nat.le_of_ble_eq_true rfl, Nat.le_of_ble_eq_true rfl⟩⟩ kw_588 kw_19 hM.1 rfl rfl hl.1 rfl (Nat.le_of_ble_eq_true rfl) ⟨Nat.le_of_ble_eq_true rfl, Nat.le_of_ble_eq_true rfl⟩ dX5_foldAll_87 (fun w11 H locs hw11 hP hS => ?_)
              obtain ⟨F11, z11, hM, hMF11, hpF11, hpZ11, hpX11⟩ := hw11
              have hMF := hMF.tr hMF11
              have hsF11 := hsF.tr hpF11 (by decide)
              have hsZ11 := hsZ.tr hpZ11 (by decide)
              refine lv_aload_n C0.1 C0.2.1 dX5_foldAll_90 rfl (lv_at hl 4 rfl) ?_
              refine lv_iload_n C0.1 C0.2.1 dX5_foldAll_91 rfl (lv_at hl 1 rfl) ?_
              refine lv_bipush (v := 8) C0.1 C0.2.1 dX5_foldAll_92 (by decide) ?_
              refine lv_idiv C0.1 C0.2.1 dX5_foldAll_94 (by decide) ?_
              refine me_topi (y := nI (k / 8)) (pk_div (a := k) (d := 8) (by omega) (by omega) (by omega)) ?_
              refine me_cSl (n := 1) C0 hml hP hS (c_X5_marks l G B0 w11 (k / 8) (by omega)) ⟨kw_598, kw_35, kw_596, ⟨by decide, by decide, by decide +kernel⟩, ⟨rfl, rfl⟩, ⟨Nat.le_of_ble_eq_true rfl, Nat.le_of_ble_eq_true rfl⟩⟩ kw_597 rfl hl.1 rfl (Nat.le_of_ble_eq_true rfl) ⟨Nat.le_of_ble_eq_true rfl, Nat.le_of_ble_eq_true rfl⟩ dX5_foldAll_95 (fun r12 hr12 => ?_)
              subst hr12
              refine lv_bipush (v := 8) C0.1 C0.2.1 dX5_foldAll_98 (by decide) ?_
              refine lv_iload_n C0.1 C0.2.1 dX5_foldAll_100 rfl (lv_at hl 1 rfl) ?_
              refine lv_bipush (v := 8) C0.1 C0.2.1 dX5_foldAll_101 (by decide) ?_
              refine lv_irem C0.1 C0.2.1 dX5_foldAll_103 (by decide) ?_
              refine me_topi (y := nI (k % 8)) (pk_rem (a := k) (d := 8) (by omega) (by omega) (by omega)) ?_
              refine lv_imul C0.1 C0.2.1 dX5_foldAll_104 ?_
              refine me_topi (y := nI (8 * (k % 8))) (pk_mul 8 (k % 8)) ?_
              refine lv_lshr C0.1 C0.2.1 dX5_foldAll_105 rfl ?_
              refine lv_ldc2 (v := 255) C0.1 C0.2.1 C0.2.2.1 (C0.2.2.2.1 _ kw_550) dX5_foldAll_106 ?_
              refine lv_land C0.1 C0.2.1 dX5_foldAll_109 ?_
              refine lv_l2i C0.1 C0.2.1 dX5_foldAll_110 rfl ?_
              refine me_cSi (n := 1) C0 hml hP hS (c_X5_markOf l G B0 w11 ((((markL.getD (k / 8) 0) >>> ((nI (8 * (k % 8))).toInt64 &&& 63)) &&& 255).toInt32)) ⟨kw_606, kw_35, kw_604, ⟨by decide, by decide, by decide +kernel⟩, ⟨rfl, rfl⟩, ⟨Nat.le_of_ble_eq_true rfl, Nat.le_of_ble_eq_true rfl⟩⟩ kw_605 rfl hl.1 rfl (Nat.le_of_ble_eq_true rfl) ⟨Nat.le_of_ble_eq_true rfl, Nat.le_of_ble_eq_true rfl⟩ dX5_foldAll_111 (fun r13 hr13 => ?_)
              subst hr13
              refine me_cVwv (n := 1) C0 hml hP hS (c_X5_putPoint l G B0 w11 o a F11 z11 hM (inOrd 400 X (smA (kch 0 k))) hpX11 (by have := @inOrd_gr 400 X (smA (kch 0 k)); omega) (mkOf ((((markL.getD (k / 8) 0) >>> ((nI (8 * (k % 8))).toInt64 &&& 63)) &&& 255).toInt32))) ⟨kw_589, kw_35, kw_586, ⟨by decide, by decide, by decide +kernel⟩, ⟨rfl, rfl⟩, ⟨Nat.le_of_ble_eq_true rfl, Nat.le_of_ble_eq_true rfl⟩⟩ kw_588 kw_19 hM.1 rfl rfl hl.1 rfl (Nat.le_of_ble_eq_true rfl) ⟨Nat.le_of_ble_eq_true rfl, Nat.le_of_ble_eq_true rfl⟩ dX5_foldAll_114 (fun w14 H locs hw14 hP hS => ?_)
              obtain ⟨F14, z14, hM, hMF14, hpF14, hpZ14, hpX14⟩ := hw14
              have hMF := hMF.tr hMF14
              have hsF14 := hsF11.tr hpF14 (by decide)
              have hsZ14 := hsZ11.tr hpZ14 (by decide)
              refine lv_iinc (v := nI (i + 1)) (lv' := [(1, .int (nI (i + 1))), (4, .int (kch 0 k)), (3, .int (nI k)), (2, .int (nI (192 + k))), (0, .ref o)]) C0.1 C0.2.1 dX5_foldAll_117 hl (k := 3) rfl (nI_add i 1) (by decide) rfl (fun ls hl => ?_)
              refine lv_goto (tgt := 7) C0.1 C0.2.1 dX5_foldAll_120 (by decide) ?_
              exact ih7 (i + 1) _ _ _ _ (by omega) hM hMF hsF14 hsZ14 hpX14 (by have := @inOrd_gr 400 X (smA (kch 0 k)); have := @inOrd_gr 400 (inOrd 400 X (smA (kch 0 k))) (smA (mkOf ((((markL.getD (k / 8) 0) >>> ((nI (8 * (k % 8))).toInt64 &&& 63)) &&& 255).toInt32))); omega) (by rw [hfo, drop_c (by omega), List.foldl_cons]; congr 1; rw [← hx, foldPt_k hk64, if_neg c10, ← mar_k k hk64 c10, sm_e]) (by omega) _ _ _ hP hS (lv_sub hl [0, 4] rfl)
            · refine lv_aload_n C0.1 C0.2.1 dX5_foldAll_76 rfl (lv_at hl 4 rfl) ?_
              refine lv_iload_n C0.1 C0.2.1 dX5_foldAll_77 rfl (lv_at hl 2 rfl) ?_
              refine me_cVwv (n := 1) C0 hml hP hS (c_X5_putPoint l G B0 w1 o a F1 z1 hM X hX (by omega) (nI (192 + k))) ⟨kw_589, kw_35, kw_586, ⟨by decide, by decide, by decide +kernel⟩, ⟨rfl, rfl⟩, ⟨Nat.le_of_ble_eq_true rfl, Nat.le_of_ble_eq_true rfl⟩⟩ kw_588 kw_19 hM.1 rfl rfl hl.1 rfl (Nat.le_of_ble_eq_true rfl) ⟨Nat.le_of_ble_eq_true rfl, Nat.le_of_ble_eq_true rfl⟩ dX5_foldAll_78 (fun w15 H locs hw15 hP hS => ?_)
              obtain ⟨F15, z15, hM, hMF15, hpF15, hpZ15, hpX15⟩ := hw15
              have hMF := hMF.tr hMF15
              have hsF15 := hsF.tr hpF15 (by decide)
              have hsZ15 := hsZ.tr hpZ15 (by decide)
              refine lv_goto (tgt := 117) C0.1 C0.2.1 dX5_foldAll_81 (by decide) ?_
              refine lv_iinc (v := nI (i + 1)) (lv' := [(1, .int (nI (i + 1))), (4, .int (kch 0 k)), (3, .int (nI k)), (2, .int (nI (192 + k))), (0, .ref o)]) C0.1 C0.2.1 dX5_foldAll_117 hl (k := 3) rfl (nI_add i 1) (by decide) rfl (fun ls hl => ?_)
              refine lv_goto (tgt := 7) C0.1 C0.2.1 dX5_foldAll_120 (by decide) ?_
              exact ih7 (i + 1) _ _ _ _ (by omega) hM hMF hsF15 hsZ15 hpX15 (by have := @inOrd_gr 400 X (smA (nI (192 + k))); omega) (by rw [hfo, drop_c (by omega), List.foldl_cons]; congr 1; rw [← hx, foldPt_k hk64, if_pos c10]) (by omega) _ _ _ hP hS (lv_sub hl [0, 4] rfl)
  exact loop7 (Pl.length - 0 + 1) 0 [] _ _ _ (Nat.zero_le _) hM hMF SameF.rf (SameZ.rf.wr hz1 (by decide)) (Ls.nil hz1_19) (Nat.zero_le _) rfl (Nat.lt_succ_self _) _ _ _ hP hS (lv_sub hl [0, 1] rfl)
