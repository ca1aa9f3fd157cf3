set_option maxHeartbeats 4000000 in
set_option maxRecDepth 100000 in
/-- markStep(i), within the text -/
theorem c_X0_markStep (l : Launch) (G : me_G) (B0 : Nat) (w : Me) (i : Nat) (hi64 : i < 64) : CtWI l yX0_markStep (Cond.code yX0_markStep cX0_markStep 2 (some .int)) ({ frames := 4, cells := 0, slots := 0, locals := 85 }) G B0 w [.int (nI i)] (fun z w' => z = kstep i ∧ w' = w) 0 0 := by
  refine Met.ofW (cc := cX0_markStep) (maxL := 2) (ret := (some .int)) (by decide) rfl ?_
  intro p e s m args below meth c s₁ B hml hv
  obtain ⟨rfl, hK, hP, hKq, hBs⟩ := hv
  have hts := fun w h => atoms_spec (ws := Cond.code yX0_markStep cX0_markStep 2 (some .int) :: tbG) B.pre w (List.mem_cons_of_mem _ h)
  have hown : s.vm.findClass RX0 = some m.cls := findClass_of_methodNamed B.named
  have C0 : Cx G B0 p s m _ c cX0_markStep RX0 := ⟨B.exec, B.bytes, hown, hts, hK, hKq, hBs⟩
  have hS : va_S (me_A B0) s.heap s.heap [] := va_S.rf
  have hl := lv_entry ([.int (nI i)]) (n := 2) (Nat.le_of_ble_eq_true rfl)
  rw [lg_entry_eq]
  generalize (lg_sl ([.int (nI i)]) ++ List.replicate (2 - (lg_sl ([.int (nI i)])).length) Slot.unset).toArray = ls at hl ⊢
  have hl : lv_has ls 2 [(0, .int (nI i))] := hl
  refine lv_iload_n C0.1 C0.2.1 dX0_markStep_0 rfl (lv_at hl 0 rfl) ?_
  refine lv_if_lt (tgt := 13) C0.1 C0.2.1 dX0_markStep_1 (by decide) (fun c1 => ?_) (fun c1 => ?_)
  · have d1 : i < 0 := (nI_ltI (a := i) (b := 0) (by omega) (by omega)).mp c1
    exact absurd c1 (nI_pos (by omega))
  · have d1 : 0 ≤ i := Nat.not_lt.mp (fun h => c1 (nI_lt (a := i) (b := 0) h (by omega)))
    refine lv_iload_n C0.1 C0.2.1 dX0_markStep_4 rfl (lv_at hl 0 rfl) ?_
    refine va_ldcS C0.1 C0.2.1 C0.2.2.1 hKq.2.1.2.1 dX0_markStep_5 ?_
    refine me_cVk (n := 0) C0 hml hP hS (c_J0_length l G B0 w 1 (by decide)) ⟨kw_179, kw_42, kw_176, ⟨by decide, by decide, by decide +kernel⟩, ⟨rfl, rfl⟩, ⟨Nat.le_of_ble_eq_true rfl, Nat.le_of_ble_eq_true rfl⟩⟩ kw_177 kw_178 (vk_recv hKq.1 (by decide) hS) rfl hl.1 rfl (Nat.le_of_ble_eq_true rfl) ⟨Nat.le_of_ble_eq_true rfl, Nat.le_of_ble_eq_true rfl⟩ dX0_markStep_7 (fun r2 hr2 => ?_)
    have hr2 : r2 = nI 64 := hr2
    subst hr2
    refine lv_icmp_lt (tgt := 15) C0.1 C0.2.1 dX0_markStep_10 (by decide) (fun c3 => ?_) (fun c3 => ?_)
    · have d3 : i < 64 := (nI_ltI (a := i) (b := 64) (by omega) (by omega)).mp c3
      refine va_ldcS C0.1 C0.2.1 C0.2.2.1 hKq.2.1.2.1 dX0_markStep_15 ?_
      refine lv_iload_n C0.1 C0.2.1 dX0_markStep_17 rfl (lv_at hl 0 rfl) ?_
      refine me_cVkw (n := 1) C0 hml hP hS (c_J0_charAt l G B0 w 1 (by decide) i (by show i < 64; omega)) ⟨kw_189, kw_42, kw_186, ⟨by decide, by decide, by decide +kernel⟩, ⟨rfl, rfl⟩, ⟨Nat.le_of_ble_eq_true rfl, Nat.le_of_ble_eq_true rfl⟩⟩ kw_187 kw_188 (vk_recv hKq.1 (by decide) hS) rfl hl.1 rfl (Nat.le_of_ble_eq_true rfl) ⟨Nat.le_of_ble_eq_true rfl, Nat.le_of_ble_eq_true rfl⟩ dX0_markStep_18 (fun r4 w4 H locs hw4 hP hS => ?_)
      obtain ⟨hzr4, hyr4⟩ := hw4
      rw [hyr4] at hP
      subst hzr4
      refine lv_bipush (v := 48) C0.1 C0.2.1 dX0_markStep_21 (by decide) ?_
      refine lv_isub C0.1 C0.2.1 dX0_markStep_23 ?_
      refine lv_istore_n (lv' := [(1, .int ((kch 1 i) - 48)), (0, .int (nI i))]) C0.1 C0.2.1 dX0_markStep_24 rfl hl (by decide) rfl (fun ls hl => ?_)
      refine lv_iload_n C0.1 C0.2.1 dX0_markStep_25 rfl (lv_at hl 0 rfl) ?_
      refine lv_if_lt (tgt := 37) C0.1 C0.2.1 dX0_markStep_26 (by decide) (fun c5 => ?_) (fun c5 => ?_)
      · refine lv_iconst (v := 0) C0.1 C0.2.1 dX0_markStep_37 (by decide) ?_
        refine lv_goto (tgt := 46) C0.1 C0.2.1 dX0_markStep_38 (by decide) ?_
        exact me_wiret _ C0.1 C0.2.1 B.returns B.notSynchronized hP hS (Nat.le_of_ble_eq_true rfl) (Nat.le_of_ble_eq_true rfl) (⟨by unfold kstep; rw [if_pos c5], rfl⟩) dX0_markStep_46
      · refine lv_iload_n C0.1 C0.2.1 dX0_markStep_29 rfl (lv_at hl 0 rfl) ?_
        refine va_gets C0.1 C0.2.1 hKq.2.2.1.1 hS C0.2.2.1 (C0.2.2.2.1 _ kw_249) (fun _ h => h) dX0_markStep_30 ?_
        refine va_tlen C0.1 C0.2.1 hKq.2.2.1.2 hS (v := nI 7) rfl dX0_markStep_33 ?_
        refine lv_icmp_lt (tgt := 41) C0.1 C0.2.1 dX0_markStep_34 (by decide) (fun c6 => ?_) (fun c6 => ?_)
        · refine va_gets C0.1 C0.2.1 hKq.2.2.1.1 hS C0.2.2.1 (C0.2.2.2.1 _ kw_249) (fun _ h => h) dX0_markStep_41 ?_
          refine lv_iload_n C0.1 C0.2.1 dX0_markStep_44 rfl (lv_at hl 0 rfl) ?_
          refine va_ti C0.1 C0.2.1 hKq.2.2.1.2 hS (ix_lt (n := 7) c5 c6 (Nat.le_refl 7) (by omega)) (v := .int (kq_steps.getD ((kch 1 i) - 48).toNatClampNeg 0)) rfl dX0_markStep_45 ?_
          exact me_wiret _ C0.1 C0.2.1 B.returns B.notSynchronized hP hS (Nat.le_of_ble_eq_true rfl) (Nat.le_of_ble_eq_true rfl) (⟨by unfold kstep; rw [if_neg c5, if_pos c6], rfl⟩) dX0_markStep_46
        · refine lv_iconst (v := 0) C0.1 C0.2.1 dX0_markStep_37 (by decide) ?_
          refine lv_goto (tgt := 46) C0.1 C0.2.1 dX0_markStep_38 (by decide) ?_
          exact me_wiret _ C0.1 C0.2.1 B.returns B.notSynchronized hP hS (Nat.le_of_ble_eq_true rfl) (Nat.le_of_ble_eq_true rfl) (⟨by unfold kstep; rw [if_neg c5, if_neg c6], rfl⟩) dX0_markStep_46
    · have d3 : 64 ≤ i := Nat.not_lt.mp (fun h => c3 (nI_lt (a := i) (b := 64) h (by omega)))
      exact absurd d3 (by omega)

set_option maxHeartbeats 4000000 in
set_option maxRecDepth 100000 in
/-- addInOrder(point) -/
theorem c_X0_addInOrder (l : Launch) (G : me_G) (B0 : Nat) (w : Me) (r b cap : Nat) (xs : List Int32) (hR : Rw G w r b cap xs) (hBr : B0 ≤ r) (hBb : B0 ≤ b) (p0 : Int32) : CtWV l yX0_addInOrder (Cond.code yX0_addInOrder cX0_addInOrder 4 none) ({ frames := 1, cells := 0, slots := 0, locals := 23 }) G B0 w [.ref r, .int p0] (fun w' => Rw G w' r b cap (inOrd cap xs p0) ∧ Ch w w' r b) 0 0 := by
  refine Met.ofW (cc := cX0_addInOrder) (maxL := 4) (ret := none) (by decide) rfl ?_
  intro p e s m args below meth c s₁ B hml hv
  obtain ⟨rfl, hK, hP, hKq, hBs⟩ := hv
  have hts := fun w h => atoms_spec (ws := Cond.code yX0_addInOrder cX0_addInOrder 4 none :: tbG) B.pre w (List.mem_cons_of_mem _ h)
  have hown : s.vm.findClass RX0 = some m.cls := findClass_of_methodNamed B.named
  have C0 : Cx G B0 p s m _ c cX0_addInOrder RX0 := ⟨B.exec, B.bytes, hown, hts, hK, hKq, hBs⟩
  have hS : va_S (me_A B0) s.heap s.heap [] := va_S.rf
  have hl := lv_entry ([.ref r, .int p0]) (n := 4) (Nat.le_of_ble_eq_true rfl)
  rw [lg_entry_eq]
  generalize (lg_sl ([.ref r, .int p0]) ++ List.replicate (4 - (lg_sl ([.ref r, .int p0])).length) Slot.unset).toArray = ls at hl ⊢
  have hl : lv_has ls 4 [(0, .ref r), (1, .int p0)] := hl
  have hlen := hR.len
  refine lv_iload_n C0.1 C0.2.1 dX0_addInOrder_0 rfl (lv_at hl 1 rfl) ?_
  refine me_cSi (n := 1) C0 hml hP hS (c_X0_markClass l G B0 w p0) ⟨kw_238, kw_41, kw_236, ⟨by decide, by decide, by decide +kernel⟩, ⟨rfl, rfl⟩, ⟨Nat.le_of_ble_eq_true rfl, Nat.le_of_ble_eq_true rfl⟩⟩ kw_237 rfl hl.1 rfl (Nat.le_of_ble_eq_true rfl) ⟨Nat.le_of_ble_eq_true rfl, Nat.le_of_ble_eq_true rfl⟩ dX0_addInOrder_1 (fun r1 hr1 => ?_)
  subst hr1
  refine lv_istore_n (lv' := [(2, .int (mkCls p0)), (0, .ref r), (1, .int p0)]) C0.1 C0.2.1 dX0_addInOrder_4 rfl hl (by decide) rfl (fun ls hl => ?_)
  refine lv_aload_n C0.1 C0.2.1 dX0_addInOrder_5 rfl (lv_at hl 1 rfl) ?_
  refine me_cVi (n := 0) C0 hml hP hS (c_X2_size l G B0 w r b cap xs hR) ⟨kw_141, kw_32, kw_239, ⟨by decide, by decide, by decide +kernel⟩, ⟨rfl, rfl⟩, ⟨Nat.le_of_ble_eq_true rfl, Nat.le_of_ble_eq_true rfl⟩⟩ kw_139 kw_140 hR.1 rfl rfl hl.1 rfl (Nat.le_of_ble_eq_true rfl) ⟨Nat.le_of_ble_eq_true rfl, Nat.le_of_ble_eq_true rfl⟩ dX0_addInOrder_6 (fun r2 hr2 => ?_)
  subst hr2
  refine lv_istore_n (lv' := [(3, .int (nI xs.length)), (2, .int (mkCls p0)), (0, .ref r), (1, .int p0)]) C0.1 C0.2.1 dX0_addInOrder_9 rfl hl (by decide) rfl (fun ls hl => ?_)
  have loop10 : ∀ (n : Nat) (i : Nat), (i ≤ xs.length) → (plc xs (mkCls p0) xs.length = plc xs (mkCls p0) i) → i < n → ∀ (ls : Array Slot), lv_has ls 4 [(3, .int (nI i)), (2, .int (mkCls p0)), (0, .ref r), (1, .int p0)] → W p l e ({ frames := 1, cells := 0, slots := 0, locals := 23 }) s m ([.ref r, .int p0] : List Value).toArray below meth c s.heap [] 0 0 (MQ below (va_Qv (fun w' => Rw G w' r b cap (inOrd cap xs p0) ∧ Ch w w' r b) (me_W G) (me_A B0)) ([.ref r, .int p0] : List Value).toArray s 0 0 (me_A B0)) (F0 m 10 ls []) := by
    intro n
    induction n with
    | zero => intro i _ _ hz; exact absurd hz (Nat.not_lt_zero _)
    | succ n ih10 =>
      intro i hil hpl hn10  ls  hl
      refine lv_iload_n C0.1 C0.2.1 dX0_addInOrder_10 rfl (lv_at hl 1 rfl) ?_
      refine lv_if_le (tgt := 38) C0.1 C0.2.1 dX0_addInOrder_11 (by decide) (fun c3 => ?_) (fun c3 => ?_)
      · refine lv_aload_n C0.1 C0.2.1 dX0_addInOrder_38 rfl (lv_at hl 2 rfl) ?_
        refine lv_iload_n C0.1 C0.2.1 dX0_addInOrder_39 rfl (lv_at hl 0 rfl) ?_
        refine lv_iload_n C0.1 C0.2.1 dX0_addInOrder_40 rfl (lv_at hl 3 rfl) ?_
        refine me_cVwv (n := 2) C0 hml hP hS (c_X2_insert l G B0 w r b cap xs hR hBr hBb i (by omega) p0) ⟨kw_244, kw_32, kw_241, ⟨by decide, by decide, by decide +kernel⟩, ⟨rfl, rfl⟩, ⟨Nat.le_of_ble_eq_true rfl, Nat.le_of_ble_eq_true rfl⟩⟩ kw_242 kw_243 hR.1 rfl rfl hl.1 rfl (Nat.le_of_ble_eq_true rfl) ⟨Nat.le_of_ble_eq_true rfl, Nat.le_of_ble_eq_true rfl⟩ dX0_addInOrder_41 (fun w4 H locs hw4 hP hS => ?_)
        exact me_wvret _ C0.1 C0.2.1 B.returns B.notSynchronized hP hS (Nat.le_of_ble_eq_true rfl) (Nat.le_of_ble_eq_true rfl) (by have he : i = plc xs (mkCls p0) xs.length := (hpl.trans (plc_own c3 i)).symm; unfold inOrd; rw [← he]; exact hw4) dX0_addInOrder_44
      · refine lv_iload_n C0.1 C0.2.1 dX0_addInOrder_14 rfl (lv_at hl 0 rfl) ?_
        refine lv_if_le (tgt := 38) C0.1 C0.2.1 dX0_addInOrder_15 (by decide) (fun c5 => ?_) (fun c5 => ?_)
        · have d5 : i ≤ 0 := (nI_leI (a := i) (b := 0) (by omega) (by omega)).mp c5
          refine lv_aload_n C0.1 C0.2.1 dX0_addInOrder_38 rfl (lv_at hl 2 rfl) ?_
          refine lv_iload_n C0.1 C0.2.1 dX0_addInOrder_39 rfl (lv_at hl 0 rfl) ?_
          refine lv_iload_n C0.1 C0.2.1 dX0_addInOrder_40 rfl (lv_at hl 3 rfl) ?_
          refine me_cVwv (n := 2) C0 hml hP hS (c_X2_insert l G B0 w r b cap xs hR hBr hBb i (by omega) p0) ⟨kw_244, kw_32, kw_241, ⟨by decide, by decide, by decide +kernel⟩, ⟨rfl, rfl⟩, ⟨Nat.le_of_ble_eq_true rfl, Nat.le_of_ble_eq_true rfl⟩⟩ kw_242 kw_243 hR.1 rfl rfl hl.1 rfl (Nat.le_of_ble_eq_true rfl) ⟨Nat.le_of_ble_eq_true rfl, Nat.le_of_ble_eq_true rfl⟩ dX0_addInOrder_41 (fun w6 H locs hw6 hP hS => ?_)
          exact me_wvret _ C0.1 C0.2.1 B.returns B.notSynchronized hP hS (Nat.le_of_ble_eq_true rfl) (Nat.le_of_ble_eq_true rfl) (by have he : i = plc xs (mkCls p0) xs.length := (hpl.trans ((show plc xs (mkCls p0) i = i by rw [show i = 0 by omega]; rfl))).symm; unfold inOrd; rw [← he]; exact hw6) dX0_addInOrder_44
        · have d5 : 0 < i := Nat.not_le.mp (fun h => c5 (nI_le (a := i) (b := 0) h (by omega)))
          refine lv_aload_n C0.1 C0.2.1 dX0_addInOrder_18 rfl (lv_at hl 2 rfl) ?_
          refine lv_iload_n C0.1 C0.2.1 dX0_addInOrder_19 rfl (lv_at hl 0 rfl) ?_
          refine lv_iconst (v := 1) C0.1 C0.2.1 dX0_addInOrder_20 (by decide) ?_
          refine lv_isub C0.1 C0.2.1 dX0_addInOrder_21 ?_
          refine me_topi (y := nI (i - 1)) (pk_sub (a := i) (b := 1) (by omega)) ?_
          refine me_cVi (n := 1) C0 hml hP hS (c_X2_at l G B0 w r b cap xs hR (nI (i - 1))) ⟨kw_151, kw_32, kw_240, ⟨by decide, by decide, by decide +kernel⟩, ⟨rfl, rfl⟩, ⟨Nat.le_of_ble_eq_true rfl, Nat.le_of_ble_eq_true rfl⟩⟩ kw_149 kw_150 hR.1 rfl rfl hl.1 rfl (Nat.le_of_ble_eq_true rfl) ⟨Nat.le_of_ble_eq_true rfl, Nat.le_of_ble_eq_true rfl⟩ dX0_addInOrder_22 (fun r7 hr7 => ?_)
          rw [ra_nat (by omega) (by omega)] at hr7
          subst hr7
          refine me_cSi (n := 1) C0 hml hP hS (c_X0_markClass l G B0 w (xs.getD (i - 1) 0)) ⟨kw_238, kw_41, kw_236, ⟨by decide, by decide, by decide +kernel⟩, ⟨rfl, rfl⟩, ⟨Nat.le_of_ble_eq_true rfl, Nat.le_of_ble_eq_true rfl⟩⟩ kw_237 rfl hl.1 rfl (Nat.le_of_ble_eq_true rfl) ⟨Nat.le_of_ble_eq_true rfl, Nat.le_of_ble_eq_true rfl⟩ dX0_addInOrder_25 (fun r8 hr8 => ?_)
          subst hr8
          refine lv_iload_n C0.1 C0.2.1 dX0_addInOrder_28 rfl (lv_at hl 1 rfl) ?_
          refine lv_icmp_le (tgt := 38) C0.1 C0.2.1 dX0_addInOrder_29 (by decide) (fun c9 => ?_) (fun c9 => ?_)
          · refine lv_aload_n C0.1 C0.2.1 dX0_addInOrder_38 rfl (lv_at hl 2 rfl) ?_
            refine lv_iload_n C0.1 C0.2.1 dX0_addInOrder_39 rfl (lv_at hl 0 rfl) ?_
            refine lv_iload_n C0.1 C0.2.1 dX0_addInOrder_40 rfl (lv_at hl 3 rfl) ?_
            refine me_cVwv (n := 2) C0 hml hP hS (c_X2_insert l G B0 w r b cap xs hR hBr hBb i (by omega) p0) ⟨kw_244, kw_32, kw_241, ⟨by decide, by decide, by decide +kernel⟩, ⟨rfl, rfl⟩, ⟨Nat.le_of_ble_eq_true rfl, Nat.le_of_ble_eq_true rfl⟩⟩ kw_242 kw_243 hR.1 rfl rfl hl.1 rfl (Nat.le_of_ble_eq_true rfl) ⟨Nat.le_of_ble_eq_true rfl, Nat.le_of_ble_eq_true rfl⟩ dX0_addInOrder_41 (fun w10 H locs hw10 hP hS => ?_)
            exact me_wvret _ C0.1 C0.2.1 B.returns B.notSynchronized hP hS (Nat.le_of_ble_eq_true rfl) (Nat.le_of_ble_eq_true rfl) (by have he : i = plc xs (mkCls p0) xs.length := (hpl.trans (plc_stop (by omega) c9)).symm; unfold inOrd; rw [← he]; exact hw10) dX0_addInOrder_44
          · refine lv_iinc (v := nI (i - 1)) (lv' := [(3, .int (nI (i - 1))), (2, .int (mkCls p0)), (0, .ref r), (1, .int p0)]) C0.1 C0.2.1 dX0_addInOrder_32 hl (k := 0) rfl (sb_m1 (by omega)) (by decide) rfl (fun ls hl => ?_)
            refine lv_goto (tgt := 10) C0.1 C0.2.1 dX0_addInOrder_35 (by decide) ?_
            exact ih10 (i - 1) (by omega) (by rw [hpl]; exact plc_go (by omega) c3 c9) (by omega) _ (lv_sub hl [0, 1, 2, 3] rfl)
  exact loop10 (xs.length + 1) xs.length (Nat.le_refl _) rfl (Nat.lt_succ_self _) _ (lv_sub hl [0, 1, 2, 3] rfl)

set_option maxHeartbeats 4000000 in
set_option maxRecDepth 100000 in
/-- addFolded(point) -/
theorem c_X0_addFolded (l : Launch) (G : me_G) (B0 : Nat) (w : Me) (r b cap : Nat) (xs : List Int32) (hR : Rw G w r b cap xs) (hBr : B0 ≤ r) (hBb : B0 ≤ b) (x : Int32) : CtWV l yX0_addFolded (Cond.code yX0_addFolded cX0_addFolded 4 none) ({ frames := 5, cells := 0, slots := 0, locals := 106 }) G B0 w [.ref r, .int x] (fun w' => Rw G w' r b cap (foldPt cap xs x) ∧ Ch w w' r b) 0 0 := by
  refine Met.ofW (cc := cX0_addFolded) (maxL := 4) (ret := none) (by decide) rfl ?_
  intro p e s m args below meth c s₁ B hml hv
  obtain ⟨rfl, hK, hP, hKq, hBs⟩ := hv
  have hts := fun w h => atoms_spec (ws := Cond.code yX0_addFolded cX0_addFolded 4 none :: tbG) B.pre w (List.mem_cons_of_mem _ h)
  have hown : s.vm.findClass RX0 = some m.cls := findClass_of_methodNamed B.named
  have C0 : Cx G B0 p s m _ c cX0_addFolded RX0 := ⟨B.exec, B.bytes, hown, hts, hK, hKq, hBs⟩
  have hS : va_S (me_A B0) s.heap s.heap [] := va_S.rf
  have hl := lv_entry ([.ref r, .int x]) (n := 4) (Nat.le_of_ble_eq_true rfl)
  rw [lg_entry_eq]
  generalize (lg_sl ([.ref r, .int x]) ++ List.replicate (4 - (lg_sl ([.ref r, .int x])).length) Slot.unset).toArray = ls at hl ⊢
  have hl : lv_has ls 4 [(0, .ref r), (1, .int x)] := hl
  have hlen := hR.len
  refine lv_iload_n C0.1 C0.2.1 dX0_addFolded_0 rfl (lv_at hl 1 rfl) ?_
  refine lv_sipush (v := 192) C0.1 C0.2.1 dX0_addFolded_1 (by decide) ?_
  refine lv_isub C0.1 C0.2.1 dX0_addFolded_4 ?_
  refine lv_topi (fun z hz => ?_)
  refine lv_istore_n (lv' := [(2, .int z), (0, .ref r), (1, .int x)]) C0.1 C0.2.1 dX0_addFolded_5 rfl hl (by decide) rfl (fun ls hl => ?_)
  refine lv_iload_n C0.1 C0.2.1 dX0_addFolded_6 rfl (lv_at hl 0 rfl) ?_
  refine lv_if_lt (tgt := 34) C0.1 C0.2.1 dX0_addFolded_7 (by decide) (fun c1 => ?_) (fun c1 => ?_)
  · refine lv_iconst (v := 0) C0.1 C0.2.1 dX0_addFolded_34 (by decide) ?_
    refine lv_istore_n (lv' := [(3, .int 0), (2, .int z), (0, .ref r), (1, .int x)]) C0.1 C0.2.1 dX0_addFolded_35 rfl hl (by decide) rfl (fun ls hl => ?_)
    refine lv_iload_n C0.1 C0.2.1 dX0_addFolded_36 rfl (lv_at hl 0 rfl) ?_
    refine lv_if_ne (tgt := 49) C0.1 C0.2.1 dX0_addFolded_37 (by decide) (fun c => absurd c (by decide)) (fun c => ?_)
    refine lv_aload_n C0.1 C0.2.1 dX0_addFolded_40 rfl (lv_at hl 2 rfl) ?_
    refine lv_iload_n C0.1 C0.2.1 dX0_addFolded_41 rfl (lv_at hl 3 rfl) ?_
    refine me_cSi (n := 1) C0 hml hP hS (c_X0_small l G B0 w x) ⟨kw_226, kw_41, kw_224, ⟨by decide, by decide, by decide +kernel⟩, ⟨rfl, rfl⟩, ⟨Nat.le_of_ble_eq_true rfl, Nat.le_of_ble_eq_true rfl⟩⟩ kw_225 rfl hl.1 rfl (Nat.le_of_ble_eq_true rfl) ⟨Nat.le_of_ble_eq_true rfl, Nat.le_of_ble_eq_true rfl⟩ dX0_addFolded_42 (fun r3 hr3 => ?_)
    subst hr3
    refine me_cSwv (n := 2) C0 hml hP hS (c_X0_addInOrder l G B0 w r b cap xs hR hBr hBb (smA x)) ⟨kw_235, kw_41, kw_233, ⟨by decide, by decide, by decide +kernel⟩, ⟨rfl, rfl⟩, ⟨Nat.le_of_ble_eq_true rfl, Nat.le_of_ble_eq_true rfl⟩⟩ kw_234 rfl hl.1 rfl (Nat.le_of_ble_eq_true rfl) ⟨Nat.le_of_ble_eq_true rfl, Nat.le_of_ble_eq_true rfl⟩ dX0_addFolded_45 (fun w4 H locs hw4 hP hS => ?_)
    exact me_wvret _ C0.1 C0.2.1 B.returns B.notSynchronized hP hS (Nat.le_of_ble_eq_true rfl) (Nat.le_of_ble_eq_true rfl) (by unfold foldPt; rw [if_pos (hz ▸ c1)]; exact hw4) dX0_addFolded_48
  · refine lv_iload_n C0.1 C0.2.1 dX0_addFolded_10 rfl (lv_at hl 0 rfl) ?_
    refine va_ldcS C0.1 C0.2.1 C0.2.2.1 hKq.2.1.1 dX0_addFolded_11 ?_
    refine me_cVk (n := 0) C0 hml hP hS (c_J0_length l G B0 w 0 (by decide)) ⟨kw_179, kw_42, kw_176, ⟨by decide, by decide, by decide +kernel⟩, ⟨rfl, rfl⟩, ⟨Nat.le_of_ble_eq_true rfl, Nat.le_of_ble_eq_true rfl⟩⟩ kw_177 kw_178 (vk_recv hKq.1 (by decide) hS) rfl hl.1 rfl (Nat.le_of_ble_eq_true rfl) ⟨Nat.le_of_ble_eq_true rfl, Nat.le_of_ble_eq_true rfl⟩ dX0_addFolded_13 (fun r5 hr5 => ?_)
    have hr5 : r5 = nI 64 := hr5
    subst hr5
    refine lv_icmp_ge (tgt := 34) C0.1 C0.2.1 dX0_addFolded_16 (by decide) (fun c6 => ?_) (fun c6 => ?_)
    · refine lv_iconst (v := 0) C0.1 C0.2.1 dX0_addFolded_34 (by decide) ?_
      refine lv_istore_n (lv' := [(3, .int 0), (2, .int z), (0, .ref r), (1, .int x)]) C0.1 C0.2.1 dX0_addFolded_35 rfl hl (by decide) rfl (fun ls hl => ?_)
      refine lv_iload_n C0.1 C0.2.1 dX0_addFolded_36 rfl (lv_at hl 0 rfl) ?_
      refine lv_if_ne (tgt := 49) C0.1 C0.2.1 dX0_addFolded_37 (by decide) (fun c => absurd c (by decide)) (fun c => ?_)
      refine lv_aload_n C0.1 C0.2.1 dX0_addFolded_40 rfl (lv_at hl 2 rfl) ?_
      refine lv_iload_n C0.1 C0.2.1 dX0_addFolded_41 rfl (lv_at hl 3 rfl) ?_
      refine me_cSi (n := 1) C0 hml hP hS (c_X0_small l G B0 w x) ⟨kw_226, kw_41, kw_224, ⟨by decide, by decide, by decide +kernel⟩, ⟨rfl, rfl⟩, ⟨Nat.le_of_ble_eq_true rfl, Nat.le_of_ble_eq_true rfl⟩⟩ kw_225 rfl hl.1 rfl (Nat.le_of_ble_eq_true rfl) ⟨Nat.le_of_ble_eq_true rfl, Nat.le_of_ble_eq_true rfl⟩ dX0_addFolded_42 (fun r8 hr8 => ?_)
      subst hr8
      refine me_cSwv (n := 2) C0 hml hP hS (c_X0_addInOrder l G B0 w r b cap xs hR hBr hBb (smA x)) ⟨kw_235, kw_41, kw_233, ⟨by decide, by decide, by decide +kernel⟩, ⟨rfl, rfl⟩, ⟨Nat.le_of_ble_eq_true rfl, Nat.le_of_ble_eq_true rfl⟩⟩ kw_234 rfl hl.1 rfl (Nat.le_of_ble_eq_true rfl) ⟨Nat.le_of_ble_eq_true rfl, Nat.le_of_ble_eq_true rfl⟩ dX0_addFolded_45 (fun w9 H locs hw9 hP hS => ?_)
      exact me_wvret _ C0.1 C0.2.1 B.returns B.notSynchronized hP hS (Nat.le_of_ble_eq_true rfl) (Nat.le_of_ble_eq_true rfl) (by unfold foldPt; rw [if_neg (hz ▸ c1), if_pos (hz ▸ c6)]; exact hw9) dX0_addFolded_48
    · obtain ⟨k, hk64, rfl⟩ : ∃ k : Nat, k < 64 ∧ z = nI k := by obtain ⟨h1, h2⟩ := nI_lt_of (n := 64) (by omega) c1 (Int32.not_le.mp c6); exact ⟨_, h1, h2⟩
      have hzk : (x - 192).toNatClampNeg = k := by rw [← hz]; exact nI_clamp (by omega)
      refine va_ldcS C0.1 C0.2.1 C0.2.2.1 hKq.2.1.1 dX0_addFolded_19 ?_
      refine lv_iload_n C0.1 C0.2.1 dX0_addFolded_21 rfl (lv_at hl 0 rfl) ?_
      refine me_cVkw (n := 1) C0 hml hP hS (c_J0_charAt l G B0 w 0 (by decide) k (by show k < 64; omega)) ⟨kw_189, kw_42, kw_186, ⟨by decide, by decide, by decide +kernel⟩, ⟨rfl, rfl⟩, ⟨Nat.le_of_ble_eq_true rfl, Nat.le_of_ble_eq_true rfl⟩⟩ kw_187 kw_188 (vk_recv hKq.1 (by decide) hS) rfl hl.1 rfl (Nat.le_of_ble_eq_true rfl) ⟨Nat.le_of_ble_eq_true rfl, Nat.le_of_ble_eq_true rfl⟩ dX0_addFolded_22 (fun r10 w10 H locs hw10 hP hS => ?_)
      obtain ⟨hzr10, hyr10⟩ := hw10
      rw [hyr10] at hP
      subst hzr10
      refine lv_bipush (v := 95) C0.1 C0.2.1 dX0_addFolded_25 (by decide) ?_
      refine lv_icmp_eq (tgt := 34) C0.1 C0.2.1 dX0_addFolded_27 (by decide) (fun c11 => ?_) (fun c11 => ?_)
      · refine lv_iconst (v := 0) C0.1 C0.2.1 dX0_addFolded_34 (by decide) ?_
        refine lv_istore_n (lv' := [(3, .int 0), (2, .int (nI k)), (0, .ref r), (1, .int x)]) C0.1 C0.2.1 dX0_addFolded_35 rfl hl (by decide) rfl (fun ls hl => ?_)
        refine lv_iload_n C0.1 C0.2.1 dX0_addFolded_36 rfl (lv_at hl 0 rfl) ?_
        refine lv_if_ne (tgt := 49) C0.1 C0.2.1 dX0_addFolded_37 (by decide) (fun c => absurd c (by decide)) (fun c => ?_)
        refine lv_aload_n C0.1 C0.2.1 dX0_addFolded_40 rfl (lv_at hl 2 rfl) ?_
        refine lv_iload_n C0.1 C0.2.1 dX0_addFolded_41 rfl (lv_at hl 3 rfl) ?_
        refine me_cSi (n := 1) C0 hml hP hS (c_X0_small l G B0 w x) ⟨kw_226, kw_41, kw_224, ⟨by decide, by decide, by decide +kernel⟩, ⟨rfl, rfl⟩, ⟨Nat.le_of_ble_eq_true rfl, Nat.le_of_ble_eq_true rfl⟩⟩ kw_225 rfl hl.1 rfl (Nat.le_of_ble_eq_true rfl) ⟨Nat.le_of_ble_eq_true rfl, Nat.le_of_ble_eq_true rfl⟩ dX0_addFolded_42 (fun r13 hr13 => ?_)
        subst hr13
        refine me_cSwv (n := 2) C0 hml hP hS (c_X0_addInOrder l G B0 w r b cap xs hR hBr hBb (smA x)) ⟨kw_235, kw_41, kw_233, ⟨by decide, by decide, by decide +kernel⟩, ⟨rfl, rfl⟩, ⟨Nat.le_of_ble_eq_true rfl, Nat.le_of_ble_eq_true rfl⟩⟩ kw_234 rfl hl.1 rfl (Nat.le_of_ble_eq_true rfl) ⟨Nat.le_of_ble_eq_true rfl, Nat.le_of_ble_eq_true rfl⟩ dX0_addFolded_45 (fun w14 H locs hw14 hP hS => ?_)
        exact me_wvret _ C0.1 C0.2.1 B.returns B.notSynchronized hP hS (Nat.le_of_ble_eq_true rfl) (Nat.le_of_ble_eq_true rfl) (by unfold foldPt; rw [if_neg (hz ▸ c1), if_neg (hz ▸ c6), if_pos (by rw [hzk]; exact c11)]; exact hw14) dX0_addFolded_48
      · refine lv_iconst (v := 1) C0.1 C0.2.1 dX0_addFolded_30 (by decide) ?_
        refine lv_goto (tgt := 35) C0.1 C0.2.1 dX0_addFolded_31 (by decide) ?_
        refine lv_istore_n (lv' := [(3, .int 1), (2, .int (nI k)), (0, .ref r), (1, .int x)]) C0.1 C0.2.1 dX0_addFolded_35 rfl hl (by decide) rfl (fun ls hl => ?_)
        refine lv_iload_n C0.1 C0.2.1 dX0_addFolded_36 rfl (lv_at hl 0 rfl) ?_
        refine lv_if_ne (tgt := 49) C0.1 C0.2.1 dX0_addFolded_37 (by decide) (fun c => ?_) (fun c => absurd c (by decide))
        refine lv_aload_n C0.1 C0.2.1 dX0_addFolded_49 rfl (lv_at hl 2 rfl) ?_
        refine va_ldcS C0.1 C0.2.1 C0.2.2.1 hKq.2.1.1 dX0_addFolded_50 ?_
        refine lv_iload_n C0.1 C0.2.1 dX0_addFolded_52 rfl (lv_at hl 1 rfl) ?_
        refine me_cVkw (n := 1) C0 hml hP hS (c_J0_charAt l G B0 w 0 (by decide) k (by show k < 64; omega)) ⟨kw_189, kw_42, kw_186, ⟨by decide, by decide, by decide +kernel⟩, ⟨rfl, rfl⟩, ⟨Nat.le_of_ble_eq_true rfl, Nat.le_of_ble_eq_true rfl⟩⟩ kw_187 kw_188 (vk_recv hKq.1 (by decide) hS) rfl hl.1 rfl (Nat.le_of_ble_eq_true rfl) ⟨Nat.le_of_ble_eq_true rfl, Nat.le_of_ble_eq_true rfl⟩ dX0_addFolded_53 (fun r16 w16 H locs hw16 hP hS => ?_)
        obtain ⟨hzr16, hyr16⟩ := hw16
        rw [hyr16] at hP
        subst hzr16
        refine me_cSi (n := 1) C0 hml hP hS (c_X0_small l G B0 w (kch 0 k)) ⟨kw_226, kw_41, kw_224, ⟨by decide, by decide, by decide +kernel⟩, ⟨rfl, rfl⟩, ⟨Nat.le_of_ble_eq_true rfl, Nat.le_of_ble_eq_true rfl⟩⟩ kw_225 rfl hl.1 rfl (Nat.le_of_ble_eq_true rfl) ⟨Nat.le_of_ble_eq_true rfl, Nat.le_of_ble_eq_true rfl⟩ dX0_addFolded_56 (fun r17 hr17 => ?_)
        subst hr17
        refine me_cSwv (n := 2) C0 hml hP hS (c_X0_addInOrder l G B0 w r b cap xs hR hBr hBb (smA (kch 0 k))) ⟨kw_235, kw_41, kw_233, ⟨by decide, by decide, by decide +kernel⟩, ⟨rfl, rfl⟩, ⟨Nat.le_of_ble_eq_true rfl, Nat.le_of_ble_eq_true rfl⟩⟩ kw_234 rfl hl.1 rfl (Nat.le_of_ble_eq_true rfl) ⟨Nat.le_of_ble_eq_true rfl, Nat.le_of_ble_eq_true rfl⟩ dX0_addFolded_59 (fun w18 H locs hw18 hP hS => ?_)
        refine lv_aload_n C0.1 C0.2.1 dX0_addFolded_62 rfl (lv_at hl 2 rfl) ?_
        refine lv_sipush (v := 768) C0.1 C0.2.1 dX0_addFolded_63 (by decide) ?_
        refine lv_iload_n C0.1 C0.2.1 dX0_addFolded_66 rfl (lv_at hl 1 rfl) ?_
        refine me_cSwi (n := 1) C0 hml hP hS (c_X0_markStep l G B0 w18 k hk64) ⟨kw_247, kw_41, kw_245, ⟨by decide, by decide, by decide +kernel⟩, ⟨rfl, rfl⟩, ⟨Nat.le_of_ble_eq_true rfl, Nat.le_of_ble_eq_true rfl⟩⟩ kw_246 rfl hl.1 rfl (Nat.le_of_ble_eq_true rfl) ⟨Nat.le_of_ble_eq_true rfl, Nat.le_of_ble_eq_true rfl⟩ dX0_addFolded_67 (fun r19 w19 H locs hw19 hP hS => ?_)
        obtain ⟨hzr19, hyr19⟩ := hw19
        rw [hyr19] at hP
        subst hzr19
        refine lv_iadd C0.1 C0.2.1 dX0_addFolded_70 ?_
        refine me_cSwv (n := 2) C0 hml hP hS (c_X0_addInOrder l G B0 w18 r b cap _ hw18.1 hBr hBb (768 + (kstep k))) ⟨kw_235, kw_41, kw_233, ⟨by decide, by decide, by decide +kernel⟩, ⟨rfl, rfl⟩, ⟨Nat.le_of_ble_eq_true rfl, Nat.le_of_ble_eq_true rfl⟩⟩ kw_234 rfl hl.1 rfl (Nat.le_of_ble_eq_true rfl) ⟨Nat.le_of_ble_eq_true rfl, Nat.le_of_ble_eq_true rfl⟩ dX0_addFolded_71 (fun w20 H locs hw20 hP hS => ?_)
        exact me_wvret _ C0.1 C0.2.1 B.returns B.notSynchronized hP hS (Nat.le_of_ble_eq_true rfl) (Nat.le_of_ble_eq_true rfl) (by unfold foldPt; rw [if_neg (hz ▸ c1), if_neg (hz ▸ c6), if_neg (by rw [hzk]; exact c11), hzk]; exact ⟨hw20.1, hw18.2.tr hw20.2⟩) dX0_addFolded_74

set_option maxHeartbeats 4000000 in
set_option maxRecDepth 100000 in
/-- foldInto -/
theorem c_X0_foldInto (l : Launch) (G : me_G) (B0 : Nat) (w : Me) (r b cap : Nat) (xs : List Int32) (hR : Rw G w r b cap xs) (r2 b2 cap2 : Nat) (ys : List Int32) (hR2 : Rw G w r2 b2 cap2 ys) (n1 : r2 ≠ r) (n2 : r2 ≠ b) (n3 : b2 ≠ r) (n4 : b2 ≠ b) (hBr : B0 ≤ r) (hBb : B0 ≤ b) (f t : Nat) (hft : f ≤ t) (ht : t ≤ ys.length) : CtWV l yX0_foldInto (Cond.code yX0_foldInto cX0_foldInto 6 none) ({ frames := 6, cells := 0, slots := 0, locals := 129 }) G B0 w [.ref r, .ref r2, .int (nI f), .int (nI t)] (fun w' => Rw G w' r b cap (fldN cap ys t (t - f) f []) ∧ Ch w w' r b) 0 0 := by
  refine Met.ofW (cc := cX0_foldInto) (maxL := 6) (ret := none) (by decide) rfl ?_
  intro p e s m args below meth c s₁ B hml hv
  obtain ⟨rfl, hK, hP, hKq, hBs⟩ := hv
  have hts := fun w h => atoms_spec (ws := Cond.code yX0_foldInto cX0_foldInto 6 none :: tbG) B.pre w (List.mem_cons_of_mem _ h)
  have hown : s.vm.findClass RX0 = some m.cls := findClass_of_methodNamed B.named
  have C0 : Cx G B0 p s m _ c cX0_foldInto RX0 := ⟨B.exec, B.bytes, hown, hts, hK, hKq, hBs⟩
  have hS : va_S (me_A B0) s.heap s.heap [] := va_S.rf
  have hl := lv_entry ([.ref r, .ref r2, .int (nI f), .int (nI t)]) (n := 6) (Nat.le_of_ble_eq_true rfl)
  rw [lg_entry_eq]
  generalize (lg_sl ([.ref r, .ref r2, .int (nI f), .int (nI t)]) ++ List.replicate (6 - (lg_sl ([.ref r, .ref r2, .int (nI f), .int (nI t)])).length) Slot.unset).toArray = ls at hl ⊢
  have hl : lv_has ls 6 [(0, .ref r), (1, .ref r2), (2, .int (nI f)), (3, .int (nI t))] := hl
  have hlen := hR2.len
  refine lv_aload_n C0.1 C0.2.1 dX0_foldInto_0 rfl (lv_at hl 0 rfl) ?_
  refine me_cVwv (n := 0) C0 hml hP hS (c_X2_clear l G B0 w r b cap xs hR hBr hBb) ⟨kw_117, kw_32, kw_170, ⟨by decide, by decide, by decide +kernel⟩, ⟨rfl, rfl⟩, ⟨Nat.le_of_ble_eq_true rfl, Nat.le_of_ble_eq_true rfl⟩⟩ kw_115 kw_116 hR.1 rfl rfl hl.1 rfl (Nat.le_of_ble_eq_true rfl) ⟨Nat.le_of_ble_eq_true rfl, Nat.le_of_ble_eq_true rfl⟩ dX0_foldInto_1 (fun w1 H locs hw1 hP hS => ?_)
  refine lv_iload_n C0.1 C0.2.1 dX0_foldInto_4 rfl (lv_at hl 2 rfl) ?_
  refine lv_istore (lv' := [(4, .int (nI f)), (0, .ref r), (1, .ref r2), (2, .int (nI f)), (3, .int (nI t))]) C0.1 C0.2.1 dX0_foldInto_5 hl (by decide) rfl (fun ls hl => ?_)
  have loop7 : ∀ (n : Nat) (i : Nat) (acc : List Int32) (w1 : Me), (f ≤ i) → (i ≤ t) → (Rw G w1 r b cap acc) → (Ch w w1 r b) → (fldN cap ys t (t - f) f [] = fldN cap ys t (t - i) i acc) → (t - i) < n → ∀ (H : Heap) (locs : List Loc), ∀ (ls : Array Slot), me_P G.1 w1 H → va_S (me_A B0) s.heap H locs → lv_has ls 6 [(4, .int (nI i)), (0, .ref r), (1, .ref r2), (2, .int (nI f)), (3, .int (nI t))] → W p l e ({ frames := 6, cells := 0, slots := 0, locals := 129 }) s m ([.ref r, .ref r2, .int (nI f), .int (nI t)] : List Value).toArray below meth c H locs 0 0 (MQ below (va_Qv (fun w' => Rw G w' r b cap (fldN cap ys t (t - f) f []) ∧ Ch w w' r b) (me_W G) (me_A B0)) ([.ref r, .ref r2, .int (nI f), .int (nI t)] : List Value).toArray s 0 0 (me_A B0)) (F0 m 7 ls []) := by
    intro n
    induction n with
    | zero => intro i acc w1 _ _ _ _ _ hz; exact absurd hz (Nat.not_lt_zero _)
    | succ n ih7 =>
      intro i acc w1 hif hit hR1 hC1 hfl hn7 H locs ls hP hS hl
      have hR2' := hC1.rw hR2 n1 n2 n3 n4
      refine lv_iload C0.1 C0.2.1 dX0_foldInto_7 (lv_at hl 0 rfl) ?_
      refine lv_iload_n C0.1 C0.2.1 dX0_foldInto_9 rfl (lv_at hl 4 rfl) ?_
      refine lv_icmp_ge (tgt := 40) C0.1 C0.2.1 dX0_foldInto_10 (by decide) (fun c2 => ?_) (fun c2 => ?_)
      · have d2 : t ≤ i := (nI_leI (a := t) (b := i) (by omega) (by omega)).mp c2
        exact me_wvret _ C0.1 C0.2.1 B.returns B.notSynchronized hP hS (Nat.le_of_ble_eq_true rfl) (Nat.le_of_ble_eq_true rfl) (by rw [hfl, show t - i = 0 by omega]; exact ⟨hR1, hC1⟩) dX0_foldInto_40
      · have d2 : i < t := Nat.not_le.mp (fun h => c2 (nI_le (a := t) (b := i) h (by omega)))
        refine lv_aload_n C0.1 C0.2.1 dX0_foldInto_13 rfl (lv_at hl 2 rfl) ?_
        refine lv_iload C0.1 C0.2.1 dX0_foldInto_14 (lv_at hl 0 rfl) ?_
        refine lv_iload_n C0.1 C0.2.1 dX0_foldInto_16 rfl (lv_at hl 4 rfl) ?_
        refine me_cSi (n := 3) C0 hml hP hS (c_X3_pointAt l G B0 w1 r2 b2 cap2 ys hR2' i t (by omega) ht) ⟨kw_147, kw_40, kw_171, ⟨by decide, by decide, by decide +kernel⟩, ⟨rfl, rfl⟩, ⟨Nat.le_of_ble_eq_true rfl, Nat.le_of_ble_eq_true rfl⟩⟩ kw_146 rfl hl.1 rfl (Nat.le_of_ble_eq_true rfl) ⟨Nat.le_of_ble_eq_true rfl, Nat.le_of_ble_eq_true rfl⟩ dX0_foldInto_17 (fun r3 hr3 => ?_)
        refine lv_istore (lv' := [(5, .int r3), (4, .int (nI i)), (0, .ref r), (1, .ref r2), (2, .int (nI f)), (3, .int (nI t))]) C0.1 C0.2.1 dX0_foldInto_20 hl (by decide) rfl (fun ls hl => ?_)
        refine lv_iload C0.1 C0.2.1 dX0_foldInto_22 (lv_at hl 0 rfl) ?_
        refine lv_iconst (v := (-1)) C0.1 C0.2.1 dX0_foldInto_24 (by decide) ?_
        refine lv_icmp_eq (tgt := 34) C0.1 C0.2.1 dX0_foldInto_25 (by decide) (fun c4 => ?_) (fun c4 => ?_)
        · refine lv_iinc (v := nI (i + 1)) (lv' := [(4, .int (nI (i + 1))), (5, .int r3), (0, .ref r), (1, .ref r2), (2, .int (nI f)), (3, .int (nI t))]) C0.1 C0.2.1 dX0_foldInto_34 hl (k := 1) rfl (nI_add i 1) (by decide) rfl (fun ls hl => ?_)
          refine lv_goto (tgt := 7) C0.1 C0.2.1 dX0_foldInto_37 (by decide) ?_
          exact ih7 (i + 1) _ _ (by omega) (by omega) hR1 hC1 (by rw [hfl, fldN_s (by omega), if_pos (hr3.symm.trans c4)]) (by omega) _ _ _ hP hS (lv_sub hl [0, 2, 3, 4, 5] rfl)
        · refine lv_aload_n C0.1 C0.2.1 dX0_foldInto_28 rfl (lv_at hl 2 rfl) ?_
          refine lv_iload C0.1 C0.2.1 dX0_foldInto_29 (lv_at hl 0 rfl) ?_
          refine me_cSwv (n := 2) C0 hml hP hS (c_X0_addFolded l G B0 w1 r b cap acc hR1 hBr hBb r3) ⟨kw_174, kw_41, kw_172, ⟨by decide, by decide, by decide +kernel⟩, ⟨rfl, rfl⟩, ⟨Nat.le_of_ble_eq_true rfl, Nat.le_of_ble_eq_true rfl⟩⟩ kw_173 rfl hl.1 rfl (Nat.le_of_ble_eq_true rfl) ⟨Nat.le_of_ble_eq_true rfl, Nat.le_of_ble_eq_true rfl⟩ dX0_foldInto_31 (fun w5 H locs hw5 hP hS => ?_)
          refine lv_iinc (v := nI (i + 1)) (lv' := [(4, .int (nI (i + 1))), (5, .int r3), (0, .ref r), (1, .ref r2), (2, .int (nI f)), (3, .int (nI t))]) C0.1 C0.2.1 dX0_foldInto_34 hl (k := 1) rfl (nI_add i 1) (by decide) rfl (fun ls hl => ?_)
          refine lv_goto (tgt := 7) C0.1 C0.2.1 dX0_foldInto_37 (by decide) ?_
          exact ih7 (i + 1) _ _ (by omega) (by omega) hw5.1 (hC1.tr hw5.2) (by rw [hfl, fldN_s (by omega), if_neg (fun h => c4 (hr3.trans h)), ← hr3]) (by omega) _ _ _ hP hS (lv_sub hl [0, 2, 3, 4, 5] rfl)
  exact loop7 (t - f + 1) f [] _ (Nat.le_refl _) hft hw1.1 hw1.2 rfl (Nat.lt_succ_self _) _ _ _ hP hS (lv_sub hl [0, 1, 2, 3, 4] rfl)
