set_option maxHeartbeats 4000000 in
set_option maxRecDepth 100000 in
/-- isDots(from, to) -/
theorem c_X3_isDots (l : Launch) (G : me_G) (B0 : Nat) (w : Me) (r b cap : Nat) (xs : List Int32) (hR : Rw G w r b cap xs) (f t : Nat) (hft : f ≤ t) (ht : t ≤ xs.length) : CtI l yX3_isDots (Cond.code yX3_isDots cX3_isDots 4 (some .boolean)) ({ frames := 1, cells := 0, slots := 0, locals := 21 }) G B0 w [.ref r, .int (nI f), .int (nI t)] (fun z => z = if isD xs f t then 1 else 0) := by
  refine Met.ofW (cc := cX3_isDots) (maxL := 4) (ret := (some .boolean)) (by decide) rfl ?_
  intro p e s m args below meth c s₁ B hml hv
  obtain ⟨rfl, hK, hP, hKq, hBs⟩ := hv
  have hts := fun w h => atoms_spec (ws := Cond.code yX3_isDots cX3_isDots 4 (some .boolean) :: tbG) B.pre w (List.mem_cons_of_mem _ h)
  have hown : s.vm.findClass RX3 = some m.cls := findClass_of_methodNamed B.named
  have C0 : Cx G B0 p s m _ c cX3_isDots RX3 := ⟨B.exec, B.bytes, hown, hts, hK, hKq, hBs⟩
  have hS : va_S (me_A B0) s.heap s.heap [] := va_S.rf
  have hl := lv_entry ([.ref r, .int (nI f), .int (nI t)]) (n := 4) (Nat.le_of_ble_eq_true rfl)
  rw [lg_entry_eq]
  generalize (lg_sl ([.ref r, .int (nI f), .int (nI t)]) ++ List.replicate (4 - (lg_sl ([.ref r, .int (nI f), .int (nI t)])).length) Slot.unset).toArray = ls at hl ⊢
  have hl : lv_has ls 4 [(0, .ref r), (1, .int (nI f)), (2, .int (nI t))] := hl
  have hlen := hR.len
  refine lv_iload_n C0.1 C0.2.1 dX3_isDots_0 rfl (lv_at hl 2 rfl) ?_
  refine lv_iload_n C0.1 C0.2.1 dX3_isDots_1 rfl (lv_at hl 1 rfl) ?_
  refine lv_isub C0.1 C0.2.1 dX3_isDots_2 ?_
  refine me_topi (y := nI (t - f)) (pk_sub (a := t) (b := f) (by omega)) ?_
  refine lv_istore_n (lv' := [(3, .int (nI (t - f))), (0, .ref r), (1, .int (nI f)), (2, .int (nI t))]) C0.1 C0.2.1 dX3_isDots_3 rfl hl (by decide) rfl (fun ls hl => ?_)
  refine lv_iload_n C0.1 C0.2.1 dX3_isDots_4 rfl (lv_at hl 0 rfl) ?_
  refine lv_iconst (v := 1) C0.1 C0.2.1 dX3_isDots_5 (by decide) ?_
  refine lv_icmp_eq (tgt := 14) C0.1 C0.2.1 dX3_isDots_6 (by decide) (fun c1 => ?_) (fun c1 => ?_)
  · have d1 : (t - f) = 1 := (nI_eq (a := (t - f)) (b := 1) (by omega) (by omega)).mp c1
    refine lv_aload_n C0.1 C0.2.1 dX3_isDots_14 rfl (lv_at hl 1 rfl) ?_
    refine lv_iload_n C0.1 C0.2.1 dX3_isDots_15 rfl (lv_at hl 2 rfl) ?_
    refine me_cVi (n := 1) C0 hml hP hS (c_X2_at l G B0 w r b cap xs hR (nI f)) ⟨kw_151, kw_32, kw_148, ⟨by decide, by decide, by decide +kernel⟩, ⟨rfl, rfl⟩, ⟨Nat.le_of_ble_eq_true rfl, Nat.le_of_ble_eq_true rfl⟩⟩ kw_149 kw_150 hR.1 rfl rfl hl.1 rfl (Nat.le_of_ble_eq_true rfl) ⟨Nat.le_of_ble_eq_true rfl, Nat.le_of_ble_eq_true rfl⟩ dX3_isDots_16 (fun r2 hr2 => ?_)
    rw [ra_nat (by omega) (by omega)] at hr2
    refine lv_bipush (v := 46) C0.1 C0.2.1 dX3_isDots_19 (by decide) ?_
    refine lv_icmp_ne (tgt := 40) C0.1 C0.2.1 dX3_isDots_21 (by decide) (fun c3 => ?_) (fun c3 => ?_)
    · refine lv_iconst (v := 0) C0.1 C0.2.1 dX3_isDots_40 (by decide) ?_
      exact me_zret C0.1 C0.2.1 B.returns B.notSynchronized narrow_b0 rfl rfl ((if_neg (fun h => c3 (hr2.trans h.2.1))).symm) dX3_isDots_41
    · refine lv_aload_n C0.1 C0.2.1 dX3_isDots_24 rfl (lv_at hl 1 rfl) ?_
      refine lv_iload_n C0.1 C0.2.1 dX3_isDots_25 rfl (lv_at hl 3 rfl) ?_
      refine lv_iconst (v := 1) C0.1 C0.2.1 dX3_isDots_26 (by decide) ?_
      refine lv_isub C0.1 C0.2.1 dX3_isDots_27 ?_
      refine me_topi (y := nI (t - 1)) (pk_sub (a := t) (b := 1) (by omega)) ?_
      refine me_cVi (n := 1) C0 hml hP hS (c_X2_at l G B0 w r b cap xs hR (nI (t - 1))) ⟨kw_151, kw_32, kw_148, ⟨by decide, by decide, by decide +kernel⟩, ⟨rfl, rfl⟩, ⟨Nat.le_of_ble_eq_true rfl, Nat.le_of_ble_eq_true rfl⟩⟩ kw_149 kw_150 hR.1 rfl rfl hl.1 rfl (Nat.le_of_ble_eq_true rfl) ⟨Nat.le_of_ble_eq_true rfl, Nat.le_of_ble_eq_true rfl⟩ dX3_isDots_28 (fun r4 hr4 => ?_)
      rw [ra_nat (by omega) (by omega)] at hr4
      refine lv_bipush (v := 46) C0.1 C0.2.1 dX3_isDots_31 (by decide) ?_
      refine lv_icmp_ne (tgt := 40) C0.1 C0.2.1 dX3_isDots_33 (by decide) (fun c5 => ?_) (fun c5 => ?_)
      · refine lv_iconst (v := 0) C0.1 C0.2.1 dX3_isDots_40 (by decide) ?_
        exact me_zret C0.1 C0.2.1 B.returns B.notSynchronized narrow_b0 rfl rfl ((if_neg (fun h => c5 (hr4.trans h.2.2))).symm) dX3_isDots_41
      · refine lv_iconst (v := 1) C0.1 C0.2.1 dX3_isDots_36 (by decide) ?_
        refine lv_goto (tgt := 41) C0.1 C0.2.1 dX3_isDots_37 (by decide) ?_
        exact me_zret C0.1 C0.2.1 B.returns B.notSynchronized narrow_b1 rfl rfl ((if_pos ⟨by omega, hr2.symm.trans c3, hr4.symm.trans c5⟩).symm) dX3_isDots_41
  · have d1 : (t - f) ≠ 1 := fun h => c1 (congrArg nI h)
    refine lv_iload_n C0.1 C0.2.1 dX3_isDots_9 rfl (lv_at hl 0 rfl) ?_
    refine lv_iconst (v := 2) C0.1 C0.2.1 dX3_isDots_10 (by decide) ?_
    refine lv_icmp_ne (tgt := 40) C0.1 C0.2.1 dX3_isDots_11 (by decide) (fun c6 => ?_) (fun c6 => ?_)
    · have d6 : (t - f) ≠ 2 := fun h => c6 (congrArg nI h)
      refine lv_iconst (v := 0) C0.1 C0.2.1 dX3_isDots_40 (by decide) ?_
      exact me_zret C0.1 C0.2.1 B.returns B.notSynchronized narrow_b0 rfl rfl ((if_neg (fun h => by have := h.1; omega)).symm) dX3_isDots_41
    · have d6 : (t - f) = 2 := (nI_eq (a := (t - f)) (b := 2) (by omega) (by omega)).mp c6
      refine lv_aload_n C0.1 C0.2.1 dX3_isDots_14 rfl (lv_at hl 1 rfl) ?_
      refine lv_iload_n C0.1 C0.2.1 dX3_isDots_15 rfl (lv_at hl 2 rfl) ?_
      refine me_cVi (n := 1) C0 hml hP hS (c_X2_at l G B0 w r b cap xs hR (nI f)) ⟨kw_151, kw_32, kw_148, ⟨by decide, by decide, by decide +kernel⟩, ⟨rfl, rfl⟩, ⟨Nat.le_of_ble_eq_true rfl, Nat.le_of_ble_eq_true rfl⟩⟩ kw_149 kw_150 hR.1 rfl rfl hl.1 rfl (Nat.le_of_ble_eq_true rfl) ⟨Nat.le_of_ble_eq_true rfl, Nat.le_of_ble_eq_true rfl⟩ dX3_isDots_16 (fun r7 hr7 => ?_)
      rw [ra_nat (by omega) (by omega)] at hr7
      refine lv_bipush (v := 46) C0.1 C0.2.1 dX3_isDots_19 (by decide) ?_
      refine lv_icmp_ne (tgt := 40) C0.1 C0.2.1 dX3_isDots_21 (by decide) (fun c8 => ?_) (fun c8 => ?_)
      · refine lv_iconst (v := 0) C0.1 C0.2.1 dX3_isDots_40 (by decide) ?_
        exact me_zret C0.1 C0.2.1 B.returns B.notSynchronized narrow_b0 rfl rfl ((if_neg (fun h => c8 (hr7.trans h.2.1))).symm) dX3_isDots_41
      · refine lv_aload_n C0.1 C0.2.1 dX3_isDots_24 rfl (lv_at hl 1 rfl) ?_
        refine lv_iload_n C0.1 C0.2.1 dX3_isDots_25 rfl (lv_at hl 3 rfl) ?_
        refine lv_iconst (v := 1) C0.1 C0.2.1 dX3_isDots_26 (by decide) ?_
        refine lv_isub C0.1 C0.2.1 dX3_isDots_27 ?_
        refine me_topi (y := nI (t - 1)) (pk_sub (a := t) (b := 1) (by omega)) ?_
        refine me_cVi (n := 1) C0 hml hP hS (c_X2_at l G B0 w r b cap xs hR (nI (t - 1))) ⟨kw_151, kw_32, kw_148, ⟨by decide, by decide, by decide +kernel⟩, ⟨rfl, rfl⟩, ⟨Nat.le_of_ble_eq_true rfl, Nat.le_of_ble_eq_true rfl⟩⟩ kw_149 kw_150 hR.1 rfl rfl hl.1 rfl (Nat.le_of_ble_eq_true rfl) ⟨Nat.le_of_ble_eq_true rfl, Nat.le_of_ble_eq_true rfl⟩ dX3_isDots_28 (fun r9 hr9 => ?_)
        rw [ra_nat (by omega) (by omega)] at hr9
        refine lv_bipush (v := 46) C0.1 C0.2.1 dX3_isDots_31 (by decide) ?_
        refine lv_icmp_ne (tgt := 40) C0.1 C0.2.1 dX3_isDots_33 (by decide) (fun c10 => ?_) (fun c10 => ?_)
        · refine lv_iconst (v := 0) C0.1 C0.2.1 dX3_isDots_40 (by decide) ?_
          exact me_zret C0.1 C0.2.1 B.returns B.notSynchronized narrow_b0 rfl rfl ((if_neg (fun h => c10 (hr9.trans h.2.2))).symm) dX3_isDots_41
        · refine lv_iconst (v := 1) C0.1 C0.2.1 dX3_isDots_36 (by decide) ?_
          refine lv_goto (tgt := 41) C0.1 C0.2.1 dX3_isDots_37 (by decide) ?_
          exact me_zret C0.1 C0.2.1 B.returns B.notSynchronized narrow_b1 rfl rfl ((if_pos ⟨by omega, hr7.symm.trans c8, hr9.symm.trans c10⟩).symm) dX3_isDots_41

set_option maxHeartbeats 4000000 in
set_option maxRecDepth 100000 in
/-- pointAt(place, to) -/
theorem c_X3_pointAt (l : Launch) (G : me_G) (B0 : Nat) (w : Me) (r b cap : Nat) (xs : List Int32) (hR : Rw G w r b cap xs) (place t : Nat) (hpl : place < t) (ht : t ≤ xs.length) : CtI l yX3_pointAt (Cond.code yX3_pointAt cX3_pointAt 8 (some .int)) ({ frames := 1, cells := 0, slots := 0, locals := 21 }) G B0 w [.ref r, .int (nI place), .int (nI t)] (fun z => z = ptC xs place t) := by
  refine Met.ofW (cc := cX3_pointAt) (maxL := 8) (ret := (some .int)) (by decide) rfl ?_
  intro p e s m args below meth c s₁ B hml hv
  obtain ⟨rfl, hK, hP, hKq, hBs⟩ := hv
  have hts := fun w h => atoms_spec (ws := Cond.code yX3_pointAt cX3_pointAt 8 (some .int) :: tbG) B.pre w (List.mem_cons_of_mem _ h)
  have hown : s.vm.findClass RX3 = some m.cls := findClass_of_methodNamed B.named
  have C0 : Cx G B0 p s m _ c cX3_pointAt RX3 := ⟨B.exec, B.bytes, hown, hts, hK, hKq, hBs⟩
  have hS : va_S (me_A B0) s.heap s.heap [] := va_S.rf
  have hl := lv_entry ([.ref r, .int (nI place), .int (nI t)]) (n := 8) (Nat.le_of_ble_eq_true rfl)
  rw [lg_entry_eq]
  generalize (lg_sl ([.ref r, .int (nI place), .int (nI t)]) ++ List.replicate (8 - (lg_sl ([.ref r, .int (nI place), .int (nI t)])).length) Slot.unset).toArray = ls at hl ⊢
  have hl : lv_has ls 8 [(0, .ref r), (1, .int (nI place)), (2, .int (nI t))] := hl
  have hlen := hR.len
  refine lv_aload_n C0.1 C0.2.1 dX3_pointAt_0 rfl (lv_at hl 0 rfl) ?_
  refine lv_iload_n C0.1 C0.2.1 dX3_pointAt_1 rfl (lv_at hl 1 rfl) ?_
  refine me_cVi (n := 1) C0 hml hP hS (c_X2_at l G B0 w r b cap xs hR (nI place)) ⟨kw_151, kw_32, kw_148, ⟨by decide, by decide, by decide +kernel⟩, ⟨rfl, rfl⟩, ⟨Nat.le_of_ble_eq_true rfl, Nat.le_of_ble_eq_true rfl⟩⟩ kw_149 kw_150 hR.1 rfl rfl hl.1 rfl (Nat.le_of_ble_eq_true rfl) ⟨Nat.le_of_ble_eq_true rfl, Nat.le_of_ble_eq_true rfl⟩ dX3_pointAt_2 (fun r1 hr1 => ?_)
  rw [ra_nat (by omega) (by omega)] at hr1
  refine lv_istore_n (lv' := [(3, .int r1), (0, .ref r), (1, .int (nI place)), (2, .int (nI t))]) C0.1 C0.2.1 dX3_pointAt_5 rfl hl (by decide) rfl (fun ls hl => ?_)
  refine lv_iload_n C0.1 C0.2.1 dX3_pointAt_6 rfl (lv_at hl 0 rfl) ?_
  refine me_cSi (n := 1) C0 hml hP hS (c_X3_octetsMore l G B0 w r1) ⟨kw_154, kw_40, kw_152, ⟨by decide, by decide, by decide +kernel⟩, ⟨rfl, rfl⟩, ⟨Nat.le_of_ble_eq_true rfl, Nat.le_of_ble_eq_true rfl⟩⟩ kw_153 rfl hl.1 rfl (Nat.le_of_ble_eq_true rfl) ⟨Nat.le_of_ble_eq_true rfl, Nat.le_of_ble_eq_true rfl⟩ dX3_pointAt_7 (fun r2 hr2 => ?_)
  refine lv_istore (lv' := [(4, .int r2), (3, .int r1), (0, .ref r), (1, .int (nI place)), (2, .int (nI t))]) C0.1 C0.2.1 dX3_pointAt_10 hl (by decide) rfl (fun ls hl => ?_)
  refine lv_iload C0.1 C0.2.1 dX3_pointAt_12 (lv_at hl 0 rfl) ?_
  refine lv_if_lt (tgt := 25) C0.1 C0.2.1 dX3_pointAt_14 (by decide) (fun c3 => ?_) (fun c3 => ?_)
  · refine lv_iconst (v := (-1)) C0.1 C0.2.1 dX3_pointAt_25 (by decide) ?_
    exact me_iret C0.1 C0.2.1 B.returns B.notSynchronized rfl rfl ((ptC_n hr1 hr2 c3).symm) dX3_pointAt_26
  · obtain ⟨k, hk3, rfl⟩ := octMore_k hr2 c3
    have hpt := ptC_k (to := t) hr1 hr2 hk3
    refine lv_iload_n C0.1 C0.2.1 dX3_pointAt_17 rfl (lv_at hl 3 rfl) ?_
    refine lv_iload C0.1 C0.2.1 dX3_pointAt_18 (lv_at hl 0 rfl) ?_
    refine lv_iadd C0.1 C0.2.1 dX3_pointAt_20 ?_
    refine me_topi (y := nI (place + k)) (nI_add place k) ?_
    refine lv_iload_n C0.1 C0.2.1 dX3_pointAt_21 rfl (lv_at hl 4 rfl) ?_
    refine lv_icmp_lt (tgt := 27) C0.1 C0.2.1 dX3_pointAt_22 (by decide) (fun c4 => ?_) (fun c4 => ?_)
    · have d4 : (place + k) < t := (nI_ltI (a := (place + k)) (b := t) (by omega) (by omega)).mp c4
      refine lv_iload C0.1 C0.2.1 dX3_pointAt_27 (lv_at hl 0 rfl) ?_
      refine lv_if_ne (tgt := 36) C0.1 C0.2.1 dX3_pointAt_29 (by decide) (fun c5 => ?_) (fun c5 => ?_)
      · have d5 : k ≠ 0 := fun h => c5 (congrArg nI h)
        refine lv_iload_n C0.1 C0.2.1 dX3_pointAt_36 rfl (lv_at hl 1 rfl) ?_
        refine lv_bipush (v := 63) C0.1 C0.2.1 dX3_pointAt_37 (by decide) ?_
        refine lv_iload C0.1 C0.2.1 dX3_pointAt_39 (lv_at hl 0 rfl) ?_
        refine lv_ishr C0.1 C0.2.1 dX3_pointAt_41 ?_
        refine lv_iand C0.1 C0.2.1 dX3_pointAt_42 ?_
        refine lv_istore (lv' := [(5, .int (r1 &&& (63 >>> ((nI k) &&& 31)))), (4, .int (nI k)), (3, .int r1), (0, .ref r), (1, .int (nI place)), (2, .int (nI t))]) C0.1 C0.2.1 dX3_pointAt_43 hl (by decide) rfl (fun ls hl => ?_)
        refine lv_iconst (v := 1) C0.1 C0.2.1 dX3_pointAt_45 (by decide) ?_
        refine lv_istore (lv' := [(6, .int 1), (5, .int (r1 &&& (63 >>> ((nI k) &&& 31)))), (4, .int (nI k)), (3, .int r1), (0, .ref r), (1, .int (nI place)), (2, .int (nI t))]) C0.1 C0.2.1 dX3_pointAt_46 hl (by decide) rfl (fun ls hl => ?_)
        have loop48 : ∀ (n : Nat) (i : Nat) (v : Int32), (1 ≤ i) → (i ≤ k + 1) → (conts (xs.drop (place + 1)) k (hd r1 k) = conts (xs.drop (place + i)) (k + 1 - i) v) → (k + 1 - i) < n → ∀ (ls : Array Slot), lv_has ls 8 [(6, .int (nI i)), (5, .int v), (4, .int (nI k)), (3, .int r1), (0, .ref r), (1, .int (nI place)), (2, .int (nI t))] → W p l e ({ frames := 1, cells := 0, slots := 0, locals := 21 }) s m ([.ref r, .int (nI place), .int (nI t)] : List Value).toArray below meth c s.heap [] 0 0 (MQ below (vp_Si (fun z => z = ptC xs place t)) ([.ref r, .int (nI place), .int (nI t)] : List Value).toArray s 0 0 (fun _ => False)) (F0 m 48 ls []) := by
          intro n
          induction n with
          | zero => intro i v _ _ _ hz; exact absurd hz (Nat.not_lt_zero _)
          | succ n ih48 =>
            intro i v hi1 hik hcv hn48  ls  hl
            refine lv_iload C0.1 C0.2.1 dX3_pointAt_48 (lv_at hl 0 rfl) ?_
            refine lv_iload C0.1 C0.2.1 dX3_pointAt_50 (lv_at hl 2 rfl) ?_
            refine lv_icmp_gt (tgt := 102) C0.1 C0.2.1 dX3_pointAt_52 (by decide) (fun c6 => ?_) (fun c6 => ?_)
            · have d6 : k < i := (nI_ltI (a := k) (b := i) (by omega) (by omega)).mp c6
              refine lv_iload C0.1 C0.2.1 dX3_pointAt_102 (lv_at hl 1 rfl) ?_
              refine lv_ldc (v := 55296) C0.1 C0.2.1 C0.2.2.1 (C0.2.2.2.1 _ kw_155) dX3_pointAt_104 ?_
              refine lv_icmp_lt (tgt := 120) C0.1 C0.2.1 dX3_pointAt_106 (by decide) (fun c7 => ?_) (fun c7 => ?_)
              · refine lv_iconst (v := 0) C0.1 C0.2.1 dX3_pointAt_120 (by decide) ?_
                refine lv_istore (lv' := [(6, .int 0), (5, .int v), (4, .int (nI k)), (3, .int r1), (0, .ref r), (1, .int (nI place)), (2, .int (nI t))]) C0.1 C0.2.1 dX3_pointAt_121 hl (by decide) rfl (fun ls hl => ?_)
                refine lv_iload C0.1 C0.2.1 dX3_pointAt_123 (lv_at hl 0 rfl) ?_
                refine lv_if_ne (tgt := 147) C0.1 C0.2.1 dX3_pointAt_125 (by decide) (fun c => absurd c (by decide)) (fun c => ?_)
                refine lv_iload C0.1 C0.2.1 dX3_pointAt_128 (lv_at hl 1 rfl) ?_
                refine lv_ldc (v := 1114111) C0.1 C0.2.1 C0.2.2.1 (C0.2.2.2.1 _ kw_157) dX3_pointAt_130 ?_
                refine lv_icmp_gt (tgt := 147) C0.1 C0.2.1 dX3_pointAt_132 (by decide) (fun c9 => ?_) (fun c9 => ?_)
                · refine lv_iconst (v := (-1)) C0.1 C0.2.1 dX3_pointAt_147 (by decide) ?_
                  exact me_iret C0.1 C0.2.1 B.returns B.notSynchronized rfl rfl (by rw [hpt, ptK_s (xs := xs) (place := place) (to := t) (k := k) (x := r1) (v := v) (by omega) (by rw [hcv, show k + 1 - i = 0 by omega, conts_0]), if_pos (Or.inr (Or.inl c9))]) dX3_pointAt_148
                · refine lv_iload C0.1 C0.2.1 dX3_pointAt_135 (lv_at hl 1 rfl) ?_
                  refine me_cSi (n := 1) C0 hml hP hS (c_X3_octetsOf l G B0 w v) ⟨kw_160, kw_40, kw_158, ⟨by decide, by decide, by decide +kernel⟩, ⟨rfl, rfl⟩, ⟨Nat.le_of_ble_eq_true rfl, Nat.le_of_ble_eq_true rfl⟩⟩ kw_159 rfl hl.1 rfl (Nat.le_of_ble_eq_true rfl) ⟨Nat.le_of_ble_eq_true rfl, Nat.le_of_ble_eq_true rfl⟩ dX3_pointAt_137 (fun r10 hr10 => ?_)
                  subst hr10
                  refine lv_iload C0.1 C0.2.1 dX3_pointAt_140 (lv_at hl 2 rfl) ?_
                  refine lv_iconst (v := 1) C0.1 C0.2.1 dX3_pointAt_142 (by decide) ?_
                  refine lv_iadd C0.1 C0.2.1 dX3_pointAt_143 ?_
                  refine me_topi (y := nI (k + 1)) (nI_add k 1) ?_
                  refine lv_icmp_eq (tgt := 149) C0.1 C0.2.1 dX3_pointAt_144 (by decide) (fun c11 => ?_) (fun c11 => ?_)
                  · refine lv_iload C0.1 C0.2.1 dX3_pointAt_149 (lv_at hl 1 rfl) ?_
                    exact me_iret C0.1 C0.2.1 B.returns B.notSynchronized rfl rfl (by rw [hpt, ptK_s (xs := xs) (place := place) (to := t) (k := k) (x := r1) (v := v) (by omega) (by rw [hcv, show k + 1 - i = 0 by omega, conts_0]), if_neg (fun h => h.elim (fun h => absurd c7 h.1) (fun h => h.elim c9 (fun h => h c11)))]) dX3_pointAt_151
                  · refine lv_iconst (v := (-1)) C0.1 C0.2.1 dX3_pointAt_147 (by decide) ?_
                    exact me_iret C0.1 C0.2.1 B.returns B.notSynchronized rfl rfl (by rw [hpt, ptK_s (xs := xs) (place := place) (to := t) (k := k) (x := r1) (v := v) (by omega) (by rw [hcv, show k + 1 - i = 0 by omega, conts_0]), if_pos (Or.inr (Or.inr c11))]) dX3_pointAt_148
              · refine lv_iload C0.1 C0.2.1 dX3_pointAt_109 (lv_at hl 1 rfl) ?_
                refine lv_ldc (v := 57343) C0.1 C0.2.1 C0.2.2.1 (C0.2.2.2.1 _ kw_156) dX3_pointAt_111 ?_
                refine lv_icmp_gt (tgt := 120) C0.1 C0.2.1 dX3_pointAt_113 (by decide) (fun c12 => ?_) (fun c12 => ?_)
                · refine lv_iconst (v := 0) C0.1 C0.2.1 dX3_pointAt_120 (by decide) ?_
                  refine lv_istore (lv' := [(6, .int 0), (5, .int v), (4, .int (nI k)), (3, .int r1), (0, .ref r), (1, .int (nI place)), (2, .int (nI t))]) C0.1 C0.2.1 dX3_pointAt_121 hl (by decide) rfl (fun ls hl => ?_)
                  refine lv_iload C0.1 C0.2.1 dX3_pointAt_123 (lv_at hl 0 rfl) ?_
                  refine lv_if_ne (tgt := 147) C0.1 C0.2.1 dX3_pointAt_125 (by decide) (fun c => absurd c (by decide)) (fun c => ?_)
                  refine lv_iload C0.1 C0.2.1 dX3_pointAt_128 (lv_at hl 1 rfl) ?_
                  refine lv_ldc (v := 1114111) C0.1 C0.2.1 C0.2.2.1 (C0.2.2.2.1 _ kw_157) dX3_pointAt_130 ?_
                  refine lv_icmp_gt (tgt := 147) C0.1 C0.2.1 dX3_pointAt_132 (by decide) (fun c14 => ?_) (fun c14 => ?_)
                  · refine lv_iconst (v := (-1)) C0.1 C0.2.1 dX3_pointAt_147 (by decide) ?_
                    exact me_iret C0.1 C0.2.1 B.returns B.notSynchronized rfl rfl (by rw [hpt, ptK_s (xs := xs) (place := place) (to := t) (k := k) (x := r1) (v := v) (by omega) (by rw [hcv, show k + 1 - i = 0 by omega, conts_0]), if_pos (Or.inr (Or.inl c14))]) dX3_pointAt_148
                  · refine lv_iload C0.1 C0.2.1 dX3_pointAt_135 (lv_at hl 1 rfl) ?_
                    refine me_cSi (n := 1) C0 hml hP hS (c_X3_octetsOf l G B0 w v) ⟨kw_160, kw_40, kw_158, ⟨by decide, by decide, by decide +kernel⟩, ⟨rfl, rfl⟩, ⟨Nat.le_of_ble_eq_true rfl, Nat.le_of_ble_eq_true rfl⟩⟩ kw_159 rfl hl.1 rfl (Nat.le_of_ble_eq_true rfl) ⟨Nat.le_of_ble_eq_true rfl, Nat.le_of_ble_eq_true rfl⟩ dX3_pointAt_137 (fun r15 hr15 => ?_)
                    subst hr15
                    refine lv_iload C0.1 C0.2.1 dX3_pointAt_140 (lv_at hl 2 rfl) ?_
                    refine lv_iconst (v := 1) C0.1 C0.2.1 dX3_pointAt_142 (by decide) ?_
                    refine lv_iadd C0.1 C0.2.1 dX3_pointAt_143 ?_
                    refine me_topi (y := nI (k + 1)) (nI_add k 1) ?_
                    refine lv_icmp_eq (tgt := 149) C0.1 C0.2.1 dX3_pointAt_144 (by decide) (fun c16 => ?_) (fun c16 => ?_)
                    · refine lv_iload C0.1 C0.2.1 dX3_pointAt_149 (lv_at hl 1 rfl) ?_
                      exact me_iret C0.1 C0.2.1 B.returns B.notSynchronized rfl rfl (by rw [hpt, ptK_s (xs := xs) (place := place) (to := t) (k := k) (x := r1) (v := v) (by omega) (by rw [hcv, show k + 1 - i = 0 by omega, conts_0]), if_neg (fun h => h.elim (fun h => absurd c12 h.2) (fun h => h.elim c14 (fun h => h c16)))]) dX3_pointAt_151
                    · refine lv_iconst (v := (-1)) C0.1 C0.2.1 dX3_pointAt_147 (by decide) ?_
                      exact me_iret C0.1 C0.2.1 B.returns B.notSynchronized rfl rfl (by rw [hpt, ptK_s (xs := xs) (place := place) (to := t) (k := k) (x := r1) (v := v) (by omega) (by rw [hcv, show k + 1 - i = 0 by omega, conts_0]), if_pos (Or.inr (Or.inr c16))]) dX3_pointAt_148
                · refine lv_iconst (v := 1) C0.1 C0.2.1 dX3_pointAt_116 (by decide) ?_
                  refine lv_goto (tgt := 121) C0.1 C0.2.1 dX3_pointAt_117 (by decide) ?_
                  refine lv_istore (lv' := [(6, .int 1), (5, .int v), (4, .int (nI k)), (3, .int r1), (0, .ref r), (1, .int (nI place)), (2, .int (nI t))]) C0.1 C0.2.1 dX3_pointAt_121 hl (by decide) rfl (fun ls hl => ?_)
                  refine lv_iload C0.1 C0.2.1 dX3_pointAt_123 (lv_at hl 0 rfl) ?_
                  refine lv_if_ne (tgt := 147) C0.1 C0.2.1 dX3_pointAt_125 (by decide) (fun c => ?_) (fun c => absurd c (by decide))
                  refine lv_iconst (v := (-1)) C0.1 C0.2.1 dX3_pointAt_147 (by decide) ?_
                  exact me_iret C0.1 C0.2.1 B.returns B.notSynchronized rfl rfl (by rw [hpt, ptK_s (xs := xs) (place := place) (to := t) (k := k) (x := r1) (v := v) (by omega) (by rw [hcv, show k + 1 - i = 0 by omega, conts_0]), if_pos (Or.inl ⟨c7, c12⟩)]) dX3_pointAt_148
            · have d6 : i ≤ k := Nat.not_lt.mp (fun h => c6 (nI_lt (a := k) (b := i) h (by omega)))
              refine lv_aload_n C0.1 C0.2.1 dX3_pointAt_55 rfl (lv_at hl 4 rfl) ?_
              refine lv_iload_n C0.1 C0.2.1 dX3_pointAt_56 rfl (lv_at hl 5 rfl) ?_
              refine lv_iload C0.1 C0.2.1 dX3_pointAt_57 (lv_at hl 0 rfl) ?_
              refine lv_iadd C0.1 C0.2.1 dX3_pointAt_59 ?_
              refine me_topi (y := nI (place + i)) (nI_add place i) ?_
              refine me_cVi (n := 1) C0 hml hP hS (c_X2_at l G B0 w r b cap xs hR (nI (place + i))) ⟨kw_151, kw_32, kw_148, ⟨by decide, by decide, by decide +kernel⟩, ⟨rfl, rfl⟩, ⟨Nat.le_of_ble_eq_true rfl, Nat.le_of_ble_eq_true rfl⟩⟩ kw_149 kw_150 hR.1 rfl rfl hl.1 rfl (Nat.le_of_ble_eq_true rfl) ⟨Nat.le_of_ble_eq_true rfl, Nat.le_of_ble_eq_true rfl⟩ dX3_pointAt_60 (fun r18 hr18 => ?_)
              rw [ra_nat (by omega) (by omega)] at hr18
              refine lv_istore (lv' := [(7, .int r18), (6, .int (nI i)), (5, .int v), (4, .int (nI k)), (3, .int r1), (0, .ref r), (1, .int (nI place)), (2, .int (nI t))]) C0.1 C0.2.1 dX3_pointAt_63 hl (by decide) rfl (fun ls hl => ?_)
              refine lv_iload C0.1 C0.2.1 dX3_pointAt_65 (lv_at hl 0 rfl) ?_
              refine lv_sipush (v := 128) C0.1 C0.2.1 dX3_pointAt_67 (by decide) ?_
              refine lv_icmp_lt (tgt := 81) C0.1 C0.2.1 dX3_pointAt_70 (by decide) (fun c19 => ?_) (fun c19 => ?_)
              · refine lv_iconst (v := (-1)) C0.1 C0.2.1 dX3_pointAt_81 (by decide) ?_
                exact me_iret C0.1 C0.2.1 B.returns B.notSynchronized rfl rfl (by rw [hpt]; exact (ptK_n (by omega) (by rw [hcv, show k + 1 - i = (k + 1 - (i + 1)) + 1 by omega, conts_s (by omega), ← hr18, if_pos c19])).symm) dX3_pointAt_82
              · refine lv_iload C0.1 C0.2.1 dX3_pointAt_73 (lv_at hl 0 rfl) ?_
                refine lv_sipush (v := 191) C0.1 C0.2.1 dX3_pointAt_75 (by decide) ?_
                refine lv_icmp_le (tgt := 83) C0.1 C0.2.1 dX3_pointAt_78 (by decide) (fun c20 => ?_) (fun c20 => ?_)
                · refine lv_iload C0.1 C0.2.1 dX3_pointAt_83 (lv_at hl 2 rfl) ?_
                  refine lv_bipush (v := 6) C0.1 C0.2.1 dX3_pointAt_85 (by decide) ?_
                  refine lv_ishl C0.1 C0.2.1 dX3_pointAt_87 ?_
                  refine lv_iload C0.1 C0.2.1 dX3_pointAt_88 (lv_at hl 0 rfl) ?_
                  refine lv_bipush (v := 63) C0.1 C0.2.1 dX3_pointAt_90 (by decide) ?_
                  refine lv_iand C0.1 C0.2.1 dX3_pointAt_92 ?_
                  refine lv_ior C0.1 C0.2.1 dX3_pointAt_93 ?_
                  refine lv_istore (lv' := [(5, .int ((v <<< (6 &&& 31)) ||| (r18 &&& 63))), (7, .int r18), (6, .int (nI i)), (4, .int (nI k)), (3, .int r1), (0, .ref r), (1, .int (nI place)), (2, .int (nI t))]) C0.1 C0.2.1 dX3_pointAt_94 hl (by decide) rfl (fun ls hl => ?_)
                  refine lv_iinc (v := nI (i + 1)) (lv' := [(6, .int (nI (i + 1))), (5, .int ((v <<< (6 &&& 31)) ||| (r18 &&& 63))), (7, .int r18), (4, .int (nI k)), (3, .int r1), (0, .ref r), (1, .int (nI place)), (2, .int (nI t))]) C0.1 C0.2.1 dX3_pointAt_96 hl (k := 2) rfl (nI_add i 1) (by decide) rfl (fun ls hl => ?_)
                  refine lv_goto (tgt := 48) C0.1 C0.2.1 dX3_pointAt_99 (by decide) ?_
                  exact ih48 (i + 1) _ (by omega) (by omega) (by rw [hcv, show k + 1 - i = (k + 1 - (i + 1)) + 1 by omega, conts_s (by omega), ← hr18, if_neg c19, if_pos c20]; rfl) (by omega) _ (lv_sub hl [0, 1, 3, 4, 5, 6, 7] rfl)
                · refine lv_iconst (v := (-1)) C0.1 C0.2.1 dX3_pointAt_81 (by decide) ?_
                  exact me_iret C0.1 C0.2.1 B.returns B.notSynchronized rfl rfl (by rw [hpt]; exact (ptK_n (by omega) (by rw [hcv, show k + 1 - i = (k + 1 - (i + 1)) + 1 by omega, conts_s (by omega), ← hr18, if_neg c19, if_neg c20])).symm) dX3_pointAt_82
        exact loop48 (k + 1 - 1 + 1) 1 _ (Nat.le_refl 1) (by omega) (by rw [Nat.add_sub_cancel]; unfold hd; rw [if_neg (by omega)]) (Nat.lt_succ_self _) _ (lv_sub hl [0, 1, 2, 3, 4, 5, 6] rfl)
      · have d5 : k = 0 := (nI_eq (a := k) (b := 0) (by omega) (by omega)).mp c5
        refine lv_iload_n C0.1 C0.2.1 dX3_pointAt_32 rfl (lv_at hl 1 rfl) ?_
        refine lv_goto (tgt := 43) C0.1 C0.2.1 dX3_pointAt_33 (by decide) ?_
        refine lv_istore (lv' := [(5, .int r1), (4, .int (nI k)), (3, .int r1), (0, .ref r), (1, .int (nI place)), (2, .int (nI t))]) C0.1 C0.2.1 dX3_pointAt_43 hl (by decide) rfl (fun ls hl => ?_)
        refine lv_iconst (v := 1) C0.1 C0.2.1 dX3_pointAt_45 (by decide) ?_
        refine lv_istore (lv' := [(6, .int 1), (5, .int r1), (4, .int (nI k)), (3, .int r1), (0, .ref r), (1, .int (nI place)), (2, .int (nI t))]) C0.1 C0.2.1 dX3_pointAt_46 hl (by decide) rfl (fun ls hl => ?_)
        have loop48 : ∀ (n : Nat) (i : Nat) (v : Int32), (1 ≤ i) → (i ≤ k + 1) → (conts (xs.drop (place + 1)) k (hd r1 k) = conts (xs.drop (place + i)) (k + 1 - i) v) → (k + 1 - i) < n → ∀ (ls : Array Slot), lv_has ls 8 [(6, .int (nI i)), (5, .int v), (4, .int (nI k)), (3, .int r1), (0, .ref r), (1, .int (nI place)), (2, .int (nI t))] → W p l e ({ frames := 1, cells := 0, slots := 0, locals := 21 }) s m ([.ref r, .int (nI place), .int (nI t)] : List Value).toArray below meth c s.heap [] 0 0 (MQ below (vp_Si (fun z => z = ptC xs place t)) ([.ref r, .int (nI place), .int (nI t)] : List Value).toArray s 0 0 (fun _ => False)) (F0 m 48 ls []) := by
          intro n
          induction n with
          | zero => intro i v _ _ _ hz; exact absurd hz (Nat.not_lt_zero _)
          | succ n ih48 =>
            intro i v hi1 hik hcv hn48  ls  hl
            refine lv_iload C0.1 C0.2.1 dX3_pointAt_48 (lv_at hl 0 rfl) ?_
            refine lv_iload C0.1 C0.2.1 dX3_pointAt_50 (lv_at hl 2 rfl) ?_
            refine lv_icmp_gt (tgt := 102) C0.1 C0.2.1 dX3_pointAt_52 (by decide) (fun c21 => ?_) (fun c21 => ?_)
            · have d21 : k < i := (nI_ltI (a := k) (b := i) (by omega) (by omega)).mp c21
              refine lv_iload C0.1 C0.2.1 dX3_pointAt_102 (lv_at hl 1 rfl) ?_
              refine lv_ldc (v := 55296) C0.1 C0.2.1 C0.2.2.1 (C0.2.2.2.1 _ kw_155) dX3_pointAt_104 ?_
              refine lv_icmp_lt (tgt := 120) C0.1 C0.2.1 dX3_pointAt_106 (by decide) (fun c22 => ?_) (fun c22 => ?_)
              · refine lv_iconst (v := 0) C0.1 C0.2.1 dX3_pointAt_120 (by decide) ?_
                refine lv_istore (lv' := [(6, .int 0), (5, .int v), (4, .int (nI k)), (3, .int r1), (0, .ref r), (1, .int (nI place)), (2, .int (nI t))]) C0.1 C0.2.1 dX3_pointAt_121 hl (by decide) rfl (fun ls hl => ?_)
                refine lv_iload C0.1 C0.2.1 dX3_pointAt_123 (lv_at hl 0 rfl) ?_
                refine lv_if_ne (tgt := 147) C0.1 C0.2.1 dX3_pointAt_125 (by decide) (fun c => absurd c (by decide)) (fun c => ?_)
                refine lv_iload C0.1 C0.2.1 dX3_pointAt_128 (lv_at hl 1 rfl) ?_
                refine lv_ldc (v := 1114111) C0.1 C0.2.1 C0.2.2.1 (C0.2.2.2.1 _ kw_157) dX3_pointAt_130 ?_
                refine lv_icmp_gt (tgt := 147) C0.1 C0.2.1 dX3_pointAt_132 (by decide) (fun c24 => ?_) (fun c24 => ?_)
                · refine lv_iconst (v := (-1)) C0.1 C0.2.1 dX3_pointAt_147 (by decide) ?_
                  exact me_iret C0.1 C0.2.1 B.returns B.notSynchronized rfl rfl (by rw [hpt, ptK_s (xs := xs) (place := place) (to := t) (k := k) (x := r1) (v := v) (by omega) (by rw [hcv, show k + 1 - i = 0 by omega, conts_0]), if_pos (Or.inr (Or.inl c24))]) dX3_pointAt_148
                · refine lv_iload C0.1 C0.2.1 dX3_pointAt_135 (lv_at hl 1 rfl) ?_
                  refine me_cSi (n := 1) C0 hml hP hS (c_X3_octetsOf l G B0 w v) ⟨kw_160, kw_40, kw_158, ⟨by decide, by decide, by decide +kernel⟩, ⟨rfl, rfl⟩, ⟨Nat.le_of_ble_eq_true rfl, Nat.le_of_ble_eq_true rfl⟩⟩ kw_159 rfl hl.1 rfl (Nat.le_of_ble_eq_true rfl) ⟨Nat.le_of_ble_eq_true rfl, Nat.le_of_ble_eq_true rfl⟩ dX3_pointAt_137 (fun r25 hr25 => ?_)
                  subst hr25
                  refine lv_iload C0.1 C0.2.1 dX3_pointAt_140 (lv_at hl 2 rfl) ?_
                  refine lv_iconst (v := 1) C0.1 C0.2.1 dX3_pointAt_142 (by decide) ?_
                  refine lv_iadd C0.1 C0.2.1 dX3_pointAt_143 ?_
                  refine me_topi (y := nI (k + 1)) (nI_add k 1) ?_
                  refine lv_icmp_eq (tgt := 149) C0.1 C0.2.1 dX3_pointAt_144 (by decide) (fun c26 => ?_) (fun c26 => ?_)
                  · refine lv_iload C0.1 C0.2.1 dX3_pointAt_149 (lv_at hl 1 rfl) ?_
                    exact me_iret C0.1 C0.2.1 B.returns B.notSynchronized rfl rfl (by rw [hpt, ptK_s (xs := xs) (place := place) (to := t) (k := k) (x := r1) (v := v) (by omega) (by rw [hcv, show k + 1 - i = 0 by omega, conts_0]), if_neg (fun h => h.elim (fun h => absurd c22 h.1) (fun h => h.elim c24 (fun h => h c26)))]) dX3_pointAt_151
                  · refine lv_iconst (v := (-1)) C0.1 C0.2.1 dX3_pointAt_147 (by decide) ?_
                    exact me_iret C0.1 C0.2.1 B.returns B.notSynchronized rfl rfl (by rw [hpt, ptK_s (xs := xs) (place := place) (to := t) (k := k) (x := r1) (v := v) (by omega) (by rw [hcv, show k + 1 - i = 0 by omega, conts_0]), if_pos (Or.inr (Or.inr c26))]) dX3_pointAt_148
              · refine lv_iload C0.1 C0.2.1 dX3_pointAt_109 (lv_at hl 1 rfl) ?_
                refine lv_ldc (v := 57343) C0.1 C0.2.1 C0.2.2.1 (C0.2.2.2.1 _ kw_156) dX3_pointAt_111 ?_
                refine lv_icmp_gt (tgt := 120) C0.1 C0.2.1 dX3_pointAt_113 (by decide) (fun c27 => ?_) (fun c27 => ?_)
                · refine lv_iconst (v := 0) C0.1 C0.2.1 dX3_pointAt_120 (by decide) ?_
                  refine lv_istore (lv' := [(6, .int 0), (5, .int v), (4, .int (nI k)), (3, .int r1), (0, .ref r), (1, .int (nI place)), (2, .int (nI t))]) C0.1 C0.2.1 dX3_pointAt_121 hl (by decide) rfl (fun ls hl => ?_)
                  refine lv_iload C0.1 C0.2.1 dX3_pointAt_123 (lv_at hl 0 rfl) ?_
                  refine lv_if_ne (tgt := 147) C0.1 C0.2.1 dX3_pointAt_125 (by decide) (fun c => absurd c (by decide)) (fun c => ?_)
                  refine lv_iload C0.1 C0.2.1 dX3_pointAt_128 (lv_at hl 1 rfl) ?_
                  refine lv_ldc (v := 1114111) C0.1 C0.2.1 C0.2.2.1 (C0.2.2.2.1 _ kw_157) dX3_pointAt_130 ?_
                  refine lv_icmp_gt (tgt := 147) C0.1 C0.2.1 dX3_pointAt_132 (by decide) (fun c29 => ?_) (fun c29 => ?_)
                  · refine lv_iconst (v := (-1)) C0.1 C0.2.1 dX3_pointAt_147 (by decide) ?_
                    exact me_iret C0.1 C0.2.1 B.returns B.notSynchronized rfl rfl (by rw [hpt, ptK_s (xs := xs) (place := place) (to := t) (k := k) (x := r1) (v := v) (by omega) (by rw [hcv, show k + 1 - i = 0 by omega, conts_0]), if_pos (Or.inr (Or.inl c29))]) dX3_pointAt_148
                  · refine lv_iload C0.1 C0.2.1 dX3_pointAt_135 (lv_at hl 1 rfl) ?_
                    refine me_cSi (n := 1) C0 hml hP hS (c_X3_octetsOf l G B0 w v) ⟨kw_160, kw_40, kw_158, ⟨by decide, by decide, by decide +kernel⟩, ⟨rfl, rfl⟩, ⟨Nat.le_of_ble_eq_true rfl, Nat.le_of_ble_eq_true rfl⟩⟩ kw_159 rfl hl.1 rfl (Nat.le_of_ble_eq_true rfl) ⟨Nat.le_of_ble_eq_true rfl, Nat.le_of_ble_eq_true rfl⟩ dX3_pointAt_137 (fun r30 hr30 => ?_)
                    subst hr30
                    refine lv_iload C0.1 C0.2.1 dX3_pointAt_140 (lv_at hl 2 rfl) ?_
                    refine lv_iconst (v := 1) C0.1 C0.2.1 dX3_pointAt_142 (by decide) ?_
                    refine lv_iadd C0.1 C0.2.1 dX3_pointAt_143 ?_
                    refine me_topi (y := nI (k + 1)) (nI_add k 1) ?_
                    refine lv_icmp_eq (tgt := 149) C0.1 C0.2.1 dX3_pointAt_144 (by decide) (fun c31 => ?_) (fun c31 => ?_)
                    · refine lv_iload C0.1 C0.2.1 dX3_pointAt_149 (lv_at hl 1 rfl) ?_
                      exact me_iret C0.1 C0.2.1 B.returns B.notSynchronized rfl rfl (by rw [hpt, ptK_s (xs := xs) (place := place) (to := t) (k := k) (x := r1) (v := v) (by omega) (by rw [hcv, show k + 1 - i = 0 by omega, conts_0]), if_neg (fun h => h.elim (fun h => absurd c27 h.2) (fun h => h.elim c29 (fun h => h c31)))]) dX3_pointAt_151
                    · refine lv_iconst (v := (-1)) C0.1 C0.2.1 dX3_pointAt_147 (by decide) ?_
                      exact me_iret C0.1 C0.2.1 B.returns B.notSynchronized rfl rfl (by rw [hpt, ptK_s (xs := xs) (place := place) (to := t) (k := k) (x := r1) (v := v) (by omega) (by rw [hcv, show k + 1 - i = 0 by omega, conts_0]), if_pos (Or.inr (Or.inr c31))]) dX3_pointAt_148
                · refine lv_iconst (v := 1) C0.1 C0.2.1 dX3_pointAt_116 (by decide) ?_
                  refine lv_goto (tgt := 121) C0.1 C0.2.1 dX3_pointAt_117 (by decide) ?_
                  refine lv_istore (lv' := [(6, .int 1), (5, .int v), (4, .int (nI k)), (3, .int r1), (0, .ref r), (1, .int (nI place)), (2, .int (nI t))]) C0.1 C0.2.1 dX3_pointAt_121 hl (by decide) rfl (fun ls hl => ?_)
                  refine lv_iload C0.1 C0.2.1 dX3_pointAt_123 (lv_at hl 0 rfl) ?_
                  refine lv_if_ne (tgt := 147) C0.1 C0.2.1 dX3_pointAt_125 (by decide) (fun c => ?_) (fun c => absurd c (by decide))
                  refine lv_iconst (v := (-1)) C0.1 C0.2.1 dX3_pointAt_147 (by decide) ?_
                  exact me_iret C0.1 C0.2.1 B.returns B.notSynchronized rfl rfl (by rw [hpt, ptK_s (xs := xs) (place := place) (to := t) (k := k) (x := r1) (v := v) (by omega) (by rw [hcv, show k + 1 - i = 0 by omega, conts_0]), if_pos (Or.inl ⟨c22, c27⟩)]) dX3_pointAt_148
            · have d21 : i ≤ k := Nat.not_lt.mp (fun h => c21 (nI_lt (a := k) (b := i) h (by omega)))
              refine lv_aload_n C0.1 C0.2.1 dX3_pointAt_55 rfl (lv_at hl 4 rfl) ?_
              refine lv_iload_n C0.1 C0.2.1 dX3_pointAt_56 rfl (lv_at hl 5 rfl) ?_
              refine lv_iload C0.1 C0.2.1 dX3_pointAt_57 (lv_at hl 0 rfl) ?_
              refine lv_iadd C0.1 C0.2.1 dX3_pointAt_59 ?_
              refine me_topi (y := nI (place + i)) (nI_add place i) ?_
              refine me_cVi (n := 1) C0 hml hP hS (c_X2_at l G B0 w r b cap xs hR (nI (place + i))) ⟨kw_151, kw_32, kw_148, ⟨by decide, by decide, by decide +kernel⟩, ⟨rfl, rfl⟩, ⟨Nat.le_of_ble_eq_true rfl, Nat.le_of_ble_eq_true rfl⟩⟩ kw_149 kw_150 hR.1 rfl rfl hl.1 rfl (Nat.le_of_ble_eq_true rfl) ⟨Nat.le_of_ble_eq_true rfl, Nat.le_of_ble_eq_true rfl⟩ dX3_pointAt_60 (fun r33 hr33 => ?_)
              rw [ra_nat (by omega) (by omega)] at hr33
              refine lv_istore (lv' := [(7, .int r33), (6, .int (nI i)), (5, .int v), (4, .int (nI k)), (3, .int r1), (0, .ref r), (1, .int (nI place)), (2, .int (nI t))]) C0.1 C0.2.1 dX3_pointAt_63 hl (by decide) rfl (fun ls hl => ?_)
              refine lv_iload C0.1 C0.2.1 dX3_pointAt_65 (lv_at hl 0 rfl) ?_
              refine lv_sipush (v := 128) C0.1 C0.2.1 dX3_pointAt_67 (by decide) ?_
              refine lv_icmp_lt (tgt := 81) C0.1 C0.2.1 dX3_pointAt_70 (by decide) (fun c34 => ?_) (fun c34 => ?_)
              · refine lv_iconst (v := (-1)) C0.1 C0.2.1 dX3_pointAt_81 (by decide) ?_
                exact me_iret C0.1 C0.2.1 B.returns B.notSynchronized rfl rfl (by rw [hpt]; exact (ptK_n (by omega) (by rw [hcv, show k + 1 - i = (k + 1 - (i + 1)) + 1 by omega, conts_s (by omega), ← hr33, if_pos c34])).symm) dX3_pointAt_82
              · refine lv_iload C0.1 C0.2.1 dX3_pointAt_73 (lv_at hl 0 rfl) ?_
                refine lv_sipush (v := 191) C0.1 C0.2.1 dX3_pointAt_75 (by decide) ?_
                refine lv_icmp_le (tgt := 83) C0.1 C0.2.1 dX3_pointAt_78 (by decide) (fun c35 => ?_) (fun c35 => ?_)
                · refine lv_iload C0.1 C0.2.1 dX3_pointAt_83 (lv_at hl 2 rfl) ?_
                  refine lv_bipush (v := 6) C0.1 C0.2.1 dX3_pointAt_85 (by decide) ?_
                  refine lv_ishl C0.1 C0.2.1 dX3_pointAt_87 ?_
                  refine lv_iload C0.1 C0.2.1 dX3_pointAt_88 (lv_at hl 0 rfl) ?_
                  refine lv_bipush (v := 63) C0.1 C0.2.1 dX3_pointAt_90 (by decide) ?_
                  refine lv_iand C0.1 C0.2.1 dX3_pointAt_92 ?_
                  refine lv_ior C0.1 C0.2.1 dX3_pointAt_93 ?_
                  refine lv_istore (lv' := [(5, .int ((v <<< (6 &&& 31)) ||| (r33 &&& 63))), (7, .int r33), (6, .int (nI i)), (4, .int (nI k)), (3, .int r1), (0, .ref r), (1, .int (nI place)), (2, .int (nI t))]) C0.1 C0.2.1 dX3_pointAt_94 hl (by decide) rfl (fun ls hl => ?_)
                  refine lv_iinc (v := nI (i + 1)) (lv' := [(6, .int (nI (i + 1))), (5, .int ((v <<< (6 &&& 31)) ||| (r33 &&& 63))), (7, .int r33), (4, .int (nI k)), (3, .int r1), (0, .ref r), (1, .int (nI place)), (2, .int (nI t))]) C0.1 C0.2.1 dX3_pointAt_96 hl (k := 2) rfl (nI_add i 1) (by decide) rfl (fun ls hl => ?_)
                  refine lv_goto (tgt := 48) C0.1 C0.2.1 dX3_pointAt_99 (by decide) ?_
                  exact ih48 (i + 1) _ (by omega) (by omega) (by rw [hcv, show k + 1 - i = (k + 1 - (i + 1)) + 1 by omega, conts_s (by omega), ← hr33, if_neg c34, if_pos c35]; rfl) (by omega) _ (lv_sub hl [0, 1, 3, 4, 5, 6, 7] rfl)
                · refine lv_iconst (v := (-1)) C0.1 C0.2.1 dX3_pointAt_81 (by decide) ?_
                  exact me_iret C0.1 C0.2.1 B.returns B.notSynchronized rfl rfl (by rw [hpt]; exact (ptK_n (by omega) (by rw [hcv, show k + 1 - i = (k + 1 - (i + 1)) + 1 by omega, conts_s (by omega), ← hr33, if_neg c34, if_neg c35])).symm) dX3_pointAt_82
        exact loop48 (k + 1 - 1 + 1) 1 _ (Nat.le_refl 1) (by omega) (by rw [Nat.add_sub_cancel]; unfold hd; rw [if_pos (by omega)]) (Nat.lt_succ_self _) _ (lv_sub hl [0, 1, 2, 3, 4, 5, 6] rfl)
    · have d4 : t ≤ (place + k) := Nat.not_lt.mp (fun h => c4 (nI_lt (a := (place + k)) (b := t) h (by omega)))
      refine lv_iconst (v := (-1)) C0.1 C0.2.1 dX3_pointAt_25 (by decide) ?_
      exact me_iret C0.1 C0.2.1 B.returns B.notSynchronized rfl rfl (by rw [hpt]; unfold ptK; rw [if_pos (by omega)]) dX3_pointAt_26

set_option maxHeartbeats 4000000 in
set_option maxRecDepth 100000 in
/-- wrongPlace(from, to) -/
theorem c_X3_wrongPlace (l : Launch) (G : me_G) (B0 : Nat) (w : Me) (r b cap : Nat) (xs : List Int32) (hR : Rw G w r b cap xs) (f t : Nat) (hft : f ≤ t) (ht : t ≤ xs.length) : CtI l yX3_wrongPlace (Cond.code yX3_wrongPlace cX3_wrongPlace 6 (some .int)) ({ frames := 2, cells := 0, slots := 0, locals := 48 }) G B0 w [.ref r, .int (nI f), .int (nI t)] (fun z => z = wr xs t f) := by
  refine Met.ofW (cc := cX3_wrongPlace) (maxL := 6) (ret := (some .int)) (by decide) rfl ?_
  intro p e s m args below meth c s₁ B hml hv
  obtain ⟨rfl, hK, hP, hKq, hBs⟩ := hv
  have hts := fun w h => atoms_spec (ws := Cond.code yX3_wrongPlace cX3_wrongPlace 6 (some .int) :: tbG) B.pre w (List.mem_cons_of_mem _ h)
  have hown : s.vm.findClass RX3 = some m.cls := findClass_of_methodNamed B.named
  have C0 : Cx G B0 p s m _ c cX3_wrongPlace RX3 := ⟨B.exec, B.bytes, hown, hts, hK, hKq, hBs⟩
  have hS : va_S (me_A B0) s.heap s.heap [] := va_S.rf
  have hl := lv_entry ([.ref r, .int (nI f), .int (nI t)]) (n := 6) (Nat.le_of_ble_eq_true rfl)
  rw [lg_entry_eq]
  generalize (lg_sl ([.ref r, .int (nI f), .int (nI t)]) ++ List.replicate (6 - (lg_sl ([.ref r, .int (nI f), .int (nI t)])).length) Slot.unset).toArray = ls at hl ⊢
  have hl : lv_has ls 6 [(0, .ref r), (1, .int (nI f)), (2, .int (nI t))] := hl
  have hlen := hR.len
  refine lv_iload_n C0.1 C0.2.1 dX3_wrongPlace_0 rfl (lv_at hl 1 rfl) ?_
  refine lv_istore_n (lv' := [(3, .int (nI f)), (0, .ref r), (1, .int (nI f)), (2, .int (nI t))]) C0.1 C0.2.1 dX3_wrongPlace_1 rfl hl (by decide) rfl (fun ls hl => ?_)
  refine lv_iload_n C0.1 C0.2.1 dX3_wrongPlace_2 rfl (lv_at hl 2 rfl) ?_
  refine lv_istore (lv' := [(4, .int (nI f)), (3, .int (nI f)), (0, .ref r), (1, .int (nI f)), (2, .int (nI t))]) C0.1 C0.2.1 dX3_wrongPlace_3 hl (by decide) rfl (fun ls hl => ?_)
  have loop5 : ∀ (n : Nat) (i q : Nat), (f ≤ i) → (i ≤ t) → (i ≤ q) → (q ≤ t + 4) → (wr xs t f = wr xs t q) → (t - i) < n → ∀ (ls : Array Slot), lv_has ls 6 [(4, .int (nI i)), (3, .int (nI q)), (0, .ref r), (1, .int (nI f)), (2, .int (nI t))] → W p l e ({ frames := 2, cells := 0, slots := 0, locals := 48 }) s m ([.ref r, .int (nI f), .int (nI t)] : List Value).toArray below meth c s.heap [] 0 0 (MQ below (vp_Si (fun z => z = wr xs t f)) ([.ref r, .int (nI f), .int (nI t)] : List Value).toArray s 0 0 (fun _ => False)) (F0 m 5 ls []) := by
    intro n
    induction n with
    | zero => intro i q _ _ _ _ _ hz; exact absurd hz (Nat.not_lt_zero _)
    | succ n ih5 =>
      intro i q hif hit hiq hqq hwr hn5  ls  hl
      refine lv_iload C0.1 C0.2.1 dX3_wrongPlace_5 (lv_at hl 0 rfl) ?_
      refine lv_iload_n C0.1 C0.2.1 dX3_wrongPlace_7 rfl (lv_at hl 4 rfl) ?_
      refine lv_icmp_ge (tgt := 49) C0.1 C0.2.1 dX3_wrongPlace_8 (by decide) (fun c1 => ?_) (fun c1 => ?_)
      · have d1 : t ≤ i := (nI_leI (a := t) (b := i) (by omega) (by omega)).mp c1
        refine lv_iconst (v := (-1)) C0.1 C0.2.1 dX3_wrongPlace_49 (by decide) ?_
        exact me_iret C0.1 C0.2.1 B.returns B.notSynchronized rfl rfl (by rw [hwr]; exact (wr_end (by omega)).symm) dX3_wrongPlace_50
      · have d1 : i < t := Nat.not_le.mp (fun h => c1 (nI_le (a := t) (b := i) h (by omega)))
        refine lv_iload C0.1 C0.2.1 dX3_wrongPlace_11 (lv_at hl 0 rfl) ?_
        refine lv_iload_n C0.1 C0.2.1 dX3_wrongPlace_13 rfl (lv_at hl 1 rfl) ?_
        refine lv_icmp_ne (tgt := 43) C0.1 C0.2.1 dX3_wrongPlace_14 (by decide) (fun c2 => ?_) (fun c2 => ?_)
        · have d2 : i ≠ q := fun h => c2 (congrArg nI h)
          refine lv_iinc (v := nI (i + 1)) (lv' := [(4, .int (nI (i + 1))), (3, .int (nI q)), (0, .ref r), (1, .int (nI f)), (2, .int (nI t))]) C0.1 C0.2.1 dX3_wrongPlace_43 hl (k := 0) rfl (nI_add i 1) (by decide) rfl (fun ls hl => ?_)
          refine lv_goto (tgt := 5) C0.1 C0.2.1 dX3_wrongPlace_46 (by decide) ?_
          exact ih5 (i + 1) q (by omega) (by omega) (by omega) (by omega) hwr (by omega) _ (lv_sub hl [0, 1, 2, 3, 4] rfl)
        · have d2 : i = q := (nI_eq (a := i) (b := q) (by omega) (by omega)).mp c2
          subst d2
          refine lv_aload_n C0.1 C0.2.1 dX3_wrongPlace_17 rfl (lv_at hl 2 rfl) ?_
          refine lv_iload C0.1 C0.2.1 dX3_wrongPlace_18 (lv_at hl 0 rfl) ?_
          refine lv_iload_n C0.1 C0.2.1 dX3_wrongPlace_20 rfl (lv_at hl 4 rfl) ?_
          refine me_cSi (n := 3) C0 hml hP hS (c_X3_pointAt l G B0 w r b cap xs hR i t (by omega) ht) ⟨kw_147, kw_40, kw_145, ⟨by decide, by decide, by decide +kernel⟩, ⟨rfl, rfl⟩, ⟨Nat.le_of_ble_eq_true rfl, Nat.le_of_ble_eq_true rfl⟩⟩ kw_146 rfl hl.1 rfl (Nat.le_of_ble_eq_true rfl) ⟨Nat.le_of_ble_eq_true rfl, Nat.le_of_ble_eq_true rfl⟩ dX3_wrongPlace_21 (fun r3 hr3 => ?_)
          refine lv_istore (lv' := [(5, .int r3), (4, .int (nI i)), (3, .int (nI i)), (0, .ref r), (1, .int (nI f)), (2, .int (nI t))]) C0.1 C0.2.1 dX3_wrongPlace_24 hl (by decide) rfl (fun ls hl => ?_)
          refine lv_iload C0.1 C0.2.1 dX3_wrongPlace_26 (lv_at hl 0 rfl) ?_
          refine lv_iconst (v := (-1)) C0.1 C0.2.1 dX3_wrongPlace_28 (by decide) ?_
          refine lv_icmp_ne (tgt := 35) C0.1 C0.2.1 dX3_wrongPlace_29 (by decide) (fun c4 => ?_) (fun c4 => ?_)
          · refine lv_iload_n C0.1 C0.2.1 dX3_wrongPlace_35 rfl (lv_at hl 2 rfl) ?_
            refine lv_iload C0.1 C0.2.1 dX3_wrongPlace_36 (lv_at hl 0 rfl) ?_
            refine me_cSi (n := 1) C0 hml hP hS (c_X3_octetsOf l G B0 w r3) ⟨kw_160, kw_40, kw_158, ⟨by decide, by decide, by decide +kernel⟩, ⟨rfl, rfl⟩, ⟨Nat.le_of_ble_eq_true rfl, Nat.le_of_ble_eq_true rfl⟩⟩ kw_159 rfl hl.1 rfl (Nat.le_of_ble_eq_true rfl) ⟨Nat.le_of_ble_eq_true rfl, Nat.le_of_ble_eq_true rfl⟩ dX3_wrongPlace_38 (fun r5 hr5 => ?_)
            obtain ⟨ko, ko1, ko4, hko⟩ := octOf_r (ptC xs i t)
            rw [hr3, hko] at hr5
            subst hr5
            refine lv_iadd C0.1 C0.2.1 dX3_wrongPlace_41 ?_
            refine me_topi (y := nI (i + ko)) (nI_add i ko) ?_
            refine lv_istore_n (lv' := [(3, .int (nI (i + ko))), (5, .int r3), (4, .int (nI i)), (0, .ref r), (1, .int (nI f)), (2, .int (nI t))]) C0.1 C0.2.1 dX3_wrongPlace_42 rfl hl (by decide) rfl (fun ls hl => ?_)
            refine lv_iinc (v := nI (i + 1)) (lv' := [(4, .int (nI (i + 1))), (3, .int (nI (i + ko))), (5, .int r3), (0, .ref r), (1, .int (nI f)), (2, .int (nI t))]) C0.1 C0.2.1 dX3_wrongPlace_43 hl (k := 2) rfl (nI_add i 1) (by decide) rfl (fun ls hl => ?_)
            refine lv_goto (tgt := 5) C0.1 C0.2.1 dX3_wrongPlace_46 (by decide) ?_
            exact ih5 (i + 1) (i + ko) (by omega) (by omega) (by omega) (by omega) (by rw [hwr]; exact wr_go (by omega) (fun h => c4 (hr3.trans h)) hko (by omega)) (by omega) _ (lv_sub hl [0, 1, 3, 4, 5] rfl)
          · refine lv_iload C0.1 C0.2.1 dX3_wrongPlace_32 (lv_at hl 1 rfl) ?_
            exact me_iret C0.1 C0.2.1 B.returns B.notSynchronized rfl rfl (by rw [hwr]; exact (wr_bad (by omega) (hr3.symm.trans c4)).symm) dX3_wrongPlace_34
  exact loop5 (t - f + 1) f f (Nat.le_refl _) hft (Nat.le_refl _) (by omega) rfl (Nat.lt_succ_self _) _ (lv_sub hl [0, 1, 2, 3, 4] rfl)
