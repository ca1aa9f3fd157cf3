set_option maxHeartbeats 4000000 in
set_option maxRecDepth 100000 in
/-- String.coder of a constant -/
theorem c_J0_coder (l : Launch) (G : me_G) (B0 : Nat) (w : Me) (i : Nat) (hi : i < 6) : CtI l yJ0_coder_7d493 (Cond.code yJ0_coder_7d493 cJ0_coder_7d493 1 (some .byte)) ({ frames := 0, cells := 0, slots := 0, locals := 0 }) G B0 w [.ref (G.2.2.1 i)] (fun z => z = 0) := by
  refine va_MetF (cc := cJ0_coder_7d493) (maxL := 1) (ret := (some .byte)) (by decide) rfl ?_
  intro p e s m args below meth c s₁ B hml hv
  obtain ⟨rfl, hK, hP, hKq, hBs⟩ := hv
  have hts := fun w h => atoms_spec (ws := Cond.code yJ0_coder_7d493 cJ0_coder_7d493 1 (some .byte) :: tbG) B.pre w (List.mem_cons_of_mem _ h)
  have hown : s.vm.findClass RJ0 = some m.cls := findClass_of_methodNamed B.named
  have C0 : Cx G B0 p s m _ c cJ0_coder_7d493 RJ0 := ⟨B.exec, B.bytes, hown, hts, hK, hKq, hBs⟩
  have hS : va_S (me_A B0) s.heap s.heap [] := va_S.rf
  have hl := lv_entry ([.ref (G.2.2.1 i)]) (n := 1) (Nat.le_of_ble_eq_true rfl)
  rw [lg_entry_eq]
  generalize (lg_sl ([.ref (G.2.2.1 i)]) ++ List.replicate (1 - (lg_sl ([.ref (G.2.2.1 i)])).length) Slot.unset).toArray = ls at hl ⊢
  have hl : lv_has ls 1 [(0, .ref (G.2.2.1 i))] := hl
  refine va_gets C0.1 C0.2.1 hKq.2.2.2.1.1 hS C0.2.2.1 (C0.2.2.2.1 _ kw_184) (fun _ h => h) dJ0_coder_7d493_0 ?_
  refine lv_if_eq (tgt := 13) C0.1 C0.2.1 dJ0_coder_7d493_3 (by decide) (fun c => absurd c (by decide)) (fun c => ?_)
  refine lv_aload_n C0.1 C0.2.1 dJ0_coder_7d493_6 rfl (lv_at hl 0 rfl) ?_
  refine vk_getf C0.1 C0.2.1 (hKq.1.1 i hi).2.1 hS C0.2.2.1 (C0.2.2.2.1 _ kw_695) (fun _ h => h) dJ0_coder_7d493_7 ?_
  refine lv_goto (tgt := 14) C0.1 C0.2.1 dJ0_coder_7d493_10 (by decide) ?_
  exact me_zret C0.1 C0.2.1 B.returns B.notSynchronized rfl rfl rfl (rfl) dJ0_coder_7d493_14

set_option maxHeartbeats 4000000 in
set_option maxRecDepth 100000 in
/-- String.isLatin1 of a constant -/
theorem c_J0_isLatin1 (l : Launch) (G : me_G) (B0 : Nat) (w : Me) (i : Nat) (hi : i < 6) : CtI l yJ0_isLatin1_aae02 (Cond.code yJ0_isLatin1_aae02 cJ0_isLatin1_aae02 1 (some .boolean)) ({ frames := 0, cells := 0, slots := 0, locals := 0 }) G B0 w [.ref (G.2.2.1 i)] (fun z => z = 1) := by
  refine va_MetF (cc := cJ0_isLatin1_aae02) (maxL := 1) (ret := (some .boolean)) (by decide) rfl ?_
  intro p e s m args below meth c s₁ B hml hv
  obtain ⟨rfl, hK, hP, hKq, hBs⟩ := hv
  have hts := fun w h => atoms_spec (ws := Cond.code yJ0_isLatin1_aae02 cJ0_isLatin1_aae02 1 (some .boolean) :: tbG) B.pre w (List.mem_cons_of_mem _ h)
  have hown : s.vm.findClass RJ0 = some m.cls := findClass_of_methodNamed B.named
  have C0 : Cx G B0 p s m _ c cJ0_isLatin1_aae02 RJ0 := ⟨B.exec, B.bytes, hown, hts, hK, hKq, hBs⟩
  have hS : va_S (me_A B0) s.heap s.heap [] := va_S.rf
  have hl := lv_entry ([.ref (G.2.2.1 i)]) (n := 1) (Nat.le_of_ble_eq_true rfl)
  rw [lg_entry_eq]
  generalize (lg_sl ([.ref (G.2.2.1 i)]) ++ List.replicate (1 - (lg_sl ([.ref (G.2.2.1 i)])).length) Slot.unset).toArray = ls at hl ⊢
  have hl : lv_has ls 1 [(0, .ref (G.2.2.1 i))] := hl
  refine va_gets C0.1 C0.2.1 hKq.2.2.2.1.1 hS C0.2.2.1 (C0.2.2.2.1 _ kw_184) (fun _ h => h) dJ0_isLatin1_aae02_0 ?_
  refine lv_if_eq (tgt := 17) C0.1 C0.2.1 dJ0_isLatin1_aae02_3 (by decide) (fun c => absurd c (by decide)) (fun c => ?_)
  refine lv_aload_n C0.1 C0.2.1 dJ0_isLatin1_aae02_6 rfl (lv_at hl 0 rfl) ?_
  refine vk_getf C0.1 C0.2.1 (hKq.1.1 i hi).2.1 hS C0.2.2.1 (C0.2.2.2.1 _ kw_695) (fun _ h => h) dJ0_isLatin1_aae02_7 ?_
  refine lv_if_ne (tgt := 17) C0.1 C0.2.1 dJ0_isLatin1_aae02_10 (by decide) (fun c => absurd c (by decide)) (fun c => ?_)
  refine lv_iconst (v := 1) C0.1 C0.2.1 dJ0_isLatin1_aae02_13 (by decide) ?_
  refine lv_goto (tgt := 18) C0.1 C0.2.1 dJ0_isLatin1_aae02_14 (by decide) ?_
  exact me_zret C0.1 C0.2.1 B.returns B.notSynchronized rfl rfl rfl (rfl) dJ0_isLatin1_aae02_18

set_option maxHeartbeats 4000000 in
set_option maxRecDepth 100000 in
/-- String.length of a constant -/
theorem c_J0_length (l : Launch) (G : me_G) (B0 : Nat) (w : Me) (i : Nat) (hi : i < 6) : CtI l yJ0_length_8abf5 (Cond.code yJ0_length_8abf5 cJ0_length_8abf5 1 (some .int)) ({ frames := 1, cells := 0, slots := 0, locals := 20 }) G B0 w [.ref (G.2.2.1 i)] (fun z => z = nI (kq_len.getD i 0)) := by
  refine va_MetF (cc := cJ0_length_8abf5) (maxL := 1) (ret := (some .int)) (by decide) rfl ?_
  intro p e s m args below meth c s₁ B hml hv
  obtain ⟨rfl, hK, hP, hKq, hBs⟩ := hv
  have hts := fun w h => atoms_spec (ws := Cond.code yJ0_length_8abf5 cJ0_length_8abf5 1 (some .int) :: tbG) B.pre w (List.mem_cons_of_mem _ h)
  have hown : s.vm.findClass RJ0 = some m.cls := findClass_of_methodNamed B.named
  have C0 : Cx G B0 p s m _ c cJ0_length_8abf5 RJ0 := ⟨B.exec, B.bytes, hown, hts, hK, hKq, hBs⟩
  have hS : va_S (me_A B0) s.heap s.heap [] := va_S.rf
  have hl := lv_entry ([.ref (G.2.2.1 i)]) (n := 1) (Nat.le_of_ble_eq_true rfl)
  rw [lg_entry_eq]
  generalize (lg_sl ([.ref (G.2.2.1 i)]) ++ List.replicate (1 - (lg_sl ([.ref (G.2.2.1 i)])).length) Slot.unset).toArray = ls at hl ⊢
  have hl : lv_has ls 1 [(0, .ref (G.2.2.1 i))] := hl
  refine lv_aload_n C0.1 C0.2.1 dJ0_length_8abf5_0 rfl (lv_at hl 0 rfl) ?_
  refine vk_getf C0.1 C0.2.1 (hKq.1.1 i hi).2.2.1 hS C0.2.2.1 (C0.2.2.2.1 _ kw_694) (fun _ h => h) dJ0_length_8abf5_1 ?_
  refine va_tlen C0.1 C0.2.1 (hKq.1.1 i hi).2.2.2 hS (v := nI (kq_len.getD i 0)) rfl dJ0_length_8abf5_4 ?_
  refine lv_aload_n C0.1 C0.2.1 dJ0_length_8abf5_5 rfl (lv_at hl 0 rfl) ?_
  refine me_cVk (n := 0) C0 hml hP hS (c_J0_coder l G B0 w i hi) ⟨kw_183, kw_42, kw_180, ⟨by decide, by decide, by decide +kernel⟩, ⟨rfl, rfl⟩, ⟨Nat.le_of_ble_eq_true rfl, Nat.le_of_ble_eq_true rfl⟩⟩ kw_181 kw_182 (vk_recv hKq.1 hi hS) rfl hl.1 rfl (Nat.le_of_ble_eq_true rfl) ⟨Nat.le_of_ble_eq_true rfl, Nat.le_of_ble_eq_true rfl⟩ dJ0_length_8abf5_6 (fun r1 hr1 => ?_)
  subst hr1
  refine lv_ishr C0.1 C0.2.1 dJ0_length_8abf5_9 ?_
  exact me_iret C0.1 C0.2.1 B.returns B.notSynchronized rfl rfl (sh0 _ (by have := (kq_lens i hi).1; omega)) dJ0_length_8abf5_10

set_option maxHeartbeats 4000000 in
set_option maxRecDepth 100000 in
/-- Preconditions.checkIndex, within -/
theorem c_J3_checkIndexN (l : Launch) (G : me_G) (B0 : Nat) (w : Me) (k n : Nat) (hk : k < n) (hn : n < 2 ^ 31) : CtI l yJ3_checkIndex_8e157 (Cond.code yJ3_checkIndex_8e157 cJ3_checkIndex_8e157 3 (some .int)) ({ frames := 0, cells := 0, slots := 0, locals := 0 }) G B0 w [.int (nI k), .int (nI n), .null] (fun z => z = nI k) := by
  refine va_MetF (cc := cJ3_checkIndex_8e157) (maxL := 3) (ret := (some .int)) (by decide) rfl ?_
  intro p e s m args below meth c s₁ B hml hv
  obtain ⟨rfl, hK, hP, hKq, hBs⟩ := hv
  have hts := fun w h => atoms_spec (ws := Cond.code yJ3_checkIndex_8e157 cJ3_checkIndex_8e157 3 (some .int) :: tbG) B.pre w (List.mem_cons_of_mem _ h)
  have hown : s.vm.findClass RJ3 = some m.cls := findClass_of_methodNamed B.named
  have C0 : Cx G B0 p s m _ c cJ3_checkIndex_8e157 RJ3 := ⟨B.exec, B.bytes, hown, hts, hK, hKq, hBs⟩
  have hS : va_S (me_A B0) s.heap s.heap [] := va_S.rf
  have hl := lv_entry ([.int (nI k), .int (nI n), .null]) (n := 3) (Nat.le_of_ble_eq_true rfl)
  rw [lg_entry_eq]
  generalize (lg_sl ([.int (nI k), .int (nI n), .null]) ++ List.replicate (3 - (lg_sl ([.int (nI k), .int (nI n), .null])).length) Slot.unset).toArray = ls at hl ⊢
  have hl : lv_has ls 3 [(0, .int (nI k)), (1, .int (nI n)), (2, .null)] := hl
  refine lv_iload_n C0.1 C0.2.1 dJ3_checkIndex_8e157_0 rfl (lv_at hl 0 rfl) ?_
  refine lv_if_lt (tgt := 9) C0.1 C0.2.1 dJ3_checkIndex_8e157_1 (by decide) (fun c1 => ?_) (fun c1 => ?_)
  · have d1 : k < 0 := (nI_ltI (a := k) (b := 0) (by omega) (by omega)).mp c1
    exact absurd c1 (nI_pos (by omega))
  · have d1 : 0 ≤ k := Nat.not_lt.mp (fun h => c1 (nI_lt (a := k) (b := 0) h (by omega)))
    refine lv_iload_n C0.1 C0.2.1 dJ3_checkIndex_8e157_4 rfl (lv_at hl 0 rfl) ?_
    refine lv_iload_n C0.1 C0.2.1 dJ3_checkIndex_8e157_5 rfl (lv_at hl 1 rfl) ?_
    refine lv_icmp_lt (tgt := 16) C0.1 C0.2.1 dJ3_checkIndex_8e157_6 (by decide) (fun c2 => ?_) (fun c2 => ?_)
    · have d2 : k < n := (nI_ltI (a := k) (b := n) (by omega) (by omega)).mp c2
      refine lv_iload_n C0.1 C0.2.1 dJ3_checkIndex_8e157_16 rfl (lv_at hl 0 rfl) ?_
      exact me_iret C0.1 C0.2.1 B.returns B.notSynchronized rfl rfl (rfl) dJ3_checkIndex_8e157_17
    · have d2 : n ≤ k := Nat.not_lt.mp (fun h => c2 (nI_lt (a := k) (b := n) h (by omega)))
      exact absurd d2 (by omega)

set_option maxHeartbeats 4000000 in
set_option maxRecDepth 100000 in
/-- Preconditions.checkIndex, within -/
theorem c_J3_checkIndexR (l : Launch) (G : me_G) (B0 : Nat) (w : Me) (k n : Nat) (hk : k < n) (hn : n < 2 ^ 31) (t : Nat) : CtI l yJ3_checkIndex_8e157 (Cond.code yJ3_checkIndex_8e157 cJ3_checkIndex_8e157 3 (some .int)) ({ frames := 0, cells := 0, slots := 0, locals := 0 }) G B0 w [.int (nI k), .int (nI n), .ref t] (fun z => z = nI k) := by
  refine va_MetF (cc := cJ3_checkIndex_8e157) (maxL := 3) (ret := (some .int)) (by decide) rfl ?_
  intro p e s m args below meth c s₁ B hml hv
  obtain ⟨rfl, hK, hP, hKq, hBs⟩ := hv
  have hts := fun w h => atoms_spec (ws := Cond.code yJ3_checkIndex_8e157 cJ3_checkIndex_8e157 3 (some .int) :: tbG) B.pre w (List.mem_cons_of_mem _ h)
  have hown : s.vm.findClass RJ3 = some m.cls := findClass_of_methodNamed B.named
  have C0 : Cx G B0 p s m _ c cJ3_checkIndex_8e157 RJ3 := ⟨B.exec, B.bytes, hown, hts, hK, hKq, hBs⟩
  have hS : va_S (me_A B0) s.heap s.heap [] := va_S.rf
  have hl := lv_entry ([.int (nI k), .int (nI n), .ref t]) (n := 3) (Nat.le_of_ble_eq_true rfl)
  rw [lg_entry_eq]
  generalize (lg_sl ([.int (nI k), .int (nI n), .ref t]) ++ List.replicate (3 - (lg_sl ([.int (nI k), .int (nI n), .ref t])).length) Slot.unset).toArray = ls at hl ⊢
  have hl : lv_has ls 3 [(0, .int (nI k)), (1, .int (nI n)), (2, .ref t)] := hl
  refine lv_iload_n C0.1 C0.2.1 dJ3_checkIndex_8e157_0 rfl (lv_at hl 0 rfl) ?_
  refine lv_if_lt (tgt := 9) C0.1 C0.2.1 dJ3_checkIndex_8e157_1 (by decide) (fun c1 => ?_) (fun c1 => ?_)
  · have d1 : k < 0 := (nI_ltI (a := k) (b := 0) (by omega) (by omega)).mp c1
    exact absurd c1 (nI_pos (by omega))
  · have d1 : 0 ≤ k := Nat.not_lt.mp (fun h => c1 (nI_lt (a := k) (b := 0) h (by omega)))
    refine lv_iload_n C0.1 C0.2.1 dJ3_checkIndex_8e157_4 rfl (lv_at hl 0 rfl) ?_
    refine lv_iload_n C0.1 C0.2.1 dJ3_checkIndex_8e157_5 rfl (lv_at hl 1 rfl) ?_
    refine lv_icmp_lt (tgt := 16) C0.1 C0.2.1 dJ3_checkIndex_8e157_6 (by decide) (fun c2 => ?_) (fun c2 => ?_)
    · have d2 : k < n := (nI_ltI (a := k) (b := n) (by omega) (by omega)).mp c2
      refine lv_iload_n C0.1 C0.2.1 dJ3_checkIndex_8e157_16 rfl (lv_at hl 0 rfl) ?_
      exact me_iret C0.1 C0.2.1 B.returns B.notSynchronized rfl rfl (rfl) dJ3_checkIndex_8e157_17
    · have d2 : n ≤ k := Nat.not_lt.mp (fun h => c2 (nI_lt (a := k) (b := n) h (by omega)))
      exact absurd d2 (by omega)

set_option maxHeartbeats 4000000 in
set_option maxRecDepth 100000 in
/-- String.checkIndex, within -/
theorem c_J0_checkIndex (l : Launch) (G : me_G) (B0 : Nat) (w : Me) (k n : Nat) (hk : k < n) (hn : n < 2 ^ 31) : CtWV l yJ0_checkIndex_df160 (Cond.code yJ0_checkIndex_df160 cJ0_checkIndex_df160 2 none) ({ frames := 1, cells := 0, slots := 0, locals := 22 }) G B0 w [.int (nI k), .int (nI n)] (fun w' => w' = w) 0 0 := by
  refine va_MetF (cc := cJ0_checkIndex_df160) (maxL := 2) (ret := none) (by decide) rfl ?_
  intro p e s m args below meth c s₁ B hml hv
  obtain ⟨rfl, hK, hP, hKq, hBs⟩ := hv
  have hts := fun w h => atoms_spec (ws := Cond.code yJ0_checkIndex_df160 cJ0_checkIndex_df160 2 none :: tbG) B.pre w (List.mem_cons_of_mem _ h)
  have hown : s.vm.findClass RJ0 = some m.cls := findClass_of_methodNamed B.named
  have C0 : Cx G B0 p s m _ c cJ0_checkIndex_df160 RJ0 := ⟨B.exec, B.bytes, hown, hts, hK, hKq, hBs⟩
  have hS : va_S (me_A B0) s.heap s.heap [] := va_S.rf
  have hl := lv_entry ([.int (nI k), .int (nI n)]) (n := 2) (Nat.le_of_ble_eq_true rfl)
  rw [lg_entry_eq]
  generalize (lg_sl ([.int (nI k), .int (nI n)]) ++ List.replicate (2 - (lg_sl ([.int (nI k), .int (nI n)])).length) Slot.unset).toArray = ls at hl ⊢
  have hl : lv_has ls 2 [(0, .int (nI k)), (1, .int (nI n))] := hl
  refine lv_iload_n C0.1 C0.2.1 dJ0_checkIndex_df160_0 rfl (lv_at hl 0 rfl) ?_
  refine lv_iload_n C0.1 C0.2.1 dJ0_checkIndex_df160_1 rfl (lv_at hl 1 rfl) ?_
  rcases hKq.2.2.2.1.2 with hz | ⟨tz, hz⟩
  · refine va_gets C0.1 C0.2.1 hz hS C0.2.2.1 (C0.2.2.2.1 _ kw_200) (fun _ h => h) dJ0_checkIndex_df160_2 ?_
    refine me_cSi (n := 3) C0 hml hP hS (c_J3_checkIndexN l G B0 w k n hk hn) ⟨kw_204, kw_44, kw_202, ⟨by decide, by decide, by decide +kernel⟩, ⟨rfl, rfl⟩, ⟨Nat.le_of_ble_eq_true rfl, Nat.le_of_ble_eq_true rfl⟩⟩ kw_203 rfl hl.1 rfl (Nat.le_of_ble_eq_true rfl) ⟨Nat.le_of_ble_eq_true rfl, Nat.le_of_ble_eq_true rfl⟩ dJ0_checkIndex_df160_5 (fun r1 hr1 => ?_)
    refine lv_pop C0.1 C0.2.1 dJ0_checkIndex_df160_8 rfl ?_
    exact me_wvret _ C0.1 C0.2.1 B.returns B.notSynchronized hP hS (Nat.le_of_ble_eq_true rfl) (Nat.le_of_ble_eq_true rfl) (rfl) dJ0_checkIndex_df160_9
  · refine va_gets C0.1 C0.2.1 hz hS C0.2.2.1 (C0.2.2.2.1 _ kw_200) (fun _ h => h) dJ0_checkIndex_df160_2 ?_
    refine me_cSi (n := 3) C0 hml hP hS (c_J3_checkIndexR l G B0 w k n hk hn tz) ⟨kw_204, kw_44, kw_202, ⟨by decide, by decide, by decide +kernel⟩, ⟨rfl, rfl⟩, ⟨Nat.le_of_ble_eq_true rfl, Nat.le_of_ble_eq_true rfl⟩⟩ kw_203 rfl hl.1 rfl (Nat.le_of_ble_eq_true rfl) ⟨Nat.le_of_ble_eq_true rfl, Nat.le_of_ble_eq_true rfl⟩ dJ0_checkIndex_df160_5 (fun r2 hr2 => ?_)
    refine lv_pop C0.1 C0.2.1 dJ0_checkIndex_df160_8 rfl ?_
    exact me_wvret _ C0.1 C0.2.1 B.returns B.notSynchronized hP hS (Nat.le_of_ble_eq_true rfl) (Nat.le_of_ble_eq_true rfl) (rfl) dJ0_checkIndex_df160_9

set_option maxHeartbeats 4000000 in
set_option maxRecDepth 100000 in
/-- StringLatin1.charAt of a constant -/
theorem c_J1_charAt (l : Launch) (G : me_G) (B0 : Nat) (w : Me) (i : Nat) (hi : i < 6) (k : Nat) (hk : k < kq_len.getD i 0) : CtWI l yJ1_charAt_3b067 (Cond.code yJ1_charAt_3b067 cJ1_charAt_3b067 2 (some .char)) ({ frames := 2, cells := 0, slots := 0, locals := 43 }) G B0 w [.ref (G.2.2.2.1 i), .int (nI k)] (fun z w' => z = kch i k ∧ w' = w) 0 0 := by
  refine va_MetF (cc := cJ1_charAt_3b067) (maxL := 2) (ret := (some .char)) (by decide) rfl ?_
  intro p e s m args below meth c s₁ B hml hv
  obtain ⟨rfl, hK, hP, hKq, hBs⟩ := hv
  have hts := fun w h => atoms_spec (ws := Cond.code yJ1_charAt_3b067 cJ1_charAt_3b067 2 (some .char) :: tbG) B.pre w (List.mem_cons_of_mem _ h)
  have hown : s.vm.findClass RJ1 = some m.cls := findClass_of_methodNamed B.named
  have C0 : Cx G B0 p s m _ c cJ1_charAt_3b067 RJ1 := ⟨B.exec, B.bytes, hown, hts, hK, hKq, hBs⟩
  have hS : va_S (me_A B0) s.heap s.heap [] := va_S.rf
  have hl := lv_entry ([.ref (G.2.2.2.1 i), .int (nI k)]) (n := 2) (Nat.le_of_ble_eq_true rfl)
  rw [lg_entry_eq]
  generalize (lg_sl ([.ref (G.2.2.2.1 i), .int (nI k)]) ++ List.replicate (2 - (lg_sl ([.ref (G.2.2.2.1 i), .int (nI k)])).length) Slot.unset).toArray = ls at hl ⊢
  have hl : lv_has ls 2 [(0, .ref (G.2.2.2.1 i)), (1, .int (nI k))] := hl
  have hk1 := kq_lens i hi
  refine lv_iload_n C0.1 C0.2.1 dJ1_charAt_3b067_0 rfl (lv_at hl 1 rfl) ?_
  refine lv_aload_n C0.1 C0.2.1 dJ1_charAt_3b067_1 rfl (lv_at hl 0 rfl) ?_
  refine va_tlen C0.1 C0.2.1 (hKq.1.1 i hi).2.2.2 hS (v := nI (kq_len.getD i 0)) rfl dJ1_charAt_3b067_2 ?_
  refine me_cSwv (n := 2) C0 hml hP hS (c_J0_checkIndex l G B0 w k (kq_len.getD i 0) hk (by omega)) ⟨kw_199, kw_42, kw_197, ⟨by decide, by decide, by decide +kernel⟩, ⟨rfl, rfl⟩, ⟨Nat.le_of_ble_eq_true rfl, Nat.le_of_ble_eq_true rfl⟩⟩ kw_198 rfl hl.1 rfl (Nat.le_of_ble_eq_true rfl) ⟨Nat.le_of_ble_eq_true rfl, Nat.le_of_ble_eq_true rfl⟩ dJ1_charAt_3b067_3 (fun w1 H locs hw1 hP hS => ?_)
  rw [hw1] at hP
  refine lv_aload_n C0.1 C0.2.1 dJ1_charAt_3b067_6 rfl (lv_at hl 0 rfl) ?_
  refine lv_iload_n C0.1 C0.2.1 dJ1_charAt_3b067_7 rfl (lv_at hl 1 rfl) ?_
  refine va_tb C0.1 C0.2.1 (hKq.1.1 i hi).2.2.2 hS (vp_in_nI (by omega) (by omega)) (v := .int ((kq_byt.getD i []).getD k 0)) (by rw [nI_clamp (by omega)]) dJ1_charAt_3b067_8 ?_
  refine lv_sipush (v := 255) C0.1 C0.2.1 dJ1_charAt_3b067_9 (by decide) ?_
  refine lv_iand C0.1 C0.2.1 dJ1_charAt_3b067_12 ?_
  refine lv_i2c C0.1 C0.2.1 dJ1_charAt_3b067_13 rfl ?_
  exact me_wzret _ C0.1 C0.2.1 B.returns B.notSynchronized (pk_nc _) hP hS (Nat.le_of_ble_eq_true rfl) (Nat.le_of_ble_eq_true rfl) (⟨sc_c2 _, rfl⟩) dJ1_charAt_3b067_14

set_option maxHeartbeats 4000000 in
set_option maxRecDepth 100000 in
/-- String.charAt of a constant -/
theorem c_J0_charAt (l : Launch) (G : me_G) (B0 : Nat) (w : Me) (i : Nat) (hi : i < 6) (k : Nat) (hk : k < kq_len.getD i 0) : CtWI l yJ0_charAt_5068e (Cond.code yJ0_charAt_5068e cJ0_charAt_5068e 2 (some .char)) ({ frames := 3, cells := 0, slots := 0, locals := 64 }) G B0 w [.ref (G.2.2.1 i), .int (nI k)] (fun z w' => z = kch i k ∧ w' = w) 0 0 := by
  refine va_MetF (cc := cJ0_charAt_5068e) (maxL := 2) (ret := (some .char)) (by decide) rfl ?_
  intro p e s m args below meth c s₁ B hml hv
  obtain ⟨rfl, hK, hP, hKq, hBs⟩ := hv
  have hts := fun w h => atoms_spec (ws := Cond.code yJ0_charAt_5068e cJ0_charAt_5068e 2 (some .char) :: tbG) B.pre w (List.mem_cons_of_mem _ h)
  have hown : s.vm.findClass RJ0 = some m.cls := findClass_of_methodNamed B.named
  have C0 : Cx G B0 p s m _ c cJ0_charAt_5068e RJ0 := ⟨B.exec, B.bytes, hown, hts, hK, hKq, hBs⟩
  have hS : va_S (me_A B0) s.heap s.heap [] := va_S.rf
  have hl := lv_entry ([.ref (G.2.2.1 i), .int (nI k)]) (n := 2) (Nat.le_of_ble_eq_true rfl)
  rw [lg_entry_eq]
  generalize (lg_sl ([.ref (G.2.2.1 i), .int (nI k)]) ++ List.replicate (2 - (lg_sl ([.ref (G.2.2.1 i), .int (nI k)])).length) Slot.unset).toArray = ls at hl ⊢
  have hl : lv_has ls 2 [(0, .ref (G.2.2.1 i)), (1, .int (nI k))] := hl
  have hk1 := kq_lens i hi
  refine lv_aload_n C0.1 C0.2.1 dJ0_charAt_5068e_0 rfl (lv_at hl 0 rfl) ?_
  refine me_cVk (n := 0) C0 hml hP hS (c_J0_isLatin1 l G B0 w i hi) ⟨kw_193, kw_42, kw_190, ⟨by decide, by decide, by decide +kernel⟩, ⟨rfl, rfl⟩, ⟨Nat.le_of_ble_eq_true rfl, Nat.le_of_ble_eq_true rfl⟩⟩ kw_191 kw_192 (vk_recv hKq.1 hi hS) rfl hl.1 rfl (Nat.le_of_ble_eq_true rfl) ⟨Nat.le_of_ble_eq_true rfl, Nat.le_of_ble_eq_true rfl⟩ dJ0_charAt_5068e_1 (fun r1 hr1 => ?_)
  subst hr1
  refine lv_if_eq (tgt := 16) C0.1 C0.2.1 dJ0_charAt_5068e_4 (by decide) (fun c => absurd c (by decide)) (fun c => ?_)
  refine lv_aload_n C0.1 C0.2.1 dJ0_charAt_5068e_7 rfl (lv_at hl 0 rfl) ?_
  refine vk_getf C0.1 C0.2.1 (hKq.1.1 i hi).2.2.1 hS C0.2.2.1 (C0.2.2.2.1 _ kw_694) (fun _ h => h) dJ0_charAt_5068e_8 ?_
  refine lv_iload_n C0.1 C0.2.1 dJ0_charAt_5068e_11 rfl (lv_at hl 1 rfl) ?_
  refine me_cSwi (n := 2) C0 hml hP hS (c_J1_charAt l G B0 w i hi k hk) ⟨kw_196, kw_43, kw_194, ⟨by decide, by decide, by decide +kernel⟩, ⟨rfl, rfl⟩, ⟨Nat.le_of_ble_eq_true rfl, Nat.le_of_ble_eq_true rfl⟩⟩ kw_195 rfl hl.1 rfl (Nat.le_of_ble_eq_true rfl) ⟨Nat.le_of_ble_eq_true rfl, Nat.le_of_ble_eq_true rfl⟩ dJ0_charAt_5068e_12 (fun r3 w3 H locs hw3 hP hS => ?_)
  obtain ⟨hz1, hz2⟩ := hw3
  rw [hz2] at hP
  exact me_wzret _ C0.1 C0.2.1 B.returns B.notSynchronized (by rw [hz1]; exact sc_nar _) hP hS (Nat.le_of_ble_eq_true rfl) (Nat.le_of_ble_eq_true rfl) (⟨hz1, rfl⟩) dJ0_charAt_5068e_15
