def octOf (x : Int32) : Int32 := if 128 ≤ x then (if 2048 ≤ x then (if 65536 ≤ x then 4 else 3) else 2) else 1
set_option maxHeartbeats 4000000 in
set_option maxRecDepth 100000 in
/-- octetsOf -/
theorem c_X3_octetsOf (l : Launch) (G : me_G) (B0 : Nat) (w : Me) (x : Int32) : CtI l yX3_octetsOf (Cond.code yX3_octetsOf cX3_octetsOf 1 (some .int)) ({ frames := 0, cells := 0, slots := 0, locals := 0 }) G B0 w [.int x] (fun z => z = octOf x) := by
  refine Met.ofW (cc := cX3_octetsOf) (maxL := 1) (ret := (some .int)) (by decide) rfl ?_
  intro p e s m args below meth c s₁ B hml hv
  obtain ⟨rfl, hK, hP, hKq, hBs⟩ := hv
  have hts := fun w h => atoms_spec (ws := Cond.code yX3_octetsOf cX3_octetsOf 1 (some .int) :: tbG) B.pre w (List.mem_cons_of_mem _ h)
  have hown : s.vm.findClass RX3 = some m.cls := findClass_of_methodNamed B.named
  have C0 : Cx G B0 p s m _ c cX3_octetsOf RX3 := ⟨B.exec, B.bytes, hown, hts, hK, hKq, hBs⟩
  have hS : va_S (me_A B0) s.heap s.heap [] := va_S.rf
  have hl := lv_entry ([.int x]) (n := 1) (Nat.le_of_ble_eq_true rfl)
  rw [lg_entry_eq]
  generalize (lg_sl ([.int x]) ++ List.replicate (1 - (lg_sl ([.int x])).length) Slot.unset).toArray = ls at hl ⊢
  have hl : lv_has ls 1 [(0, .int x)] := hl
  refine lv_iload_n C0.1 C0.2.1 dX3_octetsOf_0 rfl (lv_at hl 0 rfl) ?_
  refine lv_sipush (v := 128) C0.1 C0.2.1 dX3_octetsOf_1 (by decide) ?_
  refine lv_icmp_ge (tgt := 9) C0.1 C0.2.1 dX3_octetsOf_4 (by decide) (fun c1 => ?_) (fun c1 => ?_)
  · refine lv_iload_n C0.1 C0.2.1 dX3_octetsOf_9 rfl (lv_at hl 0 rfl) ?_
    refine lv_sipush (v := 2048) C0.1 C0.2.1 dX3_octetsOf_10 (by decide) ?_
    refine lv_icmp_ge (tgt := 18) C0.1 C0.2.1 dX3_octetsOf_13 (by decide) (fun c2 => ?_) (fun c2 => ?_)
    · refine lv_iload_n C0.1 C0.2.1 dX3_octetsOf_18 rfl (lv_at hl 0 rfl) ?_
      refine lv_ldc (v := 65536) C0.1 C0.2.1 C0.2.2.1 (C0.2.2.2.1 _ kw_161) dX3_octetsOf_19 ?_
      refine lv_icmp_ge (tgt := 28) C0.1 C0.2.1 dX3_octetsOf_21 (by decide) (fun c3 => ?_) (fun c3 => ?_)
      · refine lv_iconst (v := 4) C0.1 C0.2.1 dX3_octetsOf_28 (by decide) ?_
        exact me_iret C0.1 C0.2.1 B.returns B.notSynchronized rfl rfl (by unfold octOf; rw [if_pos c1, if_pos c2, if_pos c3]) dX3_octetsOf_29
      · refine lv_iconst (v := 3) C0.1 C0.2.1 dX3_octetsOf_24 (by decide) ?_
        refine lv_goto (tgt := 29) C0.1 C0.2.1 dX3_octetsOf_25 (by decide) ?_
        exact me_iret C0.1 C0.2.1 B.returns B.notSynchronized rfl rfl (by unfold octOf; rw [if_pos c1, if_pos c2, if_neg c3]) dX3_octetsOf_29
    · refine lv_iconst (v := 2) C0.1 C0.2.1 dX3_octetsOf_16 (by decide) ?_
      exact me_iret C0.1 C0.2.1 B.returns B.notSynchronized rfl rfl (by unfold octOf; rw [if_pos c1, if_neg c2]) dX3_octetsOf_17
  · refine lv_iconst (v := 1) C0.1 C0.2.1 dX3_octetsOf_7 (by decide) ?_
    exact me_iret C0.1 C0.2.1 B.returns B.notSynchronized rfl rfl (by unfold octOf; rw [if_neg c1]) dX3_octetsOf_8

def octMore_62 (x : Int32) : Int32 := (-1)
def octMore_44 (x : Int32) : Int32 := if x < 240 then (octMore_62 x) else if 244 < x then (octMore_62 x) else 3
def octMore_28 (x : Int32) : Int32 := if x < 224 then (octMore_44 x) else if 239 < x then (octMore_44 x) else 2
def octMore_12 (x : Int32) : Int32 := if x < 194 then (octMore_28 x) else if 223 < x then (octMore_28 x) else 1
def octMore (x : Int32) : Int32 := if x < 0 then (octMore_12 x) else if 127 < x then (octMore_12 x) else 0
set_option maxHeartbeats 4000000 in
set_option maxRecDepth 100000 in
/-- octetsMore -/
theorem c_X3_octetsMore (l : Launch) (G : me_G) (B0 : Nat) (w : Me) (x : Int32) : CtI l yX3_octetsMore (Cond.code yX3_octetsMore cX3_octetsMore 1 (some .int)) ({ frames := 0, cells := 0, slots := 0, locals := 0 }) G B0 w [.int x] (fun z => z = octMore x) := by
  refine Met.ofW (cc := cX3_octetsMore) (maxL := 1) (ret := (some .int)) (by decide) rfl ?_
  intro p e s m args below meth c s₁ B hml hv
  obtain ⟨rfl, hK, hP, hKq, hBs⟩ := hv
  have hts := fun w h => atoms_spec (ws := Cond.code yX3_octetsMore cX3_octetsMore 1 (some .int) :: tbG) B.pre w (List.mem_cons_of_mem _ h)
  have hown : s.vm.findClass RX3 = some m.cls := findClass_of_methodNamed B.named
  have C0 : Cx G B0 p s m _ c cX3_octetsMore RX3 := ⟨B.exec, B.bytes, hown, hts, hK, hKq, hBs⟩
  have hS : va_S (me_A B0) s.heap s.heap [] := va_S.rf
  have hl := lv_entry ([.int x]) (n := 1) (Nat.le_of_ble_eq_true rfl)
  rw [lg_entry_eq]
  generalize (lg_sl ([.int x]) ++ List.replicate (1 - (lg_sl ([.int x])).length) Slot.unset).toArray = ls at hl ⊢
  have hl : lv_has ls 1 [(0, .int x)] := hl
  have j_octMore_62 : ∀ (ls : Array Slot), lv_has ls 1 [(0, .int x)] → octMore x = octMore_62 x → W p l e ({ frames := 0, cells := 0, slots := 0, locals := 0 }) s m ([.int x] : List Value).toArray below meth c s.heap [] 0 0 (MQ below (vp_Si (fun z => z = octMore x)) ([.int x] : List Value).toArray s 0 0 (fun _ => False)) (F0 m 62 ls []) := by
    intro ls hl h_octMore_62
    refine lv_iconst (v := (-1)) C0.1 C0.2.1 dX3_octetsMore_62 (by decide) ?_
    exact me_iret C0.1 C0.2.1 B.returns B.notSynchronized rfl rfl (by rw [h_octMore_62]; unfold octMore_62; rfl) dX3_octetsMore_63
  have j_octMore_44 : ∀ (ls : Array Slot), lv_has ls 1 [(0, .int x)] → octMore x = octMore_44 x → W p l e ({ frames := 0, cells := 0, slots := 0, locals := 0 }) s m ([.int x] : List Value).toArray below meth c s.heap [] 0 0 (MQ below (vp_Si (fun z => z = octMore x)) ([.int x] : List Value).toArray s 0 0 (fun _ => False)) (F0 m 44 ls []) := by
    intro ls hl h_octMore_44
    refine lv_iload_n C0.1 C0.2.1 dX3_octetsMore_44 rfl (lv_at hl 0 rfl) ?_
    refine lv_sipush (v := 240) C0.1 C0.2.1 dX3_octetsMore_45 (by decide) ?_
    refine lv_icmp_lt (tgt := 62) C0.1 C0.2.1 dX3_octetsMore_48 (by decide) (fun c1 => ?_) (fun c1 => ?_)
    · exact j_octMore_62 ls hl (by rw [h_octMore_44]; unfold octMore_44; rw [if_pos c1])
    · refine lv_iload_n C0.1 C0.2.1 dX3_octetsMore_51 rfl (lv_at hl 0 rfl) ?_
      refine lv_sipush (v := 244) C0.1 C0.2.1 dX3_octetsMore_52 (by decide) ?_
      refine lv_icmp_gt (tgt := 62) C0.1 C0.2.1 dX3_octetsMore_55 (by decide) (fun c2 => ?_) (fun c2 => ?_)
      · exact j_octMore_62 ls hl (by rw [h_octMore_44]; unfold octMore_44; rw [if_neg c1, if_pos c2])
      · refine lv_iconst (v := 3) C0.1 C0.2.1 dX3_octetsMore_58 (by decide) ?_
        refine lv_goto (tgt := 63) C0.1 C0.2.1 dX3_octetsMore_59 (by decide) ?_
        exact me_iret C0.1 C0.2.1 B.returns B.notSynchronized rfl rfl (by rw [h_octMore_44]; unfold octMore_44; rw [if_neg c1, if_neg c2]) dX3_octetsMore_63
  have j_octMore_28 : ∀ (ls : Array Slot), lv_has ls 1 [(0, .int x)] → octMore x = octMore_28 x → W p l e ({ frames := 0, cells := 0, slots := 0, locals := 0 }) s m ([.int x] : List Value).toArray below meth c s.heap [] 0 0 (MQ below (vp_Si (fun z => z = octMore x)) ([.int x] : List Value).toArray s 0 0 (fun _ => False)) (F0 m 28 ls []) := by
    intro ls hl h_octMore_28
    refine lv_iload_n C0.1 C0.2.1 dX3_octetsMore_28 rfl (lv_at hl 0 rfl) ?_
    refine lv_sipush (v := 224) C0.1 C0.2.1 dX3_octetsMore_29 (by decide) ?_
    refine lv_icmp_lt (tgt := 44) C0.1 C0.2.1 dX3_octetsMore_32 (by decide) (fun c3 => ?_) (fun c3 => ?_)
    · exact j_octMore_44 ls hl (by rw [h_octMore_28]; unfold octMore_28; rw [if_pos c3])
    · refine lv_iload_n C0.1 C0.2.1 dX3_octetsMore_35 rfl (lv_at hl 0 rfl) ?_
      refine lv_sipush (v := 239) C0.1 C0.2.1 dX3_octetsMore_36 (by decide) ?_
      refine lv_icmp_gt (tgt := 44) C0.1 C0.2.1 dX3_octetsMore_39 (by decide) (fun c4 => ?_) (fun c4 => ?_)
      · exact j_octMore_44 ls hl (by rw [h_octMore_28]; unfold octMore_28; rw [if_neg c3, if_pos c4])
      · refine lv_iconst (v := 2) C0.1 C0.2.1 dX3_octetsMore_42 (by decide) ?_
        exact me_iret C0.1 C0.2.1 B.returns B.notSynchronized rfl rfl (by rw [h_octMore_28]; unfold octMore_28; rw [if_neg c3, if_neg c4]) dX3_octetsMore_43
  have j_octMore_12 : ∀ (ls : Array Slot), lv_has ls 1 [(0, .int x)] → octMore x = octMore_12 x → W p l e ({ frames := 0, cells := 0, slots := 0, locals := 0 }) s m ([.int x] : List Value).toArray below meth c s.heap [] 0 0 (MQ below (vp_Si (fun z => z = octMore x)) ([.int x] : List Value).toArray s 0 0 (fun _ => False)) (F0 m 12 ls []) := by
    intro ls hl h_octMore_12
    refine lv_iload_n C0.1 C0.2.1 dX3_octetsMore_12 rfl (lv_at hl 0 rfl) ?_
    refine lv_sipush (v := 194) C0.1 C0.2.1 dX3_octetsMore_13 (by decide) ?_
    refine lv_icmp_lt (tgt := 28) C0.1 C0.2.1 dX3_octetsMore_16 (by decide) (fun c5 => ?_) (fun c5 => ?_)
    · exact j_octMore_28 ls hl (by rw [h_octMore_12]; unfold octMore_12; rw [if_pos c5])
    · refine lv_iload_n C0.1 C0.2.1 dX3_octetsMore_19 rfl (lv_at hl 0 rfl) ?_
      refine lv_sipush (v := 223) C0.1 C0.2.1 dX3_octetsMore_20 (by decide) ?_
      refine lv_icmp_gt (tgt := 28) C0.1 C0.2.1 dX3_octetsMore_23 (by decide) (fun c6 => ?_) (fun c6 => ?_)
      · exact j_octMore_28 ls hl (by rw [h_octMore_12]; unfold octMore_12; rw [if_neg c5, if_pos c6])
      · refine lv_iconst (v := 1) C0.1 C0.2.1 dX3_octetsMore_26 (by decide) ?_
        exact me_iret C0.1 C0.2.1 B.returns B.notSynchronized rfl rfl (by rw [h_octMore_12]; unfold octMore_12; rw [if_neg c5, if_neg c6]) dX3_octetsMore_27
  refine lv_iload_n C0.1 C0.2.1 dX3_octetsMore_0 rfl (lv_at hl 0 rfl) ?_
  refine lv_if_lt (tgt := 12) C0.1 C0.2.1 dX3_octetsMore_1 (by decide) (fun c7 => ?_) (fun c7 => ?_)
  · exact j_octMore_12 ls hl (by unfold octMore; rw [if_pos c7])
  · refine lv_iload_n C0.1 C0.2.1 dX3_octetsMore_4 rfl (lv_at hl 0 rfl) ?_
    refine lv_bipush (v := 127) C0.1 C0.2.1 dX3_octetsMore_5 (by decide) ?_
    refine lv_icmp_gt (tgt := 12) C0.1 C0.2.1 dX3_octetsMore_7 (by decide) (fun c8 => ?_) (fun c8 => ?_)
    · exact j_octMore_12 ls hl (by unfold octMore; rw [if_neg c7, if_pos c8])
    · refine lv_iconst (v := 0) C0.1 C0.2.1 dX3_octetsMore_10 (by decide) ?_
      exact me_iret C0.1 C0.2.1 B.returns B.notSynchronized rfl rfl (by unfold octMore; rw [if_neg c7, if_neg c8]) dX3_octetsMore_11

def mkCls_43 (x : Int32) : Int32 := 202
def mkCls_18 (x : Int32) : Int32 := if x = 803 then 220 else if x = 807 then (mkCls_43 x) else if x = 808 then (mkCls_43 x) else 0
def mkCls (x : Int32) : Int32 := if x < 768 then (mkCls_18 x) else if 783 < x then (mkCls_18 x) else 230
set_option maxHeartbeats 4000000 in
set_option maxRecDepth 100000 in
/-- markClass -/
theorem c_X0_markClass (l : Launch) (G : me_G) (B0 : Nat) (w : Me) (x : Int32) : CtI l yX0_markClass (Cond.code yX0_markClass cX0_markClass 1 (some .int)) ({ frames := 0, cells := 0, slots := 0, locals := 0 }) G B0 w [.int x] (fun z => z = mkCls x) := by
  refine Met.ofW (cc := cX0_markClass) (maxL := 1) (ret := (some .int)) (by decide) rfl ?_
  intro p e s m args below meth c s₁ B hml hv
  obtain ⟨rfl, hK, hP, hKq, hBs⟩ := hv
  have hts := fun w h => atoms_spec (ws := Cond.code yX0_markClass cX0_markClass 1 (some .int) :: tbG) B.pre w (List.mem_cons_of_mem _ h)
  have hown : s.vm.findClass RX0 = some m.cls := findClass_of_methodNamed B.named
  have C0 : Cx G B0 p s m _ c cX0_markClass RX0 := ⟨B.exec, B.bytes, hown, hts, hK, hKq, hBs⟩
  have hS : va_S (me_A B0) s.heap s.heap [] := va_S.rf
  have hl := lv_entry ([.int x]) (n := 1) (Nat.le_of_ble_eq_true rfl)
  rw [lg_entry_eq]
  generalize (lg_sl ([.int x]) ++ List.replicate (1 - (lg_sl ([.int x])).length) Slot.unset).toArray = ls at hl ⊢
  have hl : lv_has ls 1 [(0, .int x)] := hl
  have j_mkCls_43 : ∀ (ls : Array Slot), lv_has ls 1 [(0, .int x)] → mkCls x = mkCls_43 x → W p l e ({ frames := 0, cells := 0, slots := 0, locals := 0 }) s m ([.int x] : List Value).toArray below meth c s.heap [] 0 0 (MQ below (vp_Si (fun z => z = mkCls x)) ([.int x] : List Value).toArray s 0 0 (fun _ => False)) (F0 m 43 ls []) := by
    intro ls hl h_mkCls_43
    refine lv_sipush (v := 202) C0.1 C0.2.1 dX0_markClass_43 (by decide) ?_
    refine lv_goto (tgt := 50) C0.1 C0.2.1 dX0_markClass_46 (by decide) ?_
    exact me_iret C0.1 C0.2.1 B.returns B.notSynchronized rfl rfl (by rw [h_mkCls_43]; unfold mkCls_43; rfl) dX0_markClass_50
  have j_mkCls_18 : ∀ (ls : Array Slot), lv_has ls 1 [(0, .int x)] → mkCls x = mkCls_18 x → W p l e ({ frames := 0, cells := 0, slots := 0, locals := 0 }) s m ([.int x] : List Value).toArray below meth c s.heap [] 0 0 (MQ below (vp_Si (fun z => z = mkCls x)) ([.int x] : List Value).toArray s 0 0 (fun _ => False)) (F0 m 18 ls []) := by
    intro ls hl h_mkCls_18
    refine lv_iload_n C0.1 C0.2.1 dX0_markClass_18 rfl (lv_at hl 0 rfl) ?_
    refine lv_sipush (v := 803) C0.1 C0.2.1 dX0_markClass_19 (by decide) ?_
    refine lv_icmp_ne (tgt := 29) C0.1 C0.2.1 dX0_markClass_22 (by decide) (fun c1 => ?_) (fun c1 => ?_)
    · refine lv_iload_n C0.1 C0.2.1 dX0_markClass_29 rfl (lv_at hl 0 rfl) ?_
      refine lv_sipush (v := 807) C0.1 C0.2.1 dX0_markClass_30 (by decide) ?_
      refine lv_icmp_eq (tgt := 43) C0.1 C0.2.1 dX0_markClass_33 (by decide) (fun c2 => ?_) (fun c2 => ?_)
      · exact j_mkCls_43 ls hl (by rw [h_mkCls_18]; unfold mkCls_18; rw [if_neg c1, if_pos c2])
      · refine lv_iload_n C0.1 C0.2.1 dX0_markClass_36 rfl (lv_at hl 0 rfl) ?_
        refine lv_sipush (v := 808) C0.1 C0.2.1 dX0_markClass_37 (by decide) ?_
        refine lv_icmp_ne (tgt := 49) C0.1 C0.2.1 dX0_markClass_40 (by decide) (fun c3 => ?_) (fun c3 => ?_)
        · refine lv_iconst (v := 0) C0.1 C0.2.1 dX0_markClass_49 (by decide) ?_
          exact me_iret C0.1 C0.2.1 B.returns B.notSynchronized rfl rfl (by rw [h_mkCls_18]; unfold mkCls_18; rw [if_neg c1, if_neg c2, if_neg c3]) dX0_markClass_50
        · exact j_mkCls_43 ls hl (by rw [h_mkCls_18]; unfold mkCls_18; rw [if_neg c1, if_neg c2, if_pos c3])
    · refine lv_sipush (v := 220) C0.1 C0.2.1 dX0_markClass_25 (by decide) ?_
      exact me_iret C0.1 C0.2.1 B.returns B.notSynchronized rfl rfl (by rw [h_mkCls_18]; unfold mkCls_18; rw [if_pos c1]) dX0_markClass_28
  refine lv_iload_n C0.1 C0.2.1 dX0_markClass_0 rfl (lv_at hl 0 rfl) ?_
  refine lv_sipush (v := 768) C0.1 C0.2.1 dX0_markClass_1 (by decide) ?_
  refine lv_icmp_lt (tgt := 18) C0.1 C0.2.1 dX0_markClass_4 (by decide) (fun c4 => ?_) (fun c4 => ?_)
  · exact j_mkCls_18 ls hl (by unfold mkCls; rw [if_pos c4])
  · refine lv_iload_n C0.1 C0.2.1 dX0_markClass_7 rfl (lv_at hl 0 rfl) ?_
    refine lv_sipush (v := 783) C0.1 C0.2.1 dX0_markClass_8 (by decide) ?_
    refine lv_icmp_gt (tgt := 18) C0.1 C0.2.1 dX0_markClass_11 (by decide) (fun c5 => ?_) (fun c5 => ?_)
    · exact j_mkCls_18 ls hl (by unfold mkCls; rw [if_neg c4, if_pos c5])
    · refine lv_sipush (v := 230) C0.1 C0.2.1 dX0_markClass_14 (by decide) ?_
      exact me_iret C0.1 C0.2.1 B.returns B.notSynchronized rfl rfl (by unfold mkCls; rw [if_neg c4, if_neg c5]) dX0_markClass_17

def smL_37 (x : Int32) : Int32 := if x = 181 then 956 else x
def smL_33 (x : Int32) : Int32 := x + 32
def smL_12 (x : Int32) : Int32 := if x < 192 then (smL_37 x) else if 222 < x then (smL_37 x) else if x = 215 then (smL_37 x) else smL_33 x
def smL (x : Int32) : Int32 := if x < 65 then (smL_12 x) else if x ≤ 90 then (smL_33 x) else smL_12 x
set_option maxHeartbeats 4000000 in
set_option maxRecDepth 100000 in
/-- smallLatin -/
theorem c_X0_smallLatin (l : Launch) (G : me_G) (B0 : Nat) (w : Me) (x : Int32) : CtI l yX0_smallLatin (Cond.code yX0_smallLatin cX0_smallLatin 2 (some .int)) ({ frames := 0, cells := 0, slots := 0, locals := 0 }) G B0 w [.int x] (fun z => z = smL x) := by
  refine Met.ofW (cc := cX0_smallLatin) (maxL := 2) (ret := (some .int)) (by decide) rfl ?_
  intro p e s m args below meth c s₁ B hml hv
  obtain ⟨rfl, hK, hP, hKq, hBs⟩ := hv
  have hts := fun w h => atoms_spec (ws := Cond.code yX0_smallLatin cX0_smallLatin 2 (some .int) :: tbG) B.pre w (List.mem_cons_of_mem _ h)
  have hown : s.vm.findClass RX0 = some m.cls := findClass_of_methodNamed B.named
  have C0 : Cx G B0 p s m _ c cX0_smallLatin RX0 := ⟨B.exec, B.bytes, hown, hts, hK, hKq, hBs⟩
  have hS : va_S (me_A B0) s.heap s.heap [] := va_S.rf
  have hl := lv_entry ([.int x]) (n := 2) (Nat.le_of_ble_eq_true rfl)
  rw [lg_entry_eq]
  generalize (lg_sl ([.int x]) ++ List.replicate (2 - (lg_sl ([.int x])).length) Slot.unset).toArray = ls at hl ⊢
  have hl : lv_has ls 2 [(0, .int x)] := hl
  have j_smL_37 : ∀ (ls : Array Slot), lv_has ls 2 [(0, .int x)] → smL x = smL_37 x → W p l e ({ frames := 0, cells := 0, slots := 0, locals := 0 }) s m ([.int x] : List Value).toArray below meth c s.heap [] 0 0 (MQ below (vp_Si (fun z => z = smL x)) ([.int x] : List Value).toArray s 0 0 (fun _ => False)) (F0 m 37 ls []) := by
    intro ls hl h_smL_37
    refine lv_iconst (v := 0) C0.1 C0.2.1 dX0_smallLatin_37 (by decide) ?_
    refine lv_istore_n (lv' := [(1, .int 0), (0, .int x)]) C0.1 C0.2.1 dX0_smallLatin_38 rfl hl (by decide) rfl (fun ls hl => ?_)
    refine lv_iload_n C0.1 C0.2.1 dX0_smallLatin_39 rfl (lv_at hl 0 rfl) ?_
    refine lv_if_eq (tgt := 48) C0.1 C0.2.1 dX0_smallLatin_40 (by decide) (fun c => ?_) (fun c => absurd c (by decide))
    refine lv_iload_n C0.1 C0.2.1 dX0_smallLatin_48 rfl (lv_at hl 1 rfl) ?_
    refine lv_sipush (v := 181) C0.1 C0.2.1 dX0_smallLatin_49 (by decide) ?_
    refine lv_icmp_ne (tgt := 61) C0.1 C0.2.1 dX0_smallLatin_52 (by decide) (fun c2 => ?_) (fun c2 => ?_)
    · refine lv_iload_n C0.1 C0.2.1 dX0_smallLatin_61 rfl (lv_at hl 1 rfl) ?_
      exact me_iret C0.1 C0.2.1 B.returns B.notSynchronized rfl rfl (by rw [h_smL_37]; unfold smL_37; rw [if_neg c2]) dX0_smallLatin_62
    · refine lv_sipush (v := 956) C0.1 C0.2.1 dX0_smallLatin_55 (by decide) ?_
      refine lv_goto (tgt := 62) C0.1 C0.2.1 dX0_smallLatin_58 (by decide) ?_
      exact me_iret C0.1 C0.2.1 B.returns B.notSynchronized rfl rfl (by rw [h_smL_37]; unfold smL_37; rw [if_pos c2]) dX0_smallLatin_62
  have j_smL_33 : ∀ (ls : Array Slot), lv_has ls 2 [(0, .int x)] → smL x = smL_33 x → W p l e ({ frames := 0, cells := 0, slots := 0, locals := 0 }) s m ([.int x] : List Value).toArray below meth c s.heap [] 0 0 (MQ below (vp_Si (fun z => z = smL x)) ([.int x] : List Value).toArray s 0 0 (fun _ => False)) (F0 m 33 ls []) := by
    intro ls hl h_smL_33
    refine lv_iconst (v := 1) C0.1 C0.2.1 dX0_smallLatin_33 (by decide) ?_
    refine lv_goto (tgt := 38) C0.1 C0.2.1 dX0_smallLatin_34 (by decide) ?_
    refine lv_istore_n (lv' := [(1, .int 1), (0, .int x)]) C0.1 C0.2.1 dX0_smallLatin_38 rfl hl (by decide) rfl (fun ls hl => ?_)
    refine lv_iload_n C0.1 C0.2.1 dX0_smallLatin_39 rfl (lv_at hl 0 rfl) ?_
    refine lv_if_eq (tgt := 48) C0.1 C0.2.1 dX0_smallLatin_40 (by decide) (fun c => absurd c (by decide)) (fun c => ?_)
    refine lv_iload_n C0.1 C0.2.1 dX0_smallLatin_43 rfl (lv_at hl 1 rfl) ?_
    refine lv_bipush (v := 32) C0.1 C0.2.1 dX0_smallLatin_44 (by decide) ?_
    refine lv_iadd C0.1 C0.2.1 dX0_smallLatin_46 ?_
    exact me_iret C0.1 C0.2.1 B.returns B.notSynchronized rfl rfl (by rw [h_smL_33]; unfold smL_33; rfl) dX0_smallLatin_47
  have j_smL_12 : ∀ (ls : Array Slot), lv_has ls 2 [(0, .int x)] → smL x = smL_12 x → W p l e ({ frames := 0, cells := 0, slots := 0, locals := 0 }) s m ([.int x] : List Value).toArray below meth c s.heap [] 0 0 (MQ below (vp_Si (fun z => z = smL x)) ([.int x] : List Value).toArray s 0 0 (fun _ => False)) (F0 m 12 ls []) := by
    intro ls hl h_smL_12
    refine lv_iload_n C0.1 C0.2.1 dX0_smallLatin_12 rfl (lv_at hl 0 rfl) ?_
    refine lv_sipush (v := 192) C0.1 C0.2.1 dX0_smallLatin_13 (by decide) ?_
    refine lv_icmp_lt (tgt := 37) C0.1 C0.2.1 dX0_smallLatin_16 (by decide) (fun c4 => ?_) (fun c4 => ?_)
    · exact j_smL_37 ls hl (by rw [h_smL_12]; unfold smL_12; rw [if_pos c4])
    · refine lv_iload_n C0.1 C0.2.1 dX0_smallLatin_19 rfl (lv_at hl 0 rfl) ?_
      refine lv_sipush (v := 222) C0.1 C0.2.1 dX0_smallLatin_20 (by decide) ?_
      refine lv_icmp_gt (tgt := 37) C0.1 C0.2.1 dX0_smallLatin_23 (by decide) (fun c5 => ?_) (fun c5 => ?_)
      · exact j_smL_37 ls hl (by rw [h_smL_12]; unfold smL_12; rw [if_neg c4, if_pos c5])
      · refine lv_iload_n C0.1 C0.2.1 dX0_smallLatin_26 rfl (lv_at hl 0 rfl) ?_
        refine lv_sipush (v := 215) C0.1 C0.2.1 dX0_smallLatin_27 (by decide) ?_
        refine lv_icmp_eq (tgt := 37) C0.1 C0.2.1 dX0_smallLatin_30 (by decide) (fun c6 => ?_) (fun c6 => ?_)
        · exact j_smL_37 ls hl (by rw [h_smL_12]; unfold smL_12; rw [if_neg c4, if_neg c5, if_pos c6])
        · exact j_smL_33 ls hl (by rw [h_smL_12]; unfold smL_12; rw [if_neg c4, if_neg c5, if_neg c6])
  refine lv_iload_n C0.1 C0.2.1 dX0_smallLatin_0 rfl (lv_at hl 0 rfl) ?_
  refine lv_bipush (v := 65) C0.1 C0.2.1 dX0_smallLatin_1 (by decide) ?_
  refine lv_icmp_lt (tgt := 12) C0.1 C0.2.1 dX0_smallLatin_3 (by decide) (fun c7 => ?_) (fun c7 => ?_)
  · exact j_smL_12 ls hl (by unfold smL; rw [if_pos c7])
  · refine lv_iload_n C0.1 C0.2.1 dX0_smallLatin_6 rfl (lv_at hl 0 rfl) ?_
    refine lv_bipush (v := 90) C0.1 C0.2.1 dX0_smallLatin_7 (by decide) ?_
    refine lv_icmp_le (tgt := 33) C0.1 C0.2.1 dX0_smallLatin_9 (by decide) (fun c8 => ?_) (fun c8 => ?_)
    · exact j_smL_33 ls hl (by unfold smL; rw [if_neg c7, if_pos c8])
    · exact j_smL_12 ls hl (by unfold smL; rw [if_neg c7, if_neg c8])

def smE_98 (x : Int32) : Int32 := x
def smE_94 (x : Int32) : Int32 := x + 1
def smE_80 (x : Int32) : Int32 := if x < 377 then (smE_98 x) else if 382 < x then (smE_98 x) else smE_94 x
def smE_62 (x : Int32) : Int32 := x
def smE_58 (x : Int32) : Int32 := x + 1
def smE (x : Int32) : Int32 := if x = 376 then 255 else if x = 383 then 115 else if (x - x / 2 * 2) = 0 then (if x ≤ 303 then (smE_58 x) else if x < 330 then (smE_62 x) else if 375 < x then (smE_62 x) else smE_58 x) else if x < 313 then (smE_80 x) else if x ≤ 328 then (smE_94 x) else smE_80 x
set_option maxHeartbeats 4000000 in
set_option maxRecDepth 100000 in
/-- smallLatinExtended -/
theorem c_X0_smallLatinExtended (l : Launch) (G : me_G) (B0 : Nat) (w : Me) (x : Int32) : CtI l yX0_smallLatinExtended (Cond.code yX0_smallLatinExtended cX0_smallLatinExtended 3 (some .int)) ({ frames := 0, cells := 0, slots := 0, locals := 0 }) G B0 w [.int x] (fun z => z = smE x) := by
  refine Met.ofW (cc := cX0_smallLatinExtended) (maxL := 3) (ret := (some .int)) (by decide) rfl ?_
  intro p e s m args below meth c s₁ B hml hv
  obtain ⟨rfl, hK, hP, hKq, hBs⟩ := hv
  have hts := fun w h => atoms_spec (ws := Cond.code yX0_smallLatinExtended cX0_smallLatinExtended 3 (some .int) :: tbG) B.pre w (List.mem_cons_of_mem _ h)
  have hown : s.vm.findClass RX0 = some m.cls := findClass_of_methodNamed B.named
  have C0 : Cx G B0 p s m _ c cX0_smallLatinExtended RX0 := ⟨B.exec, B.bytes, hown, hts, hK, hKq, hBs⟩
  have hS : va_S (me_A B0) s.heap s.heap [] := va_S.rf
  have hl := lv_entry ([.int x]) (n := 3) (Nat.le_of_ble_eq_true rfl)
  rw [lg_entry_eq]
  generalize (lg_sl ([.int x]) ++ List.replicate (3 - (lg_sl ([.int x])).length) Slot.unset).toArray = ls at hl ⊢
  have hl : lv_has ls 3 [(0, .int x)] := hl
  have j_smE_98 : ∀ (ls : Array Slot), lv_has ls 3 [(1, .int 0), (0, .int x)] → smE x = smE_98 x → W p l e ({ frames := 0, cells := 0, slots := 0, locals := 0 }) s m ([.int x] : List Value).toArray below meth c s.heap [] 0 0 (MQ below (vp_Si (fun z => z = smE x)) ([.int x] : List Value).toArray s 0 0 (fun _ => False)) (F0 m 98 ls []) := by
    intro ls hl h_smE_98
    refine lv_iconst (v := 0) C0.1 C0.2.1 dX0_smallLatinExtended_98 (by decide) ?_
    refine lv_istore_n (lv' := [(2, .int 0), (1, .int 0), (0, .int x)]) C0.1 C0.2.1 dX0_smallLatinExtended_99 rfl hl (by decide) rfl (fun ls hl => ?_)
    refine lv_iload_n C0.1 C0.2.1 dX0_smallLatinExtended_100 rfl (lv_at hl 0 rfl) ?_
    refine lv_if_eq (tgt := 110) C0.1 C0.2.1 dX0_smallLatinExtended_101 (by decide) (fun c => ?_) (fun c => absurd c (by decide))
    refine lv_iload_n C0.1 C0.2.1 dX0_smallLatinExtended_110 rfl (lv_at hl 2 rfl) ?_
    exact me_iret C0.1 C0.2.1 B.returns B.notSynchronized rfl rfl (by rw [h_smE_98]; unfold smE_98; rfl) dX0_smallLatinExtended_111
  have j_smE_94 : ∀ (ls : Array Slot), lv_has ls 3 [(1, .int 0), (0, .int x)] → smE x = smE_94 x → W p l e ({ frames := 0, cells := 0, slots := 0, locals := 0 }) s m ([.int x] : List Value).toArray below meth c s.heap [] 0 0 (MQ below (vp_Si (fun z => z = smE x)) ([.int x] : List Value).toArray s 0 0 (fun _ => False)) (F0 m 94 ls []) := by
    intro ls hl h_smE_94
    refine lv_iconst (v := 1) C0.1 C0.2.1 dX0_smallLatinExtended_94 (by decide) ?_
    refine lv_goto (tgt := 99) C0.1 C0.2.1 dX0_smallLatinExtended_95 (by decide) ?_
    refine lv_istore_n (lv' := [(2, .int 1), (1, .int 0), (0, .int x)]) C0.1 C0.2.1 dX0_smallLatinExtended_99 rfl hl (by decide) rfl (fun ls hl => ?_)
    refine lv_iload_n C0.1 C0.2.1 dX0_smallLatinExtended_100 rfl (lv_at hl 0 rfl) ?_
    refine lv_if_eq (tgt := 110) C0.1 C0.2.1 dX0_smallLatinExtended_101 (by decide) (fun c => absurd c (by decide)) (fun c => ?_)
    refine lv_iload_n C0.1 C0.2.1 dX0_smallLatinExtended_104 rfl (lv_at hl 2 rfl) ?_
    refine lv_iconst (v := 1) C0.1 C0.2.1 dX0_smallLatinExtended_105 (by decide) ?_
    refine lv_iadd C0.1 C0.2.1 dX0_smallLatinExtended_106 ?_
    refine lv_goto (tgt := 111) C0.1 C0.2.1 dX0_smallLatinExtended_107 (by decide) ?_
    exact me_iret C0.1 C0.2.1 B.returns B.notSynchronized rfl rfl (by rw [h_smE_94]; unfold smE_94; rfl) dX0_smallLatinExtended_111
  have j_smE_80 : ∀ (ls : Array Slot), lv_has ls 3 [(1, .int 0), (0, .int x)] → smE x = smE_80 x → W p l e ({ frames := 0, cells := 0, slots := 0, locals := 0 }) s m ([.int x] : List Value).toArray below meth c s.heap [] 0 0 (MQ below (vp_Si (fun z => z = smE x)) ([.int x] : List Value).toArray s 0 0 (fun _ => False)) (F0 m 80 ls []) := by
    intro ls hl h_smE_80
    refine lv_iload_n C0.1 C0.2.1 dX0_smallLatinExtended_80 rfl (lv_at hl 1 rfl) ?_
    refine lv_sipush (v := 377) C0.1 C0.2.1 dX0_smallLatinExtended_81 (by decide) ?_
    refine lv_icmp_lt (tgt := 98) C0.1 C0.2.1 dX0_smallLatinExtended_84 (by decide) (fun c3 => ?_) (fun c3 => ?_)
    · exact j_smE_98 ls hl (by rw [h_smE_80]; unfold smE_80; rw [if_pos c3])
    · refine lv_iload_n C0.1 C0.2.1 dX0_smallLatinExtended_87 rfl (lv_at hl 1 rfl) ?_
      refine lv_sipush (v := 382) C0.1 C0.2.1 dX0_smallLatinExtended_88 (by decide) ?_
      refine lv_icmp_gt (tgt := 98) C0.1 C0.2.1 dX0_smallLatinExtended_91 (by decide) (fun c4 => ?_) (fun c4 => ?_)
      · exact j_smE_98 ls hl (by rw [h_smE_80]; unfold smE_80; rw [if_neg c3, if_pos c4])
      · exact j_smE_94 ls hl (by rw [h_smE_80]; unfold smE_80; rw [if_neg c3, if_neg c4])
  have j_smE_62 : ∀ (ls : Array Slot), lv_has ls 3 [(1, .int 1), (0, .int x)] → smE x = smE_62 x → W p l e ({ frames := 0, cells := 0, slots := 0, locals := 0 }) s m ([.int x] : List Value).toArray below meth c s.heap [] 0 0 (MQ below (vp_Si (fun z => z = smE x)) ([.int x] : List Value).toArray s 0 0 (fun _ => False)) (F0 m 62 ls []) := by
    intro ls hl h_smE_62
    refine lv_iconst (v := 0) C0.1 C0.2.1 dX0_smallLatinExtended_62 (by decide) ?_
    refine lv_goto (tgt := 99) C0.1 C0.2.1 dX0_smallLatinExtended_63 (by decide) ?_
    refine lv_istore_n (lv' := [(2, .int 0), (1, .int 1), (0, .int x)]) C0.1 C0.2.1 dX0_smallLatinExtended_99 rfl hl (by decide) rfl (fun ls hl => ?_)
    refine lv_iload_n C0.1 C0.2.1 dX0_smallLatinExtended_100 rfl (lv_at hl 0 rfl) ?_
    refine lv_if_eq (tgt := 110) C0.1 C0.2.1 dX0_smallLatinExtended_101 (by decide) (fun c => ?_) (fun c => absurd c (by decide))
    refine lv_iload_n C0.1 C0.2.1 dX0_smallLatinExtended_110 rfl (lv_at hl 2 rfl) ?_
    exact me_iret C0.1 C0.2.1 B.returns B.notSynchronized rfl rfl (by rw [h_smE_62]; unfold smE_62; rfl) dX0_smallLatinExtended_111
  have j_smE_58 : ∀ (ls : Array Slot), lv_has ls 3 [(1, .int 1), (0, .int x)] → smE x = smE_58 x → W p l e ({ frames := 0, cells := 0, slots := 0, locals := 0 }) s m ([.int x] : List Value).toArray below meth c s.heap [] 0 0 (MQ below (vp_Si (fun z => z = smE x)) ([.int x] : List Value).toArray s 0 0 (fun _ => False)) (F0 m 58 ls []) := by
    intro ls hl h_smE_58
    refine lv_iconst (v := 1) C0.1 C0.2.1 dX0_smallLatinExtended_58 (by decide) ?_
    refine lv_goto (tgt := 99) C0.1 C0.2.1 dX0_smallLatinExtended_59 (by decide) ?_
    refine lv_istore_n (lv' := [(2, .int 1), (1, .int 1), (0, .int x)]) C0.1 C0.2.1 dX0_smallLatinExtended_99 rfl hl (by decide) rfl (fun ls hl => ?_)
    refine lv_iload_n C0.1 C0.2.1 dX0_smallLatinExtended_100 rfl (lv_at hl 0 rfl) ?_
    refine lv_if_eq (tgt := 110) C0.1 C0.2.1 dX0_smallLatinExtended_101 (by decide) (fun c => absurd c (by decide)) (fun c => ?_)
    refine lv_iload_n C0.1 C0.2.1 dX0_smallLatinExtended_104 rfl (lv_at hl 2 rfl) ?_
    refine lv_iconst (v := 1) C0.1 C0.2.1 dX0_smallLatinExtended_105 (by decide) ?_
    refine lv_iadd C0.1 C0.2.1 dX0_smallLatinExtended_106 ?_
    refine lv_goto (tgt := 111) C0.1 C0.2.1 dX0_smallLatinExtended_107 (by decide) ?_
    exact me_iret C0.1 C0.2.1 B.returns B.notSynchronized rfl rfl (by rw [h_smE_58]; unfold smE_58; rfl) dX0_smallLatinExtended_111
  refine lv_iload_n C0.1 C0.2.1 dX0_smallLatinExtended_0 rfl (lv_at hl 0 rfl) ?_
  refine lv_sipush (v := 376) C0.1 C0.2.1 dX0_smallLatinExtended_1 (by decide) ?_
  refine lv_icmp_ne (tgt := 11) C0.1 C0.2.1 dX0_smallLatinExtended_4 (by decide) (fun c7 => ?_) (fun c7 => ?_)
  · refine lv_iload_n C0.1 C0.2.1 dX0_smallLatinExtended_11 rfl (lv_at hl 0 rfl) ?_
    refine lv_sipush (v := 383) C0.1 C0.2.1 dX0_smallLatinExtended_12 (by decide) ?_
    refine lv_icmp_ne (tgt := 21) C0.1 C0.2.1 dX0_smallLatinExtended_15 (by decide) (fun c8 => ?_) (fun c8 => ?_)
    · refine lv_iload_n C0.1 C0.2.1 dX0_smallLatinExtended_21 rfl (lv_at hl 0 rfl) ?_
      refine lv_iconst (v := 2) C0.1 C0.2.1 dX0_smallLatinExtended_22 (by decide) ?_
      refine lv_irem C0.1 C0.2.1 dX0_smallLatinExtended_23 (by decide) ?_
      refine lv_if_ne (tgt := 31) C0.1 C0.2.1 dX0_smallLatinExtended_24 (by decide) (fun c9 => ?_) (fun c9 => ?_)
      · refine lv_iconst (v := 0) C0.1 C0.2.1 dX0_smallLatinExtended_31 (by decide) ?_
        refine lv_istore_n (lv' := [(1, .int 0), (0, .int x)]) C0.1 C0.2.1 dX0_smallLatinExtended_32 rfl hl (by decide) rfl (fun ls hl => ?_)
        refine lv_iload_n C0.1 C0.2.1 dX0_smallLatinExtended_33 rfl (lv_at hl 0 rfl) ?_
        refine lv_if_eq (tgt := 66) C0.1 C0.2.1 dX0_smallLatinExtended_34 (by decide) (fun c => ?_) (fun c => absurd c (by decide))
        refine lv_iload_n C0.1 C0.2.1 dX0_smallLatinExtended_66 rfl (lv_at hl 1 rfl) ?_
        refine lv_sipush (v := 313) C0.1 C0.2.1 dX0_smallLatinExtended_67 (by decide) ?_
        refine lv_icmp_lt (tgt := 80) C0.1 C0.2.1 dX0_smallLatinExtended_70 (by decide) (fun c11 => ?_) (fun c11 => ?_)
        · exact j_smE_80 ls hl (by unfold smE; rw [if_neg c7, if_neg c8, if_neg c9, if_pos c11])
        · refine lv_iload_n C0.1 C0.2.1 dX0_smallLatinExtended_73 rfl (lv_at hl 1 rfl) ?_
          refine lv_sipush (v := 328) C0.1 C0.2.1 dX0_smallLatinExtended_74 (by decide) ?_
          refine lv_icmp_le (tgt := 94) C0.1 C0.2.1 dX0_smallLatinExtended_77 (by decide) (fun c12 => ?_) (fun c12 => ?_)
          · exact j_smE_94 ls hl (by unfold smE; rw [if_neg c7, if_neg c8, if_neg c9, if_neg c11, if_pos c12])
          · exact j_smE_80 ls hl (by unfold smE; rw [if_neg c7, if_neg c8, if_neg c9, if_neg c11, if_neg c12])
      · refine lv_iconst (v := 1) C0.1 C0.2.1 dX0_smallLatinExtended_27 (by decide) ?_
        refine lv_goto (tgt := 32) C0.1 C0.2.1 dX0_smallLatinExtended_28 (by decide) ?_
        refine lv_istore_n (lv' := [(1, .int 1), (0, .int x)]) C0.1 C0.2.1 dX0_smallLatinExtended_32 rfl hl (by decide) rfl (fun ls hl => ?_)
        refine lv_iload_n C0.1 C0.2.1 dX0_smallLatinExtended_33 rfl (lv_at hl 0 rfl) ?_
        refine lv_if_eq (tgt := 66) C0.1 C0.2.1 dX0_smallLatinExtended_34 (by decide) (fun c => absurd c (by decide)) (fun c => ?_)
        refine lv_iload_n C0.1 C0.2.1 dX0_smallLatinExtended_37 rfl (lv_at hl 1 rfl) ?_
        refine lv_sipush (v := 303) C0.1 C0.2.1 dX0_smallLatinExtended_38 (by decide) ?_
        refine lv_icmp_le (tgt := 58) C0.1 C0.2.1 dX0_smallLatinExtended_41 (by decide) (fun c14 => ?_) (fun c14 => ?_)
        · exact j_smE_58 ls hl (by unfold smE; rw [if_neg c7, if_neg c8, if_pos c9, if_pos c14])
        · refine lv_iload_n C0.1 C0.2.1 dX0_smallLatinExtended_44 rfl (lv_at hl 1 rfl) ?_
          refine lv_sipush (v := 330) C0.1 C0.2.1 dX0_smallLatinExtended_45 (by decide) ?_
          refine lv_icmp_lt (tgt := 62) C0.1 C0.2.1 dX0_smallLatinExtended_48 (by decide) (fun c15 => ?_) (fun c15 => ?_)
          · exact j_smE_62 ls hl (by unfold smE; rw [if_neg c7, if_neg c8, if_pos c9, if_neg c14, if_pos c15])
          · refine lv_iload_n C0.1 C0.2.1 dX0_smallLatinExtended_51 rfl (lv_at hl 1 rfl) ?_
            refine lv_sipush (v := 375) C0.1 C0.2.1 dX0_smallLatinExtended_52 (by decide) ?_
            refine lv_icmp_gt (tgt := 62) C0.1 C0.2.1 dX0_smallLatinExtended_55 (by decide) (fun c16 => ?_) (fun c16 => ?_)
            · exact j_smE_62 ls hl (by unfold smE; rw [if_neg c7, if_neg c8, if_pos c9, if_neg c14, if_neg c15, if_pos c16])
            · exact j_smE_58 ls hl (by unfold smE; rw [if_neg c7, if_neg c8, if_pos c9, if_neg c14, if_neg c15, if_neg c16])
    · refine lv_bipush (v := 115) C0.1 C0.2.1 dX0_smallLatinExtended_18 (by decide) ?_
      exact me_iret C0.1 C0.2.1 B.returns B.notSynchronized rfl rfl (by unfold smE; rw [if_neg c7, if_pos c8]) dX0_smallLatinExtended_20
  · refine lv_sipush (v := 255) C0.1 C0.2.1 dX0_smallLatinExtended_7 (by decide) ?_
    exact me_iret C0.1 C0.2.1 B.returns B.notSynchronized rfl rfl (by unfold smE; rw [if_pos c7]) dX0_smallLatinExtended_10

def smA_116 (x : Int32) : Int32 := x
def smA_80a (x : Int32) : Int32 := if x < 1024 then (smA_116 x) else if 1039 < x then (smA_116 x) else x + 80
def smA_80b (x : Int32) : Int32 := x + 32
def smA_60 (x : Int32) : Int32 := if x < 1040 then (smA_80a x) else if 1071 < x then (smA_80a x) else x + 32
def smA (x : Int32) : Int32 := if 256 ≤ x then (if 384 ≤ x then (if x = 962 then 963 else if x < 913 then (smA_60 x) else if 939 < x then (smA_60 x) else if x = 930 then (smA_60 x) else if x < 1040 then (smA_80b x) else if 1071 < x then (smA_80b x) else x + 32) else smE x) else smL x
set_option maxHeartbeats 4000000 in
set_option maxRecDepth 100000 in
/-- small -/
theorem c_X0_small (l : Launch) (G : me_G) (B0 : Nat) (w : Me) (x : Int32) : CtI l yX0_small (Cond.code yX0_small cX0_small 3 (some .int)) ({ frames := 1, cells := 0, slots := 0, locals := 22 }) G B0 w [.int x] (fun z => z = smA x) := by
  refine Met.ofW (cc := cX0_small) (maxL := 3) (ret := (some .int)) (by decide) rfl ?_
  intro p e s m args below meth c s₁ B hml hv
  obtain ⟨rfl, hK, hP, hKq, hBs⟩ := hv
  have hts := fun w h => atoms_spec (ws := Cond.code yX0_small cX0_small 3 (some .int) :: tbG) B.pre w (List.mem_cons_of_mem _ h)
  have hown : s.vm.findClass RX0 = some m.cls := findClass_of_methodNamed B.named
  have C0 : Cx G B0 p s m _ c cX0_small RX0 := ⟨B.exec, B.bytes, hown, hts, hK, hKq, hBs⟩
  have hS : va_S (me_A B0) s.heap s.heap [] := va_S.rf
  have hl := lv_entry ([.int x]) (n := 3) (Nat.le_of_ble_eq_true rfl)
  rw [lg_entry_eq]
  generalize (lg_sl ([.int x]) ++ List.replicate (3 - (lg_sl ([.int x])).length) Slot.unset).toArray = ls at hl ⊢
  have hl : lv_has ls 3 [(0, .int x)] := hl
  have j_smA_116 : ∀ (ls : Array Slot), lv_has ls 3 [(2, .int 0), (1, .int 0), (0, .int x)] → smA x = smA_116 x → W p l e ({ frames := 1, cells := 0, slots := 0, locals := 22 }) s m ([.int x] : List Value).toArray below meth c s.heap [] 0 0 (MQ below (vp_Si (fun z => z = smA x)) ([.int x] : List Value).toArray s 0 0 (fun _ => False)) (F0 m 116 ls []) := by
    intro ls hl h_smA_116
    refine lv_iload_n C0.1 C0.2.1 dX0_small_116 rfl (lv_at hl 2 rfl) ?_
    exact me_iret C0.1 C0.2.1 B.returns B.notSynchronized rfl rfl (by rw [h_smA_116]; unfold smA_116; rfl) dX0_small_117
  have j_smA_80a : ∀ (ls : Array Slot), lv_has ls 3 [(1, .int 0), (0, .int x)] → smA x = smA_80a x → W p l e ({ frames := 1, cells := 0, slots := 0, locals := 22 }) s m ([.int x] : List Value).toArray below meth c s.heap [] 0 0 (MQ below (vp_Si (fun z => z = smA x)) ([.int x] : List Value).toArray s 0 0 (fun _ => False)) (F0 m 80 ls []) := by
    intro ls hl h_smA_80a
    refine lv_iconst (v := 0) C0.1 C0.2.1 dX0_small_80 (by decide) ?_
    refine lv_istore_n (lv' := [(2, .int 0), (1, .int 0), (0, .int x)]) C0.1 C0.2.1 dX0_small_81 rfl hl (by decide) rfl (fun ls hl => ?_)
    refine lv_iload_n C0.1 C0.2.1 dX0_small_82 rfl (lv_at hl 1 rfl) ?_
    refine lv_if_ne (tgt := 90) C0.1 C0.2.1 dX0_small_83 (by decide) (fun c => absurd c (by decide)) (fun c => ?_)
    refine lv_iload_n C0.1 C0.2.1 dX0_small_86 rfl (lv_at hl 0 rfl) ?_
    refine lv_if_eq (tgt := 95) C0.1 C0.2.1 dX0_small_87 (by decide) (fun c => ?_) (fun c => absurd c (by decide))
    refine lv_iload_n C0.1 C0.2.1 dX0_small_95 rfl (lv_at hl 2 rfl) ?_
    refine lv_sipush (v := 1024) C0.1 C0.2.1 dX0_small_96 (by decide) ?_
    refine lv_icmp_lt (tgt := 116) C0.1 C0.2.1 dX0_small_99 (by decide) (fun c3 => ?_) (fun c3 => ?_)
    · exact j_smA_116 ls hl (by rw [h_smA_80a]; unfold smA_80a; rw [if_pos c3])
    · refine lv_iload_n C0.1 C0.2.1 dX0_small_102 rfl (lv_at hl 2 rfl) ?_
      refine lv_sipush (v := 1039) C0.1 C0.2.1 dX0_small_103 (by decide) ?_
      refine lv_icmp_gt (tgt := 116) C0.1 C0.2.1 dX0_small_106 (by decide) (fun c4 => ?_) (fun c4 => ?_)
      · exact j_smA_116 ls hl (by rw [h_smA_80a]; unfold smA_80a; rw [if_neg c3, if_pos c4])
      · refine lv_iload_n C0.1 C0.2.1 dX0_small_109 rfl (lv_at hl 2 rfl) ?_
        refine lv_bipush (v := 80) C0.1 C0.2.1 dX0_small_110 (by decide) ?_
        refine lv_iadd C0.1 C0.2.1 dX0_small_112 ?_
        refine lv_goto (tgt := 117) C0.1 C0.2.1 dX0_small_113 (by decide) ?_
        exact me_iret C0.1 C0.2.1 B.returns B.notSynchronized rfl rfl (by rw [h_smA_80a]; unfold smA_80a; rw [if_neg c3, if_neg c4]) dX0_small_117
  have j_smA_80b : ∀ (ls : Array Slot), lv_has ls 3 [(1, .int 1), (0, .int x)] → smA x = smA_80b x → W p l e ({ frames := 1, cells := 0, slots := 0, locals := 22 }) s m ([.int x] : List Value).toArray below meth c s.heap [] 0 0 (MQ below (vp_Si (fun z => z = smA x)) ([.int x] : List Value).toArray s 0 0 (fun _ => False)) (F0 m 80 ls []) := by
    intro ls hl h_smA_80b
    refine lv_iconst (v := 0) C0.1 C0.2.1 dX0_small_80 (by decide) ?_
    refine lv_istore_n (lv' := [(2, .int 0), (1, .int 1), (0, .int x)]) C0.1 C0.2.1 dX0_small_81 rfl hl (by decide) rfl (fun ls hl => ?_)
    refine lv_iload_n C0.1 C0.2.1 dX0_small_82 rfl (lv_at hl 1 rfl) ?_
    refine lv_if_ne (tgt := 90) C0.1 C0.2.1 dX0_small_83 (by decide) (fun c => ?_) (fun c => absurd c (by decide))
    refine lv_iload_n C0.1 C0.2.1 dX0_small_90 rfl (lv_at hl 2 rfl) ?_
    refine lv_bipush (v := 32) C0.1 C0.2.1 dX0_small_91 (by decide) ?_
    refine lv_iadd C0.1 C0.2.1 dX0_small_93 ?_
    exact me_iret C0.1 C0.2.1 B.returns B.notSynchronized rfl rfl (by rw [h_smA_80b]; unfold smA_80b; rfl) dX0_small_94
  have j_smA_60 : ∀ (ls : Array Slot), lv_has ls 3 [(0, .int x)] → smA x = smA_60 x → W p l e ({ frames := 1, cells := 0, slots := 0, locals := 22 }) s m ([.int x] : List Value).toArray below meth c s.heap [] 0 0 (MQ below (vp_Si (fun z => z = smA x)) ([.int x] : List Value).toArray s 0 0 (fun _ => False)) (F0 m 60 ls []) := by
    intro ls hl h_smA_60
    refine lv_iconst (v := 0) C0.1 C0.2.1 dX0_small_60 (by decide) ?_
    refine lv_istore_n (lv' := [(1, .int 0), (0, .int x)]) C0.1 C0.2.1 dX0_small_61 rfl hl (by decide) rfl (fun ls hl => ?_)
    refine lv_iload_n C0.1 C0.2.1 dX0_small_62 rfl (lv_at hl 1 rfl) ?_
    refine lv_sipush (v := 1040) C0.1 C0.2.1 dX0_small_63 (by decide) ?_
    refine lv_icmp_lt (tgt := 80) C0.1 C0.2.1 dX0_small_66 (by decide) (fun c6 => ?_) (fun c6 => ?_)
    · exact j_smA_80a ls hl (by rw [h_smA_60]; unfold smA_60; rw [if_pos c6])
    · refine lv_iload_n C0.1 C0.2.1 dX0_small_69 rfl (lv_at hl 1 rfl) ?_
      refine lv_sipush (v := 1071) C0.1 C0.2.1 dX0_small_70 (by decide) ?_
      refine lv_icmp_gt (tgt := 80) C0.1 C0.2.1 dX0_small_73 (by decide) (fun c7 => ?_) (fun c7 => ?_)
      · exact j_smA_80a ls hl (by rw [h_smA_60]; unfold smA_60; rw [if_neg c6, if_pos c7])
      · refine lv_iconst (v := 1) C0.1 C0.2.1 dX0_small_76 (by decide) ?_
        refine lv_goto (tgt := 81) C0.1 C0.2.1 dX0_small_77 (by decide) ?_
        refine lv_istore_n (lv' := [(2, .int 1), (1, .int 0), (0, .int x)]) C0.1 C0.2.1 dX0_small_81 rfl hl (by decide) rfl (fun ls hl => ?_)
        refine lv_iload_n C0.1 C0.2.1 dX0_small_82 rfl (lv_at hl 1 rfl) ?_
        refine lv_if_ne (tgt := 90) C0.1 C0.2.1 dX0_small_83 (by decide) (fun c => absurd c (by decide)) (fun c => ?_)
        refine lv_iload_n C0.1 C0.2.1 dX0_small_86 rfl (lv_at hl 0 rfl) ?_
        refine lv_if_eq (tgt := 95) C0.1 C0.2.1 dX0_small_87 (by decide) (fun c => absurd c (by decide)) (fun c => ?_)
        refine lv_iload_n C0.1 C0.2.1 dX0_small_90 rfl (lv_at hl 2 rfl) ?_
        refine lv_bipush (v := 32) C0.1 C0.2.1 dX0_small_91 (by decide) ?_
        refine lv_iadd C0.1 C0.2.1 dX0_small_93 ?_
        exact me_iret C0.1 C0.2.1 B.returns B.notSynchronized rfl rfl (by rw [h_smA_60]; unfold smA_60; rw [if_neg c6, if_neg c7]) dX0_small_94
  refine lv_iload_n C0.1 C0.2.1 dX0_small_0 rfl (lv_at hl 0 rfl) ?_
  refine lv_sipush (v := 256) C0.1 C0.2.1 dX0_small_1 (by decide) ?_
  refine lv_icmp_ge (tgt := 12) C0.1 C0.2.1 dX0_small_4 (by decide) (fun c10 => ?_) (fun c10 => ?_)
  · refine lv_iload_n C0.1 C0.2.1 dX0_small_12 rfl (lv_at hl 0 rfl) ?_
    refine lv_sipush (v := 384) C0.1 C0.2.1 dX0_small_13 (by decide) ?_
    refine lv_icmp_ge (tgt := 24) C0.1 C0.2.1 dX0_small_16 (by decide) (fun c11 => ?_) (fun c11 => ?_)
    · refine lv_iload_n C0.1 C0.2.1 dX0_small_24 rfl (lv_at hl 0 rfl) ?_
      refine lv_sipush (v := 962) C0.1 C0.2.1 dX0_small_25 (by decide) ?_
      refine lv_icmp_ne (tgt := 35) C0.1 C0.2.1 dX0_small_28 (by decide) (fun c12 => ?_) (fun c12 => ?_)
      · refine lv_iload_n C0.1 C0.2.1 dX0_small_35 rfl (lv_at hl 0 rfl) ?_
        refine lv_sipush (v := 913) C0.1 C0.2.1 dX0_small_36 (by decide) ?_
        refine lv_icmp_lt (tgt := 60) C0.1 C0.2.1 dX0_small_39 (by decide) (fun c13 => ?_) (fun c13 => ?_)
        · exact j_smA_60 ls hl (by unfold smA; rw [if_pos c10, if_pos c11, if_neg c12, if_pos c13])
        · refine lv_iload_n C0.1 C0.2.1 dX0_small_42 rfl (lv_at hl 0 rfl) ?_
          refine lv_sipush (v := 939) C0.1 C0.2.1 dX0_small_43 (by decide) ?_
          refine lv_icmp_gt (tgt := 60) C0.1 C0.2.1 dX0_small_46 (by decide) (fun c14 => ?_) (fun c14 => ?_)
          · exact j_smA_60 ls hl (by unfold smA; rw [if_pos c10, if_pos c11, if_neg c12, if_neg c13, if_pos c14])
          · refine lv_iload_n C0.1 C0.2.1 dX0_small_49 rfl (lv_at hl 0 rfl) ?_
            refine lv_sipush (v := 930) C0.1 C0.2.1 dX0_small_50 (by decide) ?_
            refine lv_icmp_eq (tgt := 60) C0.1 C0.2.1 dX0_small_53 (by decide) (fun c15 => ?_) (fun c15 => ?_)
            · exact j_smA_60 ls hl (by unfold smA; rw [if_pos c10, if_pos c11, if_neg c12, if_neg c13, if_neg c14, if_pos c15])
            · refine lv_iconst (v := 1) C0.1 C0.2.1 dX0_small_56 (by decide) ?_
              refine lv_goto (tgt := 61) C0.1 C0.2.1 dX0_small_57 (by decide) ?_
              refine lv_istore_n (lv' := [(1, .int 1), (0, .int x)]) C0.1 C0.2.1 dX0_small_61 rfl hl (by decide) rfl (fun ls hl => ?_)
              refine lv_iload_n C0.1 C0.2.1 dX0_small_62 rfl (lv_at hl 1 rfl) ?_
              refine lv_sipush (v := 1040) C0.1 C0.2.1 dX0_small_63 (by decide) ?_
              refine lv_icmp_lt (tgt := 80) C0.1 C0.2.1 dX0_small_66 (by decide) (fun c16 => ?_) (fun c16 => ?_)
              · exact j_smA_80b ls hl (by unfold smA; rw [if_pos c10, if_pos c11, if_neg c12, if_neg c13, if_neg c14, if_neg c15, if_pos c16])
              · refine lv_iload_n C0.1 C0.2.1 dX0_small_69 rfl (lv_at hl 1 rfl) ?_
                refine lv_sipush (v := 1071) C0.1 C0.2.1 dX0_small_70 (by decide) ?_
                refine lv_icmp_gt (tgt := 80) C0.1 C0.2.1 dX0_small_73 (by decide) (fun c17 => ?_) (fun c17 => ?_)
                · exact j_smA_80b ls hl (by unfold smA; rw [if_pos c10, if_pos c11, if_neg c12, if_neg c13, if_neg c14, if_neg c15, if_neg c16, if_pos c17])
                · refine lv_iconst (v := 1) C0.1 C0.2.1 dX0_small_76 (by decide) ?_
                  refine lv_goto (tgt := 81) C0.1 C0.2.1 dX0_small_77 (by decide) ?_
                  refine lv_istore_n (lv' := [(2, .int 1), (1, .int 1), (0, .int x)]) C0.1 C0.2.1 dX0_small_81 rfl hl (by decide) rfl (fun ls hl => ?_)
                  refine lv_iload_n C0.1 C0.2.1 dX0_small_82 rfl (lv_at hl 1 rfl) ?_
                  refine lv_if_ne (tgt := 90) C0.1 C0.2.1 dX0_small_83 (by decide) (fun c => ?_) (fun c => absurd c (by decide))
                  refine lv_iload_n C0.1 C0.2.1 dX0_small_90 rfl (lv_at hl 2 rfl) ?_
                  refine lv_bipush (v := 32) C0.1 C0.2.1 dX0_small_91 (by decide) ?_
                  refine lv_iadd C0.1 C0.2.1 dX0_small_93 ?_
                  exact me_iret C0.1 C0.2.1 B.returns B.notSynchronized rfl rfl (by unfold smA; rw [if_pos c10, if_pos c11, if_neg c12, if_neg c13, if_neg c14, if_neg c15, if_neg c16, if_neg c17]) dX0_small_94
      · refine lv_sipush (v := 963) C0.1 C0.2.1 dX0_small_31 (by decide) ?_
        exact me_iret C0.1 C0.2.1 B.returns B.notSynchronized rfl rfl (by unfold smA; rw [if_pos c10, if_pos c11, if_pos c12]) dX0_small_34
    · refine lv_iload_n C0.1 C0.2.1 dX0_small_19 rfl (lv_at hl 0 rfl) ?_
      refine me_cSi (n := 1) C0 hml hP hS (c_X0_smallLatinExtended l G B0 w x) ⟨kw_232, kw_41, kw_230, ⟨by decide, by decide, by decide +kernel⟩, ⟨rfl, rfl⟩, ⟨Nat.le_of_ble_eq_true rfl, Nat.le_of_ble_eq_true rfl⟩⟩ kw_231 rfl hl.1 rfl (Nat.le_of_ble_eq_true rfl) ⟨Nat.le_of_ble_eq_true rfl, Nat.le_of_ble_eq_true rfl⟩ dX0_small_20 (fun r19 hr19 => ?_)
      subst hr19
      exact me_iret C0.1 C0.2.1 B.returns B.notSynchronized rfl rfl (by unfold smA; rw [if_pos c10, if_neg c11]) dX0_small_23
  · refine lv_iload_n C0.1 C0.2.1 dX0_small_7 rfl (lv_at hl 0 rfl) ?_
    refine me_cSi (n := 1) C0 hml hP hS (c_X0_smallLatin l G B0 w x) ⟨kw_229, kw_41, kw_227, ⟨by decide, by decide, by decide +kernel⟩, ⟨rfl, rfl⟩, ⟨Nat.le_of_ble_eq_true rfl, Nat.le_of_ble_eq_true rfl⟩⟩ kw_228 rfl hl.1 rfl (Nat.le_of_ble_eq_true rfl) ⟨Nat.le_of_ble_eq_true rfl, Nat.le_of_ble_eq_true rfl⟩ dX0_small_8 (fun r20 hr20 => ?_)
    subst hr20
    exact me_iret C0.1 C0.2.1 B.returns B.notSynchronized rfl rfl (by unfold smA; rw [if_neg c10]) dX0_small_11

def mkOf (x : Int32) : Int32 := if 52 ≤ x then (if x = 52 then 776 else if x = 53 then 778 else 807) else (768 + x) - 48
set_option maxHeartbeats 4000000 in
set_option maxRecDepth 100000 in
/-- markOf -/
theorem c_X5_markOf (l : Launch) (G : me_G) (B0 : Nat) (w : Me) (x : Int32) : CtI l yX5_markOf (Cond.code yX5_markOf cX5_markOf 1 (some .int)) ({ frames := 0, cells := 0, slots := 0, locals := 0 }) G B0 w [.int x] (fun z => z = mkOf x) := by
  refine Met.ofW (cc := cX5_markOf) (maxL := 1) (ret := (some .int)) (by decide) rfl ?_
  intro p e s m args below meth c s₁ B hml hv
  obtain ⟨rfl, hK, hP, hKq, hBs⟩ := hv
  have hts := fun w h => atoms_spec (ws := Cond.code yX5_markOf cX5_markOf 1 (some .int) :: tbG) B.pre w (List.mem_cons_of_mem _ h)
  have hown : s.vm.findClass RX5 = some m.cls := findClass_of_methodNamed B.named
  have C0 : Cx G B0 p s m _ c cX5_markOf RX5 := ⟨B.exec, B.bytes, hown, hts, hK, hKq, hBs⟩
  have hS : va_S (me_A B0) s.heap s.heap [] := va_S.rf
  have hl := lv_entry ([.int x]) (n := 1) (Nat.le_of_ble_eq_true rfl)
  rw [lg_entry_eq]
  generalize (lg_sl ([.int x]) ++ List.replicate (1 - (lg_sl ([.int x])).length) Slot.unset).toArray = ls at hl ⊢
  have hl : lv_has ls 1 [(0, .int x)] := hl
  refine lv_iload_n C0.1 C0.2.1 dX5_markOf_0 rfl (lv_at hl 0 rfl) ?_
  refine lv_bipush (v := 52) C0.1 C0.2.1 dX5_markOf_1 (by decide) ?_
  refine lv_icmp_ge (tgt := 17) C0.1 C0.2.1 dX5_markOf_3 (by decide) (fun c1 => ?_) (fun c1 => ?_)
  · refine lv_iload_n C0.1 C0.2.1 dX5_markOf_17 rfl (lv_at hl 0 rfl) ?_
    refine lv_bipush (v := 52) C0.1 C0.2.1 dX5_markOf_18 (by decide) ?_
    refine lv_icmp_ne (tgt := 29) C0.1 C0.2.1 dX5_markOf_20 (by decide) (fun c2 => ?_) (fun c2 => ?_)
    · refine lv_iload_n C0.1 C0.2.1 dX5_markOf_29 rfl (lv_at hl 0 rfl) ?_
      refine lv_bipush (v := 53) C0.1 C0.2.1 dX5_markOf_30 (by decide) ?_
      refine lv_icmp_ne (tgt := 41) C0.1 C0.2.1 dX5_markOf_32 (by decide) (fun c3 => ?_) (fun c3 => ?_)
      · refine lv_sipush (v := 807) C0.1 C0.2.1 dX5_markOf_41 (by decide) ?_
        exact me_iret C0.1 C0.2.1 B.returns B.notSynchronized rfl rfl (by unfold mkOf; rw [if_pos c1, if_neg c2, if_neg c3]) dX5_markOf_44
      · refine lv_sipush (v := 778) C0.1 C0.2.1 dX5_markOf_35 (by decide) ?_
        refine lv_goto (tgt := 44) C0.1 C0.2.1 dX5_markOf_38 (by decide) ?_
        exact me_iret C0.1 C0.2.1 B.returns B.notSynchronized rfl rfl (by unfold mkOf; rw [if_pos c1, if_neg c2, if_pos c3]) dX5_markOf_44
    · refine lv_sipush (v := 776) C0.1 C0.2.1 dX5_markOf_23 (by decide) ?_
      refine lv_goto (tgt := 44) C0.1 C0.2.1 dX5_markOf_26 (by decide) ?_
      exact me_iret C0.1 C0.2.1 B.returns B.notSynchronized rfl rfl (by unfold mkOf; rw [if_pos c1, if_pos c2]) dX5_markOf_44
  · refine lv_sipush (v := 768) C0.1 C0.2.1 dX5_markOf_6 (by decide) ?_
    refine lv_iload_n C0.1 C0.2.1 dX5_markOf_9 rfl (lv_at hl 0 rfl) ?_
    refine lv_iadd C0.1 C0.2.1 dX5_markOf_10 ?_
    refine lv_bipush (v := 48) C0.1 C0.2.1 dX5_markOf_11 (by decide) ?_
    refine lv_isub C0.1 C0.2.1 dX5_markOf_13 ?_
    refine lv_goto (tgt := 44) C0.1 C0.2.1 dX5_markOf_14 (by decide) ?_
    exact me_iret C0.1 C0.2.1 B.returns B.notSynchronized rfl rfl (by unfold mkOf; rw [if_neg c1]) dX5_markOf_44

def smR_177 (x : Int32) : Int32 := if x = 376 then 255 else if x = 962 then 963 else if x = 181 then 956 else if x = 383 then 115 else x
def smR_158 (x : Int32) : Int32 := if x < 1024 then (smR_177 x) else if 1039 < x then (smR_177 x) else x + 80
def smR_143 (x : Int32) : Int32 := if (x - x / 2 * 2) = 1 then (x + 1) else x
def smR_129 (x : Int32) : Int32 := if x < 377 then (smR_158 x) else if 382 < x then (smR_158 x) else smR_143 x
def smR_115 (x : Int32) : Int32 := if x < 313 then (smR_129 x) else if x ≤ 328 then (smR_143 x) else smR_129 x
def smR_101 (x : Int32) : Int32 := if (x - x / 2 * 2) = 0 then (x + 1) else x
def smR_87 (x : Int32) : Int32 := if x < 330 then (smR_115 x) else if 375 < x then (smR_115 x) else smR_101 x
def smR_73 (x : Int32) : Int32 := if x < 256 then (smR_87 x) else if x ≤ 303 then (smR_101 x) else smR_87 x
def smR_68 (x : Int32) : Int32 := x + 32
def smR_54 (x : Int32) : Int32 := if x < 1040 then (smR_73 x) else if 1071 < x then (smR_73 x) else smR_68 x
def smR_33 (x : Int32) : Int32 := if x < 913 then (smR_54 x) else if 939 < x then (smR_54 x) else if x = 930 then (smR_54 x) else smR_68 x
def smR_12 (x : Int32) : Int32 := if x < 192 then (smR_33 x) else if 222 < x then (smR_33 x) else if x = 215 then (smR_33 x) else smR_68 x
def smR (x : Int32) : Int32 := if x < 65 then (smR_12 x) else if x ≤ 90 then (smR_68 x) else smR_12 x
set_option maxHeartbeats 4000000 in
set_option maxRecDepth 100000 in
/-- small, the reference's -/
theorem c_X5_small (l : Launch) (G : me_G) (B0 : Nat) (w : Me) (x : Int32) : CtI l yX5_small (Cond.code yX5_small cX5_small 1 (some .int)) ({ frames := 0, cells := 0, slots := 0, locals := 0 }) G B0 w [.int x] (fun z => z = smR x) := by
  refine Met.ofW (cc := cX5_small) (maxL := 1) (ret := (some .int)) (by decide) rfl ?_
  intro p e s m args below meth c s₁ B hml hv
  obtain ⟨rfl, hK, hP, hKq, hBs⟩ := hv
  have hts := fun w h => atoms_spec (ws := Cond.code yX5_small cX5_small 1 (some .int) :: tbG) B.pre w (List.mem_cons_of_mem _ h)
  have hown : s.vm.findClass RX5 = some m.cls := findClass_of_methodNamed B.named
  have C0 : Cx G B0 p s m _ c cX5_small RX5 := ⟨B.exec, B.bytes, hown, hts, hK, hKq, hBs⟩
  have hS : va_S (me_A B0) s.heap s.heap [] := va_S.rf
  have hl := lv_entry ([.int x]) (n := 1) (Nat.le_of_ble_eq_true rfl)
  rw [lg_entry_eq]
  generalize (lg_sl ([.int x]) ++ List.replicate (1 - (lg_sl ([.int x])).length) Slot.unset).toArray = ls at hl ⊢
  have hl : lv_has ls 1 [(0, .int x)] := hl
  have j_smR_177 : ∀ (ls : Array Slot), lv_has ls 1 [(0, .int x)] → smR x = smR_177 x → W p l e ({ frames := 0, cells := 0, slots := 0, locals := 0 }) s m ([.int x] : List Value).toArray below meth c s.heap [] 0 0 (MQ below (vp_Si (fun z => z = smR x)) ([.int x] : List Value).toArray s 0 0 (fun _ => False)) (F0 m 177 ls []) := by
    intro ls hl h_smR_177
    refine lv_iload_n C0.1 C0.2.1 dX5_small_177 rfl (lv_at hl 0 rfl) ?_
    refine lv_sipush (v := 376) C0.1 C0.2.1 dX5_small_178 (by decide) ?_
    refine lv_icmp_ne (tgt := 190) C0.1 C0.2.1 dX5_small_181 (by decide) (fun c1 => ?_) (fun c1 => ?_)
    · refine lv_iload_n C0.1 C0.2.1 dX5_small_190 rfl (lv_at hl 0 rfl) ?_
      refine lv_sipush (v := 962) C0.1 C0.2.1 dX5_small_191 (by decide) ?_
      refine lv_icmp_ne (tgt := 203) C0.1 C0.2.1 dX5_small_194 (by decide) (fun c2 => ?_) (fun c2 => ?_)
      · refine lv_iload_n C0.1 C0.2.1 dX5_small_203 rfl (lv_at hl 0 rfl) ?_
        refine lv_sipush (v := 181) C0.1 C0.2.1 dX5_small_204 (by decide) ?_
        refine lv_icmp_ne (tgt := 216) C0.1 C0.2.1 dX5_small_207 (by decide) (fun c3 => ?_) (fun c3 => ?_)
        · refine lv_iload_n C0.1 C0.2.1 dX5_small_216 rfl (lv_at hl 0 rfl) ?_
          refine lv_sipush (v := 383) C0.1 C0.2.1 dX5_small_217 (by decide) ?_
          refine lv_icmp_ne (tgt := 228) C0.1 C0.2.1 dX5_small_220 (by decide) (fun c4 => ?_) (fun c4 => ?_)
          · refine lv_iload_n C0.1 C0.2.1 dX5_small_228 rfl (lv_at hl 0 rfl) ?_
            exact me_iret C0.1 C0.2.1 B.returns B.notSynchronized rfl rfl (by rw [h_smR_177]; unfold smR_177; rw [if_neg c1, if_neg c2, if_neg c3, if_neg c4]) dX5_small_229
          · refine lv_bipush (v := 115) C0.1 C0.2.1 dX5_small_223 (by decide) ?_
            refine lv_goto (tgt := 229) C0.1 C0.2.1 dX5_small_225 (by decide) ?_
            exact me_iret C0.1 C0.2.1 B.returns B.notSynchronized rfl rfl (by rw [h_smR_177]; unfold smR_177; rw [if_neg c1, if_neg c2, if_neg c3, if_pos c4]) dX5_small_229
        · refine lv_sipush (v := 956) C0.1 C0.2.1 dX5_small_210 (by decide) ?_
          refine lv_goto (tgt := 229) C0.1 C0.2.1 dX5_small_213 (by decide) ?_
          exact me_iret C0.1 C0.2.1 B.returns B.notSynchronized rfl rfl (by rw [h_smR_177]; unfold smR_177; rw [if_neg c1, if_neg c2, if_pos c3]) dX5_small_229
      · refine lv_sipush (v := 963) C0.1 C0.2.1 dX5_small_197 (by decide) ?_
        refine lv_goto (tgt := 229) C0.1 C0.2.1 dX5_small_200 (by decide) ?_
        exact me_iret C0.1 C0.2.1 B.returns B.notSynchronized rfl rfl (by rw [h_smR_177]; unfold smR_177; rw [if_neg c1, if_pos c2]) dX5_small_229
    · refine lv_sipush (v := 255) C0.1 C0.2.1 dX5_small_184 (by decide) ?_
      refine lv_goto (tgt := 229) C0.1 C0.2.1 dX5_small_187 (by decide) ?_
      exact me_iret C0.1 C0.2.1 B.returns B.notSynchronized rfl rfl (by rw [h_smR_177]; unfold smR_177; rw [if_pos c1]) dX5_small_229
  have j_smR_158 : ∀ (ls : Array Slot), lv_has ls 1 [(0, .int x)] → smR x = smR_158 x → W p l e ({ frames := 0, cells := 0, slots := 0, locals := 0 }) s m ([.int x] : List Value).toArray below meth c s.heap [] 0 0 (MQ below (vp_Si (fun z => z = smR x)) ([.int x] : List Value).toArray s 0 0 (fun _ => False)) (F0 m 158 ls []) := by
    intro ls hl h_smR_158
    refine lv_iload_n C0.1 C0.2.1 dX5_small_158 rfl (lv_at hl 0 rfl) ?_
    refine lv_sipush (v := 1024) C0.1 C0.2.1 dX5_small_159 (by decide) ?_
    refine lv_icmp_lt (tgt := 177) C0.1 C0.2.1 dX5_small_162 (by decide) (fun c5 => ?_) (fun c5 => ?_)
    · exact j_smR_177 ls hl (by rw [h_smR_158]; unfold smR_158; rw [if_pos c5])
    · refine lv_iload_n C0.1 C0.2.1 dX5_small_165 rfl (lv_at hl 0 rfl) ?_
      refine lv_sipush (v := 1039) C0.1 C0.2.1 dX5_small_166 (by decide) ?_
      refine lv_icmp_gt (tgt := 177) C0.1 C0.2.1 dX5_small_169 (by decide) (fun c6 => ?_) (fun c6 => ?_)
      · exact j_smR_177 ls hl (by rw [h_smR_158]; unfold smR_158; rw [if_neg c5, if_pos c6])
      · refine lv_iload_n C0.1 C0.2.1 dX5_small_172 rfl (lv_at hl 0 rfl) ?_
        refine lv_bipush (v := 80) C0.1 C0.2.1 dX5_small_173 (by decide) ?_
        refine lv_iadd C0.1 C0.2.1 dX5_small_175 ?_
        exact me_iret C0.1 C0.2.1 B.returns B.notSynchronized rfl rfl (by rw [h_smR_158]; unfold smR_158; rw [if_neg c5, if_neg c6]) dX5_small_176
  have j_smR_143 : ∀ (ls : Array Slot), lv_has ls 1 [(0, .int x)] → smR x = smR_143 x → W p l e ({ frames := 0, cells := 0, slots := 0, locals := 0 }) s m ([.int x] : List Value).toArray below meth c s.heap [] 0 0 (MQ below (vp_Si (fun z => z = smR x)) ([.int x] : List Value).toArray s 0 0 (fun _ => False)) (F0 m 143 ls []) := by
    intro ls hl h_smR_143
    refine lv_iload_n C0.1 C0.2.1 dX5_small_143 rfl (lv_at hl 0 rfl) ?_
    refine lv_iconst (v := 2) C0.1 C0.2.1 dX5_small_144 (by decide) ?_
    refine lv_irem C0.1 C0.2.1 dX5_small_145 (by decide) ?_
    refine lv_iconst (v := 1) C0.1 C0.2.1 dX5_small_146 (by decide) ?_
    refine lv_icmp_ne (tgt := 156) C0.1 C0.2.1 dX5_small_147 (by decide) (fun c7 => ?_) (fun c7 => ?_)
    · refine lv_iload_n C0.1 C0.2.1 dX5_small_156 rfl (lv_at hl 0 rfl) ?_
      exact me_iret C0.1 C0.2.1 B.returns B.notSynchronized rfl rfl (by rw [h_smR_143]; unfold smR_143; rw [if_neg c7]) dX5_small_157
    · refine lv_iload_n C0.1 C0.2.1 dX5_small_150 rfl (lv_at hl 0 rfl) ?_
      refine lv_iconst (v := 1) C0.1 C0.2.1 dX5_small_151 (by decide) ?_
      refine lv_iadd C0.1 C0.2.1 dX5_small_152 ?_
      refine lv_goto (tgt := 157) C0.1 C0.2.1 dX5_small_153 (by decide) ?_
      exact me_iret C0.1 C0.2.1 B.returns B.notSynchronized rfl rfl (by rw [h_smR_143]; unfold smR_143; rw [if_pos c7]) dX5_small_157
  have j_smR_129 : ∀ (ls : Array Slot), lv_has ls 1 [(0, .int x)] → smR x = smR_129 x → W p l e ({ frames := 0, cells := 0, slots := 0, locals := 0 }) s m ([.int x] : List Value).toArray below meth c s.heap [] 0 0 (MQ below (vp_Si (fun z => z = smR x)) ([.int x] : List Value).toArray s 0 0 (fun _ => False)) (F0 m 129 ls []) := by
    intro ls hl h_smR_129
    refine lv_iload_n C0.1 C0.2.1 dX5_small_129 rfl (lv_at hl 0 rfl) ?_
    refine lv_sipush (v := 377) C0.1 C0.2.1 dX5_small_130 (by decide) ?_
    refine lv_icmp_lt (tgt := 158) C0.1 C0.2.1 dX5_small_133 (by decide) (fun c8 => ?_) (fun c8 => ?_)
    · exact j_smR_158 ls hl (by rw [h_smR_129]; unfold smR_129; rw [if_pos c8])
    · refine lv_iload_n C0.1 C0.2.1 dX5_small_136 rfl (lv_at hl 0 rfl) ?_
      refine lv_sipush (v := 382) C0.1 C0.2.1 dX5_small_137 (by decide) ?_
      refine lv_icmp_gt (tgt := 158) C0.1 C0.2.1 dX5_small_140 (by decide) (fun c9 => ?_) (fun c9 => ?_)
      · exact j_smR_158 ls hl (by rw [h_smR_129]; unfold smR_129; rw [if_neg c8, if_pos c9])
      · exact j_smR_143 ls hl (by rw [h_smR_129]; unfold smR_129; rw [if_neg c8, if_neg c9])
  have j_smR_115 : ∀ (ls : Array Slot), lv_has ls 1 [(0, .int x)] → smR x = smR_115 x → W p l e ({ frames := 0, cells := 0, slots := 0, locals := 0 }) s m ([.int x] : List Value).toArray below meth c s.heap [] 0 0 (MQ below (vp_Si (fun z => z = smR x)) ([.int x] : List Value).toArray s 0 0 (fun _ => False)) (F0 m 115 ls []) := by
    intro ls hl h_smR_115
    refine lv_iload_n C0.1 C0.2.1 dX5_small_115 rfl (lv_at hl 0 rfl) ?_
    refine lv_sipush (v := 313) C0.1 C0.2.1 dX5_small_116 (by decide) ?_
    refine lv_icmp_lt (tgt := 129) C0.1 C0.2.1 dX5_small_119 (by decide) (fun c10 => ?_) (fun c10 => ?_)
    · exact j_smR_129 ls hl (by rw [h_smR_115]; unfold smR_115; rw [if_pos c10])
    · refine lv_iload_n C0.1 C0.2.1 dX5_small_122 rfl (lv_at hl 0 rfl) ?_
      refine lv_sipush (v := 328) C0.1 C0.2.1 dX5_small_123 (by decide) ?_
      refine lv_icmp_le (tgt := 143) C0.1 C0.2.1 dX5_small_126 (by decide) (fun c11 => ?_) (fun c11 => ?_)
      · exact j_smR_143 ls hl (by rw [h_smR_115]; unfold smR_115; rw [if_neg c10, if_pos c11])
      · exact j_smR_129 ls hl (by rw [h_smR_115]; unfold smR_115; rw [if_neg c10, if_neg c11])
  have j_smR_101 : ∀ (ls : Array Slot), lv_has ls 1 [(0, .int x)] → smR x = smR_101 x → W p l e ({ frames := 0, cells := 0, slots := 0, locals := 0 }) s m ([.int x] : List Value).toArray below meth c s.heap [] 0 0 (MQ below (vp_Si (fun z => z = smR x)) ([.int x] : List Value).toArray s 0 0 (fun _ => False)) (F0 m 101 ls []) := by
    intro ls hl h_smR_101
    refine lv_iload_n C0.1 C0.2.1 dX5_small_101 rfl (lv_at hl 0 rfl) ?_
    refine lv_iconst (v := 2) C0.1 C0.2.1 dX5_small_102 (by decide) ?_
    refine lv_irem C0.1 C0.2.1 dX5_small_103 (by decide) ?_
    refine lv_if_ne (tgt := 113) C0.1 C0.2.1 dX5_small_104 (by decide) (fun c12 => ?_) (fun c12 => ?_)
    · refine lv_iload_n C0.1 C0.2.1 dX5_small_113 rfl (lv_at hl 0 rfl) ?_
      exact me_iret C0.1 C0.2.1 B.returns B.notSynchronized rfl rfl (by rw [h_smR_101]; unfold smR_101; rw [if_neg c12]) dX5_small_114
    · refine lv_iload_n C0.1 C0.2.1 dX5_small_107 rfl (lv_at hl 0 rfl) ?_
      refine lv_iconst (v := 1) C0.1 C0.2.1 dX5_small_108 (by decide) ?_
      refine lv_iadd C0.1 C0.2.1 dX5_small_109 ?_
      refine lv_goto (tgt := 114) C0.1 C0.2.1 dX5_small_110 (by decide) ?_
      exact me_iret C0.1 C0.2.1 B.returns B.notSynchronized rfl rfl (by rw [h_smR_101]; unfold smR_101; rw [if_pos c12]) dX5_small_114
  have j_smR_87 : ∀ (ls : Array Slot), lv_has ls 1 [(0, .int x)] → smR x = smR_87 x → W p l e ({ frames := 0, cells := 0, slots := 0, locals := 0 }) s m ([.int x] : List Value).toArray below meth c s.heap [] 0 0 (MQ below (vp_Si (fun z => z = smR x)) ([.int x] : List Value).toArray s 0 0 (fun _ => False)) (F0 m 87 ls []) := by
    intro ls hl h_smR_87
    refine lv_iload_n C0.1 C0.2.1 dX5_small_87 rfl (lv_at hl 0 rfl) ?_
    refine lv_sipush (v := 330) C0.1 C0.2.1 dX5_small_88 (by decide) ?_
    refine lv_icmp_lt (tgt := 115) C0.1 C0.2.1 dX5_small_91 (by decide) (fun c13 => ?_) (fun c13 => ?_)
    · exact j_smR_115 ls hl (by rw [h_smR_87]; unfold smR_87; rw [if_pos c13])
    · refine lv_iload_n C0.1 C0.2.1 dX5_small_94 rfl (lv_at hl 0 rfl) ?_
      refine lv_sipush (v := 375) C0.1 C0.2.1 dX5_small_95 (by decide) ?_
      refine lv_icmp_gt (tgt := 115) C0.1 C0.2.1 dX5_small_98 (by decide) (fun c14 => ?_) (fun c14 => ?_)
      · exact j_smR_115 ls hl (by rw [h_smR_87]; unfold smR_87; rw [if_neg c13, if_pos c14])
      · exact j_smR_101 ls hl (by rw [h_smR_87]; unfold smR_87; rw [if_neg c13, if_neg c14])
  have j_smR_73 : ∀ (ls : Array Slot), lv_has ls 1 [(0, .int x)] → smR x = smR_73 x → W p l e ({ frames := 0, cells := 0, slots := 0, locals := 0 }) s m ([.int x] : List Value).toArray below meth c s.heap [] 0 0 (MQ below (vp_Si (fun z => z = smR x)) ([.int x] : List Value).toArray s 0 0 (fun _ => False)) (F0 m 73 ls []) := by
    intro ls hl h_smR_73
    refine lv_iload_n C0.1 C0.2.1 dX5_small_73 rfl (lv_at hl 0 rfl) ?_
    refine lv_sipush (v := 256) C0.1 C0.2.1 dX5_small_74 (by decide) ?_
    refine lv_icmp_lt (tgt := 87) C0.1 C0.2.1 dX5_small_77 (by decide) (fun c15 => ?_) (fun c15 => ?_)
    · exact j_smR_87 ls hl (by rw [h_smR_73]; unfold smR_73; rw [if_pos c15])
    · refine lv_iload_n C0.1 C0.2.1 dX5_small_80 rfl (lv_at hl 0 rfl) ?_
      refine lv_sipush (v := 303) C0.1 C0.2.1 dX5_small_81 (by decide) ?_
      refine lv_icmp_le (tgt := 101) C0.1 C0.2.1 dX5_small_84 (by decide) (fun c16 => ?_) (fun c16 => ?_)
      · exact j_smR_101 ls hl (by rw [h_smR_73]; unfold smR_73; rw [if_neg c15, if_pos c16])
      · exact j_smR_87 ls hl (by rw [h_smR_73]; unfold smR_73; rw [if_neg c15, if_neg c16])
  have j_smR_68 : ∀ (ls : Array Slot), lv_has ls 1 [(0, .int x)] → smR x = smR_68 x → W p l e ({ frames := 0, cells := 0, slots := 0, locals := 0 }) s m ([.int x] : List Value).toArray below meth c s.heap [] 0 0 (MQ below (vp_Si (fun z => z = smR x)) ([.int x] : List Value).toArray s 0 0 (fun _ => False)) (F0 m 68 ls []) := by
    intro ls hl h_smR_68
    refine lv_iload_n C0.1 C0.2.1 dX5_small_68 rfl (lv_at hl 0 rfl) ?_
    refine lv_bipush (v := 32) C0.1 C0.2.1 dX5_small_69 (by decide) ?_
    refine lv_iadd C0.1 C0.2.1 dX5_small_71 ?_
    exact me_iret C0.1 C0.2.1 B.returns B.notSynchronized rfl rfl (by rw [h_smR_68]; unfold smR_68; rfl) dX5_small_72
  have j_smR_54 : ∀ (ls : Array Slot), lv_has ls 1 [(0, .int x)] → smR x = smR_54 x → W p l e ({ frames := 0, cells := 0, slots := 0, locals := 0 }) s m ([.int x] : List Value).toArray below meth c s.heap [] 0 0 (MQ below (vp_Si (fun z => z = smR x)) ([.int x] : List Value).toArray s 0 0 (fun _ => False)) (F0 m 54 ls []) := by
    intro ls hl h_smR_54
    refine lv_iload_n C0.1 C0.2.1 dX5_small_54 rfl (lv_at hl 0 rfl) ?_
    refine lv_sipush (v := 1040) C0.1 C0.2.1 dX5_small_55 (by decide) ?_
    refine lv_icmp_lt (tgt := 73) C0.1 C0.2.1 dX5_small_58 (by decide) (fun c17 => ?_) (fun c17 => ?_)
    · exact j_smR_73 ls hl (by rw [h_smR_54]; unfold smR_54; rw [if_pos c17])
    · refine lv_iload_n C0.1 C0.2.1 dX5_small_61 rfl (lv_at hl 0 rfl) ?_
      refine lv_sipush (v := 1071) C0.1 C0.2.1 dX5_small_62 (by decide) ?_
      refine lv_icmp_gt (tgt := 73) C0.1 C0.2.1 dX5_small_65 (by decide) (fun c18 => ?_) (fun c18 => ?_)
      · exact j_smR_73 ls hl (by rw [h_smR_54]; unfold smR_54; rw [if_neg c17, if_pos c18])
      · exact j_smR_68 ls hl (by rw [h_smR_54]; unfold smR_54; rw [if_neg c17, if_neg c18])
  have j_smR_33 : ∀ (ls : Array Slot), lv_has ls 1 [(0, .int x)] → smR x = smR_33 x → W p l e ({ frames := 0, cells := 0, slots := 0, locals := 0 }) s m ([.int x] : List Value).toArray below meth c s.heap [] 0 0 (MQ below (vp_Si (fun z => z = smR x)) ([.int x] : List Value).toArray s 0 0 (fun _ => False)) (F0 m 33 ls []) := by
    intro ls hl h_smR_33
    refine lv_iload_n C0.1 C0.2.1 dX5_small_33 rfl (lv_at hl 0 rfl) ?_
    refine lv_sipush (v := 913) C0.1 C0.2.1 dX5_small_34 (by decide) ?_
    refine lv_icmp_lt (tgt := 54) C0.1 C0.2.1 dX5_small_37 (by decide) (fun c19 => ?_) (fun c19 => ?_)
    · exact j_smR_54 ls hl (by rw [h_smR_33]; unfold smR_33; rw [if_pos c19])
    · refine lv_iload_n C0.1 C0.2.1 dX5_small_40 rfl (lv_at hl 0 rfl) ?_
      refine lv_sipush (v := 939) C0.1 C0.2.1 dX5_small_41 (by decide) ?_
      refine lv_icmp_gt (tgt := 54) C0.1 C0.2.1 dX5_small_44 (by decide) (fun c20 => ?_) (fun c20 => ?_)
      · exact j_smR_54 ls hl (by rw [h_smR_33]; unfold smR_33; rw [if_neg c19, if_pos c20])
      · refine lv_iload_n C0.1 C0.2.1 dX5_small_47 rfl (lv_at hl 0 rfl) ?_
        refine lv_sipush (v := 930) C0.1 C0.2.1 dX5_small_48 (by decide) ?_
        refine lv_icmp_ne (tgt := 68) C0.1 C0.2.1 dX5_small_51 (by decide) (fun c21 => ?_) (fun c21 => ?_)
        · exact j_smR_68 ls hl (by rw [h_smR_33]; unfold smR_33; rw [if_neg c19, if_neg c20, if_neg c21])
        · exact j_smR_54 ls hl (by rw [h_smR_33]; unfold smR_33; rw [if_neg c19, if_neg c20, if_pos c21])
  have j_smR_12 : ∀ (ls : Array Slot), lv_has ls 1 [(0, .int x)] → smR x = smR_12 x → W p l e ({ frames := 0, cells := 0, slots := 0, locals := 0 }) s m ([.int x] : List Value).toArray below meth c s.heap [] 0 0 (MQ below (vp_Si (fun z => z = smR x)) ([.int x] : List Value).toArray s 0 0 (fun _ => False)) (F0 m 12 ls []) := by
    intro ls hl h_smR_12
    refine lv_iload_n C0.1 C0.2.1 dX5_small_12 rfl (lv_at hl 0 rfl) ?_
    refine lv_sipush (v := 192) C0.1 C0.2.1 dX5_small_13 (by decide) ?_
    refine lv_icmp_lt (tgt := 33) C0.1 C0.2.1 dX5_small_16 (by decide) (fun c22 => ?_) (fun c22 => ?_)
    · exact j_smR_33 ls hl (by rw [h_smR_12]; unfold smR_12; rw [if_pos c22])
    · refine lv_iload_n C0.1 C0.2.1 dX5_small_19 rfl (lv_at hl 0 rfl) ?_
      refine lv_sipush (v := 222) C0.1 C0.2.1 dX5_small_20 (by decide) ?_
      refine lv_icmp_gt (tgt := 33) C0.1 C0.2.1 dX5_small_23 (by decide) (fun c23 => ?_) (fun c23 => ?_)
      · exact j_smR_33 ls hl (by rw [h_smR_12]; unfold smR_12; rw [if_neg c22, if_pos c23])
      · refine lv_iload_n C0.1 C0.2.1 dX5_small_26 rfl (lv_at hl 0 rfl) ?_
        refine lv_sipush (v := 215) C0.1 C0.2.1 dX5_small_27 (by decide) ?_
        refine lv_icmp_ne (tgt := 68) C0.1 C0.2.1 dX5_small_30 (by decide) (fun c24 => ?_) (fun c24 => ?_)
        · exact j_smR_68 ls hl (by rw [h_smR_12]; unfold smR_12; rw [if_neg c22, if_neg c23, if_neg c24])
        · exact j_smR_33 ls hl (by rw [h_smR_12]; unfold smR_12; rw [if_neg c22, if_neg c23, if_pos c24])
  refine lv_iload_n C0.1 C0.2.1 dX5_small_0 rfl (lv_at hl 0 rfl) ?_
  refine lv_bipush (v := 65) C0.1 C0.2.1 dX5_small_1 (by decide) ?_
  refine lv_icmp_lt (tgt := 12) C0.1 C0.2.1 dX5_small_3 (by decide) (fun c25 => ?_) (fun c25 => ?_)
  · exact j_smR_12 ls hl (by unfold smR; rw [if_pos c25])
  · refine lv_iload_n C0.1 C0.2.1 dX5_small_6 rfl (lv_at hl 0 rfl) ?_
    refine lv_bipush (v := 90) C0.1 C0.2.1 dX5_small_7 (by decide) ?_
    refine lv_icmp_le (tgt := 68) C0.1 C0.2.1 dX5_small_9 (by decide) (fun c26 => ?_) (fun c26 => ?_)
    · exact j_smR_68 ls hl (by unfold smR; rw [if_neg c25, if_pos c26])
    · exact j_smR_12 ls hl (by unfold smR; rw [if_neg c25, if_neg c26])

def mkClsR_47 (x : Int32) : Int32 := 202
def mkClsR_20 (x : Int32) : Int32 := if x = 803 then 220 else if x = 807 then (mkClsR_47 x) else if x = 808 then (mkClsR_47 x) else 0
def mkClsR (x : Int32) : Int32 := if x < 768 then (mkClsR_20 x) else if 783 < x then (mkClsR_20 x) else 230
set_option maxHeartbeats 4000000 in
set_option maxRecDepth 100000 in
/-- classOf -/
theorem c_X5_classOf (l : Launch) (G : me_G) (B0 : Nat) (w : Me) (x : Int32) : CtI l yX5_classOf (Cond.code yX5_classOf cX5_classOf 1 (some .int)) ({ frames := 0, cells := 0, slots := 0, locals := 0 }) G B0 w [.int x] (fun z => z = mkClsR x) := by
  refine Met.ofW (cc := cX5_classOf) (maxL := 1) (ret := (some .int)) (by decide) rfl ?_
  intro p e s m args below meth c s₁ B hml hv
  obtain ⟨rfl, hK, hP, hKq, hBs⟩ := hv
  have hts := fun w h => atoms_spec (ws := Cond.code yX5_classOf cX5_classOf 1 (some .int) :: tbG) B.pre w (List.mem_cons_of_mem _ h)
  have hown : s.vm.findClass RX5 = some m.cls := findClass_of_methodNamed B.named
  have C0 : Cx G B0 p s m _ c cX5_classOf RX5 := ⟨B.exec, B.bytes, hown, hts, hK, hKq, hBs⟩
  have hS : va_S (me_A B0) s.heap s.heap [] := va_S.rf
  have hl := lv_entry ([.int x]) (n := 1) (Nat.le_of_ble_eq_true rfl)
  rw [lg_entry_eq]
  generalize (lg_sl ([.int x]) ++ List.replicate (1 - (lg_sl ([.int x])).length) Slot.unset).toArray = ls at hl ⊢
  have hl : lv_has ls 1 [(0, .int x)] := hl
  have j_mkClsR_47 : ∀ (ls : Array Slot), lv_has ls 1 [(0, .int x)] → mkClsR x = mkClsR_47 x → W p l e ({ frames := 0, cells := 0, slots := 0, locals := 0 }) s m ([.int x] : List Value).toArray below meth c s.heap [] 0 0 (MQ below (vp_Si (fun z => z = mkClsR x)) ([.int x] : List Value).toArray s 0 0 (fun _ => False)) (F0 m 47 ls []) := by
    intro ls hl h_mkClsR_47
    refine lv_sipush (v := 202) C0.1 C0.2.1 dX5_classOf_47 (by decide) ?_
    refine lv_goto (tgt := 54) C0.1 C0.2.1 dX5_classOf_50 (by decide) ?_
    exact me_iret C0.1 C0.2.1 B.returns B.notSynchronized rfl rfl (by rw [h_mkClsR_47]; unfold mkClsR_47; rfl) dX5_classOf_54
  have j_mkClsR_20 : ∀ (ls : Array Slot), lv_has ls 1 [(0, .int x)] → mkClsR x = mkClsR_20 x → W p l e ({ frames := 0, cells := 0, slots := 0, locals := 0 }) s m ([.int x] : List Value).toArray below meth c s.heap [] 0 0 (MQ below (vp_Si (fun z => z = mkClsR x)) ([.int x] : List Value).toArray s 0 0 (fun _ => False)) (F0 m 20 ls []) := by
    intro ls hl h_mkClsR_20
    refine lv_iload_n C0.1 C0.2.1 dX5_classOf_20 rfl (lv_at hl 0 rfl) ?_
    refine lv_sipush (v := 803) C0.1 C0.2.1 dX5_classOf_21 (by decide) ?_
    refine lv_icmp_ne (tgt := 33) C0.1 C0.2.1 dX5_classOf_24 (by decide) (fun c1 => ?_) (fun c1 => ?_)
    · refine lv_iload_n C0.1 C0.2.1 dX5_classOf_33 rfl (lv_at hl 0 rfl) ?_
      refine lv_sipush (v := 807) C0.1 C0.2.1 dX5_classOf_34 (by decide) ?_
      refine lv_icmp_eq (tgt := 47) C0.1 C0.2.1 dX5_classOf_37 (by decide) (fun c2 => ?_) (fun c2 => ?_)
      · exact j_mkClsR_47 ls hl (by rw [h_mkClsR_20]; unfold mkClsR_20; rw [if_neg c1, if_pos c2])
      · refine lv_iload_n C0.1 C0.2.1 dX5_classOf_40 rfl (lv_at hl 0 rfl) ?_
        refine lv_sipush (v := 808) C0.1 C0.2.1 dX5_classOf_41 (by decide) ?_
        refine lv_icmp_ne (tgt := 53) C0.1 C0.2.1 dX5_classOf_44 (by decide) (fun c3 => ?_) (fun c3 => ?_)
        · refine lv_iconst (v := 0) C0.1 C0.2.1 dX5_classOf_53 (by decide) ?_
          exact me_iret C0.1 C0.2.1 B.returns B.notSynchronized rfl rfl (by rw [h_mkClsR_20]; unfold mkClsR_20; rw [if_neg c1, if_neg c2, if_neg c3]) dX5_classOf_54
        · exact j_mkClsR_47 ls hl (by rw [h_mkClsR_20]; unfold mkClsR_20; rw [if_neg c1, if_neg c2, if_pos c3])
    · refine lv_sipush (v := 220) C0.1 C0.2.1 dX5_classOf_27 (by decide) ?_
      refine lv_goto (tgt := 54) C0.1 C0.2.1 dX5_classOf_30 (by decide) ?_
      exact me_iret C0.1 C0.2.1 B.returns B.notSynchronized rfl rfl (by rw [h_mkClsR_20]; unfold mkClsR_20; rw [if_pos c1]) dX5_classOf_54
  refine lv_iload_n C0.1 C0.2.1 dX5_classOf_0 rfl (lv_at hl 0 rfl) ?_
  refine lv_sipush (v := 768) C0.1 C0.2.1 dX5_classOf_1 (by decide) ?_
  refine lv_icmp_lt (tgt := 20) C0.1 C0.2.1 dX5_classOf_4 (by decide) (fun c4 => ?_) (fun c4 => ?_)
  · exact j_mkClsR_20 ls hl (by unfold mkClsR; rw [if_pos c4])
  · refine lv_iload_n C0.1 C0.2.1 dX5_classOf_7 rfl (lv_at hl 0 rfl) ?_
    refine lv_sipush (v := 783) C0.1 C0.2.1 dX5_classOf_8 (by decide) ?_
    refine lv_icmp_gt (tgt := 20) C0.1 C0.2.1 dX5_classOf_11 (by decide) (fun c5 => ?_) (fun c5 => ?_)
    · exact j_mkClsR_20 ls hl (by unfold mkClsR; rw [if_neg c4, if_pos c5])
    · refine lv_sipush (v := 230) C0.1 C0.2.1 dX5_classOf_14 (by decide) ?_
      refine lv_goto (tgt := 54) C0.1 C0.2.1 dX5_classOf_17 (by decide) ?_
      exact me_iret C0.1 C0.2.1 B.returns B.notSynchronized rfl rfl (by unfold mkClsR; rw [if_neg c4, if_neg c5]) dX5_classOf_54
