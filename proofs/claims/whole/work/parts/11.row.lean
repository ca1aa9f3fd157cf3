set_option maxHeartbeats 4000000 in
set_option maxRecDepth 100000 in
/-- size() -/
theorem c_X2_size (l : Launch) (G : me_G) (w : Me) (r b cap : Nat) (xs : List Int32) (hR : Rw G w r b cap xs) : CtI l yX2_size (Cond.code yX2_size cX2_size 1 (some .int)) ({ frames := 0, cells := 0, slots := 0, locals := 0 }) G w [.ref r] (fun z => z = nI xs.length) := by
  refine Met.ofW (cc := cX2_size) (maxL := 1) (ret := (some .int)) (by decide) rfl ?_
  intro p e s m args below meth c s₁ B hml hv
  obtain ⟨rfl, hK, hP⟩ := hv
  have hts := fun w h => atoms_spec (ws := Cond.code yX2_size cX2_size 1 (some .int) :: tbG) B.pre w (List.mem_cons_of_mem _ h)
  have hown : s.vm.findClass RX2 = some m.cls := findClass_of_methodNamed B.named
  have C0 : Cx G p s m _ c cX2_size RX2 := ⟨B.exec, B.bytes, hown, hts, hK⟩
  have hl := lv_entry ([.ref r]) (n := 1) (Nat.le_of_ble_eq_true rfl)
  rw [lg_entry_eq]
  generalize (lg_sl ([.ref r]) ++ List.replicate (1 - (lg_sl ([.ref r])).length) Slot.unset).toArray = ls at hl ⊢
  have hl : lv_has ls 1 [(0, .ref r)] := hl
  obtain ⟨h1, hcap, hlt, hrb, f, h2, hf⟩ := hR
  refine lv_aload_n C0.1 C0.2.1 dX2_size_0 rfl (lv_at hl 0 rfl) ?_
  refine me_get C0 hP h1 rfl inX2 1 (by decide) kw_65 rfl dX2_size_1 ?_
  exact me_iret C0.1 C0.2.1 B.returns B.notSynchronized rfl rfl (rfl) dX2_size_4

set_option maxHeartbeats 4000000 in
set_option maxRecDepth 100000 in
/-- at(k) -/
theorem c_X2_at (l : Launch) (G : me_G) (w : Me) (r b cap : Nat) (xs : List Int32) (hR : Rw G w r b cap xs) (k : Int32) : CtI l yX2_at (Cond.code yX2_at cX2_at 2 (some .int)) ({ frames := 0, cells := 0, slots := 0, locals := 0 }) G w [.ref r, .int k] (fun z => z = ra xs k) := by
  refine Met.ofW (cc := cX2_at) (maxL := 2) (ret := (some .int)) (by decide) rfl ?_
  intro p e s m args below meth c s₁ B hml hv
  obtain ⟨rfl, hK, hP⟩ := hv
  have hts := fun w h => atoms_spec (ws := Cond.code yX2_at cX2_at 2 (some .int) :: tbG) B.pre w (List.mem_cons_of_mem _ h)
  have hown : s.vm.findClass RX2 = some m.cls := findClass_of_methodNamed B.named
  have C0 : Cx G p s m _ c cX2_at RX2 := ⟨B.exec, B.bytes, hown, hts, hK⟩
  have hl := lv_entry ([.ref r, .int k]) (n := 2) (Nat.le_of_ble_eq_true rfl)
  rw [lg_entry_eq]
  generalize (lg_sl ([.ref r, .int k]) ++ List.replicate (2 - (lg_sl ([.ref r, .int k])).length) Slot.unset).toArray = ls at hl ⊢
  have hl : lv_has ls 2 [(0, .ref r), (1, .int k)] := hl
  obtain ⟨h1, hcap, hlt, hrb, f, h2, hf⟩ := hR
  refine lv_iload_n C0.1 C0.2.1 dX2_at_0 rfl (lv_at hl 1 rfl) ?_
  refine lv_if_lt (tgt := 12) C0.1 C0.2.1 dX2_at_1 (by decide) (fun c1 => ?_) (fun c1 => ?_)
  · refine lv_iconst (v := (-1)) C0.1 C0.2.1 dX2_at_12 (by decide) ?_
    refine lv_goto (tgt := 22) C0.1 C0.2.1 dX2_at_13 (by decide) ?_
    exact me_iret C0.1 C0.2.1 B.returns B.notSynchronized rfl rfl ((ra_neg (by assumption)).symm) dX2_at_22
  · refine lv_iload_n C0.1 C0.2.1 dX2_at_4 rfl (lv_at hl 1 rfl) ?_
    refine lv_aload_n C0.1 C0.2.1 dX2_at_5 rfl (lv_at hl 0 rfl) ?_
    refine me_get C0 hP h1 rfl inX2 1 (by decide) kw_65 rfl dX2_at_6 ?_
    refine lv_icmp_lt (tgt := 16) C0.1 C0.2.1 dX2_at_9 (by decide) (fun c2 => ?_) (fun c2 => ?_)
    · refine lv_aload_n C0.1 C0.2.1 dX2_at_16 rfl (lv_at hl 0 rfl) ?_
      refine me_get C0 hP h1 rfl inX2 0 (by decide) kw_64 rfl dX2_at_17 ?_
      refine lv_iload_n C0.1 C0.2.1 dX2_at_20 rfl (lv_at hl 1 rfl) ?_
      refine me_iald C0 hP h2 (ix_lt c1 c2 hcap hlt) dX2_at_21 ?_
      exact me_iret C0.1 C0.2.1 B.returns B.notSynchronized rfl rfl (by rw [ra_in c1 c2]; exact hf _ (nI_lt_of (by omega) c1 c2).1) dX2_at_22
    · refine lv_iconst (v := (-1)) C0.1 C0.2.1 dX2_at_12 (by decide) ?_
      refine lv_goto (tgt := 22) C0.1 C0.2.1 dX2_at_13 (by decide) ?_
      exact me_iret C0.1 C0.2.1 B.returns B.notSynchronized rfl rfl ((ra_big (by assumption)).symm) dX2_at_22
