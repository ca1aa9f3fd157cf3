set_option maxHeartbeats 4000000 in
set_option maxRecDepth 100000 in
/-- size() -/
theorem c_X2_size (l : Launch) (G : me_G) (B0 : Nat) (w : Me) (r b cap : Nat) (xs : List Int32) (hR : Rw G w r b cap xs) : CtI l yX2_size (Cond.code yX2_size cX2_size 1 (some .int)) ({ frames := 0, cells := 0, slots := 0, locals := 0 }) G B0 w [.ref r] (fun z => z = nI xs.length) := by
  refine Met.ofW (cc := cX2_size) (maxL := 1) (ret := (some .int)) (by decide) rfl ?_
  intro p e s m args below meth c s₁ B hml hv
  obtain ⟨rfl, hK, hP, hKq, hBs⟩ := hv
  have hts := fun w h => atoms_spec (ws := Cond.code yX2_size cX2_size 1 (some .int) :: tbG) B.pre w (List.mem_cons_of_mem _ h)
  have hown : s.vm.findClass RX2 = some m.cls := findClass_of_methodNamed B.named
  have C0 : Cx G B0 p s m _ c cX2_size RX2 := ⟨B.exec, B.bytes, hown, hts, hK, hKq, hBs⟩
  have hS : va_S (me_A B0) s.heap s.heap [] := va_S.rf
  have hl := lv_entry ([.ref r]) (n := 1) (Nat.le_of_ble_eq_true rfl)
  rw [lg_entry_eq]
  generalize (lg_sl ([.ref r]) ++ List.replicate (1 - (lg_sl ([.ref r])).length) Slot.unset).toArray = ls at hl ⊢
  have hl : lv_has ls 1 [(0, .ref r)] := hl
  obtain ⟨h1, hcap, hlt, hrb, f, h2, hf⟩ := hR
  refine lv_aload_n C0.1 C0.2.1 dX2_size_0 rfl (lv_at hl 0 rfl) ?_
  refine me_get C0 hP h1 rfl inX2 1 (by decide) kw_65 rfl dX2_size_1 ?_
  exact me_iret C0.1 C0.2.1 B.returns B.notSynchronized rfl rfl (rfl) dX2_size_4

set_option maxHeartbeats 4000000 in
set_option maxRecDepth 100000 in
/-- at(k) -/
theorem c_X2_at (l : Launch) (G : me_G) (B0 : Nat) (w : Me) (r b cap : Nat) (xs : List Int32) (hR : Rw G w r b cap xs) (k : Int32) : CtI l yX2_at (Cond.code yX2_at cX2_at 2 (some .int)) ({ frames := 0, cells := 0, slots := 0, locals := 0 }) G B0 w [.ref r, .int k] (fun z => z = ra xs k) := by
  refine Met.ofW (cc := cX2_at) (maxL := 2) (ret := (some .int)) (by decide) rfl ?_
  intro p e s m args below meth c s₁ B hml hv
  obtain ⟨rfl, hK, hP, hKq, hBs⟩ := hv
  have hts := fun w h => atoms_spec (ws := Cond.code yX2_at cX2_at 2 (some .int) :: tbG) B.pre w (List.mem_cons_of_mem _ h)
  have hown : s.vm.findClass RX2 = some m.cls := findClass_of_methodNamed B.named
  have C0 : Cx G B0 p s m _ c cX2_at RX2 := ⟨B.exec, B.bytes, hown, hts, hK, hKq, hBs⟩
  have hS : va_S (me_A B0) s.heap s.heap [] := va_S.rf
  have hl := lv_entry ([.ref r, .int k]) (n := 2) (Nat.le_of_ble_eq_true rfl)
  rw [lg_entry_eq]
  generalize (lg_sl ([.ref r, .int k]) ++ List.replicate (2 - (lg_sl ([.ref r, .int k])).length) Slot.unset).toArray = ls at hl ⊢
  have hl : lv_has ls 2 [(0, .ref r), (1, .int k)] := hl
  obtain ⟨h1, hcap, hlt, hrb, f, h2, hf⟩ := hR
  refine lv_iload_n C0.1 C0.2.1 dX2_at_0 rfl (lv_at hl 1 rfl) ?_
  refine lv_if_lt (tgt := 12) C0.1 C0.2.1 dX2_at_1 (by decide) (fun c1 => ?_) (fun c1 => ?_)
  · refine lv_iconst (v := (-1)) C0.1 C0.2.1 dX2_at_12 (by decide) ?_
    refine lv_goto (tgt := 22) C0.1 C0.2.1 dX2_at_13 (by decide) ?_
    exact me_iret C0.1 C0.2.1 B.returns B.notSynchronized rfl rfl ((ra_neg (by assumption)).symm) dX2_at_22
  · refine lv_iload_n C0.1 C0.2.1 dX2_at_4 rfl (lv_at hl 1 rfl) ?_
    refine lv_aload_n C0.1 C0.2.1 dX2_at_5 rfl (lv_at hl 0 rfl) ?_
    refine me_get C0 hP h1 rfl inX2 1 (by decide) kw_65 rfl dX2_at_6 ?_
    refine lv_icmp_lt (tgt := 16) C0.1 C0.2.1 dX2_at_9 (by decide) (fun c2 => ?_) (fun c2 => ?_)
    · refine lv_aload_n C0.1 C0.2.1 dX2_at_16 rfl (lv_at hl 0 rfl) ?_
      refine me_get C0 hP h1 rfl inX2 0 (by decide) kw_64 rfl dX2_at_17 ?_
      refine lv_iload_n C0.1 C0.2.1 dX2_at_20 rfl (lv_at hl 1 rfl) ?_
      refine me_iald C0 hP h2 (ix_lt c1 c2 hcap hlt) dX2_at_21 ?_
      exact me_iret C0.1 C0.2.1 B.returns B.notSynchronized rfl rfl (by rw [ra_in c1 c2]; exact hf _ (nI_lt_of (by omega) c1 c2).1) dX2_at_22
    · refine lv_iconst (v := (-1)) C0.1 C0.2.1 dX2_at_12 (by decide) ?_
      refine lv_goto (tgt := 22) C0.1 C0.2.1 dX2_at_13 (by decide) ?_
      exact me_iret C0.1 C0.2.1 B.returns B.notSynchronized rfl rfl ((ra_big (by assumption)).symm) dX2_at_22

set_option maxHeartbeats 4000000 in
set_option maxRecDepth 100000 in
/-- clear() -/
theorem c_X2_clear (l : Launch) (G : me_G) (B0 : Nat) (w : Me) (r b cap : Nat) (xs : List Int32) (hR : Rw G w r b cap xs) (hBr : B0 ≤ r) (hBb : B0 ≤ b) : CtWV l yX2_clear (Cond.code yX2_clear cX2_clear 1 none) ({ frames := 0, cells := 0, slots := 0, locals := 0 }) G B0 w [.ref r] (fun w' => Rw G w' r b cap [] ∧ Ch w w' r b) 0 0 := by
  refine Met.ofW (cc := cX2_clear) (maxL := 1) (ret := none) (by decide) rfl ?_
  intro p e s m args below meth c s₁ B hml hv
  obtain ⟨rfl, hK, hP, hKq, hBs⟩ := hv
  have hts := fun w h => atoms_spec (ws := Cond.code yX2_clear cX2_clear 1 none :: tbG) B.pre w (List.mem_cons_of_mem _ h)
  have hown : s.vm.findClass RX2 = some m.cls := findClass_of_methodNamed B.named
  have C0 : Cx G B0 p s m _ c cX2_clear RX2 := ⟨B.exec, B.bytes, hown, hts, hK, hKq, hBs⟩
  have hS : va_S (me_A B0) s.heap s.heap [] := va_S.rf
  have hl := lv_entry ([.ref r]) (n := 1) (Nat.le_of_ble_eq_true rfl)
  rw [lg_entry_eq]
  generalize (lg_sl ([.ref r]) ++ List.replicate (1 - (lg_sl ([.ref r])).length) Slot.unset).toArray = ls at hl ⊢
  have hl : lv_has ls 1 [(0, .ref r)] := hl
  obtain ⟨h1, hcap, hlt, hrb, f, h2, hf⟩ := hR
  refine lv_aload_n C0.1 C0.2.1 dX2_clear_0 rfl (lv_at hl 0 rfl) ?_
  refine lv_iconst (v := 0) C0.1 C0.2.1 dX2_clear_1 (by decide) ?_
  refine me_put C0 hP hS hBr h1 rfl inX2 tyX2 tyX2_ok nmX2 1 (by decide) kw_65 rfl rfl rfl (Nat.le_of_ble_eq_true rfl) dX2_clear_2 (fun H locs hP hS => ?_)
  have hP : me_P G.1 (me_u w r (eO 1 [.ref b, .int 0])) H := hP
  exact me_wvret _ C0.1 C0.2.1 B.returns B.notSynchronized hP hS (Nat.le_of_ble_eq_true rfl) (Nat.le_of_ble_eq_true rfl) (⟨⟨me_us _ _ _, Nat.zero_le _, hlt, hrb, f, ((me_un (Ne.symm hrb)).trans h2), fun i hi => absurd hi (Nat.not_lt_zero i)⟩, fun q h _ => me_un h⟩) dX2_clear_5

set_option maxHeartbeats 4000000 in
set_option maxRecDepth 100000 in
/-- Integer.compare -/
theorem c_J6_compare (l : Launch) (G : me_G) (B0 : Nat) (w : Me) (x z : Int32) : CtI l yJ6_compare_7cf53 (Cond.code yJ6_compare_7cf53 cJ6_compare_7cf53 2 (some .int)) ({ frames := 0, cells := 0, slots := 0, locals := 0 }) G B0 w [.int x, .int z] (fun v => v = icmp x z) := by
  refine va_MetF (cc := cJ6_compare_7cf53) (maxL := 2) (ret := (some .int)) (by decide) rfl ?_
  intro p e s m args below meth c s₁ B hml hv
  obtain ⟨rfl, hK, hP, hKq, hBs⟩ := hv
  have hts := fun w h => atoms_spec (ws := Cond.code yJ6_compare_7cf53 cJ6_compare_7cf53 2 (some .int) :: tbG) B.pre w (List.mem_cons_of_mem _ h)
  have hown : s.vm.findClass RJ6 = some m.cls := findClass_of_methodNamed B.named
  have C0 : Cx G B0 p s m _ c cJ6_compare_7cf53 RJ6 := ⟨B.exec, B.bytes, hown, hts, hK, hKq, hBs⟩
  have hS : va_S (me_A B0) s.heap s.heap [] := va_S.rf
  have hl := lv_entry ([.int x, .int z]) (n := 2) (Nat.le_of_ble_eq_true rfl)
  rw [lg_entry_eq]
  generalize (lg_sl ([.int x, .int z]) ++ List.replicate (2 - (lg_sl ([.int x, .int z])).length) Slot.unset).toArray = ls at hl ⊢
  have hl : lv_has ls 2 [(0, .int x), (1, .int z)] := hl
  refine lv_iload_n C0.1 C0.2.1 dJ6_compare_7cf53_0 rfl (lv_at hl 0 rfl) ?_
  refine lv_iload_n C0.1 C0.2.1 dJ6_compare_7cf53_1 rfl (lv_at hl 1 rfl) ?_
  refine lv_icmp_ge (tgt := 9) C0.1 C0.2.1 dJ6_compare_7cf53_2 (by decide) (fun c1 => ?_) (fun c1 => ?_)
  · refine lv_iload_n C0.1 C0.2.1 dJ6_compare_7cf53_9 rfl (lv_at hl 0 rfl) ?_
    refine lv_iload_n C0.1 C0.2.1 dJ6_compare_7cf53_10 rfl (lv_at hl 1 rfl) ?_
    refine lv_icmp_ne (tgt := 18) C0.1 C0.2.1 dJ6_compare_7cf53_11 (by decide) (fun c2 => ?_) (fun c2 => ?_)
    · refine lv_iconst (v := 1) C0.1 C0.2.1 dJ6_compare_7cf53_18 (by decide) ?_
      exact me_iret C0.1 C0.2.1 B.returns B.notSynchronized rfl rfl (by simp [icmp, *]) dJ6_compare_7cf53_19
    · refine lv_iconst (v := 0) C0.1 C0.2.1 dJ6_compare_7cf53_14 (by decide) ?_
      refine lv_goto (tgt := 19) C0.1 C0.2.1 dJ6_compare_7cf53_15 (by decide) ?_
      exact me_iret C0.1 C0.2.1 B.returns B.notSynchronized rfl rfl (by simp [icmp, *]) dJ6_compare_7cf53_19
  · refine lv_iconst (v := (-1)) C0.1 C0.2.1 dJ6_compare_7cf53_5 (by decide) ?_
    refine lv_goto (tgt := 19) C0.1 C0.2.1 dJ6_compare_7cf53_6 (by decide) ?_
    exact me_iret C0.1 C0.2.1 B.returns B.notSynchronized rfl rfl (by simp [icmp, *]) dJ6_compare_7cf53_19

set_option maxHeartbeats 4000000 in
set_option maxRecDepth 100000 in
/-- insert(j, item) -/
theorem c_X2_insert (l : Launch) (G : me_G) (B0 : Nat) (w : Me) (r b cap : Nat) (xs : List Int32) (hR : Rw G w r b cap xs) (hBr : B0 ≤ r) (hBb : B0 ≤ b) (j : Nat) (hj : j ≤ xs.length) (item : Int32) : CtWV l yX2_insert (Cond.code yX2_insert cX2_insert 4 none) ({ frames := 0, cells := 0, slots := 0, locals := 0 }) G B0 w [.ref r, .int (nI j), .int item] (fun w' => Rw G w' r b cap (rIns cap xs j item) ∧ Ch w w' r b) 0 0 := by
  refine Met.ofW (cc := cX2_insert) (maxL := 4) (ret := none) (by decide) rfl ?_
  intro p e s m args below meth c s₁ B hml hv
  obtain ⟨rfl, hK, hP, hKq, hBs⟩ := hv
  have hts := fun w h => atoms_spec (ws := Cond.code yX2_insert cX2_insert 4 none :: tbG) B.pre w (List.mem_cons_of_mem _ h)
  have hown : s.vm.findClass RX2 = some m.cls := findClass_of_methodNamed B.named
  have C0 : Cx G B0 p s m _ c cX2_insert RX2 := ⟨B.exec, B.bytes, hown, hts, hK, hKq, hBs⟩
  have hS : va_S (me_A B0) s.heap s.heap [] := va_S.rf
  have hl := lv_entry ([.ref r, .int (nI j), .int item]) (n := 4) (Nat.le_of_ble_eq_true rfl)
  rw [lg_entry_eq]
  generalize (lg_sl ([.ref r, .int (nI j), .int item]) ++ List.replicate (4 - (lg_sl ([.ref r, .int (nI j), .int item])).length) Slot.unset).toArray = ls at hl ⊢
  have hl : lv_has ls 4 [(0, .ref r), (1, .int (nI j)), (2, .int item)] := hl
  obtain ⟨h1, hcap, hlt, hrb, f, h2, hf⟩ := id hR
  refine lv_iload_n C0.1 C0.2.1 dX2_insert_0 rfl (lv_at hl 1 rfl) ?_
  refine lv_if_lt (tgt := 24) C0.1 C0.2.1 dX2_insert_1 (by decide) (fun c1 => ?_) (fun c1 => ?_)
  · have d1 : j < 0 := (nI_ltI (a := j) (b := 0) (by omega) (by omega)).mp c1
    exact me_wvret _ C0.1 C0.2.1 B.returns B.notSynchronized hP hS (Nat.le_of_ble_eq_true rfl) (Nat.le_of_ble_eq_true rfl) ((absurd c1 (nI_pos (by omega)))) dX2_insert_24
  · have d1 : 0 ≤ j := Nat.not_lt.mp (fun h => c1 (nI_lt (a := j) (b := 0) h (by omega)))
    refine lv_iload_n C0.1 C0.2.1 dX2_insert_4 rfl (lv_at hl 1 rfl) ?_
    refine lv_aload_n C0.1 C0.2.1 dX2_insert_5 rfl (lv_at hl 0 rfl) ?_
    refine me_get C0 hP h1 rfl inX2 1 (by decide) kw_65 rfl dX2_insert_6 ?_
    refine lv_icmp_gt (tgt := 24) C0.1 C0.2.1 dX2_insert_9 (by decide) (fun c2 => ?_) (fun c2 => ?_)
    · have d2 : xs.length < j := (nI_ltI (a := xs.length) (b := j) (by omega) (by omega)).mp c2
      exact me_wvret _ C0.1 C0.2.1 B.returns B.notSynchronized hP hS (Nat.le_of_ble_eq_true rfl) (Nat.le_of_ble_eq_true rfl) (absurd d2 (by omega)) dX2_insert_24
    · have d2 : j ≤ xs.length := Nat.not_lt.mp (fun h => c2 (nI_lt (a := xs.length) (b := j) h (by omega)))
      refine lv_aload_n C0.1 C0.2.1 dX2_insert_12 rfl (lv_at hl 0 rfl) ?_
      refine me_get C0 hP h1 rfl inX2 1 (by decide) kw_65 rfl dX2_insert_13 ?_
      refine lv_aload_n C0.1 C0.2.1 dX2_insert_16 rfl (lv_at hl 0 rfl) ?_
      refine me_get C0 hP h1 rfl inX2 0 (by decide) kw_64 rfl dX2_insert_17 ?_
      refine me_ilen C0 hP h2 dX2_insert_20 ?_
      refine lv_icmp_lt (tgt := 25) C0.1 C0.2.1 dX2_insert_21 (by decide) (fun c3 => ?_) (fun c3 => ?_)
      · have d3 : xs.length < cap := (nI_ltI (a := xs.length) (b := cap) (by omega) (by omega)).mp c3
        refine lv_aload_n C0.1 C0.2.1 dX2_insert_25 rfl (lv_at hl 0 rfl) ?_
        refine me_get C0 hP h1 rfl inX2 1 (by decide) kw_65 rfl dX2_insert_26 ?_
        refine lv_istore_n (lv' := [(3, .int (nI xs.length)), (0, .ref r), (1, .int (nI j)), (2, .int item)]) C0.1 C0.2.1 dX2_insert_29 rfl hl (by decide) rfl (fun ls hl => ?_)
        have loop30 : ∀ (n : Nat) (i : Nat) (w1 : Me) (f1 : Nat → Int32), (j ≤ i) → (i ≤ xs.length) → (w1 b = some (eI G cap f1)) → (∀ q, q ≠ b → w1 q = w q) → (∀ q, f1 q = if i < q ∧ q ≤ xs.length then f (q - 1) else f q) → (i - j) < n → ∀ (H : Heap) (locs : List Loc), ∀ (ls : Array Slot), me_P G.1 w1 H → va_S (me_A B0) s.heap H locs → lv_has ls 4 [(3, .int (nI i)), (0, .ref r), (1, .int (nI j)), (2, .int item)] → W p l e ({ frames := 0, cells := 0, slots := 0, locals := 0 }) s m ([.ref r, .int (nI j), .int item] : List Value).toArray below meth c H locs 0 0 (MQ below (va_Qv (fun w' => Rw G w' r b cap (rIns cap xs j item) ∧ Ch w w' r b) (me_W G) (me_A B0)) ([.ref r, .int (nI j), .int item] : List Value).toArray s 0 0 (me_A B0)) (F0 m 30 ls []) := by
          intro n
          induction n with
          | zero => intro i w1 f1 _ _ _ _ _ hz; exact absurd hz (Nat.not_lt_zero _)
          | succ n ih30 =>
            intro i w1 f1 hji hil hb1 hfr hff hn30 H locs ls hP hS hl
            refine lv_iload_n C0.1 C0.2.1 dX2_insert_30 rfl (lv_at hl 0 rfl) ?_
            refine lv_iload_n C0.1 C0.2.1 dX2_insert_31 rfl (lv_at hl 2 rfl) ?_
            refine lv_icmp_le (tgt := 55) C0.1 C0.2.1 dX2_insert_32 (by decide) (fun c4 => ?_) (fun c4 => ?_)
            · have d4 : i ≤ j := (nI_leI (a := i) (b := j) (by omega) (by omega)).mp c4
              refine lv_aload_n C0.1 C0.2.1 dX2_insert_55 rfl (lv_at hl 1 rfl) ?_
              refine me_get C0 hP ((hfr r hrb).trans h1) rfl inX2 0 (by decide) kw_64 rfl dX2_insert_56 ?_
              refine lv_iload_n C0.1 C0.2.1 dX2_insert_59 rfl (lv_at hl 2 rfl) ?_
              refine lv_iload_n C0.1 C0.2.1 dX2_insert_60 rfl (lv_at hl 3 rfl) ?_
              refine me_iastN C0 hP hS hBb hb1 (i := j) (by omega) (by omega) dX2_insert_61 (fun H locs hP hS => ?_)
              have hP : me_P G.1 (me_u w1 b (eI G cap (upd f1 j item))) H := hP
              refine lv_aload_n C0.1 C0.2.1 dX2_insert_62 rfl (lv_at hl 1 rfl) ?_
              refine lv_dup C0.1 C0.2.1 dX2_insert_63 rfl ?_
              refine me_get C0 hP ((me_un hrb).trans ((hfr r hrb).trans h1)) rfl inX2 1 (by decide) kw_65 rfl dX2_insert_64 ?_
              refine lv_iconst (v := 1) C0.1 C0.2.1 dX2_insert_67 (by decide) ?_
              refine lv_iadd C0.1 C0.2.1 dX2_insert_68 ?_
              refine me_topi (y := nI (xs.length + 1)) (nI_add xs.length 1) ?_
              refine me_put C0 hP hS hBr ((me_un hrb).trans ((hfr r hrb).trans h1)) rfl inX2 tyX2 tyX2_ok nmX2 1 (by decide) kw_65 rfl rfl rfl (Nat.le_of_ble_eq_true rfl) dX2_insert_69 (fun H locs hP hS => ?_)
              have hP : me_P G.1 (me_u (me_u w1 b (eI G cap (upd f1 j item))) r (eO 1 [.ref b, .int (nI (xs.length + 1))])) H := hP
              exact me_wvret _ C0.1 C0.2.1 B.returns B.notSynchronized hP hS (Nat.le_of_ble_eq_true rfl) (Nat.le_of_ble_eq_true rfl) ((by obtain rfl : i = j := (by omega); exact ins_done hrb hlt (by omega) hj hf hff hfr)) dX2_insert_72
            · have d4 : j < i := Nat.not_le.mp (fun h => c4 (nI_le (a := i) (b := j) h (by omega)))
              refine lv_aload_n C0.1 C0.2.1 dX2_insert_35 rfl (lv_at hl 1 rfl) ?_
              refine me_get C0 hP ((hfr r hrb).trans h1) rfl inX2 0 (by decide) kw_64 rfl dX2_insert_36 ?_
              refine lv_iload_n C0.1 C0.2.1 dX2_insert_39 rfl (lv_at hl 0 rfl) ?_
              refine lv_aload_n C0.1 C0.2.1 dX2_insert_40 rfl (lv_at hl 1 rfl) ?_
              refine me_get C0 hP ((hfr r hrb).trans h1) rfl inX2 0 (by decide) kw_64 rfl dX2_insert_41 ?_
              refine lv_iload_n C0.1 C0.2.1 dX2_insert_44 rfl (lv_at hl 0 rfl) ?_
              refine lv_iconst (v := 1) C0.1 C0.2.1 dX2_insert_45 (by decide) ?_
              refine lv_isub C0.1 C0.2.1 dX2_insert_46 ?_
              refine me_topi (y := nI (i - 1)) (pk_sub (a := i) (b := 1) (by omega)) ?_
              refine me_ialdN C0 hP hb1 (i := (i - 1)) (by omega) (by omega) dX2_insert_47 ?_
              refine me_iastN C0 hP hS hBb hb1 (i := i) (by omega) (by omega) dX2_insert_48 (fun H locs hP hS => ?_)
              have hP : me_P G.1 (me_u w1 b (eI G cap (upd f1 i (f1 (i - 1))))) H := hP
              refine lv_iinc (v := nI (i - 1)) (lv' := [(3, .int (nI (i - 1))), (0, .ref r), (1, .int (nI j)), (2, .int item)]) C0.1 C0.2.1 dX2_insert_49 hl (k := 0) rfl (sb_m1 (by omega)) (by decide) rfl (fun ls hl => ?_)
              refine lv_goto (tgt := 30) C0.1 C0.2.1 dX2_insert_52 (by decide) ?_
              exact ih30 (i - 1) _ _ (by omega) (by omega) (me_us _ _ _) (fun q hq => (me_un hq).trans (hfr q hq)) (ins_step hff (by omega) (by omega)) (by omega) _ _ _ hP hS (lv_sub hl [0, 1, 2, 3] rfl)
        exact loop30 (xs.length - j + 1) xs.length w f hj (Nat.le_refl _) h2 (fun _ _ => rfl) (fun q => by rw [if_neg (by omega)]) (Nat.lt_succ_self _) _ _ _ hP hS (lv_sub hl [0, 1, 2, 3] rfl)
      · have d3 : cap ≤ xs.length := Nat.not_lt.mp (fun h => c3 (nI_lt (a := xs.length) (b := cap) h (by omega)))
        exact me_wvret _ C0.1 C0.2.1 B.returns B.notSynchronized hP hS (Nat.le_of_ble_eq_true rfl) (Nat.le_of_ble_eq_true rfl) (ins_no hR (by omega)) dX2_insert_24

set_option maxHeartbeats 4000000 in
set_option maxRecDepth 100000 in
/-- add(item) -/
theorem c_X2_add (l : Launch) (G : me_G) (B0 : Nat) (w : Me) (r b cap : Nat) (xs : List Int32) (hR : Rw G w r b cap xs) (hBr : B0 ≤ r) (hBb : B0 ≤ b) (item : Int32) : CtWV l yX2_add (Cond.code yX2_add cX2_add 2 none) ({ frames := 1, cells := 0, slots := 0, locals := 23 }) G B0 w [.ref r, .int item] (fun w' => Rw G w' r b cap (rIns cap xs xs.length item) ∧ Ch w w' r b) 0 0 := by
  refine Met.ofW (cc := cX2_add) (maxL := 2) (ret := none) (by decide) rfl ?_
  intro p e s m args below meth c s₁ B hml hv
  obtain ⟨rfl, hK, hP, hKq, hBs⟩ := hv
  have hts := fun w h => atoms_spec (ws := Cond.code yX2_add cX2_add 2 none :: tbG) B.pre w (List.mem_cons_of_mem _ h)
  have hown : s.vm.findClass RX2 = some m.cls := findClass_of_methodNamed B.named
  have C0 : Cx G B0 p s m _ c cX2_add RX2 := ⟨B.exec, B.bytes, hown, hts, hK, hKq, hBs⟩
  have hS : va_S (me_A B0) s.heap s.heap [] := va_S.rf
  have hl := lv_entry ([.ref r, .int item]) (n := 2) (Nat.le_of_ble_eq_true rfl)
  rw [lg_entry_eq]
  generalize (lg_sl ([.ref r, .int item]) ++ List.replicate (2 - (lg_sl ([.ref r, .int item])).length) Slot.unset).toArray = ls at hl ⊢
  have hl : lv_has ls 2 [(0, .ref r), (1, .int item)] := hl
  obtain ⟨h1, hcap, hlt, hrb, f, h2, hf⟩ := id hR
  refine lv_aload_n C0.1 C0.2.1 dX2_add_0 rfl (lv_at hl 0 rfl) ?_
  refine lv_aload_n C0.1 C0.2.1 dX2_add_1 rfl (lv_at hl 0 rfl) ?_
  refine me_get C0 hP h1 rfl inX2 1 (by decide) kw_65 rfl dX2_add_2 ?_
  refine lv_iload_n C0.1 C0.2.1 dX2_add_5 rfl (lv_at hl 1 rfl) ?_
  refine me_cVwv (n := 2) C0 hml hP hS (c_X2_insert l G B0 w r b cap xs hR hBr hBb xs.length (Nat.le_refl _) item) ⟨kw_244, kw_32, kw_314, ⟨by decide, by decide, by decide +kernel⟩, ⟨rfl, rfl⟩, ⟨Nat.le_of_ble_eq_true rfl, Nat.le_of_ble_eq_true rfl⟩⟩ kw_242 kw_243 h1 rfl rfl hl.1 rfl (Nat.le_of_ble_eq_true rfl) ⟨Nat.le_of_ble_eq_true rfl, Nat.le_of_ble_eq_true rfl⟩ dX2_add_6 (fun w1 H locs hw1 hP hS => ?_)
  exact me_wvret _ C0.1 C0.2.1 B.returns B.notSynchronized hP hS (Nat.le_of_ble_eq_true rfl) (Nat.le_of_ble_eq_true rfl) (hw1) dX2_add_9

set_option maxHeartbeats 4000000 in
set_option maxRecDepth 100000 in
/-- takeOut(item) -/
theorem c_X2_takeOut (l : Launch) (G : me_G) (B0 : Nat) (w : Me) (r b cap : Nat) (xs : List Int32) (hR : Rw G w r b cap xs) (hBr : B0 ≤ r) (hBb : B0 ≤ b) (item : Int32) : CtWV l yX2_takeOut (Cond.code yX2_takeOut cX2_takeOut 4 none) ({ frames := 0, cells := 0, slots := 0, locals := 0 }) G B0 w [.ref r, .int item] (fun w' => Rw G w' r b cap (rOut xs item) ∧ Ch w w' r b) 0 0 := by
  refine Met.ofW (cc := cX2_takeOut) (maxL := 4) (ret := none) (by decide) rfl ?_
  intro p e s m args below meth c s₁ B hml hv
  obtain ⟨rfl, hK, hP, hKq, hBs⟩ := hv
  have hts := fun w h => atoms_spec (ws := Cond.code yX2_takeOut cX2_takeOut 4 none :: tbG) B.pre w (List.mem_cons_of_mem _ h)
  have hown : s.vm.findClass RX2 = some m.cls := findClass_of_methodNamed B.named
  have C0 : Cx G B0 p s m _ c cX2_takeOut RX2 := ⟨B.exec, B.bytes, hown, hts, hK, hKq, hBs⟩
  have hS : va_S (me_A B0) s.heap s.heap [] := va_S.rf
  have hl := lv_entry ([.ref r, .int item]) (n := 4) (Nat.le_of_ble_eq_true rfl)
  rw [lg_entry_eq]
  generalize (lg_sl ([.ref r, .int item]) ++ List.replicate (4 - (lg_sl ([.ref r, .int item])).length) Slot.unset).toArray = ls at hl ⊢
  have hl : lv_has ls 4 [(0, .ref r), (1, .int item)] := hl
  obtain ⟨h1, hcap, hlt, hrb, f, h2, hf⟩ := id hR
  refine lv_iconst (v := 0) C0.1 C0.2.1 dX2_takeOut_0 (by decide) ?_
  refine lv_istore_n (lv' := [(2, .int 0), (0, .ref r), (1, .int item)]) C0.1 C0.2.1 dX2_takeOut_1 rfl hl (by decide) rfl (fun ls hl => ?_)
  refine lv_iconst (v := 0) C0.1 C0.2.1 dX2_takeOut_2 (by decide) ?_
  refine lv_istore_n (lv' := [(3, .int 0), (2, .int 0), (0, .ref r), (1, .int item)]) C0.1 C0.2.1 dX2_takeOut_3 rfl hl (by decide) rfl (fun ls hl => ?_)
  have loop4 : ∀ (n : Nat) (i k : Nat) (w1 : Me) (f1 : Nat → Int32), (i ≤ xs.length) → (k = (rOut (xs.take i) item).length) → (w1 b = some (eI G cap f1)) → (∀ q, q ≠ b → w1 q = w q) → (∀ q, q < k → f1 q = (rOut (xs.take i) item).getD q 0) → (∀ q, i ≤ q → q < xs.length → f1 q = xs.getD q 0) → (xs.length - i) < n → ∀ (H : Heap) (locs : List Loc), ∀ (ls : Array Slot), me_P G.1 w1 H → va_S (me_A B0) s.heap H locs → lv_has ls 4 [(3, .int (nI i)), (2, .int (nI k)), (0, .ref r), (1, .int item)] → W p l e ({ frames := 0, cells := 0, slots := 0, locals := 0 }) s m ([.ref r, .int item] : List Value).toArray below meth c H locs 0 0 (MQ below (va_Qv (fun w' => Rw G w' r b cap (rOut xs item) ∧ Ch w w' r b) (me_W G) (me_A B0)) ([.ref r, .int item] : List Value).toArray s 0 0 (me_A B0)) (F0 m 4 ls []) := by
    intro n
    induction n with
    | zero => intro i k w1 f1 _ _ _ _ _ _ hz; exact absurd hz (Nat.not_lt_zero _)
    | succ n ih4 =>
      intro i k w1 f1 hil hk hb1 hfr hlo hhi hn4 H locs ls hP hS hl
      have hki := rOut_len (item := item) hil
      refine lv_iload_n C0.1 C0.2.1 dX2_takeOut_4 rfl (lv_at hl 0 rfl) ?_
      refine lv_aload_n C0.1 C0.2.1 dX2_takeOut_5 rfl (lv_at hl 2 rfl) ?_
      refine me_get C0 hP ((hfr r hrb).trans h1) rfl inX2 1 (by decide) kw_65 rfl dX2_takeOut_6 ?_
      refine lv_icmp_ge (tgt := 43) C0.1 C0.2.1 dX2_takeOut_9 (by decide) (fun c1 => ?_) (fun c1 => ?_)
      · have d1 : xs.length ≤ i := (nI_leI (a := xs.length) (b := i) (by omega) (by omega)).mp c1
        refine lv_aload_n C0.1 C0.2.1 dX2_takeOut_43 rfl (lv_at hl 2 rfl) ?_
        refine lv_iload_n C0.1 C0.2.1 dX2_takeOut_44 rfl (lv_at hl 1 rfl) ?_
        refine me_put C0 hP hS hBr ((hfr r hrb).trans h1) rfl inX2 tyX2 tyX2_ok nmX2 1 (by decide) kw_65 rfl rfl rfl (Nat.le_of_ble_eq_true rfl) dX2_takeOut_45 (fun H locs hP hS => ?_)
        have hP : me_P G.1 (me_u w1 r (eO 1 [.ref b, .int (nI k)])) H := hP
        exact me_wvret _ C0.1 C0.2.1 B.returns B.notSynchronized hP hS (Nat.le_of_ble_eq_true rfl) (Nat.le_of_ble_eq_true rfl) (out_done hrb hlt hcap (by omega) hk hlo hb1 hfr) dX2_takeOut_48
      · have d1 : i < xs.length := Nat.not_le.mp (fun h => c1 (nI_le (a := xs.length) (b := i) h (by omega)))
        have hfi : f1 i = xs.getD i 0 := hhi i (Nat.le_refl _) (by omega)
        refine lv_aload_n C0.1 C0.2.1 dX2_takeOut_12 rfl (lv_at hl 2 rfl) ?_
        refine me_get C0 hP ((hfr r hrb).trans h1) rfl inX2 0 (by decide) kw_64 rfl dX2_takeOut_13 ?_
        refine lv_iload_n C0.1 C0.2.1 dX2_takeOut_16 rfl (lv_at hl 0 rfl) ?_
        refine me_ialdN C0 hP hb1 (i := i) (by omega) (by omega) dX2_takeOut_17 ?_
        refine lv_iload_n C0.1 C0.2.1 dX2_takeOut_18 rfl (lv_at hl 3 rfl) ?_
        refine lv_icmp_eq (tgt := 37) C0.1 C0.2.1 dX2_takeOut_19 (by decide) (fun c2 => ?_) (fun c2 => ?_)
        · have he : xs.getD i 0 = item := hfi ▸ c2
          refine lv_iinc (v := nI (i + 1)) (lv' := [(3, .int (nI (i + 1))), (2, .int (nI k)), (0, .ref r), (1, .int item)]) C0.1 C0.2.1 dX2_takeOut_37 hl (k := 0) rfl (nI_add i 1) (by decide) rfl (fun ls hl => ?_)
          refine lv_goto (tgt := 4) C0.1 C0.2.1 dX2_takeOut_40 (by decide) ?_
          exact ih4 (i + 1) k _ _ (by omega) (by rw [rOut_same (by omega) he]; exact hk) hb1 hfr (by rw [rOut_same (by omega) he]; exact hlo) (fun q hq1 hq2 => hhi q (by omega) hq2) (by omega) _ _ _ hP hS (lv_sub hl [0, 1, 2, 3] rfl)
        · have he : ¬ xs.getD i 0 = item := hfi ▸ c2
          refine lv_aload_n C0.1 C0.2.1 dX2_takeOut_22 rfl (lv_at hl 2 rfl) ?_
          refine me_get C0 hP ((hfr r hrb).trans h1) rfl inX2 0 (by decide) kw_64 rfl dX2_takeOut_23 ?_
          refine lv_iload_n C0.1 C0.2.1 dX2_takeOut_26 rfl (lv_at hl 1 rfl) ?_
          refine lv_aload_n C0.1 C0.2.1 dX2_takeOut_27 rfl (lv_at hl 2 rfl) ?_
          refine me_get C0 hP ((hfr r hrb).trans h1) rfl inX2 0 (by decide) kw_64 rfl dX2_takeOut_28 ?_
          refine lv_iload_n C0.1 C0.2.1 dX2_takeOut_31 rfl (lv_at hl 0 rfl) ?_
          refine me_ialdN C0 hP hb1 (i := i) (by omega) (by omega) dX2_takeOut_32 ?_
          refine me_iastN C0 hP hS hBb hb1 (i := k) (by omega) (by omega) dX2_takeOut_33 (fun H locs hP hS => ?_)
          have hP : me_P G.1 (me_u w1 b (eI G cap (upd f1 k (f1 i)))) H := hP
          refine lv_iinc (v := nI (k + 1)) (lv' := [(2, .int (nI (k + 1))), (3, .int (nI i)), (0, .ref r), (1, .int item)]) C0.1 C0.2.1 dX2_takeOut_34 hl (k := 1) rfl (nI_add k 1) (by decide) rfl (fun ls hl => ?_)
          refine lv_iinc (v := nI (i + 1)) (lv' := [(3, .int (nI (i + 1))), (2, .int (nI (k + 1))), (0, .ref r), (1, .int item)]) C0.1 C0.2.1 dX2_takeOut_37 hl (k := 1) rfl (nI_add i 1) (by decide) rfl (fun ls hl => ?_)
          refine lv_goto (tgt := 4) C0.1 C0.2.1 dX2_takeOut_40 (by decide) ?_
          exact ih4 (i + 1) (k + 1) _ _ (by omega) (by rw [rOut_more (by omega) he]; simp; omega) (me_us _ _ _) (fun q hq => (me_un hq).trans (hfr q hq)) (by rw [hfi]; exact rOut_put hk (by omega) he hlo) (fun q hq1 hq2 => by rw [upd_ne (by omega)]; exact hhi q (by omega) hq2) (by omega) _ _ _ hP hS (lv_sub hl [0, 1, 2, 3] rfl)
  exact loop4 (xs.length - 0 + 1) 0 0 w f (Nat.zero_le _) rfl h2 (fun _ _ => rfl) (fun q hq => absurd hq (Nat.not_lt_zero q)) (fun q _ hq => hf q hq) (Nat.lt_succ_self _) _ _ _ hP hS (lv_sub hl [0, 1, 2, 3] rfl)

set_option maxHeartbeats 4000000 in
set_option maxRecDepth 100000 in
/-- copyFrom(other) -/
theorem c_X2_copyFrom (l : Launch) (G : me_G) (B0 : Nat) (w : Me) (r b cap : Nat) (xs : List Int32) (hR : Rw G w r b cap xs) (r2 b2 cap2 : Nat) (ys : List Int32) (hR2 : Rw G w r2 b2 cap2 ys) (n1 : r2 ≠ r) (n2 : r2 ≠ b) (n3 : b2 ≠ r) (n4 : b2 ≠ b) (hBr : B0 ≤ r) (hBb : B0 ≤ b) : CtWV l yX2_copyFrom (Cond.code yX2_copyFrom cX2_copyFrom 3 none) ({ frames := 1, cells := 0, slots := 0, locals := 14 }) G B0 w [.ref r, .ref r2] (fun w' => Rw G w' r b cap (ys.take cap) ∧ Ch w w' r b) 0 0 := by
  refine Met.ofW (cc := cX2_copyFrom) (maxL := 3) (ret := none) (by decide) rfl ?_
  intro p e s m args below meth c s₁ B hml hv
  obtain ⟨rfl, hK, hP, hKq, hBs⟩ := hv
  have hts := fun w h => atoms_spec (ws := Cond.code yX2_copyFrom cX2_copyFrom 3 none :: tbG) B.pre w (List.mem_cons_of_mem _ h)
  have hown : s.vm.findClass RX2 = some m.cls := findClass_of_methodNamed B.named
  have C0 : Cx G B0 p s m _ c cX2_copyFrom RX2 := ⟨B.exec, B.bytes, hown, hts, hK, hKq, hBs⟩
  have hS : va_S (me_A B0) s.heap s.heap [] := va_S.rf
  have hl := lv_entry ([.ref r, .ref r2]) (n := 3) (Nat.le_of_ble_eq_true rfl)
  rw [lg_entry_eq]
  generalize (lg_sl ([.ref r, .ref r2]) ++ List.replicate (3 - (lg_sl ([.ref r, .ref r2])).length) Slot.unset).toArray = ls at hl ⊢
  have hl : lv_has ls 3 [(0, .ref r), (1, .ref r2)] := hl
  obtain ⟨h1, hcap, hlt, hrb, f, h2, hf⟩ := id hR
  obtain ⟨g1, gcap, glt, grb, f2, g2, gf⟩ := id hR2
  refine lv_aload_n C0.1 C0.2.1 dX2_copyFrom_0 rfl (lv_at hl 0 rfl) ?_
  refine lv_aload_n C0.1 C0.2.1 dX2_copyFrom_1 rfl (lv_at hl 1 rfl) ?_
  refine me_get C0 hP g1 rfl inX2 1 (by decide) kw_65 rfl dX2_copyFrom_2 ?_
  refine lv_aload_n C0.1 C0.2.1 dX2_copyFrom_5 rfl (lv_at hl 0 rfl) ?_
  refine me_get C0 hP h1 rfl inX2 0 (by decide) kw_64 rfl dX2_copyFrom_6 ?_
  refine me_ilen C0 hP h2 dX2_copyFrom_9 ?_
  refine va_mmin C0.1 C0.2.1 (hml.trans hl.1.symm) C0.2.2.1 (C0.2.2.2.1 _ kw_288) (C0.2.2.2.1 _ kw_289) (C0.2.2.2.1 _ kw_33) (C0.2.2.2.1 _ kw_290) (Nat.le_of_ble_eq_true rfl) (Nat.le_of_ble_eq_true rfl) (Nat.le_of_ble_eq_true rfl) (Nat.le_of_ble_eq_true rfl) dX2_copyFrom_10 ?_
  refine me_topi (y := nI (min ys.length cap)) (nI_min (by omega) (by omega)) ?_
  refine me_put C0 hP hS hBr h1 rfl inX2 tyX2 tyX2_ok nmX2 1 (by decide) kw_65 rfl rfl rfl (Nat.le_of_ble_eq_true rfl) dX2_copyFrom_13 (fun H locs hP hS => ?_)
  have hP : me_P G.1 (me_u w r (eO 1 [.ref b, .int (nI (min ys.length cap))])) H := hP
  refine lv_iconst (v := 0) C0.1 C0.2.1 dX2_copyFrom_16 (by decide) ?_
  refine lv_istore_n (lv' := [(2, .int 0), (0, .ref r), (1, .ref r2)]) C0.1 C0.2.1 dX2_copyFrom_17 rfl hl (by decide) rfl (fun ls hl => ?_)
  have loop18 : ∀ (n : Nat) (i : Nat) (w1 : Me) (f1 : Nat → Int32), (i ≤ min ys.length cap) → (w1 b = some (eI G cap f1)) → (w1 r = some (eO 1 [.ref b, .int (nI (min ys.length cap))])) → (∀ q, q ≠ r → q ≠ b → w1 q = w q) → (∀ q, q < i → f1 q = ys.getD q 0) → (min ys.length cap - i) < n → ∀ (H : Heap) (locs : List Loc), ∀ (ls : Array Slot), me_P G.1 w1 H → va_S (me_A B0) s.heap H locs → lv_has ls 3 [(2, .int (nI i)), (0, .ref r), (1, .ref r2)] → W p l e ({ frames := 1, cells := 0, slots := 0, locals := 14 }) s m ([.ref r, .ref r2] : List Value).toArray below meth c H locs 0 0 (MQ below (va_Qv (fun w' => Rw G w' r b cap (ys.take cap) ∧ Ch w w' r b) (me_W G) (me_A B0)) ([.ref r, .ref r2] : List Value).toArray s 0 0 (me_A B0)) (F0 m 18 ls []) := by
    intro n
    induction n with
    | zero => intro i w1 f1 _ _ _ _ _ hz; exact absurd hz (Nat.not_lt_zero _)
    | succ n ih18 =>
      intro i w1 f1 hil hb1 hr1 hfr hlo hn18 H locs ls hP hS hl
      refine lv_iload_n C0.1 C0.2.1 dX2_copyFrom_18 rfl (lv_at hl 0 rfl) ?_
      refine lv_aload_n C0.1 C0.2.1 dX2_copyFrom_19 rfl (lv_at hl 1 rfl) ?_
      refine me_get C0 hP hr1 rfl inX2 1 (by decide) kw_65 rfl dX2_copyFrom_20 ?_
      refine lv_icmp_ge (tgt := 44) C0.1 C0.2.1 dX2_copyFrom_23 (by decide) (fun c1 => ?_) (fun c1 => ?_)
      · have d1 : (min ys.length cap) ≤ i := (nI_leI (a := (min ys.length cap)) (b := i) (by omega) (by omega)).mp c1
        exact me_wvret _ C0.1 C0.2.1 B.returns B.notSynchronized hP hS (Nat.le_of_ble_eq_true rfl) (Nat.le_of_ble_eq_true rfl) (cpy_done hrb hlt (by omega) hlo hb1 hr1 hfr) dX2_copyFrom_44
      · have d1 : i < (min ys.length cap) := Nat.not_le.mp (fun h => c1 (nI_le (a := (min ys.length cap)) (b := i) h (by omega)))
        refine lv_aload_n C0.1 C0.2.1 dX2_copyFrom_26 rfl (lv_at hl 1 rfl) ?_
        refine me_get C0 hP hr1 rfl inX2 0 (by decide) kw_64 rfl dX2_copyFrom_27 ?_
        refine lv_iload_n C0.1 C0.2.1 dX2_copyFrom_30 rfl (lv_at hl 0 rfl) ?_
        refine lv_aload_n C0.1 C0.2.1 dX2_copyFrom_31 rfl (lv_at hl 2 rfl) ?_
        refine me_get C0 hP ((hfr r2 n1 n2).trans g1) rfl inX2 0 (by decide) kw_64 rfl dX2_copyFrom_32 ?_
        refine lv_iload_n C0.1 C0.2.1 dX2_copyFrom_35 rfl (lv_at hl 0 rfl) ?_
        refine me_ialdN C0 hP ((hfr b2 n3 n4).trans g2) (i := i) (by omega) (by omega) dX2_copyFrom_36 ?_
        refine me_iastN C0 hP hS hBb hb1 (i := i) (by omega) (by omega) dX2_copyFrom_37 (fun H locs hP hS => ?_)
        have hP : me_P G.1 (me_u w1 b (eI G cap (upd f1 i (f2 i)))) H := hP
        refine lv_iinc (v := nI (i + 1)) (lv' := [(2, .int (nI (i + 1))), (0, .ref r), (1, .ref r2)]) C0.1 C0.2.1 dX2_copyFrom_38 hl (k := 0) rfl (nI_add i 1) (by decide) rfl (fun ls hl => ?_)
        refine lv_goto (tgt := 18) C0.1 C0.2.1 dX2_copyFrom_41 (by decide) ?_
        exact ih18 (i + 1) _ _ (by omega) (me_us _ _ _) ((me_un hrb).trans hr1) (fun q q1 q2 => (me_un q2).trans (hfr q q1 q2)) (lt_s (fun q hq => by rw [upd_ne (by omega)]; exact hlo q hq) (by rw [upd_eq]; exact gf i (by omega))) (by omega) _ _ _ hP hS (lv_sub hl [0, 1, 2] rfl)
  exact loop18 (min ys.length cap - 0 + 1) 0 _ f (Nat.zero_le _) ((me_un (Ne.symm hrb)).trans h2) (me_us _ _ _) (fun q h _ => me_un h) (fun q hq => absurd hq (Nat.not_lt_zero q)) (Nat.lt_succ_self _) _ _ _ hP hS (lv_sub hl [0, 1, 2] rfl)

set_option maxHeartbeats 4000000 in
set_option maxRecDepth 100000 in
/-- compareWith(other) -/
theorem c_X2_compareWith (l : Launch) (G : me_G) (B0 : Nat) (w : Me) (r b cap : Nat) (xs : List Int32) (hR : Rw G w r b cap xs) (r2 b2 cap2 : Nat) (ys : List Int32) (hR2 : Rw G w r2 b2 cap2 ys) : CtI l yX2_compareWith (Cond.code yX2_compareWith cX2_compareWith 4 (some .int)) ({ frames := 1, cells := 0, slots := 0, locals := 21 }) G B0 w [.ref r, .ref r2] (fun z => z = cmpL xs ys) := by
  refine Met.ofW (cc := cX2_compareWith) (maxL := 4) (ret := (some .int)) (by decide) rfl ?_
  intro p e s m args below meth c s₁ B hml hv
  obtain ⟨rfl, hK, hP, hKq, hBs⟩ := hv
  have hts := fun w h => atoms_spec (ws := Cond.code yX2_compareWith cX2_compareWith 4 (some .int) :: tbG) B.pre w (List.mem_cons_of_mem _ h)
  have hown : s.vm.findClass RX2 = some m.cls := findClass_of_methodNamed B.named
  have C0 : Cx G B0 p s m _ c cX2_compareWith RX2 := ⟨B.exec, B.bytes, hown, hts, hK, hKq, hBs⟩
  have hS : va_S (me_A B0) s.heap s.heap [] := va_S.rf
  have hl := lv_entry ([.ref r, .ref r2]) (n := 4) (Nat.le_of_ble_eq_true rfl)
  rw [lg_entry_eq]
  generalize (lg_sl ([.ref r, .ref r2]) ++ List.replicate (4 - (lg_sl ([.ref r, .ref r2])).length) Slot.unset).toArray = ls at hl ⊢
  have hl : lv_has ls 4 [(0, .ref r), (1, .ref r2)] := hl
  obtain ⟨h1, hcap, hlt, hrb, f, h2, hf⟩ := id hR
  obtain ⟨g1, gcap, glt, grb, f2, g2, gf⟩ := id hR2
  refine lv_aload_n C0.1 C0.2.1 dX2_compareWith_0 rfl (lv_at hl 0 rfl) ?_
  refine me_get C0 hP h1 rfl inX2 1 (by decide) kw_65 rfl dX2_compareWith_1 ?_
  refine lv_aload_n C0.1 C0.2.1 dX2_compareWith_4 rfl (lv_at hl 1 rfl) ?_
  refine me_get C0 hP g1 rfl inX2 1 (by decide) kw_65 rfl dX2_compareWith_5 ?_
  refine va_mmin C0.1 C0.2.1 (hml.trans hl.1.symm) C0.2.2.1 (C0.2.2.2.1 _ kw_288) (C0.2.2.2.1 _ kw_289) (C0.2.2.2.1 _ kw_33) (C0.2.2.2.1 _ kw_290) (Nat.le_of_ble_eq_true rfl) (Nat.le_of_ble_eq_true rfl) (Nat.le_of_ble_eq_true rfl) (Nat.le_of_ble_eq_true rfl) dX2_compareWith_8 ?_
  refine me_topi (y := nI (min xs.length ys.length)) (nI_min (by omega) (by omega)) ?_
  refine lv_istore_n (lv' := [(2, .int (nI (min xs.length ys.length))), (0, .ref r), (1, .ref r2)]) C0.1 C0.2.1 dX2_compareWith_11 rfl hl (by decide) rfl (fun ls hl => ?_)
  refine lv_iconst (v := 0) C0.1 C0.2.1 dX2_compareWith_12 (by decide) ?_
  refine lv_istore_n (lv' := [(3, .int 0), (2, .int (nI (min xs.length ys.length))), (0, .ref r), (1, .ref r2)]) C0.1 C0.2.1 dX2_compareWith_13 rfl hl (by decide) rfl (fun ls hl => ?_)
  have loop14 : ∀ (n : Nat) (i : Nat), (i ≤ min xs.length ys.length) → (∀ q, q < i → xs.getD q 0 = ys.getD q 0) → (min xs.length ys.length - i) < n → ∀ (ls : Array Slot), lv_has ls 4 [(3, .int (nI i)), (2, .int (nI (min xs.length ys.length))), (0, .ref r), (1, .ref r2)] → W p l e ({ frames := 1, cells := 0, slots := 0, locals := 21 }) s m ([.ref r, .ref r2] : List Value).toArray below meth c s.heap [] 0 0 (MQ below (vp_Si (fun z => z = cmpL xs ys)) ([.ref r, .ref r2] : List Value).toArray s 0 0 (fun _ => False)) (F0 m 14 ls []) := by
    intro n
    induction n with
    | zero => intro i _ _ hz; exact absurd hz (Nat.not_lt_zero _)
    | succ n ih14 =>
      intro i hil heq hn14  ls  hl
      refine lv_iload_n C0.1 C0.2.1 dX2_compareWith_14 rfl (lv_at hl 0 rfl) ?_
      refine lv_iload_n C0.1 C0.2.1 dX2_compareWith_15 rfl (lv_at hl 1 rfl) ?_
      refine lv_icmp_ge (tgt := 56) C0.1 C0.2.1 dX2_compareWith_16 (by decide) (fun c1 => ?_) (fun c1 => ?_)
      · have d1 : (min xs.length ys.length) ≤ i := (nI_leI (a := (min xs.length ys.length)) (b := i) (by omega) (by omega)).mp c1
        refine lv_aload_n C0.1 C0.2.1 dX2_compareWith_56 rfl (lv_at hl 2 rfl) ?_
        refine me_get C0 hP h1 rfl inX2 1 (by decide) kw_65 rfl dX2_compareWith_57 ?_
        refine lv_aload_n C0.1 C0.2.1 dX2_compareWith_60 rfl (lv_at hl 3 rfl) ?_
        refine me_get C0 hP g1 rfl inX2 1 (by decide) kw_65 rfl dX2_compareWith_61 ?_
        refine me_cSi (n := 2) C0 hml hP hS (c_J6_compare l G B0 w (nI xs.length) (nI ys.length)) ⟨kw_293, kw_46, kw_291, ⟨by decide, by decide, by decide +kernel⟩, ⟨rfl, rfl⟩, ⟨Nat.le_of_ble_eq_true rfl, Nat.le_of_ble_eq_true rfl⟩⟩ kw_292 rfl hl.1 rfl (Nat.le_of_ble_eq_true rfl) ⟨Nat.le_of_ble_eq_true rfl, Nat.le_of_ble_eq_true rfl⟩ dX2_compareWith_64 (fun r2 hr2 => ?_)
        exact me_iret C0.1 C0.2.1 B.returns B.notSynchronized rfl rfl (by rw [hr2]; exact (cmpL_end xs ys (by omega) (by omega) (fun q hq => heq q (by omega))).symm) dX2_compareWith_67
      · have d1 : i < (min xs.length ys.length) := Nat.not_le.mp (fun h => c1 (nI_le (a := (min xs.length ys.length)) (b := i) h (by omega)))
        refine lv_aload_n C0.1 C0.2.1 dX2_compareWith_19 rfl (lv_at hl 2 rfl) ?_
        refine me_get C0 hP h1 rfl inX2 0 (by decide) kw_64 rfl dX2_compareWith_20 ?_
        refine lv_iload_n C0.1 C0.2.1 dX2_compareWith_23 rfl (lv_at hl 0 rfl) ?_
        refine me_ialdN C0 hP h2 (i := i) (by omega) (by omega) dX2_compareWith_24 ?_
        refine lv_aload_n C0.1 C0.2.1 dX2_compareWith_25 rfl (lv_at hl 3 rfl) ?_
        refine me_get C0 hP g1 rfl inX2 0 (by decide) kw_64 rfl dX2_compareWith_26 ?_
        refine lv_iload_n C0.1 C0.2.1 dX2_compareWith_29 rfl (lv_at hl 0 rfl) ?_
        refine me_ialdN C0 hP g2 (i := i) (by omega) (by omega) dX2_compareWith_30 ?_
        refine lv_icmp_eq (tgt := 50) C0.1 C0.2.1 dX2_compareWith_31 (by decide) (fun c3 => ?_) (fun c3 => ?_)
        · have hxy : xs.getD i 0 = ys.getD i 0 := (hf i (by omega)).symm.trans (c3.trans (gf i (by omega)))
          refine lv_iinc (v := nI (i + 1)) (lv' := [(3, .int (nI (i + 1))), (2, .int (nI (min xs.length ys.length))), (0, .ref r), (1, .ref r2)]) C0.1 C0.2.1 dX2_compareWith_50 hl (k := 0) rfl (nI_add i 1) (by decide) rfl (fun ls hl => ?_)
          refine lv_goto (tgt := 14) C0.1 C0.2.1 dX2_compareWith_53 (by decide) ?_
          exact ih14 (i + 1) (by omega) (lt_s heq hxy) (by omega) _ (lv_sub hl [0, 1, 2, 3] rfl)
        · have hxy : ¬ xs.getD i 0 = ys.getD i 0 := fun h => c3 ((hf i (by omega)).trans (h.trans (gf i (by omega)).symm))
          refine lv_aload_n C0.1 C0.2.1 dX2_compareWith_34 rfl (lv_at hl 2 rfl) ?_
          refine me_get C0 hP h1 rfl inX2 0 (by decide) kw_64 rfl dX2_compareWith_35 ?_
          refine lv_iload_n C0.1 C0.2.1 dX2_compareWith_38 rfl (lv_at hl 0 rfl) ?_
          refine me_ialdN C0 hP h2 (i := i) (by omega) (by omega) dX2_compareWith_39 ?_
          refine lv_aload_n C0.1 C0.2.1 dX2_compareWith_40 rfl (lv_at hl 3 rfl) ?_
          refine me_get C0 hP g1 rfl inX2 0 (by decide) kw_64 rfl dX2_compareWith_41 ?_
          refine lv_iload_n C0.1 C0.2.1 dX2_compareWith_44 rfl (lv_at hl 0 rfl) ?_
          refine me_ialdN C0 hP g2 (i := i) (by omega) (by omega) dX2_compareWith_45 ?_
          refine me_cSi (n := 2) C0 hml hP hS (c_J6_compare l G B0 w (f i) (f2 i)) ⟨kw_293, kw_46, kw_291, ⟨by decide, by decide, by decide +kernel⟩, ⟨rfl, rfl⟩, ⟨Nat.le_of_ble_eq_true rfl, Nat.le_of_ble_eq_true rfl⟩⟩ kw_292 rfl hl.1 rfl (Nat.le_of_ble_eq_true rfl) ⟨Nat.le_of_ble_eq_true rfl, Nat.le_of_ble_eq_true rfl⟩ dX2_compareWith_46 (fun r4 hr4 => ?_)
          exact me_iret C0.1 C0.2.1 B.returns B.notSynchronized rfl rfl (by rw [hr4, hf i (by omega), gf i (by omega)]; exact (cmpL_at i xs ys (by omega) (by omega) heq hxy).symm) dX2_compareWith_49
  exact loop14 (min xs.length ys.length - 0 + 1) 0 (Nat.zero_le _) (fun q hq => absurd hq (Nat.not_lt_zero q)) (Nat.lt_succ_self _) _ (lv_sub hl [0, 1, 2, 3] rfl)
