set_option maxHeartbeats 4000000 in
set_option maxRecDepth 100000 in
/-- noNode(v) -/
theorem c_X5_noNode (l : Launch) (G : me_G) (B0 : Nat) (w : Me) (o : Nat) (a : Nat → Nat) (F : Nat → Nat → Int32) (z : Nat → Int32) (hM : MD G B0 w o a F z) (T : Tre) (hT : RT F T) (v : Int32) : CtI l yX5_noNode (Cond.code yX5_noNode cX5_noNode 2 (some .boolean)) ({ frames := 0, cells := 0, slots := 0, locals := 0 }) G B0 w [.ref o, .int v] (fun r => r = noN T v) := by
  refine Met.ofW (cc := cX5_noNode) (maxL := 2) (ret := (some .boolean)) (by decide) rfl ?_
  intro p e s m args below meth c s₁ B hml hv
  obtain ⟨rfl, hK, hP, hKq, hBs⟩ := hv
  have hts := fun w h => atoms_spec (ws := Cond.code yX5_noNode cX5_noNode 2 (some .boolean) :: tbG) B.pre w (List.mem_cons_of_mem _ h)
  have hown : s.vm.findClass RX5 = some m.cls := findClass_of_methodNamed B.named
  have C0 : Cx G B0 p s m _ c cX5_noNode RX5 := ⟨B.exec, B.bytes, hown, hts, hK, hKq, hBs⟩
  have hS : va_S (me_A B0) s.heap s.heap [] := va_S.rf
  have hl := lv_entry ([.ref o, .int v]) (n := 2) (Nat.le_of_ble_eq_true rfl)
  rw [lg_entry_eq]
  generalize (lg_sl ([.ref o, .int v]) ++ List.replicate (2 - (lg_sl ([.ref o, .int v])).length) Slot.unset).toArray = ls at hl ⊢
  have hl : lv_has ls 2 [(0, .ref o), (1, .int v)] := hl
  refine lv_iload_n C0.1 C0.2.1 dX5_noNode_0 rfl (lv_at hl 1 rfl) ?_
  refine lv_if_lt (tgt := 20) C0.1 C0.2.1 dX5_noNode_1 (by decide) (fun c1 => ?_) (fun c1 => ?_)
  · refine lv_iconst (v := 1) C0.1 C0.2.1 dX5_noNode_20 (by decide) ?_
    refine lv_goto (tgt := 25) C0.1 C0.2.1 dX5_noNode_21 (by decide) ?_
    exact me_zret C0.1 C0.2.1 B.returns B.notSynchronized narrow_b1 rfl rfl ((noN_neg c1).symm) dX5_noNode_25
  · refine lv_iload_n C0.1 C0.2.1 dX5_noNode_4 rfl (lv_at hl 1 rfl) ?_
    refine lv_sipush (v := 200) C0.1 C0.2.1 dX5_noNode_5 (by decide) ?_
    refine lv_icmp_ge (tgt := 20) C0.1 C0.2.1 dX5_noNode_8 (by decide) (fun c2 => ?_) (fun c2 => ?_)
    · refine lv_iconst (v := 1) C0.1 C0.2.1 dX5_noNode_20 (by decide) ?_
      refine lv_goto (tgt := 25) C0.1 C0.2.1 dX5_noNode_21 (by decide) ?_
      exact me_zret C0.1 C0.2.1 B.returns B.notSynchronized narrow_b1 rfl rfl ((noN_big c1 c2).symm) dX5_noNode_25
    · obtain ⟨hk1, hk2⟩ := nI_lt_of (n := 200) (by omega) c1 (Int32.not_le.mp c2)
      generalize v.toNatClampNeg = k at hk1 hk2
      subst hk2
      refine lv_aload_n C0.1 C0.2.1 dX5_noNode_11 rfl (lv_at hl 0 rfl) ?_
      refine md_get C0 hP hM 2 (by decide) kw_479 (v := .ref ((a 2))) rfl dX5_noNode_12 ?_
      refine lv_iload_n C0.1 C0.2.1 dX5_noNode_15 rfl (lv_at hl 1 rfl) ?_
      refine md_zald C0 hP hM 2 (by decide) (i := k) (by show k < 200; omega) dX5_noNode_16 ?_
      refine lv_if_ne (tgt := 24) C0.1 C0.2.1 dX5_noNode_17 (by decide) (fun c3 => ?_) (fun c3 => ?_)
      · refine lv_iconst (v := 0) C0.1 C0.2.1 dX5_noNode_24 (by decide) ?_
        exact me_zret C0.1 C0.2.1 B.returns B.notSynchronized narrow_b0 rfl rfl ((noN_1 hT hk1 c3).symm) dX5_noNode_25
      · refine lv_iconst (v := 1) C0.1 C0.2.1 dX5_noNode_20 (by decide) ?_
        refine lv_goto (tgt := 25) C0.1 C0.2.1 dX5_noNode_21 (by decide) ?_
        exact me_zret C0.1 C0.2.1 B.returns B.notSynchronized narrow_b1 rfl rfl ((noN_0 hT hk1 c3).symm) dX5_noNode_25

set_option maxHeartbeats 4000000 in
set_option maxRecDepth 100000 in
/-- noDirectory(v) -/
theorem c_X5_noDirectory (l : Launch) (G : me_G) (B0 : Nat) (w : Me) (o : Nat) (a : Nat → Nat) (F : Nat → Nat → Int32) (z : Nat → Int32) (hM : MD G B0 w o a F z) (T : Tre) (hT : RT F T) (v : Int32) : CtI l yX5_noDirectory (Cond.code yX5_noDirectory cX5_noDirectory 2 (some .boolean)) ({ frames := 1, cells := 0, slots := 0, locals := 21 }) G B0 w [.ref o, .int v] (fun r => r = noD T v) := by
  refine Met.ofW (cc := cX5_noDirectory) (maxL := 2) (ret := (some .boolean)) (by decide) rfl ?_
  intro p e s m args below meth c s₁ B hml hv
  obtain ⟨rfl, hK, hP, hKq, hBs⟩ := hv
  have hts := fun w h => atoms_spec (ws := Cond.code yX5_noDirectory cX5_noDirectory 2 (some .boolean) :: tbG) B.pre w (List.mem_cons_of_mem _ h)
  have hown : s.vm.findClass RX5 = some m.cls := findClass_of_methodNamed B.named
  have C0 : Cx G B0 p s m _ c cX5_noDirectory RX5 := ⟨B.exec, B.bytes, hown, hts, hK, hKq, hBs⟩
  have hS : va_S (me_A B0) s.heap s.heap [] := va_S.rf
  have hl := lv_entry ([.ref o, .int v]) (n := 2) (Nat.le_of_ble_eq_true rfl)
  rw [lg_entry_eq]
  generalize (lg_sl ([.ref o, .int v]) ++ List.replicate (2 - (lg_sl ([.ref o, .int v])).length) Slot.unset).toArray = ls at hl ⊢
  have hl : lv_has ls 2 [(0, .ref o), (1, .int v)] := hl
  refine lv_aload_n C0.1 C0.2.1 dX5_noDirectory_0 rfl (lv_at hl 0 rfl) ?_
  refine lv_iload_n C0.1 C0.2.1 dX5_noDirectory_1 rfl (lv_at hl 1 rfl) ?_
  refine me_cVi (n := 1) C0 hml hP hS (c_X5_noNode l G B0 w o a F z hM T hT v) ⟨kw_622, kw_35, kw_619, ⟨by decide, by decide, by decide +kernel⟩, ⟨rfl, rfl⟩, ⟨Nat.le_of_ble_eq_true rfl, Nat.le_of_ble_eq_true rfl⟩⟩ kw_621 kw_21 hM.1 rfl rfl hl.1 rfl (Nat.le_of_ble_eq_true rfl) ⟨Nat.le_of_ble_eq_true rfl, Nat.le_of_ble_eq_true rfl⟩ dX5_noDirectory_2 (fun r1 hr1 => ?_)
  rcases noN_r (T := T) v with hnnr1 | hnnr1
  · rw [hnnr1] at hr1
    subst hr1
    refine lv_if_ne (tgt := 17) C0.1 C0.2.1 dX5_noDirectory_5 (by decide) (fun c => ?_) (fun c => absurd c (by decide))
    refine lv_iconst (v := 1) C0.1 C0.2.1 dX5_noDirectory_17 (by decide) ?_
    refine lv_goto (tgt := 22) C0.1 C0.2.1 dX5_noDirectory_18 (by decide) ?_
    exact me_zret C0.1 C0.2.1 B.returns B.notSynchronized narrow_b1 rfl rfl ((noD_1 hnnr1).symm) dX5_noDirectory_22
  · rw [hnnr1] at hr1
    subst hr1
    obtain ⟨k, nd, hk, rfl, hTk⟩ := noN_s (T := T) (v := v) (by rw [hnnr1]; decide)
    have hNk := (hT.2 k nd hTk).2
    refine lv_if_ne (tgt := 17) C0.1 C0.2.1 dX5_noDirectory_5 (by decide) (fun c => absurd c (by decide)) (fun c => ?_)
    refine lv_aload_n C0.1 C0.2.1 dX5_noDirectory_8 rfl (lv_at hl 0 rfl) ?_
    refine md_get C0 hP hM 3 (by decide) kw_480 (v := .ref ((a 3))) rfl dX5_noDirectory_9 ?_
    refine lv_iload_n C0.1 C0.2.1 dX5_noDirectory_12 rfl (lv_at hl 1 rfl) ?_
    refine md_zald C0 hP hM 3 (by decide) (i := k) (by show k < 200; omega) dX5_noDirectory_13 ?_
    refine lv_if_ne (tgt := 21) C0.1 C0.2.1 dX5_noDirectory_14 (by decide) (fun c4 => ?_) (fun c4 => ?_)
    · refine lv_iconst (v := 0) C0.1 C0.2.1 dX5_noDirectory_21 (by decide) ?_
      exact me_zret C0.1 C0.2.1 B.returns B.notSynchronized narrow_b0 rfl rfl (by rw [noD_n hk hTk, if_neg (fun q => c4 (hNk.2.1.trans q))]) dX5_noDirectory_22
    · refine lv_iconst (v := 1) C0.1 C0.2.1 dX5_noDirectory_17 (by decide) ?_
      refine lv_goto (tgt := 22) C0.1 C0.2.1 dX5_noDirectory_18 (by decide) ?_
      exact me_zret C0.1 C0.2.1 B.returns B.notSynchronized narrow_b1 rfl rfl (by rw [noD_n hk hTk, if_pos (hNk.2.1.symm.trans c4)]) dX5_noDirectory_22

set_option maxHeartbeats 4000000 in
set_option maxRecDepth 100000 in
/-- freeNode() -/
theorem c_X5_freeNode (l : Launch) (G : me_G) (B0 : Nat) (w : Me) (o : Nat) (a : Nat → Nat) (F : Nat → Nat → Int32) (z : Nat → Int32) (hM : MD G B0 w o a F z) (T : Tre) (hT : RT F T) : CtI l yX5_freeNode (Cond.code yX5_freeNode cX5_freeNode 2 (some .int)) ({ frames := 0, cells := 0, slots := 0, locals := 0 }) G B0 w [.ref o] (fun r => r = frF T 200 0) := by
  refine Met.ofW (cc := cX5_freeNode) (maxL := 2) (ret := (some .int)) (by decide) rfl ?_
  intro p e s m args below meth c s₁ B hml hv
  obtain ⟨rfl, hK, hP, hKq, hBs⟩ := hv
  have hts := fun w h => atoms_spec (ws := Cond.code yX5_freeNode cX5_freeNode 2 (some .int) :: tbG) B.pre w (List.mem_cons_of_mem _ h)
  have hown : s.vm.findClass RX5 = some m.cls := findClass_of_methodNamed B.named
  have C0 : Cx G B0 p s m _ c cX5_freeNode RX5 := ⟨B.exec, B.bytes, hown, hts, hK, hKq, hBs⟩
  have hS : va_S (me_A B0) s.heap s.heap [] := va_S.rf
  have hl := lv_entry ([.ref o]) (n := 2) (Nat.le_of_ble_eq_true rfl)
  rw [lg_entry_eq]
  generalize (lg_sl ([.ref o]) ++ List.replicate (2 - (lg_sl ([.ref o])).length) Slot.unset).toArray = ls at hl ⊢
  have hl : lv_has ls 2 [(0, .ref o)] := hl
  refine lv_iconst (v := 0) C0.1 C0.2.1 dX5_freeNode_0 (by decide) ?_
  refine lv_istore_n (lv' := [(1, .int 0), (0, .ref o)]) C0.1 C0.2.1 dX5_freeNode_1 rfl hl (by decide) rfl (fun ls hl => ?_)
  have loop2 : ∀ (n : Nat) (i : Nat), (i ≤ 200) → (frF T 200 0 = frF T (200 - i) i) → (200 - i) < n → ∀ (ls : Array Slot), lv_has ls 2 [(1, .int (nI i)), (0, .ref o)] → W p l e ({ frames := 0, cells := 0, slots := 0, locals := 0 }) s m ([.ref o] : List Value).toArray below meth c s.heap [] 0 0 (MQ below (vp_Si (fun r => r = frF T 200 0)) ([.ref o] : List Value).toArray s 0 0 (fun _ => False)) (F0 m 2 ls []) := by
    intro n
    induction n with
    | zero => intro i _ _ hz; exact absurd hz (Nat.not_lt_zero _)
    | succ n ih2 =>
      intro i hil hfr hn2  ls  hl
      refine lv_iload_n C0.1 C0.2.1 dX5_freeNode_2 rfl (lv_at hl 0 rfl) ?_
      refine lv_sipush (v := 200) C0.1 C0.2.1 dX5_freeNode_3 (by decide) ?_
      refine lv_icmp_ge (tgt := 26) C0.1 C0.2.1 dX5_freeNode_6 (by decide) (fun c1 => ?_) (fun c1 => ?_)
      · have d1 : 200 ≤ i := (nI_leI (a := 200) (b := i) (by omega) (by omega)).mp c1
        refine lv_iconst (v := (-1)) C0.1 C0.2.1 dX5_freeNode_26 (by decide) ?_
        exact me_iret C0.1 C0.2.1 B.returns B.notSynchronized rfl rfl (by rw [hfr, show 200 - i = 0 by omega]; rfl) dX5_freeNode_27
      · have d1 : i < 200 := Nat.not_le.mp (fun h => c1 (nI_le (a := 200) (b := i) h (by omega)))
        refine lv_aload_n C0.1 C0.2.1 dX5_freeNode_9 rfl (lv_at hl 1 rfl) ?_
        refine md_get C0 hP hM 2 (by decide) kw_479 (v := .ref ((a 2))) rfl dX5_freeNode_10 ?_
        refine lv_iload_n C0.1 C0.2.1 dX5_freeNode_13 rfl (lv_at hl 0 rfl) ?_
        refine md_zald C0 hP hM 2 (by decide) (i := i) (by show i < 200; omega) dX5_freeNode_14 ?_
        refine lv_if_ne (tgt := 20) C0.1 C0.2.1 dX5_freeNode_15 (by decide) (fun c2 => ?_) (fun c2 => ?_)
        · refine lv_iinc (v := nI (i + 1)) (lv' := [(1, .int (nI (i + 1))), (0, .ref o)]) C0.1 C0.2.1 dX5_freeNode_20 hl (k := 0) rfl (nI_add i 1) (by decide) rfl (fun ls hl => ?_)
          refine lv_goto (tgt := 2) C0.1 C0.2.1 dX5_freeNode_23 (by decide) ?_
          exact ih2 (i + 1) (by omega) (by obtain ⟨x, hx⟩ := fr_some hT (by omega) c2; rw [hfr, show 200 - i = (200 - (i + 1)) + 1 by omega]; exact frF_s hx) (by omega) _ (lv_sub hl [0, 1] rfl)
        · refine lv_iload_n C0.1 C0.2.1 dX5_freeNode_18 rfl (lv_at hl 0 rfl) ?_
          exact me_iret C0.1 C0.2.1 B.returns B.notSynchronized rfl rfl (by rw [hfr, show 200 - i = (200 - (i + 1)) + 1 by omega]; exact (frF_n (fr_none hT c2)).symm) dX5_freeNode_19
  exact loop2 201 0 (Nat.zero_le _) rfl (by omega) _ (lv_sub hl [0, 1] rfl)

set_option maxHeartbeats 4000000 in
set_option maxRecDepth 100000 in
/-- entryLike(d, but) -/
theorem c_X5_entryLike (l : Launch) (G : me_G) (B0 : Nat) (w : Me) (o : Nat) (a : Nat → Nat) (F : Nat → Nat → Int32) (z : Nat → Int32) (hM : MD G B0 w o a F z) (T : Tre) (hT : RT F T) (k : Nat) (nd : Nod) (hk : k < 200) (hTk : T k = some nd) (X : List Int32) (hX : Ls F z 18 19 400 X) (E : List Int32) (hEd : nd.2.2.2.2 = E) (hE : ∀ i, i < E.length → ∃ (j : Nat) (m : Nod), j < 200 ∧ E.getD i 0 = nI j ∧ T j = some m) (bt : Int32) : CtI l yX5_entryLike (Cond.code yX5_entryLike cX5_entryLike 7 (some .int)) ({ frames := 0, cells := 0, slots := 0, locals := 0 }) G B0 w [.ref o, .int (nI k), .int bt] (fun r => r = elk T X bt E) := by
  refine Met.ofW (cc := cX5_entryLike) (maxL := 7) (ret := (some .int)) (by decide) rfl ?_
  intro p e s m args below meth c s₁ B hml hv
  obtain ⟨rfl, hK, hP, hKq, hBs⟩ := hv
  have hts := fun w h => atoms_spec (ws := Cond.code yX5_entryLike cX5_entryLike 7 (some .int) :: tbG) B.pre w (List.mem_cons_of_mem _ h)
  have hown : s.vm.findClass RX5 = some m.cls := findClass_of_methodNamed B.named
  have C0 : Cx G B0 p s m _ c cX5_entryLike RX5 := ⟨B.exec, B.bytes, hown, hts, hK, hKq, hBs⟩
  have hS : va_S (me_A B0) s.heap s.heap [] := va_S.rf
  have hl := lv_entry ([.ref o, .int (nI k), .int bt]) (n := 7) (Nat.le_of_ble_eq_true rfl)
  rw [lg_entry_eq]
  generalize (lg_sl ([.ref o, .int (nI k), .int bt]) ++ List.replicate (7 - (lg_sl ([.ref o, .int (nI k), .int bt])).length) Slot.unset).toArray = ls at hl ⊢
  have hl : lv_has ls 7 [(0, .ref o), (1, .int (nI k)), (2, .int bt)] := hl
  obtain ⟨-, -, -, -, -, hn10, hn40, hn9⟩ := (hT.2 k nd hTk).2
  have hXl := hX.2.1
  rw [hEd] at hn10 hn40 hn9
  refine lv_iconst (v := 0) C0.1 C0.2.1 dX5_entryLike_0 (by decide) ?_
  refine lv_istore_n (lv' := [(3, .int 0), (0, .ref o), (1, .int (nI k)), (2, .int bt)]) C0.1 C0.2.1 dX5_entryLike_1 rfl hl (by decide) rfl (fun ls hl => ?_)
  have loop2 : ∀ (n : Nat) (i : Nat), (i ≤ E.length) → (elk T X bt E = elk T X bt (E.drop i)) → (E.length - i) < n → ∀ (ls : Array Slot), lv_has ls 7 [(3, .int (nI i)), (0, .ref o), (1, .int (nI k)), (2, .int bt)] → W p l e ({ frames := 0, cells := 0, slots := 0, locals := 0 }) s m ([.ref o, .int (nI k), .int bt] : List Value).toArray below meth c s.heap [] 0 0 (MQ below (vp_Si (fun r => r = elk T X bt E)) ([.ref o, .int (nI k), .int bt] : List Value).toArray s 0 0 (fun _ => False)) (F0 m 2 ls []) := by
    intro n
    induction n with
    | zero => intro i _ _ hz; exact absurd hz (Nat.not_lt_zero _)
    | succ n ih2 =>
      intro i hil hel hn2  ls  hl
      refine lv_iload_n C0.1 C0.2.1 dX5_entryLike_2 rfl (lv_at hl 0 rfl) ?_
      refine lv_aload_n C0.1 C0.2.1 dX5_entryLike_3 rfl (lv_at hl 1 rfl) ?_
      refine md_get C0 hP hM 10 (by decide) kw_487 (v := .ref ((a 10))) rfl dX5_entryLike_4 ?_
      refine lv_iload_n C0.1 C0.2.1 dX5_entryLike_7 rfl (lv_at hl 2 rfl) ?_
      refine md_iald C0 hP hM 10 (by decide) (i := k) (by show k < 200; omega) dX5_entryLike_8 ?_
      refine me_topi (y := nI E.length) hn10 ?_
      refine lv_icmp_ge (tgt := 119) C0.1 C0.2.1 dX5_entryLike_9 (by decide) (fun c1 => ?_) (fun c1 => ?_)
      · have d1 : E.length ≤ i := (nI_leI (a := E.length) (b := i) (by omega) (by omega)).mp c1
        refine lv_iconst (v := (-1)) C0.1 C0.2.1 dX5_entryLike_119 (by decide) ?_
        exact me_iret C0.1 C0.2.1 B.returns B.notSynchronized rfl rfl (by rw [hel, show E.drop i = [] from List.drop_eq_nil_of_le (by omega)]; rfl) dX5_entryLike_120
      · have d1 : i < E.length := Nat.not_le.mp (fun h => c1 (nI_le (a := E.length) (b := i) h (by omega)))
        refine lv_aload_n C0.1 C0.2.1 dX5_entryLike_12 rfl (lv_at hl 1 rfl) ?_
        refine md_get C0 hP hM 9 (by decide) kw_486 (v := .ref ((a 9))) rfl dX5_entryLike_13 ?_
        refine lv_bipush (v := 40) C0.1 C0.2.1 dX5_entryLike_16 (by decide) ?_
        refine lv_iload_n C0.1 C0.2.1 dX5_entryLike_18 rfl (lv_at hl 2 rfl) ?_
        refine lv_imul C0.1 C0.2.1 dX5_entryLike_19 ?_
        refine me_topi (y := nI (40 * k)) (pk_mul 40 k) ?_
        refine lv_iload_n C0.1 C0.2.1 dX5_entryLike_20 rfl (lv_at hl 0 rfl) ?_
        refine lv_iadd C0.1 C0.2.1 dX5_entryLike_21 ?_
        refine me_topi (y := nI ((40 * k) + i)) (nI_add (40 * k) i) ?_
        refine md_iald C0 hP hM 9 (by decide) (i := ((40 * k) + i)) (by show ((40 * k) + i) < 8000; omega) dX5_entryLike_22 ?_
        obtain ⟨j, mj, hj200, hj, hTj⟩ := hE i (by omega)
        obtain ⟨-, -, -, -, ⟨hm8, hm60, hm7⟩, -⟩ := (hT.2 j mj hTj).2
        refine me_topi (y := nI j) ((hn9 i (by omega)).trans hj) ?_
        refine lv_istore (lv' := [(4, .int (nI j)), (3, .int (nI i)), (0, .ref o), (1, .int (nI k)), (2, .int bt)]) C0.1 C0.2.1 dX5_entryLike_23 hl (by decide) rfl (fun ls hl => ?_)
        refine lv_iload C0.1 C0.2.1 dX5_entryLike_25 (lv_at hl 0 rfl) ?_
        refine lv_iload_n C0.1 C0.2.1 dX5_entryLike_27 rfl (lv_at hl 4 rfl) ?_
        refine lv_icmp_eq (tgt := 49) C0.1 C0.2.1 dX5_entryLike_28 (by decide) (fun c2 => ?_) (fun c2 => ?_)
        · refine lv_iconst (v := 0) C0.1 C0.2.1 dX5_entryLike_49 (by decide) ?_
          have hno : ¬ (¬ nI j = bt ∧ folOf T (nI j) = X) := fun h => h.1 c2
          refine lv_istore (lv' := [(5, .int 0), (4, .int (nI j)), (3, .int (nI i)), (0, .ref o), (1, .int (nI k)), (2, .int bt)]) C0.1 C0.2.1 dX5_entryLike_50 hl (by decide) rfl (fun ls hl => ?_)
          refine lv_iconst (v := 0) C0.1 C0.2.1 dX5_entryLike_52 (by decide) ?_
          refine lv_istore (lv' := [(6, .int 0), (5, .int 0), (4, .int (nI j)), (3, .int (nI i)), (0, .ref o), (1, .int (nI k)), (2, .int bt)]) C0.1 C0.2.1 dX5_entryLike_53 hl (by decide) rfl (fun ls hl => ?_)
          refine lv_iload C0.1 C0.2.1 dX5_entryLike_55 (lv_at hl 0 rfl) ?_
          refine lv_aload_n C0.1 C0.2.1 dX5_entryLike_57 rfl (lv_at hl 4 rfl) ?_
          refine md_get C0 hP hM 19 (by decide) kw_496 (v := .int (nI X.length)) (by show some (Value.int (z 19)) = _; rw [hX.1]) dX5_entryLike_58 ?_
          refine lv_icmp_ge (tgt := 105) C0.1 C0.2.1 dX5_entryLike_61 (by decide) (fun c3 => ?_) (fun c3 => ?_)
          · have d3 : X.length ≤ 0 := (nI_leI (a := X.length) (b := 0) (by omega) (by omega)).mp c3
            refine lv_iload C0.1 C0.2.1 dX5_entryLike_105 (lv_at hl 1 rfl) ?_
            refine lv_if_eq (tgt := 113) C0.1 C0.2.1 dX5_entryLike_107 (by decide) (fun c => ?_) (fun c => absurd c (by decide))
            refine lv_iinc (v := nI (i + 1)) (lv' := [(3, .int (nI (i + 1))), (6, .int 0), (5, .int 0), (4, .int (nI j)), (0, .ref o), (1, .int (nI k)), (2, .int bt)]) C0.1 C0.2.1 dX5_entryLike_113 hl (k := 3) rfl (nI_add i 1) (by decide) rfl (fun ls hl => ?_)
            refine lv_goto (tgt := 2) C0.1 C0.2.1 dX5_entryLike_116 (by decide) ?_
            exact ih2 (i + 1) (by omega) (by rw [hel, drop_c (by omega), hj, elk, if_neg hno]) (by omega) _ (lv_sub hl [0, 4, 5, 6] rfl)
          · have d3 : 0 < X.length := Nat.not_le.mp (fun h => c3 (nI_le (a := X.length) (b := 0) h (by omega)))
            refine lv_iload C0.1 C0.2.1 dX5_entryLike_64 (lv_at hl 1 rfl) ?_
            refine lv_if_eq (tgt := 105) C0.1 C0.2.1 dX5_entryLike_66 (by decide) (fun c => ?_) (fun c => absurd c (by decide))
            refine lv_iload C0.1 C0.2.1 dX5_entryLike_105 (lv_at hl 1 rfl) ?_
            refine lv_if_eq (tgt := 113) C0.1 C0.2.1 dX5_entryLike_107 (by decide) (fun c => ?_) (fun c => absurd c (by decide))
            refine lv_iinc (v := nI (i + 1)) (lv' := [(3, .int (nI (i + 1))), (6, .int 0), (5, .int 0), (4, .int (nI j)), (0, .ref o), (1, .int (nI k)), (2, .int bt)]) C0.1 C0.2.1 dX5_entryLike_113 hl (k := 3) rfl (nI_add i 1) (by decide) rfl (fun ls hl => ?_)
            refine lv_goto (tgt := 2) C0.1 C0.2.1 dX5_entryLike_116 (by decide) ?_
            exact ih2 (i + 1) (by omega) (by rw [hel, drop_c (by omega), hj, elk, if_neg hno]) (by omega) _ (lv_sub hl [0, 4, 5, 6] rfl)
        · refine lv_aload_n C0.1 C0.2.1 dX5_entryLike_31 rfl (lv_at hl 2 rfl) ?_
          refine md_get C0 hP hM 8 (by decide) kw_485 (v := .ref ((a 8))) rfl dX5_entryLike_32 ?_
          refine lv_iload C0.1 C0.2.1 dX5_entryLike_35 (lv_at hl 0 rfl) ?_
          refine md_iald C0 hP hM 8 (by decide) (i := j) (by show j < 200; omega) dX5_entryLike_37 ?_
          refine me_topi (y := nI mj.2.2.2.1.length) hm8 ?_
          refine lv_aload_n C0.1 C0.2.1 dX5_entryLike_38 rfl (lv_at hl 2 rfl) ?_
          refine md_get C0 hP hM 19 (by decide) kw_496 (v := .int (nI X.length)) (by show some (Value.int (z 19)) = _; rw [hX.1]) dX5_entryLike_39 ?_
          refine lv_icmp_ne (tgt := 49) C0.1 C0.2.1 dX5_entryLike_42 (by decide) (fun c7 => ?_) (fun c7 => ?_)
          · have d7 : mj.2.2.2.1.length ≠ X.length := fun h => c7 (congrArg nI h)
            refine lv_iconst (v := 0) C0.1 C0.2.1 dX5_entryLike_49 (by decide) ?_
            have hno : ¬ (¬ nI j = bt ∧ folOf T (nI j) = X) := fun h => by rw [folOf_n (by omega) hTj] at h; have := congrArg List.length h.2; omega
            refine lv_istore (lv' := [(5, .int 0), (4, .int (nI j)), (3, .int (nI i)), (0, .ref o), (1, .int (nI k)), (2, .int bt)]) C0.1 C0.2.1 dX5_entryLike_50 hl (by decide) rfl (fun ls hl => ?_)
            refine lv_iconst (v := 0) C0.1 C0.2.1 dX5_entryLike_52 (by decide) ?_
            refine lv_istore (lv' := [(6, .int 0), (5, .int 0), (4, .int (nI j)), (3, .int (nI i)), (0, .ref o), (1, .int (nI k)), (2, .int bt)]) C0.1 C0.2.1 dX5_entryLike_53 hl (by decide) rfl (fun ls hl => ?_)
            refine lv_iload C0.1 C0.2.1 dX5_entryLike_55 (lv_at hl 0 rfl) ?_
            refine lv_aload_n C0.1 C0.2.1 dX5_entryLike_57 rfl (lv_at hl 4 rfl) ?_
            refine md_get C0 hP hM 19 (by decide) kw_496 (v := .int (nI X.length)) (by show some (Value.int (z 19)) = _; rw [hX.1]) dX5_entryLike_58 ?_
            refine lv_icmp_ge (tgt := 105) C0.1 C0.2.1 dX5_entryLike_61 (by decide) (fun c8 => ?_) (fun c8 => ?_)
            · have d8 : X.length ≤ 0 := (nI_leI (a := X.length) (b := 0) (by omega) (by omega)).mp c8
              refine lv_iload C0.1 C0.2.1 dX5_entryLike_105 (lv_at hl 1 rfl) ?_
              refine lv_if_eq (tgt := 113) C0.1 C0.2.1 dX5_entryLike_107 (by decide) (fun c => ?_) (fun c => absurd c (by decide))
              refine lv_iinc (v := nI (i + 1)) (lv' := [(3, .int (nI (i + 1))), (6, .int 0), (5, .int 0), (4, .int (nI j)), (0, .ref o), (1, .int (nI k)), (2, .int bt)]) C0.1 C0.2.1 dX5_entryLike_113 hl (k := 3) rfl (nI_add i 1) (by decide) rfl (fun ls hl => ?_)
              refine lv_goto (tgt := 2) C0.1 C0.2.1 dX5_entryLike_116 (by decide) ?_
              exact ih2 (i + 1) (by omega) (by rw [hel, drop_c (by omega), hj, elk, if_neg hno]) (by omega) _ (lv_sub hl [0, 4, 5, 6] rfl)
            · have d8 : 0 < X.length := Nat.not_le.mp (fun h => c8 (nI_le (a := X.length) (b := 0) h (by omega)))
              refine lv_iload C0.1 C0.2.1 dX5_entryLike_64 (lv_at hl 1 rfl) ?_
              refine lv_if_eq (tgt := 105) C0.1 C0.2.1 dX5_entryLike_66 (by decide) (fun c => ?_) (fun c => absurd c (by decide))
              refine lv_iload C0.1 C0.2.1 dX5_entryLike_105 (lv_at hl 1 rfl) ?_
              refine lv_if_eq (tgt := 113) C0.1 C0.2.1 dX5_entryLike_107 (by decide) (fun c => ?_) (fun c => absurd c (by decide))
              refine lv_iinc (v := nI (i + 1)) (lv' := [(3, .int (nI (i + 1))), (6, .int 0), (5, .int 0), (4, .int (nI j)), (0, .ref o), (1, .int (nI k)), (2, .int bt)]) C0.1 C0.2.1 dX5_entryLike_113 hl (k := 3) rfl (nI_add i 1) (by decide) rfl (fun ls hl => ?_)
              refine lv_goto (tgt := 2) C0.1 C0.2.1 dX5_entryLike_116 (by decide) ?_
              exact ih2 (i + 1) (by omega) (by rw [hel, drop_c (by omega), hj, elk, if_neg hno]) (by omega) _ (lv_sub hl [0, 4, 5, 6] rfl)
          · have d7 : mj.2.2.2.1.length = X.length := (nI_eq (a := mj.2.2.2.1.length) (b := X.length) (by omega) (by omega)).mp c7
            refine lv_iconst (v := 1) C0.1 C0.2.1 dX5_entryLike_45 (by decide) ?_
            refine lv_goto (tgt := 50) C0.1 C0.2.1 dX5_entryLike_46 (by decide) ?_
            have hbt : ¬ nI j = bt := c2
            refine lv_istore (lv' := [(5, .int 1), (4, .int (nI j)), (3, .int (nI i)), (0, .ref o), (1, .int (nI k)), (2, .int bt)]) C0.1 C0.2.1 dX5_entryLike_50 hl (by decide) rfl (fun ls hl => ?_)
            refine lv_iconst (v := 0) C0.1 C0.2.1 dX5_entryLike_52 (by decide) ?_
            refine lv_istore (lv' := [(6, .int 0), (5, .int 1), (4, .int (nI j)), (3, .int (nI i)), (0, .ref o), (1, .int (nI k)), (2, .int bt)]) C0.1 C0.2.1 dX5_entryLike_53 hl (by decide) rfl (fun ls hl => ?_)
            have loop55 : ∀ (n : Nat) (q : Nat), (q ≤ X.length) → (∀ t, t < q → mj.2.2.2.1.getD t 0 = X.getD t 0) → (X.length - q) < n → ∀ (ls : Array Slot), lv_has ls 7 [(6, .int (nI q)), (5, .int 1), (4, .int (nI j)), (3, .int (nI i)), (0, .ref o), (1, .int (nI k)), (2, .int bt)] → W p l e ({ frames := 0, cells := 0, slots := 0, locals := 0 }) s m ([.ref o, .int (nI k), .int bt] : List Value).toArray below meth c s.heap [] 0 0 (MQ below (vp_Si (fun r => r = elk T X bt E)) ([.ref o, .int (nI k), .int bt] : List Value).toArray s 0 0 (fun _ => False)) (F0 m 55 ls []) := by
              intro n
              induction n with
              | zero => intro q _ _ hz; exact absurd hz (Nat.not_lt_zero _)
              | succ n ih55 =>
                intro q hq hsm hn55  ls  hl
                refine lv_iload C0.1 C0.2.1 dX5_entryLike_55 (lv_at hl 0 rfl) ?_
                refine lv_aload_n C0.1 C0.2.1 dX5_entryLike_57 rfl (lv_at hl 4 rfl) ?_
                refine md_get C0 hP hM 19 (by decide) kw_496 (v := .int (nI X.length)) (by show some (Value.int (z 19)) = _; rw [hX.1]) dX5_entryLike_58 ?_
                refine lv_icmp_ge (tgt := 105) C0.1 C0.2.1 dX5_entryLike_61 (by decide) (fun c12 => ?_) (fun c12 => ?_)
                · have d12 : X.length ≤ q := (nI_leI (a := X.length) (b := q) (by omega) (by omega)).mp c12
                  refine lv_iload C0.1 C0.2.1 dX5_entryLike_105 (lv_at hl 1 rfl) ?_
                  refine lv_if_eq (tgt := 113) C0.1 C0.2.1 dX5_entryLike_107 (by decide) (fun c => absurd c (by decide)) (fun c => ?_)
                  refine lv_iload C0.1 C0.2.1 dX5_entryLike_110 (lv_at hl 2 rfl) ?_
                  exact me_iret C0.1 C0.2.1 B.returns B.notSynchronized rfl rfl (by rw [hel, drop_c (by omega), hj, elk, if_pos ⟨hbt, by rw [folOf_n (by omega) hTj]; exact list_ext (by omega) (fun t ht => hsm t (by omega))⟩]) dX5_entryLike_112
                · have d12 : q < X.length := Nat.not_le.mp (fun h => c12 (nI_le (a := X.length) (b := q) h (by omega)))
                  refine lv_iload C0.1 C0.2.1 dX5_entryLike_64 (lv_at hl 1 rfl) ?_
                  refine lv_if_eq (tgt := 105) C0.1 C0.2.1 dX5_entryLike_66 (by decide) (fun c => absurd c (by decide)) (fun c => ?_)
                  refine lv_aload_n C0.1 C0.2.1 dX5_entryLike_69 rfl (lv_at hl 4 rfl) ?_
                  refine md_get C0 hP hM 7 (by decide) kw_484 (v := .ref ((a 7))) rfl dX5_entryLike_70 ?_
                  refine lv_bipush (v := 60) C0.1 C0.2.1 dX5_entryLike_73 (by decide) ?_
                  refine lv_iload C0.1 C0.2.1 dX5_entryLike_75 (lv_at hl 2 rfl) ?_
                  refine lv_imul C0.1 C0.2.1 dX5_entryLike_77 ?_
                  refine me_topi (y := nI (60 * j)) (pk_mul 60 j) ?_
                  refine lv_iload C0.1 C0.2.1 dX5_entryLike_78 (lv_at hl 0 rfl) ?_
                  refine lv_iadd C0.1 C0.2.1 dX5_entryLike_80 ?_
                  refine me_topi (y := nI ((60 * j) + q)) (nI_add (60 * j) q) ?_
                  refine md_iald C0 hP hM 7 (by decide) (i := ((60 * j) + q)) (by show ((60 * j) + q) < 12000; omega) dX5_entryLike_81 ?_
                  refine lv_aload_n C0.1 C0.2.1 dX5_entryLike_82 rfl (lv_at hl 4 rfl) ?_
                  refine md_get C0 hP hM 18 (by decide) kw_495 (v := .ref ((a 18))) rfl dX5_entryLike_83 ?_
                  refine lv_iload C0.1 C0.2.1 dX5_entryLike_86 (lv_at hl 0 rfl) ?_
                  refine md_iald C0 hP hM 18 (by decide) (i := q) (by show q < 400; omega) dX5_entryLike_88 ?_
                  refine lv_icmp_ne (tgt := 96) C0.1 C0.2.1 dX5_entryLike_89 (by decide) (fun c15 => ?_) (fun c15 => ?_)
                  · have hno : ¬ (¬ nI j = bt ∧ folOf T (nI j) = X) := fun h => by rw [folOf_n (by omega) hTj] at h; exact c15 ((hm7 q (by omega)).trans (by rw [h.2]; exact (hX.2.2 q (by omega)).symm))
                    refine lv_iconst (v := 0) C0.1 C0.2.1 dX5_entryLike_96 (by decide) ?_
                    refine lv_istore (lv' := [(5, .int 0), (6, .int (nI q)), (4, .int (nI j)), (3, .int (nI i)), (0, .ref o), (1, .int (nI k)), (2, .int bt)]) C0.1 C0.2.1 dX5_entryLike_97 hl (by decide) rfl (fun ls hl => ?_)
                    refine lv_iinc (v := nI (q + 1)) (lv' := [(6, .int (nI (q + 1))), (5, .int 0), (4, .int (nI j)), (3, .int (nI i)), (0, .ref o), (1, .int (nI k)), (2, .int bt)]) C0.1 C0.2.1 dX5_entryLike_99 hl (k := 1) rfl (nI_add q 1) (by decide) rfl (fun ls hl => ?_)
                    refine lv_goto (tgt := 55) C0.1 C0.2.1 dX5_entryLike_102 (by decide) ?_
                    refine lv_iload C0.1 C0.2.1 dX5_entryLike_55 (lv_at hl 0 rfl) ?_
                    refine lv_aload_n C0.1 C0.2.1 dX5_entryLike_57 rfl (lv_at hl 4 rfl) ?_
                    refine md_get C0 hP hM 19 (by decide) kw_496 (v := .int (nI X.length)) (by show some (Value.int (z 19)) = _; rw [hX.1]) dX5_entryLike_58 ?_
                    refine lv_icmp_ge (tgt := 105) C0.1 C0.2.1 dX5_entryLike_61 (by decide) (fun c16 => ?_) (fun c16 => ?_)
                    · have d16 : X.length ≤ (q + 1) := (nI_leI (a := X.length) (b := (q + 1)) (by omega) (by omega)).mp c16
                      refine lv_iload C0.1 C0.2.1 dX5_entryLike_105 (lv_at hl 1 rfl) ?_
                      refine lv_if_eq (tgt := 113) C0.1 C0.2.1 dX5_entryLike_107 (by decide) (fun c => ?_) (fun c => absurd c (by decide))
                      refine lv_iinc (v := nI (i + 1)) (lv' := [(3, .int (nI (i + 1))), (6, .int (nI (q + 1))), (5, .int 0), (4, .int (nI j)), (0, .ref o), (1, .int (nI k)), (2, .int bt)]) C0.1 C0.2.1 dX5_entryLike_113 hl (k := 3) rfl (nI_add i 1) (by decide) rfl (fun ls hl => ?_)
                      refine lv_goto (tgt := 2) C0.1 C0.2.1 dX5_entryLike_116 (by decide) ?_
                      exact ih2 (i + 1) (by omega) (by rw [hel, drop_c (by omega), hj, elk, if_neg hno]) (by omega) _ (lv_sub hl [0, 4, 5, 6] rfl)
                    · have d16 : (q + 1) < X.length := Nat.not_le.mp (fun h => c16 (nI_le (a := X.length) (b := (q + 1)) h (by omega)))
                      refine lv_iload C0.1 C0.2.1 dX5_entryLike_64 (lv_at hl 1 rfl) ?_
                      refine lv_if_eq (tgt := 105) C0.1 C0.2.1 dX5_entryLike_66 (by decide) (fun c => ?_) (fun c => absurd c (by decide))
                      refine lv_iload C0.1 C0.2.1 dX5_entryLike_105 (lv_at hl 1 rfl) ?_
                      refine lv_if_eq (tgt := 113) C0.1 C0.2.1 dX5_entryLike_107 (by decide) (fun c => ?_) (fun c => absurd c (by decide))
                      refine lv_iinc (v := nI (i + 1)) (lv' := [(3, .int (nI (i + 1))), (6, .int (nI (q + 1))), (5, .int 0), (4, .int (nI j)), (0, .ref o), (1, .int (nI k)), (2, .int bt)]) C0.1 C0.2.1 dX5_entryLike_113 hl (k := 3) rfl (nI_add i 1) (by decide) rfl (fun ls hl => ?_)
                      refine lv_goto (tgt := 2) C0.1 C0.2.1 dX5_entryLike_116 (by decide) ?_
                      exact ih2 (i + 1) (by omega) (by rw [hel, drop_c (by omega), hj, elk, if_neg hno]) (by omega) _ (lv_sub hl [0, 4, 5, 6] rfl)
                  · refine lv_iconst (v := 1) C0.1 C0.2.1 dX5_entryLike_92 (by decide) ?_
                    refine lv_goto (tgt := 97) C0.1 C0.2.1 dX5_entryLike_93 (by decide) ?_
                    refine lv_istore (lv' := [(5, .int 1), (6, .int (nI q)), (4, .int (nI j)), (3, .int (nI i)), (0, .ref o), (1, .int (nI k)), (2, .int bt)]) C0.1 C0.2.1 dX5_entryLike_97 hl (by decide) rfl (fun ls hl => ?_)
                    refine lv_iinc (v := nI (q + 1)) (lv' := [(6, .int (nI (q + 1))), (5, .int 1), (4, .int (nI j)), (3, .int (nI i)), (0, .ref o), (1, .int (nI k)), (2, .int bt)]) C0.1 C0.2.1 dX5_entryLike_99 hl (k := 1) rfl (nI_add q 1) (by decide) rfl (fun ls hl => ?_)
                    refine lv_goto (tgt := 55) C0.1 C0.2.1 dX5_entryLike_102 (by decide) ?_
                    exact ih55 (q + 1) (by omega) (lt_s hsm ((hm7 q (by omega)).symm.trans (c15.trans (hX.2.2 q (by omega))))) (by omega) _ (lv_sub hl [0, 1, 2, 3, 4, 5, 6] rfl)
            exact loop55 (X.length - 0 + 1) 0 (Nat.zero_le _) (fun t ht => absurd ht (Nat.not_lt_zero t)) (Nat.lt_succ_self _) _ (lv_sub hl [0, 1, 2, 3, 4, 5, 6] rfl)
  exact loop2 (E.length - 0 + 1) 0 (Nat.zero_le _) rfl (Nat.lt_succ_self _) _ (lv_sub hl [0, 1, 2, 3] rfl)
