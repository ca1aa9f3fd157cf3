set_option maxHeartbeats 4000000 in
set_option maxRecDepth 100000 in
/-- thrown() -/
theorem c_X5_thrown (l : Launch) (G : me_G) (B0 : Nat) (w : Me) (o : Nat) (a : Nat → Nat) (F : Nat → Nat → Int32) (z : Nat → Int32) (hM : MD G B0 w o a F z) : CtI l yX5_thrown (Cond.code yX5_thrown cX5_thrown 1 (some .int)) ({ frames := 0, cells := 0, slots := 0, locals := 0 }) G B0 w [.ref o] (fun r => r = z 13) := by
  refine Met.ofW (cc := cX5_thrown) (maxL := 1) (ret := (some .int)) (by decide) rfl ?_
  intro p e s m args below meth c s₁ B hml hv
  obtain ⟨rfl, hK, hP, hKq, hBs⟩ := hv
  have hts := fun w h => atoms_spec (ws := Cond.code yX5_thrown cX5_thrown 1 (some .int) :: tbG) B.pre w (List.mem_cons_of_mem _ h)
  have hown : s.vm.findClass RX5 = some m.cls := findClass_of_methodNamed B.named
  have C0 : Cx G B0 p s m _ c cX5_thrown RX5 := ⟨B.exec, B.bytes, hown, hts, hK, hKq, hBs⟩
  have hS : va_S (me_A B0) s.heap s.heap [] := va_S.rf
  have hl := lv_entry ([.ref o]) (n := 1) (Nat.le_of_ble_eq_true rfl)
  rw [lg_entry_eq]
  generalize (lg_sl ([.ref o]) ++ List.replicate (1 - (lg_sl ([.ref o])).length) Slot.unset).toArray = ls at hl ⊢
  have hl : lv_has ls 1 [(0, .ref o)] := hl
  refine lv_aload_n C0.1 C0.2.1 dX5_thrown_0 rfl (lv_at hl 0 rfl) ?_
  refine md_get C0 hP hM 13 (by decide) kw_490 (v := .int (z 13)) rfl dX5_thrown_1 ?_
  exact me_iret C0.1 C0.2.1 B.returns B.notSynchronized rfl rfl (rfl) dX5_thrown_4

set_option maxHeartbeats 4000000 in
set_option maxRecDepth 100000 in
/-- takeTape() -/
theorem c_X5_takeTape (l : Launch) (G : me_G) (B0 : Nat) (w : Me) (o : Nat) (a : Nat → Nat) (F : Nat → Nat → Int32) (z : Nat → Int32) (hM : MD G B0 w o a F z) (T : List Int32) (hT : Ls F z 0 1 200 T) : CtWV l yX5_takeTape (Cond.code yX5_takeTape cX5_takeTape 2 none) ({ frames := 0, cells := 0, slots := 0, locals := 0 }) G B0 w [.ref o] (fun w' => ∃ (F' : Nat → Nat → Int32) (z' : Nat → Int32), MD G B0 w' o a F' z' ∧ MF w w' o a ∧ SameF F F' [14] ∧ SameZ z z' [1, 15] ∧ Ls F' z' 14 15 200 T ∧ Ls F' z' 0 1 200 []) 0 0 := by
  refine Met.ofW (cc := cX5_takeTape) (maxL := 2) (ret := none) (by decide) rfl ?_
  intro p e s m args below meth c s₁ B hml hv
  obtain ⟨rfl, hK, hP, hKq, hBs⟩ := hv
  have hts := fun w h => atoms_spec (ws := Cond.code yX5_takeTape cX5_takeTape 2 none :: tbG) B.pre w (List.mem_cons_of_mem _ h)
  have hown : s.vm.findClass RX5 = some m.cls := findClass_of_methodNamed B.named
  have C0 : Cx G B0 p s m _ c cX5_takeTape RX5 := ⟨B.exec, B.bytes, hown, hts, hK, hKq, hBs⟩
  have hS : va_S (me_A B0) s.heap s.heap [] := va_S.rf
  have hl := lv_entry ([.ref o]) (n := 2) (Nat.le_of_ble_eq_true rfl)
  rw [lg_entry_eq]
  generalize (lg_sl ([.ref o]) ++ List.replicate (2 - (lg_sl ([.ref o])).length) Slot.unset).toArray = ls at hl ⊢
  have hl : lv_has ls 2 [(0, .ref o)] := hl
  have hMF : MF w w o a := MF.rf
  have hTl := hT.2.1
  refine lv_aload_n C0.1 C0.2.1 dX5_takeTape_0 rfl (lv_at hl 0 rfl) ?_
  refine lv_aload_n C0.1 C0.2.1 dX5_takeTape_1 rfl (lv_at hl 0 rfl) ?_
  refine md_get C0 hP hM 1 (by decide) kw_478 (v := .int (nI T.length)) (by show some (Value.int (z 1)) = _; rw [hT.1]) dX5_takeTape_2 ?_
  refine md_put C0 hP hS hM hMF 15 (by decide) kw_492 rfl rfl rfl dX5_takeTape_5 (fun w1 z1 H locs hz1 hM hMF hP hS => ?_)
  have hz1_1 : z1 1 = nI T.length := by rw [hz1, upd_ne (by decide)]; exact hT.1
  have hz1_15 : z1 15 = nI T.length := by rw [hz1, upd_eq]
  refine lv_iconst (v := 0) C0.1 C0.2.1 dX5_takeTape_8 (by decide) ?_
  refine lv_istore_n (lv' := [(1, .int 0), (0, .ref o)]) C0.1 C0.2.1 dX5_takeTape_9 rfl hl (by decide) rfl (fun ls hl => ?_)
  have loop10 : ∀ (n : Nat) (i : Nat) (w1 : Me) (F1 : Nat → Nat → Int32), (i ≤ T.length) → (MD G B0 w1 o a F1 z1) → (MF w w1 o a) → (SameF F F1 [14]) → (∀ q, q < i → F1 14 q = T.getD q 0) → (T.length - i) < n → ∀ (H : Heap) (locs : List Loc), ∀ (ls : Array Slot), me_P G.1 w1 H → va_S (me_A B0) s.heap H locs → lv_has ls 2 [(1, .int (nI i)), (0, .ref o)] → W p l e ({ frames := 0, cells := 0, slots := 0, locals := 0 }) s m ([.ref o] : List Value).toArray below meth c H locs 0 0 (MQ below (va_Qv (fun w' => ∃ (F' : Nat → Nat → Int32) (z' : Nat → Int32), MD G B0 w' o a F' z' ∧ MF w w' o a ∧ SameF F F' [14] ∧ SameZ z z' [1, 15] ∧ Ls F' z' 14 15 200 T ∧ Ls F' z' 0 1 200 []) (me_W G) (me_A B0)) ([.ref o] : List Value).toArray s 0 0 (me_A B0)) (F0 m 10 ls []) := by
    intro n
    induction n with
    | zero => intro i w1 F1 _ _ _ _ _ hz; exact absurd hz (Nat.not_lt_zero _)
    | succ n ih10 =>
      intro i w1 F1 hil hM hMF hsF hlo hn10 H locs ls hP hS hl
      refine lv_iload_n C0.1 C0.2.1 dX5_takeTape_10 rfl (lv_at hl 0 rfl) ?_
      refine lv_aload_n C0.1 C0.2.1 dX5_takeTape_11 rfl (lv_at hl 1 rfl) ?_
      refine md_get C0 hP hM 1 (by decide) kw_478 (v := .int (nI T.length)) (by show some (Value.int (z1 1)) = _; rw [hz1_1]) dX5_takeTape_12 ?_
      refine lv_icmp_ge (tgt := 36) C0.1 C0.2.1 dX5_takeTape_15 (by decide) (fun c2 => ?_) (fun c2 => ?_)
      · have d2 : T.length ≤ i := (nI_leI (a := T.length) (b := i) (by omega) (by omega)).mp c2
        refine lv_aload_n C0.1 C0.2.1 dX5_takeTape_36 rfl (lv_at hl 1 rfl) ?_
        refine lv_iconst (v := 0) C0.1 C0.2.1 dX5_takeTape_37 (by decide) ?_
        refine md_put C0 hP hS hM hMF 1 (by decide) kw_478 rfl rfl rfl dX5_takeTape_38 (fun w3 z3 H locs hz3 hM hMF hP hS => ?_)
        have hz3_15 : z3 15 = nI T.length := by rw [hz3, upd_ne (by decide)]; exact hz1_15
        have hz3_1 : z3 1 = 0 := by rw [hz3, upd_eq]
        exact me_wvret _ C0.1 C0.2.1 B.returns B.notSynchronized hP hS (Nat.le_of_ble_eq_true rfl) (Nat.le_of_ble_eq_true rfl) (⟨F1, z3, hM, hMF, hsF, ((SameZ.rf.wr hz1 (by decide)).wr hz3 (by decide)), ⟨hz3_15, by omega, fun q hq => hlo q (by omega)⟩, Ls.nil hz3_1⟩) dX5_takeTape_41
      · have d2 : i < T.length := Nat.not_le.mp (fun h => c2 (nI_le (a := T.length) (b := i) h (by omega)))
        refine lv_aload_n C0.1 C0.2.1 dX5_takeTape_18 rfl (lv_at hl 1 rfl) ?_
        refine md_get C0 hP hM 14 (by decide) kw_491 (v := .ref ((a 14))) rfl dX5_takeTape_19 ?_
        refine lv_iload_n C0.1 C0.2.1 dX5_takeTape_22 rfl (lv_at hl 0 rfl) ?_
        refine lv_aload_n C0.1 C0.2.1 dX5_takeTape_23 rfl (lv_at hl 1 rfl) ?_
        refine md_get C0 hP hM 0 (by decide) kw_477 (v := .ref ((a 0))) rfl dX5_takeTape_24 ?_
        refine lv_iload_n C0.1 C0.2.1 dX5_takeTape_27 rfl (lv_at hl 0 rfl) ?_
        refine md_iald C0 hP hM 0 (by decide) (i := i) (by show i < 200; omega) dX5_takeTape_28 ?_
        refine md_iast C0 hP hS hM hMF 14 (by decide) (i := i) (by show i < 200; omega) dX5_takeTape_29 (fun w4 F4 H locs hF4 hM hMF hP hS => ?_)
        refine lv_iinc (v := nI (i + 1)) (lv' := [(1, .int (nI (i + 1))), (0, .ref o)]) C0.1 C0.2.1 dX5_takeTape_30 hl (k := 0) rfl (nI_add i 1) (by decide) rfl (fun ls hl => ?_)
        refine lv_goto (tgt := 10) C0.1 C0.2.1 dX5_takeTape_33 (by decide) ?_
        exact ih10 (i + 1) _ _ (by omega) hM hMF (hsF.wr hF4 (by decide)) (by rw [hF4, uF_s]; exact lt_s (fun q hq => by rw [upd_ne (by omega)]; exact hlo q hq) (by rw [upd_eq, hsF 0 (by decide)]; exact hT.2.2 i (by omega))) (by omega) _ _ _ hP hS (lv_sub hl [0, 1] rfl)
  exact loop10 (T.length - 0 + 1) 0 _ _ (Nat.zero_le _) hM hMF SameF.rf (fun q hq => absurd hq (Nat.not_lt_zero q)) (Nat.lt_succ_self _) _ _ _ hP hS (lv_sub hl [0, 1] rfl)
