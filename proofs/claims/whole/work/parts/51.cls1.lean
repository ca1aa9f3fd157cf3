set_option maxHeartbeats 4000000 in
set_option maxRecDepth 100000 in
/-- nodeAt(number) -/
theorem c_X4_nodeAt (l : Launch) (G : me_G) (B0 : Nat) (w : Me) (D : Nat → Prop) (ad : Nat → Nat → Nat) (ex : Nat → Bool) (R : Nat → Nat → List Int32) (N : Nat → Nat → Int32) (cnt : Int32) (hFN : FN G B0 D w ad ex R N cnt) (T : Tre) (Bn : Nat → List Int32) (hCT : CT ex R N T Bn) (v : Int32) : CtQ l yX4_nodeAt (Cond.code yX4_nodeAt cX4_nodeAt 3 (some (.object "FoldedNames$Node"))) ({ frames := 0, cells := 0, slots := 0, locals := 0 }) G B0 w [.ref (ad 0 0), .int v] (fun r => NdP T ad v r) := by
  refine Met.ofW (cc := cX4_nodeAt) (maxL := 3) (ret := (some (.object "FoldedNames$Node"))) (by decide) rfl ?_
  intro p e s m args below meth c s₁ B hml hv
  obtain ⟨rfl, hK, hP, hKq, hBs⟩ := hv
  have hts := fun w h => atoms_spec (ws := Cond.code yX4_nodeAt cX4_nodeAt 3 (some (.object "FoldedNames$Node")) :: tbG) B.pre w (List.mem_cons_of_mem _ h)
  have hown : s.vm.findClass RX4 = some m.cls := findClass_of_methodNamed B.named
  have C0 : Cx G B0 p s m _ c cX4_nodeAt RX4 := ⟨B.exec, B.bytes, hown, hts, hK, hKq, hBs⟩
  have hS : va_S (me_A B0) s.heap s.heap [] := va_S.rf
  have hl := lv_entry ([.ref (ad 0 0), .int v]) (n := 3) (Nat.le_of_ble_eq_true rfl)
  rw [lg_entry_eq]
  generalize (lg_sl ([.ref (ad 0 0), .int v]) ++ List.replicate (3 - (lg_sl ([.ref (ad 0 0), .int v])).length) Slot.unset).toArray = ls at hl ⊢
  have hl : lv_has ls 3 [(0, .ref (ad 0 0)), (1, .int v)] := hl
  obtain ⟨fsl, hsl, hslf⟩ := hFN.2.1
  refine lv_iload_n C0.1 C0.2.1 dX4_nodeAt_0 rfl (lv_at hl 1 rfl) ?_
  refine lv_if_lt (tgt := 13) C0.1 C0.2.1 dX4_nodeAt_1 (by decide) (fun c1 => ?_) (fun c1 => ?_)
  · refine lv_null C0.1 C0.2.1 dX4_nodeAt_13 ?_
    exact me_qret (v := none) C0.1 C0.2.1 B.returns (Or.inl ⟨_, rfl⟩) B.notSynchronized rfl rfl (Or.inl ⟨at32_neg c1, rfl⟩) dX4_nodeAt_14
  · refine lv_iload_n C0.1 C0.2.1 dX4_nodeAt_4 rfl (lv_at hl 1 rfl) ?_
    refine lv_aload_n C0.1 C0.2.1 dX4_nodeAt_5 rfl (lv_at hl 0 rfl) ?_
    refine me_get C0 hP hFN.1 rfl inX4 3 (by decide) kw_121 rfl dX4_nodeAt_6 ?_
    refine me_nlen C0 hP hsl dX4_nodeAt_9 ?_
    refine lv_icmp_lt (tgt := 15) C0.1 C0.2.1 dX4_nodeAt_10 (by decide) (fun c2 => ?_) (fun c2 => ?_)
    · obtain ⟨hk1, hk2⟩ := nI_lt_of (n := 200) (by omega) c1 c2
      generalize v.toNatClampNeg = k at hk1 hk2
      subst hk2
      refine lv_aload_n C0.1 C0.2.1 dX4_nodeAt_15 rfl (lv_at hl 0 rfl) ?_
      refine me_get C0 hP hFN.1 rfl inX4 3 (by decide) kw_121 rfl dX4_nodeAt_16 ?_
      refine lv_iload_n C0.1 C0.2.1 dX4_nodeAt_19 rfl (lv_at hl 1 rfl) ?_
      refine me_aaldN C0 hP hsl (i := k) (by omega) (by omega) dX4_nodeAt_20 ?_
      cases hxk : ex (k + 1)
      · rw [hslf k hk1, hxk]
        refine W.eq (g2 := F0 m 21 ls [.null]) rfl ?_
        refine lv_astore_nN (lv' := [(2, .null), (0, .ref (ad 0 0)), (1, .int (nI k))]) C0.1 C0.2.1 dX4_nodeAt_21 rfl hl (by decide) rfl (fun ls hl => ?_)
        refine lv_aload_nN C0.1 C0.2.1 dX4_nodeAt_22 rfl (lv_at hl 0 rfl) ?_
        refine lv_ifnullN (tgt := 37) C0.1 C0.2.1 dX4_nodeAt_23 (by decide) ?_
        refine lv_null C0.1 C0.2.1 dX4_nodeAt_37 ?_
        exact me_qret (v := none) C0.1 C0.2.1 B.returns (Or.inl ⟨_, rfl⟩) B.notSynchronized rfl rfl (Or.inl ⟨by rw [at32_n hk1]; cases hTk : T k with | none => rfl | some n => exact absurd ((hCT.2 k n hTk).2.1.symm.trans hxk) (by decide), rfl⟩) dX4_nodeAt_38
      · rw [hslf k hk1, hxk]
        refine W.eq (g2 := F0 m 21 ls [.ref (ad (k + 1) 0)]) rfl ?_
        refine lv_astore_n (lv' := [(2, .ref (ad (k + 1) 0)), (0, .ref (ad 0 0)), (1, .int (nI k))]) C0.1 C0.2.1 dX4_nodeAt_21 rfl hl (by decide) rfl (fun ls hl => ?_)
        refine lv_aload_n C0.1 C0.2.1 dX4_nodeAt_22 rfl (lv_at hl 0 rfl) ?_
        refine lv_ifnull C0.1 C0.2.1 dX4_nodeAt_23 ?_
        refine lv_aload_n C0.1 C0.2.1 dX4_nodeAt_26 rfl (lv_at hl 0 rfl) ?_
        refine me_get C0 hP (hFN.2.2.1 k hxk) rfl inX1 4 (by decide) kw_90 rfl dX4_nodeAt_27 ?_
        refine lv_if_eq (tgt := 37) C0.1 C0.2.1 dX4_nodeAt_30 (by decide) (fun c3 => ?_) (fun c3 => ?_)
        · refine lv_null C0.1 C0.2.1 dX4_nodeAt_37 ?_
          exact me_qret (v := none) C0.1 C0.2.1 B.returns (Or.inl ⟨_, rfl⟩) B.notSynchronized rfl rfl (Or.inl ⟨by rw [at32_n hk1]; cases hTk : T k with | none => rfl | some n => exact absurd ((hCT.2 k n hTk).2.2.1.symm.trans c3) (by decide), rfl⟩) dX4_nodeAt_38
        · refine lv_aload_n C0.1 C0.2.1 dX4_nodeAt_33 rfl (lv_at hl 0 rfl) ?_
          refine lv_goto (tgt := 38) C0.1 C0.2.1 dX4_nodeAt_34 (by decide) ?_
          exact me_qret (v := some (ad (k + 1) 0)) C0.1 C0.2.1 B.returns (Or.inl ⟨_, rfl⟩) B.notSynchronized rfl rfl (by cases hTk : T k with | none => exact absurd (hCT.1 k hk1 hTk hxk) c3 | some n => exact Or.inr ⟨k, n, hk1, rfl, hTk, rfl⟩) dX4_nodeAt_38
    · refine lv_null C0.1 C0.2.1 dX4_nodeAt_13 ?_
      exact me_qret (v := none) C0.1 C0.2.1 B.returns (Or.inl ⟨_, rfl⟩) B.notSynchronized rfl rfl (Or.inl ⟨at32_big c1 c2, rfl⟩) dX4_nodeAt_14

set_option maxHeartbeats 4000000 in
set_option maxRecDepth 100000 in
/-- directoryAt(number) -/
theorem c_X4_directoryAt (l : Launch) (G : me_G) (B0 : Nat) (w : Me) (D : Nat → Prop) (ad : Nat → Nat → Nat) (ex : Nat → Bool) (R : Nat → Nat → List Int32) (N : Nat → Nat → Int32) (cnt : Int32) (hFN : FN G B0 D w ad ex R N cnt) (T : Tre) (Bn : Nat → List Int32) (hCT : CT ex R N T Bn) (v : Int32) : CtQ l yX4_directoryAt (Cond.code yX4_directoryAt cX4_directoryAt 3 (some (.object "FoldedNames$Node"))) ({ frames := 1, cells := 0, slots := 0, locals := 22 }) G B0 w [.ref (ad 0 0), .int v] (fun r => NdD T ad v r) := by
  refine Met.ofW (cc := cX4_directoryAt) (maxL := 3) (ret := (some (.object "FoldedNames$Node"))) (by decide) rfl ?_
  intro p e s m args below meth c s₁ B hml hv
  obtain ⟨rfl, hK, hP, hKq, hBs⟩ := hv
  have hts := fun w h => atoms_spec (ws := Cond.code yX4_directoryAt cX4_directoryAt 3 (some (.object "FoldedNames$Node")) :: tbG) B.pre w (List.mem_cons_of_mem _ h)
  have hown : s.vm.findClass RX4 = some m.cls := findClass_of_methodNamed B.named
  have C0 : Cx G B0 p s m _ c cX4_directoryAt RX4 := ⟨B.exec, B.bytes, hown, hts, hK, hKq, hBs⟩
  have hS : va_S (me_A B0) s.heap s.heap [] := va_S.rf
  have hl := lv_entry ([.ref (ad 0 0), .int v]) (n := 3) (Nat.le_of_ble_eq_true rfl)
  rw [lg_entry_eq]
  generalize (lg_sl ([.ref (ad 0 0), .int v]) ++ List.replicate (3 - (lg_sl ([.ref (ad 0 0), .int v])).length) Slot.unset).toArray = ls at hl ⊢
  have hl : lv_has ls 3 [(0, .ref (ad 0 0)), (1, .int v)] := hl
  refine lv_aload_n C0.1 C0.2.1 dX4_directoryAt_0 rfl (lv_at hl 0 rfl) ?_
  refine lv_iload_n C0.1 C0.2.1 dX4_directoryAt_1 rfl (lv_at hl 1 rfl) ?_
  refine me_cVq (n := 1) C0 hml hP hS (c_X4_nodeAt l G B0 w D ad ex R N cnt hFN T Bn hCT v) ⟨kw_272, kw_31, kw_269, ⟨by decide, by decide, by decide +kernel⟩, ⟨rfl, rfl⟩, ⟨Nat.le_of_ble_eq_true rfl, Nat.le_of_ble_eq_true rfl⟩⟩ kw_271 kw_2 hFN.1 rfl rfl hl.1 rfl (Nat.le_of_ble_eq_true rfl) ⟨Nat.le_of_ble_eq_true rfl, Nat.le_of_ble_eq_true rfl⟩ dX4_directoryAt_2 (fun r1 hr1 => ?_)
  rcases hr1 with ⟨hnok, rfl⟩ | ⟨k, n, hk, rfl, hTk, rfl⟩
  · refine W.eq (g2 := F0 m 5 ls [.null]) rfl ?_
    refine lv_astore_nN (lv' := [(2, .null), (0, .ref (ad 0 0)), (1, .int v)]) C0.1 C0.2.1 dX4_directoryAt_5 rfl hl (by decide) rfl (fun ls hl => ?_)
    refine lv_aload_nN C0.1 C0.2.1 dX4_directoryAt_6 rfl (lv_at hl 0 rfl) ?_
    refine lv_ifnullN (tgt := 21) C0.1 C0.2.1 dX4_directoryAt_7 (by decide) ?_
    refine lv_null C0.1 C0.2.1 dX4_directoryAt_21 ?_
    exact me_qret (v := none) C0.1 C0.2.1 B.returns (Or.inl ⟨_, rfl⟩) B.notSynchronized rfl rfl (Or.inl ⟨noD_at hnok, rfl⟩) dX4_directoryAt_22
  · obtain ⟨hk200, hxk, hnk0, hnk1, hnk2, hrk1, hrk3, hrk5, hrk7⟩ := hCT.2 k n hTk
    refine W.eq (g2 := F0 m 5 ls [.ref (ad (k + 1) 0)]) rfl ?_
    refine lv_astore_n (lv' := [(2, .ref (ad (k + 1) 0)), (0, .ref (ad 0 0)), (1, .int (nI k))]) C0.1 C0.2.1 dX4_directoryAt_5 rfl hl (by decide) rfl (fun ls hl => ?_)
    refine lv_aload_n C0.1 C0.2.1 dX4_directoryAt_6 rfl (lv_at hl 0 rfl) ?_
    refine lv_ifnull C0.1 C0.2.1 dX4_directoryAt_7 ?_
    refine lv_aload_n C0.1 C0.2.1 dX4_directoryAt_10 rfl (lv_at hl 0 rfl) ?_
    refine me_get C0 hP (hFN.2.2.1 k hxk) rfl inX1 5 (by decide) kw_92 rfl dX4_directoryAt_11 ?_
    refine me_topi (y := n.1) hnk1 ?_
    refine lv_if_eq (tgt := 21) C0.1 C0.2.1 dX4_directoryAt_14 (by decide) (fun c2 => ?_) (fun c2 => ?_)
    · refine lv_null C0.1 C0.2.1 dX4_directoryAt_21 ?_
      exact me_qret (v := none) C0.1 C0.2.1 B.returns (Or.inl ⟨_, rfl⟩) B.notSynchronized rfl rfl (Or.inl ⟨by rw [noD_n hk hTk, if_pos c2], rfl⟩) dX4_directoryAt_22
    · refine lv_aload_n C0.1 C0.2.1 dX4_directoryAt_17 rfl (lv_at hl 0 rfl) ?_
      refine lv_goto (tgt := 22) C0.1 C0.2.1 dX4_directoryAt_18 (by decide) ?_
      exact me_qret (v := some (ad (k + 1) 0)) C0.1 C0.2.1 B.returns (Or.inl ⟨_, rfl⟩) B.notSynchronized rfl rfl (Or.inr ⟨k, n, hk, rfl, hTk, c2, (by rw [noD_n hk hTk, if_neg c2]), rfl⟩) dX4_directoryAt_22

set_option maxHeartbeats 4000000 in
set_option maxRecDepth 100000 in
/-- freeNumber() -/
theorem c_X4_freeNumber (l : Launch) (G : me_G) (B0 : Nat) (w : Me) (D : Nat → Prop) (ad : Nat → Nat → Nat) (ex : Nat → Bool) (R : Nat → Nat → List Int32) (N : Nat → Nat → Int32) (cnt : Int32) (hFN : FN G B0 D w ad ex R N cnt) (T : Tre) (Bn : Nat → List Int32) (hCT : CT ex R N T Bn) : CtI l yX4_freeNumber (Cond.code yX4_freeNumber cX4_freeNumber 2 (some .int)) ({ frames := 1, cells := 0, slots := 0, locals := 22 }) G B0 w [.ref (ad 0 0)] (fun r => r = frF T 200 0) := by
  refine Met.ofW (cc := cX4_freeNumber) (maxL := 2) (ret := (some .int)) (by decide) rfl ?_
  intro p e s m args below meth c s₁ B hml hv
  obtain ⟨rfl, hK, hP, hKq, hBs⟩ := hv
  have hts := fun w h => atoms_spec (ws := Cond.code yX4_freeNumber cX4_freeNumber 2 (some .int) :: tbG) B.pre w (List.mem_cons_of_mem _ h)
  have hown : s.vm.findClass RX4 = some m.cls := findClass_of_methodNamed B.named
  have C0 : Cx G B0 p s m _ c cX4_freeNumber RX4 := ⟨B.exec, B.bytes, hown, hts, hK, hKq, hBs⟩
  have hS : va_S (me_A B0) s.heap s.heap [] := va_S.rf
  have hl := lv_entry ([.ref (ad 0 0)]) (n := 2) (Nat.le_of_ble_eq_true rfl)
  rw [lg_entry_eq]
  generalize (lg_sl ([.ref (ad 0 0)]) ++ List.replicate (2 - (lg_sl ([.ref (ad 0 0)])).length) Slot.unset).toArray = ls at hl ⊢
  have hl : lv_has ls 2 [(0, .ref (ad 0 0))] := hl
  obtain ⟨fsl, hsl, hslf⟩ := hFN.2.1
  refine lv_iconst (v := 0) C0.1 C0.2.1 dX4_freeNumber_0 (by decide) ?_
  refine lv_istore_n (lv' := [(1, .int 0), (0, .ref (ad 0 0))]) C0.1 C0.2.1 dX4_freeNumber_1 rfl hl (by decide) rfl (fun ls hl => ?_)
  have loop2 : ∀ (n : Nat) (i : Nat), (i ≤ 200) → (frF T 200 0 = frF T (200 - i) i) → (200 - i) < n → ∀ (ls : Array Slot), lv_has ls 2 [(1, .int (nI i)), (0, .ref (ad 0 0))] → W p l e ({ frames := 1, cells := 0, slots := 0, locals := 22 }) s m ([.ref (ad 0 0)] : List Value).toArray below meth c s.heap [] 0 0 (MQ below (vp_Si (fun r => r = frF T 200 0)) ([.ref (ad 0 0)] : List Value).toArray s 0 0 (fun _ => False)) (F0 m 2 ls []) := by
    intro n
    induction n with
    | zero => intro i _ _ hz; exact absurd hz (Nat.not_lt_zero _)
    | succ n ih2 =>
      intro i hil hfr hn2  ls  hl
      refine lv_iload_n C0.1 C0.2.1 dX4_freeNumber_2 rfl (lv_at hl 0 rfl) ?_
      refine lv_aload_n C0.1 C0.2.1 dX4_freeNumber_3 rfl (lv_at hl 1 rfl) ?_
      refine me_get C0 hP hFN.1 rfl inX4 3 (by decide) kw_121 rfl dX4_freeNumber_4 ?_
      refine me_nlen C0 hP hsl dX4_freeNumber_7 ?_
      refine lv_icmp_ge (tgt := 27) C0.1 C0.2.1 dX4_freeNumber_8 (by decide) (fun c1 => ?_) (fun c1 => ?_)
      · have d1 : 200 ≤ i := (nI_leI (a := 200) (b := i) (by omega) (by omega)).mp c1
        refine lv_iconst (v := (-1)) C0.1 C0.2.1 dX4_freeNumber_27 (by decide) ?_
        exact me_iret C0.1 C0.2.1 B.returns B.notSynchronized rfl rfl (by rw [hfr, show 200 - i = 0 by omega]; rfl) dX4_freeNumber_28
      · have d1 : i < 200 := Nat.not_le.mp (fun h => c1 (nI_le (a := 200) (b := i) h (by omega)))
        refine lv_aload_n C0.1 C0.2.1 dX4_freeNumber_11 rfl (lv_at hl 1 rfl) ?_
        refine lv_iload_n C0.1 C0.2.1 dX4_freeNumber_12 rfl (lv_at hl 0 rfl) ?_
        refine me_cVq (n := 1) C0 hml hP hS (c_X4_nodeAt l G B0 w D ad ex R N cnt hFN T Bn hCT (nI i)) ⟨kw_272, kw_31, kw_269, ⟨by decide, by decide, by decide +kernel⟩, ⟨rfl, rfl⟩, ⟨Nat.le_of_ble_eq_true rfl, Nat.le_of_ble_eq_true rfl⟩⟩ kw_271 kw_2 hFN.1 rfl rfl hl.1 rfl (Nat.le_of_ble_eq_true rfl) ⟨Nat.le_of_ble_eq_true rfl, Nat.le_of_ble_eq_true rfl⟩ dX4_freeNumber_13 (fun r2 hr2 => ?_)
        cases hTi : T i
        · have hq := hr2.no (by rw [at32_n (by omega)]; exact hTi)
          subst hq
          refine W.eq (g2 := F0 m 16 ls [.null]) rfl ?_
          refine lv_ifnonnullN C0.1 C0.2.1 dX4_freeNumber_16 ?_
          refine lv_iload_n C0.1 C0.2.1 dX4_freeNumber_19 rfl (lv_at hl 0 rfl) ?_
          exact me_iret C0.1 C0.2.1 B.returns B.notSynchronized rfl rfl (by rw [hfr, show 200 - i = (200 - (i + 1)) + 1 by omega]; exact (frF_n hTi).symm) dX4_freeNumber_20
        · have hq := hr2.so (by omega) hTi
          subst hq
          refine W.eq (g2 := F0 m 16 ls [.ref (ad (i + 1) 0)]) rfl ?_
          refine lv_ifnonnull (tgt := 21) C0.1 C0.2.1 dX4_freeNumber_16 (by decide) ?_
          refine lv_iinc (v := nI (i + 1)) (lv' := [(1, .int (nI (i + 1))), (0, .ref (ad 0 0))]) C0.1 C0.2.1 dX4_freeNumber_21 hl (k := 0) rfl (nI_add i 1) (by decide) rfl (fun ls hl => ?_)
          refine lv_goto (tgt := 2) C0.1 C0.2.1 dX4_freeNumber_24 (by decide) ?_
          exact ih2 (i + 1) (by omega) (by rw [hfr, show 200 - i = (200 - (i + 1)) + 1 by omega]; exact frF_s hTi) (by omega) _ (lv_sub hl [0, 1] rfl)
  exact loop2 201 0 (Nat.zero_le _) rfl (by omega) _ (lv_sub hl [0, 1] rfl)

set_option maxHeartbeats 4000000 in
set_option maxRecDepth 100000 in
/-- entryAsked(directory) -/
theorem c_X4_entryAsked (l : Launch) (G : me_G) (B0 : Nat) (w : Me) (D : Nat → Prop) (ad : Nat → Nat → Nat) (ex : Nat → Bool) (R : Nat → Nat → List Int32) (N : Nat → Nat → Int32) (cnt : Int32) (hFN : FN G B0 D w ad ex R N cnt) (T : Tre) (Bn : Nat → List Int32) (hCT : CT ex R N T Bn) (k : Nat) (n : Nod) (hTk : T k = some n) (X E : List Int32) (hX : R 0 5 = X) (hEd : n.2.2.2.2 = E) (hE : ∀ i, i < E.length → ∃ (j : Nat) (m : Nod), j < 200 ∧ E.getD i 0 = nI j ∧ T j = some m) : CtI l yX4_entryAsked (Cond.code yX4_entryAsked cX4_entryAsked 5 (some .int)) ({ frames := 2, cells := 0, slots := 0, locals := 44 }) G B0 w [.ref (ad 0 0), .ref (ad (k + 1) 0)] (fun r => r = elk T X (-1) E) := by
  refine Met.ofW (cc := cX4_entryAsked) (maxL := 5) (ret := (some .int)) (by decide) rfl ?_
  intro p e s m args below meth c s₁ B hml hv
  obtain ⟨rfl, hK, hP, hKq, hBs⟩ := hv
  have hts := fun w h => atoms_spec (ws := Cond.code yX4_entryAsked cX4_entryAsked 5 (some .int) :: tbG) B.pre w (List.mem_cons_of_mem _ h)
  have hown : s.vm.findClass RX4 = some m.cls := findClass_of_methodNamed B.named
  have C0 : Cx G B0 p s m _ c cX4_entryAsked RX4 := ⟨B.exec, B.bytes, hown, hts, hK, hKq, hBs⟩
  have hS : va_S (me_A B0) s.heap s.heap [] := va_S.rf
  have hl := lv_entry ([.ref (ad 0 0), .ref (ad (k + 1) 0)]) (n := 5) (Nat.le_of_ble_eq_true rfl)
  rw [lg_entry_eq]
  generalize (lg_sl ([.ref (ad 0 0), .ref (ad (k + 1) 0)]) ++ List.replicate (5 - (lg_sl ([.ref (ad 0 0), .ref (ad (k + 1) 0)])).length) Slot.unset).toArray = ls at hl ⊢
  have hl : lv_has ls 5 [(0, .ref (ad 0 0)), (1, .ref (ad (k + 1) 0))] := hl
  obtain ⟨hk200, hxk, -, -, -, -, -, hrk5, hrk7⟩ := hCT.2 k n hTk
  refine lv_iconst (v := 0) C0.1 C0.2.1 dX4_entryAsked_0 (by decide) ?_
  refine lv_istore_n (lv' := [(2, .int 0), (0, .ref (ad 0 0)), (1, .ref (ad (k + 1) 0))]) C0.1 C0.2.1 dX4_entryAsked_1 rfl hl (by decide) rfl (fun ls hl => ?_)
  have loop2 : ∀ (n : Nat) (i : Nat), (i ≤ E.length) → (elk T X (-1) E = elk T X (-1) (E.drop i)) → (E.length - i) < n → ∀ (ls : Array Slot), lv_has ls 5 [(2, .int (nI i)), (0, .ref (ad 0 0)), (1, .ref (ad (k + 1) 0))] → W p l e ({ frames := 2, cells := 0, slots := 0, locals := 44 }) s m ([.ref (ad 0 0), .ref (ad (k + 1) 0)] : List Value).toArray below meth c s.heap [] 0 0 (MQ below (vp_Si (fun r => r = elk T X (-1) E)) ([.ref (ad 0 0), .ref (ad (k + 1) 0)] : List Value).toArray s 0 0 (fun _ => False)) (F0 m 2 ls []) := by
    intro n
    induction n with
    | zero => intro i _ _ hz; exact absurd hz (Nat.not_lt_zero _)
    | succ n ih2 =>
      intro i hil hel hn2  ls  hl
      refine lv_iload_n C0.1 C0.2.1 dX4_entryAsked_2 rfl (lv_at hl 0 rfl) ?_
      refine lv_aload_n C0.1 C0.2.1 dX4_entryAsked_3 rfl (lv_at hl 2 rfl) ?_
      refine me_get C0 hP (hFN.2.2.1 k hxk) rfl inX1 2 (by decide) kw_86 rfl dX4_entryAsked_4 ?_
      refine me_cVi (n := 0) C0 hml hP hS (c_X2_size l G B0 w (ad (k + 1) 5) (ad (k + 1) (5 + 1)) (capR (k + 1) 5) E (hFN.rw0 (k + 1) 5 hxk (Or.inr (Or.inr (Or.inl rfl))) (hrk5.trans hEd))) ⟨kw_141, kw_32, kw_138, ⟨by decide, by decide, by decide +kernel⟩, ⟨rfl, rfl⟩, ⟨Nat.le_of_ble_eq_true rfl, Nat.le_of_ble_eq_true rfl⟩⟩ kw_139 kw_140 (hFN.2.2.2.1 (k + 1) 5 hxk (Or.inr (Or.inr (Or.inl rfl)))).1 rfl rfl hl.1 rfl (Nat.le_of_ble_eq_true rfl) ⟨Nat.le_of_ble_eq_true rfl, Nat.le_of_ble_eq_true rfl⟩ dX4_entryAsked_7 (fun r1 hr1 => ?_)
      subst hr1
      have hlcr1 : E.length ≤ 40 := (hFN.rw0 (k + 1) 5 hxk (Or.inr (Or.inr (Or.inl rfl))) (hrk5.trans hEd)).2.1
      refine lv_icmp_ge (tgt := 57) C0.1 C0.2.1 dX4_entryAsked_10 (by decide) (fun c2 => ?_) (fun c2 => ?_)
      · have d2 : E.length ≤ i := (nI_leI (a := E.length) (b := i) (by omega) (by omega)).mp c2
        refine lv_iconst (v := (-1)) C0.1 C0.2.1 dX4_entryAsked_57 (by decide) ?_
        exact me_iret C0.1 C0.2.1 B.returns B.notSynchronized rfl rfl (by rw [hel, show E.drop i = [] from List.drop_eq_nil_of_le (by omega)]; rfl) dX4_entryAsked_58
      · have d2 : i < E.length := Nat.not_le.mp (fun h => c2 (nI_le (a := E.length) (b := i) h (by omega)))
        refine lv_aload_n C0.1 C0.2.1 dX4_entryAsked_13 rfl (lv_at hl 2 rfl) ?_
        refine me_get C0 hP (hFN.2.2.1 k hxk) rfl inX1 2 (by decide) kw_86 rfl dX4_entryAsked_14 ?_
        refine lv_iload_n C0.1 C0.2.1 dX4_entryAsked_17 rfl (lv_at hl 0 rfl) ?_
        refine me_cVi (n := 1) C0 hml hP hS (c_X2_at l G B0 w (ad (k + 1) 5) (ad (k + 1) (5 + 1)) (capR (k + 1) 5) E (hFN.rw0 (k + 1) 5 hxk (Or.inr (Or.inr (Or.inl rfl))) (hrk5.trans hEd)) (nI i)) ⟨kw_151, kw_32, kw_256, ⟨by decide, by decide, by decide +kernel⟩, ⟨rfl, rfl⟩, ⟨Nat.le_of_ble_eq_true rfl, Nat.le_of_ble_eq_true rfl⟩⟩ kw_149 kw_150 (hFN.2.2.2.1 (k + 1) 5 hxk (Or.inr (Or.inr (Or.inl rfl)))).1 rfl rfl hl.1 rfl (Nat.le_of_ble_eq_true rfl) ⟨Nat.le_of_ble_eq_true rfl, Nat.le_of_ble_eq_true rfl⟩ dX4_entryAsked_18 (fun r3 hr3 => ?_)
        subst hr3
        refine me_topi (y := E.getD i 0) (ra_nat (by omega) (by omega)) ?_
        obtain ⟨j, mj, hj200, hj, hTj⟩ := hE i (by omega)
        refine me_topi (y := nI j) hj ?_
        refine lv_istore_n (lv' := [(3, .int (nI j)), (2, .int (nI i)), (0, .ref (ad 0 0)), (1, .ref (ad (k + 1) 0))]) C0.1 C0.2.1 dX4_entryAsked_21 rfl hl (by decide) rfl (fun ls hl => ?_)
        refine lv_aload_n C0.1 C0.2.1 dX4_entryAsked_22 rfl (lv_at hl 2 rfl) ?_
        refine lv_iload_n C0.1 C0.2.1 dX4_entryAsked_23 rfl (lv_at hl 0 rfl) ?_
        refine me_cVq (n := 1) C0 hml hP hS (c_X4_nodeAt l G B0 w D ad ex R N cnt hFN T Bn hCT (nI j)) ⟨kw_272, kw_31, kw_269, ⟨by decide, by decide, by decide +kernel⟩, ⟨rfl, rfl⟩, ⟨Nat.le_of_ble_eq_true rfl, Nat.le_of_ble_eq_true rfl⟩⟩ kw_271 kw_2 hFN.1 rfl rfl hl.1 rfl (Nat.le_of_ble_eq_true rfl) ⟨Nat.le_of_ble_eq_true rfl, Nat.le_of_ble_eq_true rfl⟩ dX4_entryAsked_24 (fun r4 hr4 => ?_)
        have hsor4 := hr4.so (by omega) hTj
        subst hsor4
        obtain ⟨hj200, hxj, hnj0, hnj1, hnj2, hrj1, hrj3, hrj5, hrj7⟩ := hCT.2 j mj hTj
        refine W.eq (g2 := F0 m 27 ls [.ref (ad (j + 1) 0)]) rfl ?_
        refine lv_astore (lv' := [(4, .ref (ad (j + 1) 0)), (3, .int (nI j)), (2, .int (nI i)), (0, .ref (ad 0 0)), (1, .ref (ad (k + 1) 0))]) C0.1 C0.2.1 dX4_entryAsked_27 hl (by decide) rfl (fun ls hl => ?_)
        refine lv_aload C0.1 C0.2.1 dX4_entryAsked_29 (lv_at hl 0 rfl) ?_
        refine lv_ifnull C0.1 C0.2.1 dX4_entryAsked_31 ?_
        refine lv_aload C0.1 C0.2.1 dX4_entryAsked_34 (lv_at hl 0 rfl) ?_
        refine me_get C0 hP (hFN.2.2.1 j hxj) rfl inX1 1 (by decide) kw_84 rfl dX4_entryAsked_36 ?_
        refine lv_aload_n C0.1 C0.2.1 dX4_entryAsked_39 rfl (lv_at hl 3 rfl) ?_
        refine me_get C0 hP hFN.1 rfl inX4 2 (by decide) kw_120 rfl dX4_entryAsked_40 ?_
        refine me_cVi (n := 1) C0 hml hP hS (c_X2_compareWith l G B0 w (ad (j + 1) 3) (ad (j + 1) (3 + 1)) (capR (j + 1) 3) mj.2.2.2.1 (hFN.rw0 (j + 1) 3 hxj (Or.inr (Or.inl rfl)) hrj3) (ad 0 5) (ad 0 (5 + 1)) (capR 0 5) X (hFN.rw0 0 5 hFN.2.2.2.2.1 (Or.inr (Or.inr rfl)) hX)) ⟨kw_287, kw_32, kw_284, ⟨by decide, by decide, by decide +kernel⟩, ⟨rfl, rfl⟩, ⟨Nat.le_of_ble_eq_true rfl, Nat.le_of_ble_eq_true rfl⟩⟩ kw_285 kw_286 (hFN.2.2.2.1 (j + 1) 3 hxj (Or.inr (Or.inl rfl))).1 rfl rfl hl.1 rfl (Nat.le_of_ble_eq_true rfl) ⟨Nat.le_of_ble_eq_true rfl, Nat.le_of_ble_eq_true rfl⟩ dX4_entryAsked_43 (fun r5 hr5 => ?_)
        refine lv_if_ne (tgt := 51) C0.1 C0.2.1 dX4_entryAsked_46 (by decide) (fun c6 => ?_) (fun c6 => ?_)
        · refine lv_iinc (v := nI (i + 1)) (lv' := [(2, .int (nI (i + 1))), (4, .ref (ad (j + 1) 0)), (3, .int (nI j)), (0, .ref (ad 0 0)), (1, .ref (ad (k + 1) 0))]) C0.1 C0.2.1 dX4_entryAsked_51 hl (k := 2) rfl (nI_add i 1) (by decide) rfl (fun ls hl => ?_)
          refine lv_goto (tgt := 2) C0.1 C0.2.1 dX4_entryAsked_54 (by decide) ?_
          exact ih2 (i + 1) (by omega) (by rw [hel, drop_c (by omega), hj, elk, if_neg (fun q => c6 (by rw [hr5]; exact cmpL_0.mpr ((folOf_n (by omega) hTj).symm.trans q.2)))]) (by omega) _ (lv_sub hl [0, 3, 4] rfl)
        · refine lv_iload_n C0.1 C0.2.1 dX4_entryAsked_49 rfl (lv_at hl 1 rfl) ?_
          exact me_iret C0.1 C0.2.1 B.returns B.notSynchronized rfl rfl (by rw [hel, drop_c (by omega), hj, elk, if_pos ⟨nI_nm1 (by omega), by rw [folOf_n (by omega) hTj]; exact cmpL_0.mp (hr5 ▸ c6)⟩]) dX4_entryAsked_50
  exact loop2 (E.length - 0 + 1) 0 (Nat.zero_le _) rfl (Nat.lt_succ_self _) _ (lv_sub hl [0, 1, 2] rfl)

set_option maxHeartbeats 4000000 in
set_option maxRecDepth 100000 in
/-- placeByName(directory) -/
theorem c_X4_placeByName (l : Launch) (G : me_G) (B0 : Nat) (w : Me) (D : Nat → Prop) (ad : Nat → Nat → Nat) (ex : Nat → Bool) (R : Nat → Nat → List Int32) (N : Nat → Nat → Int32) (cnt : Int32) (hFN : FN G B0 D w ad ex R N cnt) (T : Tre) (Bn : Nat → List Int32) (hCT : CT ex R N T Bn) (k : Nat) (n : Nod) (hTk : T k = some n) (X E : List Int32) (hX : R 0 5 = X) (hEd : Bn k = E) (hE : ∀ i, i < E.length → ∃ (j : Nat) (m : Nod), j < 200 ∧ E.getD i 0 = nI j ∧ T j = some m) : CtI l yX4_placeByName (Cond.code yX4_placeByName cX4_placeByName 5 (some .int)) ({ frames := 2, cells := 0, slots := 0, locals := 44 }) G B0 w [.ref (ad 0 0), .ref (ad (k + 1) 0)] (fun r => r = nI (plB T X E)) := by
  refine Met.ofW (cc := cX4_placeByName) (maxL := 5) (ret := (some .int)) (by decide) rfl ?_
  intro p e s m args below meth c s₁ B hml hv
  obtain ⟨rfl, hK, hP, hKq, hBs⟩ := hv
  have hts := fun w h => atoms_spec (ws := Cond.code yX4_placeByName cX4_placeByName 5 (some .int) :: tbG) B.pre w (List.mem_cons_of_mem _ h)
  have hown : s.vm.findClass RX4 = some m.cls := findClass_of_methodNamed B.named
  have C0 : Cx G B0 p s m _ c cX4_placeByName RX4 := ⟨B.exec, B.bytes, hown, hts, hK, hKq, hBs⟩
  have hS : va_S (me_A B0) s.heap s.heap [] := va_S.rf
  have hl := lv_entry ([.ref (ad 0 0), .ref (ad (k + 1) 0)]) (n := 5) (Nat.le_of_ble_eq_true rfl)
  rw [lg_entry_eq]
  generalize (lg_sl ([.ref (ad 0 0), .ref (ad (k + 1) 0)]) ++ List.replicate (5 - (lg_sl ([.ref (ad 0 0), .ref (ad (k + 1) 0)])).length) Slot.unset).toArray = ls at hl ⊢
  have hl : lv_has ls 5 [(0, .ref (ad 0 0)), (1, .ref (ad (k + 1) 0))] := hl
  obtain ⟨hk200, hxk, -, -, -, -, -, hrk5, hrk7⟩ := hCT.2 k n hTk
  refine lv_aload_n C0.1 C0.2.1 dX4_placeByName_0 rfl (lv_at hl 1 rfl) ?_
  refine me_get C0 hP (hFN.2.2.1 k hxk) rfl inX1 3 (by decide) kw_88 rfl dX4_placeByName_1 ?_
  refine me_cVi (n := 0) C0 hml hP hS (c_X2_size l G B0 w (ad (k + 1) 7) (ad (k + 1) (7 + 1)) (capR (k + 1) 7) E (hFN.rw0 (k + 1) 7 hxk (Or.inr (Or.inr (Or.inr rfl))) (hrk7.trans hEd))) ⟨kw_141, kw_32, kw_138, ⟨by decide, by decide, by decide +kernel⟩, ⟨rfl, rfl⟩, ⟨Nat.le_of_ble_eq_true rfl, Nat.le_of_ble_eq_true rfl⟩⟩ kw_139 kw_140 (hFN.2.2.2.1 (k + 1) 7 hxk (Or.inr (Or.inr (Or.inr rfl)))).1 rfl rfl hl.1 rfl (Nat.le_of_ble_eq_true rfl) ⟨Nat.le_of_ble_eq_true rfl, Nat.le_of_ble_eq_true rfl⟩ dX4_placeByName_4 (fun r1 hr1 => ?_)
  subst hr1
  have hlcr1 : E.length ≤ 40 := (hFN.rw0 (k + 1) 7 hxk (Or.inr (Or.inr (Or.inr rfl))) (hrk7.trans hEd)).2.1
  refine lv_istore_n (lv' := [(2, .int (nI E.length)), (0, .ref (ad 0 0)), (1, .ref (ad (k + 1) 0))]) C0.1 C0.2.1 dX4_placeByName_7 rfl hl (by decide) rfl (fun ls hl => ?_)
  refine lv_iconst (v := 0) C0.1 C0.2.1 dX4_placeByName_8 (by decide) ?_
  refine lv_istore_n (lv' := [(3, .int 0), (2, .int (nI E.length)), (0, .ref (ad 0 0)), (1, .ref (ad (k + 1) 0))]) C0.1 C0.2.1 dX4_placeByName_9 rfl hl (by decide) rfl (fun ls hl => ?_)
  have loop10 : ∀ (n : Nat) (i : Nat), (i ≤ E.length) → (plB T X E = i + plB T X (E.drop i)) → (E.length - i) < n → ∀ (ls : Array Slot), lv_has ls 5 [(3, .int (nI i)), (2, .int (nI E.length)), (0, .ref (ad 0 0)), (1, .ref (ad (k + 1) 0))] → W p l e ({ frames := 2, cells := 0, slots := 0, locals := 44 }) s m ([.ref (ad 0 0), .ref (ad (k + 1) 0)] : List Value).toArray below meth c s.heap [] 0 0 (MQ below (vp_Si (fun r => r = nI (plB T X E))) ([.ref (ad 0 0), .ref (ad (k + 1) 0)] : List Value).toArray s 0 0 (fun _ => False)) (F0 m 10 ls []) := by
    intro n
    induction n with
    | zero => intro i _ _ hz; exact absurd hz (Nat.not_lt_zero _)
    | succ n ih10 =>
      intro i hil hel hn10  ls  hl
      refine lv_iload_n C0.1 C0.2.1 dX4_placeByName_10 rfl (lv_at hl 0 rfl) ?_
      refine lv_iload_n C0.1 C0.2.1 dX4_placeByName_11 rfl (lv_at hl 1 rfl) ?_
      refine lv_icmp_ge (tgt := 57) C0.1 C0.2.1 dX4_placeByName_12 (by decide) (fun c2 => ?_) (fun c2 => ?_)
      · have d2 : E.length ≤ i := (nI_leI (a := E.length) (b := i) (by omega) (by omega)).mp c2
        refine lv_iload_n C0.1 C0.2.1 dX4_placeByName_57 rfl (lv_at hl 1 rfl) ?_
        exact me_iret C0.1 C0.2.1 B.returns B.notSynchronized rfl rfl (by rw [hel, show E.drop i = [] from List.drop_eq_nil_of_le (by omega), show i = E.length by omega]; rfl) dX4_placeByName_58
      · have d2 : i < E.length := Nat.not_le.mp (fun h => c2 (nI_le (a := E.length) (b := i) h (by omega)))
        refine lv_aload_n C0.1 C0.2.1 dX4_placeByName_15 rfl (lv_at hl 2 rfl) ?_
        refine lv_aload_n C0.1 C0.2.1 dX4_placeByName_16 rfl (lv_at hl 3 rfl) ?_
        refine me_get C0 hP (hFN.2.2.1 k hxk) rfl inX1 3 (by decide) kw_88 rfl dX4_placeByName_17 ?_
        refine lv_iload_n C0.1 C0.2.1 dX4_placeByName_20 rfl (lv_at hl 0 rfl) ?_
        refine me_cVi (n := 1) C0 hml hP hS (c_X2_at l G B0 w (ad (k + 1) 7) (ad (k + 1) (7 + 1)) (capR (k + 1) 7) E (hFN.rw0 (k + 1) 7 hxk (Or.inr (Or.inr (Or.inr rfl))) (hrk7.trans hEd)) (nI i)) ⟨kw_151, kw_32, kw_256, ⟨by decide, by decide, by decide +kernel⟩, ⟨rfl, rfl⟩, ⟨Nat.le_of_ble_eq_true rfl, Nat.le_of_ble_eq_true rfl⟩⟩ kw_149 kw_150 (hFN.2.2.2.1 (k + 1) 7 hxk (Or.inr (Or.inr (Or.inr rfl)))).1 rfl rfl hl.1 rfl (Nat.le_of_ble_eq_true rfl) ⟨Nat.le_of_ble_eq_true rfl, Nat.le_of_ble_eq_true rfl⟩ dX4_placeByName_21 (fun r3 hr3 => ?_)
        subst hr3
        refine me_topi (y := E.getD i 0) (ra_nat (by omega) (by omega)) ?_
        obtain ⟨j, mj, hj200, hj, hTj⟩ := hE i (by omega)
        refine me_topi (y := nI j) hj ?_
        refine me_cVq (n := 1) C0 hml hP hS (c_X4_nodeAt l G B0 w D ad ex R N cnt hFN T Bn hCT (nI j)) ⟨kw_272, kw_31, kw_269, ⟨by decide, by decide, by decide +kernel⟩, ⟨rfl, rfl⟩, ⟨Nat.le_of_ble_eq_true rfl, Nat.le_of_ble_eq_true rfl⟩⟩ kw_271 kw_2 hFN.1 rfl rfl hl.1 rfl (Nat.le_of_ble_eq_true rfl) ⟨Nat.le_of_ble_eq_true rfl, Nat.le_of_ble_eq_true rfl⟩ dX4_placeByName_24 (fun r4 hr4 => ?_)
        have hsor4 := hr4.so (by omega) hTj
        subst hsor4
        obtain ⟨hj200, hxj, hnj0, hnj1, hnj2, hrj1, hrj3, hrj5, hrj7⟩ := hCT.2 j mj hTj
        refine W.eq (g2 := F0 m 27 ls [.ref (ad (j + 1) 0)]) rfl ?_
        refine lv_astore (lv' := [(4, .ref (ad (j + 1) 0)), (3, .int (nI i)), (2, .int (nI E.length)), (0, .ref (ad 0 0)), (1, .ref (ad (k + 1) 0))]) C0.1 C0.2.1 dX4_placeByName_27 hl (by decide) rfl (fun ls hl => ?_)
        refine lv_aload C0.1 C0.2.1 dX4_placeByName_29 (lv_at hl 0 rfl) ?_
        refine lv_ifnull C0.1 C0.2.1 dX4_placeByName_31 ?_
        refine lv_aload C0.1 C0.2.1 dX4_placeByName_34 (lv_at hl 0 rfl) ?_
        refine me_get C0 hP (hFN.2.2.1 j hxj) rfl inX1 1 (by decide) kw_84 rfl dX4_placeByName_36 ?_
        refine lv_aload_n C0.1 C0.2.1 dX4_placeByName_39 rfl (lv_at hl 3 rfl) ?_
        refine me_get C0 hP hFN.1 rfl inX4 2 (by decide) kw_120 rfl dX4_placeByName_40 ?_
        refine me_cVi (n := 1) C0 hml hP hS (c_X2_compareWith l G B0 w (ad (j + 1) 3) (ad (j + 1) (3 + 1)) (capR (j + 1) 3) mj.2.2.2.1 (hFN.rw0 (j + 1) 3 hxj (Or.inr (Or.inl rfl)) hrj3) (ad 0 5) (ad 0 (5 + 1)) (capR 0 5) X (hFN.rw0 0 5 hFN.2.2.2.2.1 (Or.inr (Or.inr rfl)) hX)) ⟨kw_287, kw_32, kw_284, ⟨by decide, by decide, by decide +kernel⟩, ⟨rfl, rfl⟩, ⟨Nat.le_of_ble_eq_true rfl, Nat.le_of_ble_eq_true rfl⟩⟩ kw_285 kw_286 (hFN.2.2.2.1 (j + 1) 3 hxj (Or.inr (Or.inl rfl))).1 rfl rfl hl.1 rfl (Nat.le_of_ble_eq_true rfl) ⟨Nat.le_of_ble_eq_true rfl, Nat.le_of_ble_eq_true rfl⟩ dX4_placeByName_43 (fun r5 hr5 => ?_)
        refine lv_if_le (tgt := 51) C0.1 C0.2.1 dX4_placeByName_46 (by decide) (fun c6 => ?_) (fun c6 => ?_)
        · refine lv_iinc (v := nI (i + 1)) (lv' := [(3, .int (nI (i + 1))), (4, .ref (ad (j + 1) 0)), (2, .int (nI E.length)), (0, .ref (ad 0 0)), (1, .ref (ad (k + 1) 0))]) C0.1 C0.2.1 dX4_placeByName_51 hl (k := 1) rfl (nI_add i 1) (by decide) rfl (fun ls hl => ?_)
          refine lv_goto (tgt := 10) C0.1 C0.2.1 dX4_placeByName_54 (by decide) ?_
          exact ih10 (i + 1) (by omega) (by rw [hel, drop_c (by omega), hj, plB, folOf_n (by omega) hTj, if_neg (by rw [← hr5]; exact Int32.not_lt.mpr c6)]; omega) (by omega) _ (lv_sub hl [0, 2, 3, 4] rfl)
        · refine lv_iload_n C0.1 C0.2.1 dX4_placeByName_49 rfl (lv_at hl 1 rfl) ?_
          exact me_iret C0.1 C0.2.1 B.returns B.notSynchronized rfl rfl (by rw [hel, drop_c (by omega), hj, plB, folOf_n (by omega) hTj, if_pos (by rw [← hr5]; exact Int32.not_le.mp c6)]; rfl) dX4_placeByName_50
  exact loop10 (E.length - 0 + 1) 0 (Nat.zero_le _) (by rw [List.drop_zero, Nat.zero_add]) (Nat.lt_succ_self _) _ (lv_sub hl [0, 1, 2, 3] rfl)
