set_option maxHeartbeats 4000000 in
set_option maxRecDepth 100000 in
/-- setName(v) -/
theorem c_X5_setName (l : Launch) (G : me_G) (B0 : Nat) (w : Me) (o : Nat) (a : Nat → Nat) (F : Nat → Nat → Int32) (z : Nat → Int32) (hM : MD G B0 w o a F z) (k : Nat) (hk : k < 200) (Hd : List Int32) (hH : Ls F z 14 15 200 Hd) (hH6 : Hd.length ≤ 60) (X : List Int32) (hX : Ls F z 18 19 400 X) (hX6 : X.length ≤ 60) : CtWV l yX5_setName (Cond.code yX5_setName cX5_setName 3 none) ({ frames := 0, cells := 0, slots := 0, locals := 0 }) G B0 w [.ref o, .int (nI k)] (fun w' => ∃ (F' : Nat → Nat → Int32) (z' : Nat → Int32), MD G B0 w' o a F' z' ∧ MF w w' o a ∧ z' = z ∧ SameF F F' [5, 6, 7, 8] ∧ F' 6 = upd (F 6) k (nI Hd.length) ∧ F' 8 = upd (F 8) k (nI X.length) ∧ (∀ i, i < Hd.length → F' 5 (60 * k + i) = Hd.getD i 0) ∧ (∀ q, q < 60 * k ∨ 60 * k + 60 ≤ q → F' 5 q = F 5 q) ∧ (∀ i, i < X.length → F' 7 (60 * k + i) = X.getD i 0) ∧ (∀ q, q < 60 * k ∨ 60 * k + 60 ≤ q → F' 7 q = F 7 q)) 0 0 := by
  refine Met.ofW (cc := cX5_setName) (maxL := 3) (ret := none) (by decide) rfl ?_
  intro p e s m args below meth c s₁ B hml hv
  obtain ⟨rfl, hK, hP, hKq, hBs⟩ := hv
  have hts := fun w h => atoms_spec (ws := Cond.code yX5_setName cX5_setName 3 none :: tbG) B.pre w (List.mem_cons_of_mem _ h)
  have hown : s.vm.findClass RX5 = some m.cls := findClass_of_methodNamed B.named
  have C0 : Cx G B0 p s m _ c cX5_setName RX5 := ⟨B.exec, B.bytes, hown, hts, hK, hKq, hBs⟩
  have hS : va_S (me_A B0) s.heap s.heap [] := va_S.rf
  have hl := lv_entry ([.ref o, .int (nI k)]) (n := 3) (Nat.le_of_ble_eq_true rfl)
  rw [lg_entry_eq]
  generalize (lg_sl ([.ref o, .int (nI k)]) ++ List.replicate (3 - (lg_sl ([.ref o, .int (nI k)])).length) Slot.unset).toArray = ls at hl ⊢
  have hl : lv_has ls 3 [(0, .ref o), (1, .int (nI k))] := hl
  have hMF : MF w w o a := MF.rf
  refine lv_aload_n C0.1 C0.2.1 dX5_setName_0 rfl (lv_at hl 0 rfl) ?_
  refine md_get C0 hP hM 6 (by decide) kw_483 (v := .ref ((a 6))) rfl dX5_setName_1 ?_
  refine lv_iload_n C0.1 C0.2.1 dX5_setName_4 rfl (lv_at hl 1 rfl) ?_
  refine lv_aload_n C0.1 C0.2.1 dX5_setName_5 rfl (lv_at hl 0 rfl) ?_
  refine md_get C0 hP hM 15 (by decide) kw_492 (v := .int (nI Hd.length)) (by show some (Value.int (z 15)) = _; rw [hH.1]) dX5_setName_6 ?_
  refine md_iast C0 hP hS hM hMF 6 (by decide) (i := k) (by show k < 200; omega) dX5_setName_9 (fun w1 F1 H locs hF1 hM hMF hP hS => ?_)
  refine lv_iconst (v := 0) C0.1 C0.2.1 dX5_setName_10 (by decide) ?_
  refine lv_istore_n (lv' := [(2, .int 0), (0, .ref o), (1, .int (nI k))]) C0.1 C0.2.1 dX5_setName_11 rfl hl (by decide) rfl (fun ls hl => ?_)
  have loop12 : ∀ (n : Nat) (i : Nat) (w12 : Me) (G12 : Nat → Nat → Int32), (i ≤ Hd.length) → (MD G B0 w12 o a G12 z) → (MF w w12 o a) → (SameF F G12 [5, 6]) → (G12 6 = upd (F 6) k (nI Hd.length)) → (∀ q, q < i → G12 5 (60 * k + q) = Hd.getD q 0) → (∀ q, q < 60 * k ∨ 60 * k + 60 ≤ q → G12 5 q = F 5 q) → (Hd.length - i) < n → ∀ (H : Heap) (locs : List Loc), ∀ (ls : Array Slot), me_P G.1 w12 H → va_S (me_A B0) s.heap H locs → lv_has ls 3 [(2, .int (nI i)), (0, .ref o), (1, .int (nI k))] → W p l e ({ frames := 0, cells := 0, slots := 0, locals := 0 }) s m ([.ref o, .int (nI k)] : List Value).toArray below meth c H locs 0 0 (MQ below (va_Qv (fun w' => ∃ (F' : Nat → Nat → Int32) (z' : Nat → Int32), MD G B0 w' o a F' z' ∧ MF w w' o a ∧ z' = z ∧ SameF F F' [5, 6, 7, 8] ∧ F' 6 = upd (F 6) k (nI Hd.length) ∧ F' 8 = upd (F 8) k (nI X.length) ∧ (∀ i, i < Hd.length → F' 5 (60 * k + i) = Hd.getD i 0) ∧ (∀ q, q < 60 * k ∨ 60 * k + 60 ≤ q → F' 5 q = F 5 q) ∧ (∀ i, i < X.length → F' 7 (60 * k + i) = X.getD i 0) ∧ (∀ q, q < 60 * k ∨ 60 * k + 60 ≤ q → F' 7 q = F 7 q)) (me_W G) (me_A B0)) ([.ref o, .int (nI k)] : List Value).toArray s 0 0 (me_A B0)) (F0 m 12 ls []) := by
    intro n
    induction n with
    | zero => intro i w12 G12 _ _ _ _ _ _ _ hz; exact absurd hz (Nat.not_lt_zero _)
    | succ n ih12 =>
      intro i w12 G12 hil hM hMF hs12 h6 hlo12 hou12 hn12 H locs ls hP hS hl
      refine lv_iload_n C0.1 C0.2.1 dX5_setName_12 rfl (lv_at hl 0 rfl) ?_
      refine lv_aload_n C0.1 C0.2.1 dX5_setName_13 rfl (lv_at hl 1 rfl) ?_
      refine md_get C0 hP hM 15 (by decide) kw_492 (v := .int (nI Hd.length)) (by show some (Value.int (z 15)) = _; rw [hH.1]) dX5_setName_14 ?_
      refine lv_icmp_ge (tgt := 43) C0.1 C0.2.1 dX5_setName_17 (by decide) (fun c2 => ?_) (fun c2 => ?_)
      · have d2 : Hd.length ≤ i := (nI_leI (a := Hd.length) (b := i) (by omega) (by omega)).mp c2
        refine lv_aload_n C0.1 C0.2.1 dX5_setName_43 rfl (lv_at hl 1 rfl) ?_
        refine md_get C0 hP hM 8 (by decide) kw_485 (v := .ref ((a 8))) rfl dX5_setName_44 ?_
        refine lv_iload_n C0.1 C0.2.1 dX5_setName_47 rfl (lv_at hl 2 rfl) ?_
        refine lv_aload_n C0.1 C0.2.1 dX5_setName_48 rfl (lv_at hl 1 rfl) ?_
        refine md_get C0 hP hM 19 (by decide) kw_496 (v := .int (nI X.length)) (by show some (Value.int (z 19)) = _; rw [hX.1]) dX5_setName_49 ?_
        refine md_iast C0 hP hS hM hMF 8 (by decide) (i := k) (by show k < 200; omega) dX5_setName_52 (fun w3 F3 H locs hF3 hM hMF hP hS => ?_)
        refine lv_iconst (v := 0) C0.1 C0.2.1 dX5_setName_53 (by decide) ?_
        refine lv_istore_n (lv' := [(2, .int 0), (0, .ref o), (1, .int (nI k))]) C0.1 C0.2.1 dX5_setName_54 rfl hl (by decide) rfl (fun ls hl => ?_)
        have loop55 : ∀ (n : Nat) (i : Nat) (w55 : Me) (G55 : Nat → Nat → Int32), (i ≤ X.length) → (MD G B0 w55 o a G55 z) → (MF w w55 o a) → (SameF F G55 [5, 6, 7, 8]) → (G55 6 = upd (F 6) k (nI Hd.length)) → (G55 8 = upd (F 8) k (nI X.length)) → (∀ i, i < Hd.length → G55 5 (60 * k + i) = Hd.getD i 0) → (∀ q, q < 60 * k ∨ 60 * k + 60 ≤ q → G55 5 q = F 5 q) → (∀ q, q < i → G55 7 (60 * k + q) = X.getD q 0) → (∀ q, q < 60 * k ∨ 60 * k + 60 ≤ q → G55 7 q = F 7 q) → (X.length - i) < n → ∀ (H : Heap) (locs : List Loc), ∀ (ls : Array Slot), me_P G.1 w55 H → va_S (me_A B0) s.heap H locs → lv_has ls 3 [(2, .int (nI i)), (0, .ref o), (1, .int (nI k))] → W p l e ({ frames := 0, cells := 0, slots := 0, locals := 0 }) s m ([.ref o, .int (nI k)] : List Value).toArray below meth c H locs 0 0 (MQ below (va_Qv (fun w' => ∃ (F' : Nat → Nat → Int32) (z' : Nat → Int32), MD G B0 w' o a F' z' ∧ MF w w' o a ∧ z' = z ∧ SameF F F' [5, 6, 7, 8] ∧ F' 6 = upd (F 6) k (nI Hd.length) ∧ F' 8 = upd (F 8) k (nI X.length) ∧ (∀ i, i < Hd.length → F' 5 (60 * k + i) = Hd.getD i 0) ∧ (∀ q, q < 60 * k ∨ 60 * k + 60 ≤ q → F' 5 q = F 5 q) ∧ (∀ i, i < X.length → F' 7 (60 * k + i) = X.getD i 0) ∧ (∀ q, q < 60 * k ∨ 60 * k + 60 ≤ q → F' 7 q = F 7 q)) (me_W G) (me_A B0)) ([.ref o, .int (nI k)] : List Value).toArray s 0 0 (me_A B0)) (F0 m 55 ls []) := by
          intro n
          induction n with
          | zero => intro i w55 G55 _ _ _ _ _ _ _ _ _ _ hz; exact absurd hz (Nat.not_lt_zero _)
          | succ n ih55 =>
            intro i w55 G55 hil hM hMF hs55 h6' h8' h5a h5b hlo55 hou55 hn55 H locs ls hP hS hl
            refine lv_iload_n C0.1 C0.2.1 dX5_setName_55 rfl (lv_at hl 0 rfl) ?_
            refine lv_aload_n C0.1 C0.2.1 dX5_setName_56 rfl (lv_at hl 1 rfl) ?_
            refine md_get C0 hP hM 19 (by decide) kw_496 (v := .int (nI X.length)) (by show some (Value.int (z 19)) = _; rw [hX.1]) dX5_setName_57 ?_
            refine lv_icmp_ge (tgt := 86) C0.1 C0.2.1 dX5_setName_60 (by decide) (fun c4 => ?_) (fun c4 => ?_)
            · have d4 : X.length ≤ i := (nI_leI (a := X.length) (b := i) (by omega) (by omega)).mp c4
              exact me_wvret _ C0.1 C0.2.1 B.returns B.notSynchronized hP hS (Nat.le_of_ble_eq_true rfl) (Nat.le_of_ble_eq_true rfl) (⟨_, _, hM, hMF, rfl, hs55, h6', h8', h5a, h5b, fun i hi => hlo55 i (by omega), hou55⟩) dX5_setName_86
            · have d4 : i < X.length := Nat.not_le.mp (fun h => c4 (nI_le (a := X.length) (b := i) h (by omega)))
              refine lv_aload_n C0.1 C0.2.1 dX5_setName_63 rfl (lv_at hl 1 rfl) ?_
              refine md_get C0 hP hM 7 (by decide) kw_484 (v := .ref ((a 7))) rfl dX5_setName_64 ?_
              refine lv_bipush (v := 60) C0.1 C0.2.1 dX5_setName_67 (by decide) ?_
              refine lv_iload_n C0.1 C0.2.1 dX5_setName_69 rfl (lv_at hl 2 rfl) ?_
              refine lv_imul C0.1 C0.2.1 dX5_setName_70 ?_
              refine me_topi (y := nI (60 * k)) (pk_mul 60 k) ?_
              refine lv_iload_n C0.1 C0.2.1 dX5_setName_71 rfl (lv_at hl 0 rfl) ?_
              refine lv_iadd C0.1 C0.2.1 dX5_setName_72 ?_
              refine me_topi (y := nI ((60 * k) + i)) (nI_add (60 * k) i) ?_
              refine lv_aload_n C0.1 C0.2.1 dX5_setName_73 rfl (lv_at hl 1 rfl) ?_
              refine md_get C0 hP hM 18 (by decide) kw_495 (v := .ref ((a 18))) rfl dX5_setName_74 ?_
              refine lv_iload_n C0.1 C0.2.1 dX5_setName_77 rfl (lv_at hl 0 rfl) ?_
              refine md_iald C0 hP hM 18 (by decide) (i := i) (by show i < 400; omega) dX5_setName_78 ?_
              refine md_iast C0 hP hS hM hMF 7 (by decide) (i := ((60 * k) + i)) (by show ((60 * k) + i) < 12000; omega) dX5_setName_79 (fun w5 F5 H locs hF5 hM hMF hP hS => ?_)
              refine lv_iinc (v := nI (i + 1)) (lv' := [(2, .int (nI (i + 1))), (0, .ref o), (1, .int (nI k))]) C0.1 C0.2.1 dX5_setName_80 hl (k := 0) rfl (nI_add i 1) (by decide) rfl (fun ls hl => ?_)
              refine lv_goto (tgt := 55) C0.1 C0.2.1 dX5_setName_83 (by decide) ?_
              exact ih55 (i + 1) _ _ (by omega) hM hMF (hs55.wr hF5 (by decide)) (by rw [hF5, uF_n (by decide)]; exact h6') (by rw [hF5, uF_n (by decide)]; exact h8') (fun q hq => by rw [hF5, uF_n (by decide)]; exact h5a q hq) (fun q hq => by rw [hF5, uF_n (by decide)]; exact h5b q hq) (by rw [hF5, uF_s]; exact lt_s (fun q hq => by rw [upd_ne (by omega)]; exact hlo55 q hq) (by rw [upd_eq, hs55 18 (by decide)]; exact hX.2.2 i (by omega))) (fun q hq => by rw [hF5, uF_s, upd_ne (by omega)]; exact hou55 q hq) (by omega) _ _ _ hP hS (lv_sub hl [0, 1, 2] rfl)
        exact loop55 (X.length - 0 + 1) 0 _ _ (Nat.zero_le _) hM hMF ((hs12.up (by decide)).wr hF3 (by decide)) (by rw [hF3, uF_n (by decide)]; exact h6) (by rw [hF3, uF_s, hs12 8 (by decide)]) (fun q hq => by rw [hF3, uF_n (by decide)]; exact hlo12 q (by omega)) (fun q hq => by rw [hF3, uF_n (by decide)]; exact hou12 q hq) (fun q hq => absurd hq (Nat.not_lt_zero q)) (fun q hq => by rw [hF3, uF_n (by decide), hs12 7 (by decide)]) (Nat.lt_succ_self _) _ _ _ hP hS (lv_sub hl [0, 1, 2] rfl)
      · have d2 : i < Hd.length := Nat.not_le.mp (fun h => c2 (nI_le (a := Hd.length) (b := i) h (by omega)))
        refine lv_aload_n C0.1 C0.2.1 dX5_setName_20 rfl (lv_at hl 1 rfl) ?_
        refine md_get C0 hP hM 5 (by decide) kw_482 (v := .ref ((a 5))) rfl dX5_setName_21 ?_
        refine lv_bipush (v := 60) C0.1 C0.2.1 dX5_setName_24 (by decide) ?_
        refine lv_iload_n C0.1 C0.2.1 dX5_setName_26 rfl (lv_at hl 2 rfl) ?_
        refine lv_imul C0.1 C0.2.1 dX5_setName_27 ?_
        refine me_topi (y := nI (60 * k)) (pk_mul 60 k) ?_
        refine lv_iload_n C0.1 C0.2.1 dX5_setName_28 rfl (lv_at hl 0 rfl) ?_
        refine lv_iadd C0.1 C0.2.1 dX5_setName_29 ?_
        refine me_topi (y := nI ((60 * k) + i)) (nI_add (60 * k) i) ?_
        refine lv_aload_n C0.1 C0.2.1 dX5_setName_30 rfl (lv_at hl 1 rfl) ?_
        refine md_get C0 hP hM 14 (by decide) kw_491 (v := .ref ((a 14))) rfl dX5_setName_31 ?_
        refine lv_iload_n C0.1 C0.2.1 dX5_setName_34 rfl (lv_at hl 0 rfl) ?_
        refine md_iald C0 hP hM 14 (by decide) (i := i) (by show i < 200; omega) dX5_setName_35 ?_
        refine md_iast C0 hP hS hM hMF 5 (by decide) (i := ((60 * k) + i)) (by show ((60 * k) + i) < 12000; omega) dX5_setName_36 (fun w6 F6 H locs hF6 hM hMF hP hS => ?_)
        refine lv_iinc (v := nI (i + 1)) (lv' := [(2, .int (nI (i + 1))), (0, .ref o), (1, .int (nI k))]) C0.1 C0.2.1 dX5_setName_37 hl (k := 0) rfl (nI_add i 1) (by decide) rfl (fun ls hl => ?_)
        refine lv_goto (tgt := 12) C0.1 C0.2.1 dX5_setName_40 (by decide) ?_
        exact ih12 (i + 1) _ _ (by omega) hM hMF (hs12.wr hF6 (by decide)) (by rw [hF6, uF_n (by decide)]; exact h6) (by rw [hF6, uF_s]; exact lt_s (fun q hq => by rw [upd_ne (by omega)]; exact hlo12 q hq) (by rw [upd_eq, hs12 14 (by decide)]; exact hH.2.2 i (by omega))) (fun q hq => by rw [hF6, uF_s, upd_ne (by omega)]; exact hou12 q hq) (by omega) _ _ _ hP hS (lv_sub hl [0, 1, 2] rfl)
  exact loop12 (Hd.length - 0 + 1) 0 _ _ (Nat.zero_le _) hM hMF (SameF.rf.wr hF1 (by decide)) (by rw [hF1, uF_s]) (fun q hq => absurd hq (Nat.not_lt_zero q)) (fun q hq => by rw [hF1, uF_n (by decide)]) (Nat.lt_succ_self _) _ _ _ hP hS (lv_sub hl [0, 1, 2] rfl)

set_option maxHeartbeats 4000000 in
set_option maxRecDepth 100000 in
/-- append(v, d) -/
theorem c_X5_append (l : Launch) (G : me_G) (B0 : Nat) (w : Me) (o : Nat) (a : Nat → Nat) (F : Nat → Nat → Int32) (z : Nat → Int32) (hM : MD G B0 w o a F z) (j k e0 : Nat) (hj : j < 200) (hk : k < 200) (he : e0 < 40) (h10 : F 10 k = nI e0) : CtWV l yX5_append (Cond.code yX5_append cX5_append 3 none) ({ frames := 0, cells := 0, slots := 0, locals := 0 }) G B0 w [.ref o, .int (nI j), .int (nI k)] (fun w' => ∃ (F' : Nat → Nat → Int32) (z' : Nat → Int32), MD G B0 w' o a F' z' ∧ MF w w' o a ∧ z' = z ∧ SameF F F' [4, 9, 10] ∧ F' 4 = upd (F 4) j (nI k) ∧ F' 9 = upd (F 9) (40 * k + e0) (nI j) ∧ F' 10 = upd (F 10) k (nI (e0 + 1))) 0 0 := by
  refine Met.ofW (cc := cX5_append) (maxL := 3) (ret := none) (by decide) rfl ?_
  intro p e s m args below meth c s₁ B hml hv
  obtain ⟨rfl, hK, hP, hKq, hBs⟩ := hv
  have hts := fun w h => atoms_spec (ws := Cond.code yX5_append cX5_append 3 none :: tbG) B.pre w (List.mem_cons_of_mem _ h)
  have hown : s.vm.findClass RX5 = some m.cls := findClass_of_methodNamed B.named
  have C0 : Cx G B0 p s m _ c cX5_append RX5 := ⟨B.exec, B.bytes, hown, hts, hK, hKq, hBs⟩
  have hS : va_S (me_A B0) s.heap s.heap [] := va_S.rf
  have hl := lv_entry ([.ref o, .int (nI j), .int (nI k)]) (n := 3) (Nat.le_of_ble_eq_true rfl)
  rw [lg_entry_eq]
  generalize (lg_sl ([.ref o, .int (nI j), .int (nI k)]) ++ List.replicate (3 - (lg_sl ([.ref o, .int (nI j), .int (nI k)])).length) Slot.unset).toArray = ls at hl ⊢
  have hl : lv_has ls 3 [(0, .ref o), (1, .int (nI j)), (2, .int (nI k))] := hl
  have hMF : MF w w o a := MF.rf
  refine lv_aload_n C0.1 C0.2.1 dX5_append_0 rfl (lv_at hl 0 rfl) ?_
  refine md_get C0 hP hM 4 (by decide) kw_481 (v := .ref ((a 4))) rfl dX5_append_1 ?_
  refine lv_iload_n C0.1 C0.2.1 dX5_append_4 rfl (lv_at hl 1 rfl) ?_
  refine lv_iload_n C0.1 C0.2.1 dX5_append_5 rfl (lv_at hl 2 rfl) ?_
  refine md_iast C0 hP hS hM hMF 4 (by decide) (i := j) (by show j < 200; omega) dX5_append_6 (fun w1 F1 H locs hF1 hM hMF hP hS => ?_)
  refine lv_aload_n C0.1 C0.2.1 dX5_append_7 rfl (lv_at hl 0 rfl) ?_
  refine md_get C0 hP hM 9 (by decide) kw_486 (v := .ref ((a 9))) rfl dX5_append_8 ?_
  refine lv_bipush (v := 40) C0.1 C0.2.1 dX5_append_11 (by decide) ?_
  refine lv_iload_n C0.1 C0.2.1 dX5_append_13 rfl (lv_at hl 2 rfl) ?_
  refine lv_imul C0.1 C0.2.1 dX5_append_14 ?_
  refine me_topi (y := nI (40 * k)) (pk_mul 40 k) ?_
  refine lv_aload_n C0.1 C0.2.1 dX5_append_15 rfl (lv_at hl 0 rfl) ?_
  refine md_get C0 hP hM 10 (by decide) kw_487 (v := .ref ((a 10))) rfl dX5_append_16 ?_
  refine lv_iload_n C0.1 C0.2.1 dX5_append_19 rfl (lv_at hl 2 rfl) ?_
  refine md_iald C0 hP hM 10 (by decide) (i := k) (by show k < 200; omega) dX5_append_20 ?_
  refine me_topi (y := nI e0) (by rw [hF1, uF_n (by decide)]; exact h10) ?_
  refine lv_iadd C0.1 C0.2.1 dX5_append_21 ?_
  refine me_topi (y := nI ((40 * k) + e0)) (nI_add (40 * k) e0) ?_
  refine lv_iload_n C0.1 C0.2.1 dX5_append_22 rfl (lv_at hl 1 rfl) ?_
  refine md_iast C0 hP hS hM hMF 9 (by decide) (i := ((40 * k) + e0)) (by show ((40 * k) + e0) < 8000; omega) dX5_append_23 (fun w2 F2 H locs hF2 hM hMF hP hS => ?_)
  refine lv_aload_n C0.1 C0.2.1 dX5_append_24 rfl (lv_at hl 0 rfl) ?_
  refine md_get C0 hP hM 10 (by decide) kw_487 (v := .ref ((a 10))) rfl dX5_append_25 ?_
  refine lv_iload_n C0.1 C0.2.1 dX5_append_28 rfl (lv_at hl 2 rfl) ?_
  refine lv_dup2_11 C0.1 C0.2.1 dX5_append_29 rfl rfl ?_
  refine md_iald C0 hP hM 10 (by decide) (i := k) (by show k < 200; omega) dX5_append_30 ?_
  refine me_topi (y := nI e0) (by rw [hF2, uF_n (by decide), hF1, uF_n (by decide)]; exact h10) ?_
  refine lv_iconst (v := 1) C0.1 C0.2.1 dX5_append_31 (by decide) ?_
  refine lv_iadd C0.1 C0.2.1 dX5_append_32 ?_
  refine me_topi (y := nI (e0 + 1)) (nI_add e0 1) ?_
  refine md_iast C0 hP hS hM hMF 10 (by decide) (i := k) (by show k < 200; omega) dX5_append_33 (fun w3 F3 H locs hF3 hM hMF hP hS => ?_)
  exact me_wvret _ C0.1 C0.2.1 B.returns B.notSynchronized hP hS (Nat.le_of_ble_eq_true rfl) (Nat.le_of_ble_eq_true rfl) (⟨_, _, hM, hMF, rfl, ((SameF.rf.wr hF1 (by decide)).wr hF2 (by decide)).wr hF3 (by decide), by rw [hF3, uF_n (by decide), hF2, uF_n (by decide), hF1, uF_s], by rw [hF3, uF_n (by decide), hF2, uF_s, hF1, uF_n (by decide)], by rw [hF3, uF_s, hF2, uF_n (by decide), hF1, uF_n (by decide)]⟩) dX5_append_34

set_option maxHeartbeats 4000000 in
set_option maxRecDepth 100000 in
/-- isWithin(d, v) -/
theorem c_X5_isWithin (l : Launch) (G : me_G) (B0 : Nat) (w : Me) (o : Nat) (a : Nat → Nat) (F : Nat → Nat → Int32) (z : Nat → Int32) (hM : MD G B0 w o a F z) (T : Tre) (hT : RT F T) (dp : Nat → Nat) (hdp : NoRing T dp) (d v : Nat) (nd : Nod) (hd : d < 200) (hv : v < 200) (hTd : T d = some nd) : CtI l yX5_isWithin (Cond.code yX5_isWithin cX5_isWithin 4 (some .boolean)) ({ frames := 0, cells := 0, slots := 0, locals := 0 }) G B0 w [.ref o, .int (nI d), .int (nI v)] (fun r => r = wF T v (dp d + 1) d) := by
  refine Met.ofW (cc := cX5_isWithin) (maxL := 4) (ret := (some .boolean)) (by decide) rfl ?_
  intro p e s m args below meth c s₁ B hml hv
  obtain ⟨rfl, hK, hP, hKq, hBs⟩ := hv
  have hts := fun w h => atoms_spec (ws := Cond.code yX5_isWithin cX5_isWithin 4 (some .boolean) :: tbG) B.pre w (List.mem_cons_of_mem _ h)
  have hown : s.vm.findClass RX5 = some m.cls := findClass_of_methodNamed B.named
  have C0 : Cx G B0 p s m _ c cX5_isWithin RX5 := ⟨B.exec, B.bytes, hown, hts, hK, hKq, hBs⟩
  have hS : va_S (me_A B0) s.heap s.heap [] := va_S.rf
  have hl := lv_entry ([.ref o, .int (nI d), .int (nI v)]) (n := 4) (Nat.le_of_ble_eq_true rfl)
  rw [lg_entry_eq]
  generalize (lg_sl ([.ref o, .int (nI d), .int (nI v)]) ++ List.replicate (4 - (lg_sl ([.ref o, .int (nI d), .int (nI v)])).length) Slot.unset).toArray = ls at hl ⊢
  have hl : lv_has ls 4 [(0, .ref o), (1, .int (nI d)), (2, .int (nI v))] := hl
  refine lv_iload_n C0.1 C0.2.1 dX5_isWithin_0 rfl (lv_at hl 1 rfl) ?_
  refine lv_istore_n (lv' := [(3, .int (nI d)), (0, .ref o), (1, .int (nI d)), (2, .int (nI v))]) C0.1 C0.2.1 dX5_isWithin_1 rfl hl (by decide) rfl (fun ls hl => ?_)
  have loop2 : ∀ (n : Nat) (u : Nat) (x : Nod) (n0 : Nat), (u < 200) → (T u = some x) → (dp u < n0) → (wF T v (dp d + 1) d = wF T v n0 u) → (dp u) < n → ∀ (ls : Array Slot), lv_has ls 4 [(3, .int (nI u)), (0, .ref o), (1, .int (nI d)), (2, .int (nI v))] → W p l e ({ frames := 0, cells := 0, slots := 0, locals := 0 }) s m ([.ref o, .int (nI d), .int (nI v)] : List Value).toArray below meth c s.heap [] 0 0 (MQ below (vp_Si (fun r => r = wF T v (dp d + 1) d)) ([.ref o, .int (nI d), .int (nI v)] : List Value).toArray s 0 0 (fun _ => False)) (F0 m 2 ls []) := by
    intro n
    induction n with
    | zero => intro u x n0 _ _ _ _ hz; exact absurd hz (Nat.not_lt_zero _)
    | succ n ih2 =>
      intro u x n0 hu hTu hn0 hwF hn2  ls  hl
      refine lv_iload_n C0.1 C0.2.1 dX5_isWithin_2 rfl (lv_at hl 0 rfl) ?_
      refine lv_if_le (tgt := 21) C0.1 C0.2.1 dX5_isWithin_3 (by decide) (fun c1 => ?_) (fun c1 => ?_)
      · have d1 : u ≤ 0 := (nI_leI (a := u) (b := 0) (by omega) (by omega)).mp c1
        refine lv_iload_n C0.1 C0.2.1 dX5_isWithin_21 rfl (lv_at hl 0 rfl) ?_
        refine lv_iload_n C0.1 C0.2.1 dX5_isWithin_22 rfl (lv_at hl 3 rfl) ?_
        refine lv_icmp_ne (tgt := 30) C0.1 C0.2.1 dX5_isWithin_23 (by decide) (fun c2 => ?_) (fun c2 => ?_)
        · have d2 : u ≠ v := fun h => c2 (congrArg nI h)
          refine lv_iconst (v := 0) C0.1 C0.2.1 dX5_isWithin_30 (by decide) ?_
          exact me_zret C0.1 C0.2.1 B.returns B.notSynchronized narrow_b0 rfl rfl (by rw [hwF, show n0 = (n0 - 1) + 1 by omega, wF, if_neg (by omega), if_pos (by omega)]) dX5_isWithin_31
        · have d2 : u = v := (nI_eq (a := u) (b := v) (by omega) (by omega)).mp c2
          refine lv_iconst (v := 1) C0.1 C0.2.1 dX5_isWithin_26 (by decide) ?_
          refine lv_goto (tgt := 31) C0.1 C0.2.1 dX5_isWithin_27 (by decide) ?_
          exact me_zret C0.1 C0.2.1 B.returns B.notSynchronized narrow_b1 rfl rfl (by rw [hwF, show n0 = (n0 - 1) + 1 by omega, wF, if_pos (by omega)]) dX5_isWithin_31
      · have d1 : 0 < u := Nat.not_le.mp (fun h => c1 (nI_le (a := u) (b := 0) h (by omega)))
        refine lv_iload_n C0.1 C0.2.1 dX5_isWithin_6 rfl (lv_at hl 0 rfl) ?_
        refine lv_iload_n C0.1 C0.2.1 dX5_isWithin_7 rfl (lv_at hl 3 rfl) ?_
        refine lv_icmp_eq (tgt := 21) C0.1 C0.2.1 dX5_isWithin_8 (by decide) (fun c3 => ?_) (fun c3 => ?_)
        · have d3 : u = v := (nI_eq (a := u) (b := v) (by omega) (by omega)).mp c3
          refine lv_iload_n C0.1 C0.2.1 dX5_isWithin_21 rfl (lv_at hl 0 rfl) ?_
          refine lv_iload_n C0.1 C0.2.1 dX5_isWithin_22 rfl (lv_at hl 3 rfl) ?_
          refine lv_icmp_ne (tgt := 30) C0.1 C0.2.1 dX5_isWithin_23 (by decide) (fun c4 => ?_) (fun c4 => ?_)
          · have d4 : u ≠ v := fun h => c4 (congrArg nI h)
            refine lv_iconst (v := 0) C0.1 C0.2.1 dX5_isWithin_30 (by decide) ?_
            exact me_zret C0.1 C0.2.1 B.returns B.notSynchronized narrow_b0 rfl rfl (by rw [hwF, show n0 = (n0 - 1) + 1 by omega, wF, if_neg (by omega), if_pos (by omega)]) dX5_isWithin_31
          · have d4 : u = v := (nI_eq (a := u) (b := v) (by omega) (by omega)).mp c4
            refine lv_iconst (v := 1) C0.1 C0.2.1 dX5_isWithin_26 (by decide) ?_
            refine lv_goto (tgt := 31) C0.1 C0.2.1 dX5_isWithin_27 (by decide) ?_
            exact me_zret C0.1 C0.2.1 B.returns B.notSynchronized narrow_b1 rfl rfl (by rw [hwF, show n0 = (n0 - 1) + 1 by omega, wF, if_pos (by omega)]) dX5_isWithin_31
        · have d3 : u ≠ v := fun h => c3 (congrArg nI h)
          refine lv_aload_n C0.1 C0.2.1 dX5_isWithin_11 rfl (lv_at hl 1 rfl) ?_
          refine md_get C0 hP hM 4 (by decide) kw_481 (v := .ref ((a 4))) rfl dX5_isWithin_12 ?_
          refine lv_iload_n C0.1 C0.2.1 dX5_isWithin_15 rfl (lv_at hl 0 rfl) ?_
          refine md_iald C0 hP hM 4 (by decide) (i := u) (by show u < 200; omega) dX5_isWithin_16 ?_
          obtain ⟨pp, y, p1, p2, p3, p4⟩ := hdp u x hTu (by omega)
          refine me_topi (y := nI pp) ((hT.2 u x hTu).2.2.2.1.trans p2) ?_
          refine lv_istore_n (lv' := [(3, .int (nI pp)), (0, .ref o), (1, .int (nI d)), (2, .int (nI v))]) C0.1 C0.2.1 dX5_isWithin_17 rfl hl (by decide) rfl (fun ls hl => ?_)
          refine lv_goto (tgt := 2) C0.1 C0.2.1 dX5_isWithin_18 (by decide) ?_
          exact ih2 pp y (n0 - 1) p1 p3 (by omega) (by rw [hwF, show n0 = (n0 - 1) + 1 by omega, wF, if_neg (by omega), if_neg (by omega), parN_s hTu p2 p1]; rfl) (by omega) _ (lv_sub hl [0, 1, 2, 3] rfl)
  exact loop2 (dp d + 1) d nd (dp d + 1) hd hTd (by omega) rfl (Nat.lt_succ_self _) _ (lv_sub hl [0, 1, 2, 3] rfl)

set_option maxHeartbeats 4000000 in
set_option maxRecDepth 100000 in
/-- isBefore(v, w) -/
theorem c_X5_isBefore (l : Launch) (G : me_G) (B0 : Nat) (w : Me) (o : Nat) (a : Nat → Nat) (F : Nat → Nat → Int32) (z : Nat → Int32) (hM : MD G B0 w o a F z) (T : Tre) (hT : RT F T) (v u : Nat) (nv nu : Nod) (hTv : T v = some nv) (hTu : T u = some nu) : CtI l yX5_isBefore (Cond.code yX5_isBefore cX5_isBefore 6 (some .boolean)) ({ frames := 0, cells := 0, slots := 0, locals := 0 }) G B0 w [.ref o, .int (nI v), .int (nI u)] (fun r => r = ltL nv.2.2.2.1 nu.2.2.2.1) := by
  refine Met.ofW (cc := cX5_isBefore) (maxL := 6) (ret := (some .boolean)) (by decide) rfl ?_
  intro p e s m args below meth c s₁ B hml hv
  obtain ⟨rfl, hK, hP, hKq, hBs⟩ := hv
  have hts := fun w h => atoms_spec (ws := Cond.code yX5_isBefore cX5_isBefore 6 (some .boolean) :: tbG) B.pre w (List.mem_cons_of_mem _ h)
  have hown : s.vm.findClass RX5 = some m.cls := findClass_of_methodNamed B.named
  have C0 : Cx G B0 p s m _ c cX5_isBefore RX5 := ⟨B.exec, B.bytes, hown, hts, hK, hKq, hBs⟩
  have hS : va_S (me_A B0) s.heap s.heap [] := va_S.rf
  have hl := lv_entry ([.ref o, .int (nI v), .int (nI u)]) (n := 6) (Nat.le_of_ble_eq_true rfl)
  rw [lg_entry_eq]
  generalize (lg_sl ([.ref o, .int (nI v), .int (nI u)]) ++ List.replicate (6 - (lg_sl ([.ref o, .int (nI v), .int (nI u)])).length) Slot.unset).toArray = ls at hl ⊢
  have hl : lv_has ls 6 [(0, .ref o), (1, .int (nI v)), (2, .int (nI u))] := hl
  obtain ⟨hv200, -, -, -, -, ⟨hv8, hv60, hv7⟩, -⟩ := hT.2 v nv hTv
  obtain ⟨hu200, -, -, -, -, ⟨hu8, hu60, hu7⟩, -⟩ := hT.2 u nu hTu
  obtain ⟨A, hA⟩ : ∃ A, A = nv.2.2.2.1 := ⟨_, rfl⟩
  obtain ⟨C, hC⟩ : ∃ C, C = nu.2.2.2.1 := ⟨_, rfl⟩
  rw [← hA] at hv8 hv60 hv7
  rw [← hC] at hu8 hu60 hu7
  refine lv_iconst (v := 0) C0.1 C0.2.1 dX5_isBefore_0 (by decide) ?_
  refine lv_istore_n (lv' := [(3, .int 0), (0, .ref o), (1, .int (nI v)), (2, .int (nI u))]) C0.1 C0.2.1 dX5_isBefore_1 rfl hl (by decide) rfl (fun ls hl => ?_)
  have loop2 : ∀ (n : Nat) (i : Nat), (i ≤ min A.length C.length) → (∀ q, q < i → A.getD q 0 = C.getD q 0) → (min A.length C.length - i) < n → ∀ (ls : Array Slot), lv_has ls 6 [(3, .int (nI i)), (0, .ref o), (1, .int (nI v)), (2, .int (nI u))] → W p l e ({ frames := 0, cells := 0, slots := 0, locals := 0 }) s m ([.ref o, .int (nI v), .int (nI u)] : List Value).toArray below meth c s.heap [] 0 0 (MQ below (vp_Si (fun r => r = ltL nv.2.2.2.1 nu.2.2.2.1)) ([.ref o, .int (nI v), .int (nI u)] : List Value).toArray s 0 0 (fun _ => False)) (F0 m 2 ls []) := by
    intro n
    induction n with
    | zero => intro i _ _ hz; exact absurd hz (Nat.not_lt_zero _)
    | succ n ih2 =>
      intro i hil heq hn2  ls  hl
      refine lv_iload_n C0.1 C0.2.1 dX5_isBefore_2 rfl (lv_at hl 0 rfl) ?_
      refine lv_aload_n C0.1 C0.2.1 dX5_isBefore_3 rfl (lv_at hl 1 rfl) ?_
      refine md_get C0 hP hM 8 (by decide) kw_485 (v := .ref ((a 8))) rfl dX5_isBefore_4 ?_
      refine lv_iload_n C0.1 C0.2.1 dX5_isBefore_7 rfl (lv_at hl 2 rfl) ?_
      refine md_iald C0 hP hM 8 (by decide) (i := v) (by show v < 200; omega) dX5_isBefore_8 ?_
      refine me_topi (y := nI A.length) hv8 ?_
      refine lv_icmp_ge (tgt := 74) C0.1 C0.2.1 dX5_isBefore_9 (by decide) (fun c1 => ?_) (fun c1 => ?_)
      · have d1 : A.length ≤ i := (nI_leI (a := A.length) (b := i) (by omega) (by omega)).mp c1
        refine lv_aload_n C0.1 C0.2.1 dX5_isBefore_74 rfl (lv_at hl 1 rfl) ?_
        refine md_get C0 hP hM 8 (by decide) kw_485 (v := .ref ((a 8))) rfl dX5_isBefore_75 ?_
        refine lv_iload_n C0.1 C0.2.1 dX5_isBefore_78 rfl (lv_at hl 2 rfl) ?_
        refine md_iald C0 hP hM 8 (by decide) (i := v) (by show v < 200; omega) dX5_isBefore_79 ?_
        refine me_topi (y := nI A.length) hv8 ?_
        refine lv_aload_n C0.1 C0.2.1 dX5_isBefore_80 rfl (lv_at hl 1 rfl) ?_
        refine md_get C0 hP hM 8 (by decide) kw_485 (v := .ref ((a 8))) rfl dX5_isBefore_81 ?_
        refine lv_iload_n C0.1 C0.2.1 dX5_isBefore_84 rfl (lv_at hl 3 rfl) ?_
        refine md_iald C0 hP hM 8 (by decide) (i := u) (by show u < 200; omega) dX5_isBefore_85 ?_
        refine me_topi (y := nI C.length) hu8 ?_
        refine lv_icmp_ge (tgt := 93) C0.1 C0.2.1 dX5_isBefore_86 (by decide) (fun c2 => ?_) (fun c2 => ?_)
        · have d2 : C.length ≤ A.length := (nI_leI (a := C.length) (b := A.length) (by omega) (by omega)).mp c2
          refine lv_iconst (v := 0) C0.1 C0.2.1 dX5_isBefore_93 (by decide) ?_
          exact me_zret C0.1 C0.2.1 B.returns B.notSynchronized narrow_b0 rfl rfl (by unfold ltL; rw [← hA, ← hC, cmpL_end A C (by omega) (by omega) (fun q hq => heq q (by omega)), if_neg (fun q => absurd (icmp_lt.mp q) (nI_nlt (by omega) (by omega)))]) dX5_isBefore_94
        · have d2 : A.length < C.length := Nat.not_le.mp (fun h => c2 (nI_le (a := C.length) (b := A.length) h (by omega)))
          refine lv_iconst (v := 1) C0.1 C0.2.1 dX5_isBefore_89 (by decide) ?_
          refine lv_goto (tgt := 94) C0.1 C0.2.1 dX5_isBefore_90 (by decide) ?_
          exact me_zret C0.1 C0.2.1 B.returns B.notSynchronized narrow_b1 rfl rfl (by unfold ltL; rw [← hA, ← hC, cmpL_end A C (by omega) (by omega) (fun q hq => heq q (by omega)), if_pos (icmp_lt.mpr (nI_lt (by omega) (by omega)))]) dX5_isBefore_94
      · have d1 : i < A.length := Nat.not_le.mp (fun h => c1 (nI_le (a := A.length) (b := i) h (by omega)))
        refine lv_iload_n C0.1 C0.2.1 dX5_isBefore_12 rfl (lv_at hl 0 rfl) ?_
        refine lv_aload_n C0.1 C0.2.1 dX5_isBefore_13 rfl (lv_at hl 1 rfl) ?_
        refine md_get C0 hP hM 8 (by decide) kw_485 (v := .ref ((a 8))) rfl dX5_isBefore_14 ?_
        refine lv_iload_n C0.1 C0.2.1 dX5_isBefore_17 rfl (lv_at hl 3 rfl) ?_
        refine md_iald C0 hP hM 8 (by decide) (i := u) (by show u < 200; omega) dX5_isBefore_18 ?_
        refine me_topi (y := nI C.length) hu8 ?_
        refine lv_icmp_ge (tgt := 74) C0.1 C0.2.1 dX5_isBefore_19 (by decide) (fun c3 => ?_) (fun c3 => ?_)
        · have d3 : C.length ≤ i := (nI_leI (a := C.length) (b := i) (by omega) (by omega)).mp c3
          refine lv_aload_n C0.1 C0.2.1 dX5_isBefore_74 rfl (lv_at hl 1 rfl) ?_
          refine md_get C0 hP hM 8 (by decide) kw_485 (v := .ref ((a 8))) rfl dX5_isBefore_75 ?_
          refine lv_iload_n C0.1 C0.2.1 dX5_isBefore_78 rfl (lv_at hl 2 rfl) ?_
          refine md_iald C0 hP hM 8 (by decide) (i := v) (by show v < 200; omega) dX5_isBefore_79 ?_
          refine me_topi (y := nI A.length) hv8 ?_
          refine lv_aload_n C0.1 C0.2.1 dX5_isBefore_80 rfl (lv_at hl 1 rfl) ?_
          refine md_get C0 hP hM 8 (by decide) kw_485 (v := .ref ((a 8))) rfl dX5_isBefore_81 ?_
          refine lv_iload_n C0.1 C0.2.1 dX5_isBefore_84 rfl (lv_at hl 3 rfl) ?_
          refine md_iald C0 hP hM 8 (by decide) (i := u) (by show u < 200; omega) dX5_isBefore_85 ?_
          refine me_topi (y := nI C.length) hu8 ?_
          refine lv_icmp_ge (tgt := 93) C0.1 C0.2.1 dX5_isBefore_86 (by decide) (fun c4 => ?_) (fun c4 => ?_)
          · have d4 : C.length ≤ A.length := (nI_leI (a := C.length) (b := A.length) (by omega) (by omega)).mp c4
            refine lv_iconst (v := 0) C0.1 C0.2.1 dX5_isBefore_93 (by decide) ?_
            exact me_zret C0.1 C0.2.1 B.returns B.notSynchronized narrow_b0 rfl rfl (by unfold ltL; rw [← hA, ← hC, cmpL_end A C (by omega) (by omega) (fun q hq => heq q (by omega)), if_neg (fun q => absurd (icmp_lt.mp q) (nI_nlt (by omega) (by omega)))]) dX5_isBefore_94
          · have d4 : A.length < C.length := Nat.not_le.mp (fun h => c4 (nI_le (a := C.length) (b := A.length) h (by omega)))
            refine lv_iconst (v := 1) C0.1 C0.2.1 dX5_isBefore_89 (by decide) ?_
            refine lv_goto (tgt := 94) C0.1 C0.2.1 dX5_isBefore_90 (by decide) ?_
            exact me_zret C0.1 C0.2.1 B.returns B.notSynchronized narrow_b1 rfl rfl (by unfold ltL; rw [← hA, ← hC, cmpL_end A C (by omega) (by omega) (fun q hq => heq q (by omega)), if_pos (icmp_lt.mpr (nI_lt (by omega) (by omega)))]) dX5_isBefore_94
        · have d3 : i < C.length := Nat.not_le.mp (fun h => c3 (nI_le (a := C.length) (b := i) h (by omega)))
          refine lv_aload_n C0.1 C0.2.1 dX5_isBefore_22 rfl (lv_at hl 1 rfl) ?_
          refine md_get C0 hP hM 7 (by decide) kw_484 (v := .ref ((a 7))) rfl dX5_isBefore_23 ?_
          refine lv_bipush (v := 60) C0.1 C0.2.1 dX5_isBefore_26 (by decide) ?_
          refine lv_iload_n C0.1 C0.2.1 dX5_isBefore_28 rfl (lv_at hl 2 rfl) ?_
          refine lv_imul C0.1 C0.2.1 dX5_isBefore_29 ?_
          refine me_topi (y := nI (60 * v)) (pk_mul 60 v) ?_
          refine lv_iload_n C0.1 C0.2.1 dX5_isBefore_30 rfl (lv_at hl 0 rfl) ?_
          refine lv_iadd C0.1 C0.2.1 dX5_isBefore_31 ?_
          refine me_topi (y := nI ((60 * v) + i)) (nI_add (60 * v) i) ?_
          refine md_iald C0 hP hM 7 (by decide) (i := ((60 * v) + i)) (by show ((60 * v) + i) < 12000; omega) dX5_isBefore_32 ?_
          refine me_topi (y := A.getD i 0) (hv7 i (by omega)) ?_
          refine lv_istore (lv' := [(4, .int (A.getD i 0)), (3, .int (nI i)), (0, .ref o), (1, .int (nI v)), (2, .int (nI u))]) C0.1 C0.2.1 dX5_isBefore_33 hl (by decide) rfl (fun ls hl => ?_)
          refine lv_aload_n C0.1 C0.2.1 dX5_isBefore_35 rfl (lv_at hl 2 rfl) ?_
          refine md_get C0 hP hM 7 (by decide) kw_484 (v := .ref ((a 7))) rfl dX5_isBefore_36 ?_
          refine lv_bipush (v := 60) C0.1 C0.2.1 dX5_isBefore_39 (by decide) ?_
          refine lv_iload_n C0.1 C0.2.1 dX5_isBefore_41 rfl (lv_at hl 4 rfl) ?_
          refine lv_imul C0.1 C0.2.1 dX5_isBefore_42 ?_
          refine me_topi (y := nI (60 * u)) (pk_mul 60 u) ?_
          refine lv_iload_n C0.1 C0.2.1 dX5_isBefore_43 rfl (lv_at hl 1 rfl) ?_
          refine lv_iadd C0.1 C0.2.1 dX5_isBefore_44 ?_
          refine me_topi (y := nI ((60 * u) + i)) (nI_add (60 * u) i) ?_
          refine md_iald C0 hP hM 7 (by decide) (i := ((60 * u) + i)) (by show ((60 * u) + i) < 12000; omega) dX5_isBefore_45 ?_
          refine me_topi (y := C.getD i 0) (hu7 i (by omega)) ?_
          refine lv_istore (lv' := [(5, .int (C.getD i 0)), (4, .int (A.getD i 0)), (3, .int (nI i)), (0, .ref o), (1, .int (nI v)), (2, .int (nI u))]) C0.1 C0.2.1 dX5_isBefore_46 hl (by decide) rfl (fun ls hl => ?_)
          refine lv_iload C0.1 C0.2.1 dX5_isBefore_48 (lv_at hl 1 rfl) ?_
          refine lv_iload C0.1 C0.2.1 dX5_isBefore_50 (lv_at hl 0 rfl) ?_
          refine lv_icmp_eq (tgt := 68) C0.1 C0.2.1 dX5_isBefore_52 (by decide) (fun c5 => ?_) (fun c5 => ?_)
          · refine lv_iinc (v := nI (i + 1)) (lv' := [(3, .int (nI (i + 1))), (5, .int (C.getD i 0)), (4, .int (A.getD i 0)), (0, .ref o), (1, .int (nI v)), (2, .int (nI u))]) C0.1 C0.2.1 dX5_isBefore_68 hl (k := 2) rfl (nI_add i 1) (by decide) rfl (fun ls hl => ?_)
            refine lv_goto (tgt := 2) C0.1 C0.2.1 dX5_isBefore_71 (by decide) ?_
            exact ih2 (i + 1) (by omega) (lt_s heq c5) (by omega) _ (lv_sub hl [0, 3, 4, 5] rfl)
          · refine lv_iload C0.1 C0.2.1 dX5_isBefore_55 (lv_at hl 1 rfl) ?_
            refine lv_iload C0.1 C0.2.1 dX5_isBefore_57 (lv_at hl 0 rfl) ?_
            refine lv_icmp_ge (tgt := 66) C0.1 C0.2.1 dX5_isBefore_59 (by decide) (fun c6 => ?_) (fun c6 => ?_)
            · refine lv_iconst (v := 0) C0.1 C0.2.1 dX5_isBefore_66 (by decide) ?_
              exact me_zret C0.1 C0.2.1 B.returns B.notSynchronized narrow_b0 rfl rfl (by unfold ltL; rw [← hA, ← hC, cmpL_at i A C (by omega) (by omega) heq c5, if_neg (fun q => absurd (icmp_lt.mp q) (Int32.not_lt.mpr c6))]) dX5_isBefore_67
            · refine lv_iconst (v := 1) C0.1 C0.2.1 dX5_isBefore_62 (by decide) ?_
              refine lv_goto (tgt := 67) C0.1 C0.2.1 dX5_isBefore_63 (by decide) ?_
              exact me_zret C0.1 C0.2.1 B.returns B.notSynchronized narrow_b1 rfl rfl (by unfold ltL; rw [← hA, ← hC, cmpL_at i A C (by omega) (by omega) heq c5, if_pos (icmp_lt.mpr (Int32.not_le.mp c6))]) dX5_isBefore_67
  exact loop2 (min A.length C.length - 0 + 1) 0 (Nat.zero_le _) (fun q hq => absurd hq (Nat.not_lt_zero q)) (Nat.lt_succ_self _) _ (lv_sub hl [0, 1, 2, 3] rfl)
