set_option maxHeartbeats 4000000 in
set_option maxRecDepth 100000 in
/-- detach(v) -/
theorem c_X5_detach (l : Launch) (G : me_G) (B0 : Nat) (w : Me) (o : Nat) (a : Nat → Nat) (F : Nat → Nat → Int32) (z : Nat → Int32) (hM : MD G B0 w o a F z) (T : Tre) (hT : RT F T) (j k t : Nat) (nj nk : Nod) (E : List Int32) (hTj : T j = some nj) (hpj : nj.2.1 = nI k) (hTk : T k = some nk) (hEd : nk.2.2.2.2 = E) (ht : t < E.length) (htj : E.getD t 0 = nI j) (htf : ∀ q, q < t → ¬ E.getD q 0 = nI j) : CtWV l yX5_detach (Cond.code yX5_detach cX5_detach 5 none) ({ frames := 0, cells := 0, slots := 0, locals := 0 }) G B0 w [.ref o, .int (nI j)] (fun w' => ∃ (F' : Nat → Nat → Int32) (z' : Nat → Int32), MD G B0 w' o a F' z' ∧ MF w w' o a ∧ z' = z ∧ SameF F F' [9, 10] ∧ F' 10 = upd (F 10) k (nI (E.length - 1)) ∧ (∀ q, q < E.length - 1 → F' 9 (40 * k + q) = if q < t then E.getD q 0 else E.getD (q + 1) 0) ∧ (∀ q, q < 40 * k ∨ 40 * k + 40 ≤ q → F' 9 q = F 9 q)) 0 0 := by
  refine Met.ofW (cc := cX5_detach) (maxL := 5) (ret := none) (by decide) rfl ?_
  intro p e s m args below meth c s₁ B hml hv
  obtain ⟨rfl, hK, hP, hKq, hBs⟩ := hv
  have hts := fun w h => atoms_spec (ws := Cond.code yX5_detach cX5_detach 5 none :: tbG) B.pre w (List.mem_cons_of_mem _ h)
  have hown : s.vm.findClass RX5 = some m.cls := findClass_of_methodNamed B.named
  have C0 : Cx G B0 p s m _ c cX5_detach RX5 := ⟨B.exec, B.bytes, hown, hts, hK, hKq, hBs⟩
  have hS : va_S (me_A B0) s.heap s.heap [] := va_S.rf
  have hl := lv_entry ([.ref o, .int (nI j)]) (n := 5) (Nat.le_of_ble_eq_true rfl)
  rw [lg_entry_eq]
  generalize (lg_sl ([.ref o, .int (nI j)]) ++ List.replicate (5 - (lg_sl ([.ref o, .int (nI j)])).length) Slot.unset).toArray = ls at hl ⊢
  have hl : lv_has ls 5 [(0, .ref o), (1, .int (nI j))] := hl
  have hMF : MF w w o a := MF.rf
  obtain ⟨hj200, -, -, hj4, -⟩ := hT.2 j nj hTj
  obtain ⟨hk200, -, -, -, -, -, hE10, hE40, hE9⟩ := hT.2 k nk hTk
  rw [hEd] at hE10 hE40 hE9
  refine lv_aload_n C0.1 C0.2.1 dX5_detach_0 rfl (lv_at hl 0 rfl) ?_
  refine md_get C0 hP hM 4 (by decide) kw_481 (v := .ref ((a 4))) rfl dX5_detach_1 ?_
  refine lv_iload_n C0.1 C0.2.1 dX5_detach_4 rfl (lv_at hl 1 rfl) ?_
  refine md_iald C0 hP hM 4 (by decide) (i := j) (by show j < 200; omega) dX5_detach_5 ?_
  refine me_topi (y := nI k) (hj4.trans hpj) ?_
  refine lv_istore_n (lv' := [(2, .int (nI k)), (0, .ref o), (1, .int (nI j))]) C0.1 C0.2.1 dX5_detach_6 rfl hl (by decide) rfl (fun ls hl => ?_)
  refine lv_iconst (v := 0) C0.1 C0.2.1 dX5_detach_7 (by decide) ?_
  refine lv_istore_n (lv' := [(3, .int 0), (2, .int (nI k)), (0, .ref o), (1, .int (nI j))]) C0.1 C0.2.1 dX5_detach_8 rfl hl (by decide) rfl (fun ls hl => ?_)
  have loop9 : ∀ (n : Nat) (i : Nat), (i ≤ t) → (t - i) < n → ∀ (ls : Array Slot), lv_has ls 5 [(3, .int (nI i)), (2, .int (nI k)), (0, .ref o), (1, .int (nI j))] → W p l e ({ frames := 0, cells := 0, slots := 0, locals := 0 }) s m ([.ref o, .int (nI j)] : List Value).toArray below meth c s.heap [] 0 0 (MQ below (va_Qv (fun w' => ∃ (F' : Nat → Nat → Int32) (z' : Nat → Int32), MD G B0 w' o a F' z' ∧ MF w w' o a ∧ z' = z ∧ SameF F F' [9, 10] ∧ F' 10 = upd (F 10) k (nI (E.length - 1)) ∧ (∀ q, q < E.length - 1 → F' 9 (40 * k + q) = if q < t then E.getD q 0 else E.getD (q + 1) 0) ∧ (∀ q, q < 40 * k ∨ 40 * k + 40 ≤ q → F' 9 q = F 9 q)) (me_W G) (me_A B0)) ([.ref o, .int (nI j)] : List Value).toArray s 0 0 (me_A B0)) (F0 m 9 ls []) := by
    intro n
    induction n with
    | zero => intro i _ hz; exact absurd hz (Nat.not_lt_zero _)
    | succ n ih9 =>
      intro i hit hn9  ls  hl
      refine lv_aload_n C0.1 C0.2.1 dX5_detach_9 rfl (lv_at hl 2 rfl) ?_
      refine md_get C0 hP hM 9 (by decide) kw_486 (v := .ref ((a 9))) rfl dX5_detach_10 ?_
      refine lv_bipush (v := 40) C0.1 C0.2.1 dX5_detach_13 (by decide) ?_
      refine lv_iload_n C0.1 C0.2.1 dX5_detach_15 rfl (lv_at hl 1 rfl) ?_
      refine lv_imul C0.1 C0.2.1 dX5_detach_16 ?_
      refine me_topi (y := nI (40 * k)) (pk_mul 40 k) ?_
      refine lv_iload_n C0.1 C0.2.1 dX5_detach_17 rfl (lv_at hl 0 rfl) ?_
      refine lv_iadd C0.1 C0.2.1 dX5_detach_18 ?_
      refine me_topi (y := nI ((40 * k) + i)) (nI_add (40 * k) i) ?_
      refine md_iald C0 hP hM 9 (by decide) (i := ((40 * k) + i)) (by show ((40 * k) + i) < 8000; omega) dX5_detach_19 ?_
      refine me_topi (y := E.getD i 0) (hE9 i (by omega)) ?_
      refine lv_iload_n C0.1 C0.2.1 dX5_detach_20 rfl (lv_at hl 3 rfl) ?_
      refine lv_icmp_eq (tgt := 30) C0.1 C0.2.1 dX5_detach_21 (by decide) (fun c1 => ?_) (fun c1 => ?_)
      · have hit2 : t = i := (by rcases Nat.lt_or_ge i t with q | q; exact absurd c1 (htf i q); omega)
        subst hit2
        refine lv_aload_n C0.1 C0.2.1 dX5_detach_30 rfl (lv_at hl 2 rfl) ?_
        refine md_get C0 hP hM 10 (by decide) kw_487 (v := .ref ((a 10))) rfl dX5_detach_31 ?_
        refine lv_iload_n C0.1 C0.2.1 dX5_detach_34 rfl (lv_at hl 1 rfl) ?_
        refine lv_dup2_11 C0.1 C0.2.1 dX5_detach_35 rfl rfl ?_
        refine md_iald C0 hP hM 10 (by decide) (i := k) (by show k < 200; omega) dX5_detach_36 ?_
        refine me_topi (y := nI E.length) hE10 ?_
        refine lv_iconst (v := 1) C0.1 C0.2.1 dX5_detach_37 (by decide) ?_
        refine lv_isub C0.1 C0.2.1 dX5_detach_38 ?_
        refine me_topi (y := nI (E.length - 1)) (pk_sub (a := E.length) (b := 1) (by omega)) ?_
        refine md_iast C0 hP hS hM hMF 10 (by decide) (i := k) (by show k < 200; omega) dX5_detach_39 (fun w2 F2 H locs hF2 hM hMF hP hS => ?_)
        refine lv_iload_n C0.1 C0.2.1 dX5_detach_40 rfl (lv_at hl 0 rfl) ?_
        refine lv_istore (lv' := [(4, .int (nI t)), (3, .int (nI t)), (2, .int (nI k)), (0, .ref o), (1, .int (nI j))]) C0.1 C0.2.1 dX5_detach_41 hl (by decide) rfl (fun ls hl => ?_)
        have loop43 : ∀ (n : Nat) (q0 : Nat) (w1 : Me) (G1 : Nat → Nat → Int32), (t ≤ q0) → (q0 ≤ E.length - 1) → (MD G B0 w1 o a G1 z) → (MF w w1 o a) → (SameF F G1 [9, 10]) → (G1 10 = upd (F 10) k (nI (E.length - 1))) → (∀ q, q < E.length → G1 9 (40 * k + q) = if q < t then E.getD q 0 else if q < q0 then E.getD (q + 1) 0 else E.getD q 0) → (∀ q, q < 40 * k ∨ 40 * k + 40 ≤ q → G1 9 q = F 9 q) → (E.length - q0) < n → ∀ (H : Heap) (locs : List Loc), ∀ (ls : Array Slot), me_P G.1 w1 H → va_S (me_A B0) s.heap H locs → lv_has ls 5 [(4, .int (nI q0)), (3, .int (nI t)), (2, .int (nI k)), (0, .ref o), (1, .int (nI j))] → W p l e ({ frames := 0, cells := 0, slots := 0, locals := 0 }) s m ([.ref o, .int (nI j)] : List Value).toArray below meth c H locs 0 0 (MQ below (va_Qv (fun w' => ∃ (F' : Nat → Nat → Int32) (z' : Nat → Int32), MD G B0 w' o a F' z' ∧ MF w w' o a ∧ z' = z ∧ SameF F F' [9, 10] ∧ F' 10 = upd (F 10) k (nI (E.length - 1)) ∧ (∀ q, q < E.length - 1 → F' 9 (40 * k + q) = if q < t then E.getD q 0 else E.getD (q + 1) 0) ∧ (∀ q, q < 40 * k ∨ 40 * k + 40 ≤ q → F' 9 q = F 9 q)) (me_W G) (me_A B0)) ([.ref o, .int (nI j)] : List Value).toArray s 0 0 (me_A B0)) (F0 m 43 ls []) := by
          intro n
          induction n with
          | zero => intro q0 w1 G1 _ _ _ _ _ _ _ _ hz; exact absurd hz (Nat.not_lt_zero _)
          | succ n ih43 =>
            intro q0 w1 G1 hq0 hq1 hM hMF hs1 h10 h9 hou hn43 H locs ls hP hS hl
            refine lv_iload C0.1 C0.2.1 dX5_detach_43 (lv_at hl 0 rfl) ?_
            refine lv_aload_n C0.1 C0.2.1 dX5_detach_45 rfl (lv_at hl 3 rfl) ?_
            refine md_get C0 hP hM 10 (by decide) kw_487 (v := .ref ((a 10))) rfl dX5_detach_46 ?_
            refine lv_iload_n C0.1 C0.2.1 dX5_detach_49 rfl (lv_at hl 2 rfl) ?_
            refine md_iald C0 hP hM 10 (by decide) (i := k) (by show k < 200; omega) dX5_detach_50 ?_
            refine me_topi (y := nI (E.length - 1)) (by rw [h10, upd_eq]) ?_
            refine lv_icmp_ge (tgt := 86) C0.1 C0.2.1 dX5_detach_51 (by decide) (fun c3 => ?_) (fun c3 => ?_)
            · have d3 : (E.length - 1) ≤ q0 := (nI_leI (a := (E.length - 1)) (b := q0) (by omega) (by omega)).mp c3
              exact me_wvret _ C0.1 C0.2.1 B.returns B.notSynchronized hP hS (Nat.le_of_ble_eq_true rfl) (Nat.le_of_ble_eq_true rfl) (⟨_, _, hM, hMF, rfl, hs1, h10, fun q hq => by rw [h9 q (by omega)]; by_cases h : q < t; rw [if_pos h, if_pos h]; rw [if_neg h, if_neg h, if_pos (by omega)], hou⟩) dX5_detach_86
            · have d3 : q0 < (E.length - 1) := Nat.not_le.mp (fun h => c3 (nI_le (a := (E.length - 1)) (b := q0) h (by omega)))
              refine lv_aload_n C0.1 C0.2.1 dX5_detach_54 rfl (lv_at hl 3 rfl) ?_
              refine md_get C0 hP hM 9 (by decide) kw_486 (v := .ref ((a 9))) rfl dX5_detach_55 ?_
              refine lv_bipush (v := 40) C0.1 C0.2.1 dX5_detach_58 (by decide) ?_
              refine lv_iload_n C0.1 C0.2.1 dX5_detach_60 rfl (lv_at hl 2 rfl) ?_
              refine lv_imul C0.1 C0.2.1 dX5_detach_61 ?_
              refine me_topi (y := nI (40 * k)) (pk_mul 40 k) ?_
              refine lv_iload C0.1 C0.2.1 dX5_detach_62 (lv_at hl 0 rfl) ?_
              refine lv_iadd C0.1 C0.2.1 dX5_detach_64 ?_
              refine me_topi (y := nI ((40 * k) + q0)) (nI_add (40 * k) q0) ?_
              refine lv_aload_n C0.1 C0.2.1 dX5_detach_65 rfl (lv_at hl 3 rfl) ?_
              refine md_get C0 hP hM 9 (by decide) kw_486 (v := .ref ((a 9))) rfl dX5_detach_66 ?_
              refine lv_bipush (v := 40) C0.1 C0.2.1 dX5_detach_69 (by decide) ?_
              refine lv_iload_n C0.1 C0.2.1 dX5_detach_71 rfl (lv_at hl 2 rfl) ?_
              refine lv_imul C0.1 C0.2.1 dX5_detach_72 ?_
              refine me_topi (y := nI (40 * k)) (pk_mul 40 k) ?_
              refine lv_iload C0.1 C0.2.1 dX5_detach_73 (lv_at hl 0 rfl) ?_
              refine lv_iadd C0.1 C0.2.1 dX5_detach_75 ?_
              refine me_topi (y := nI ((40 * k) + q0)) (nI_add (40 * k) q0) ?_
              refine lv_iconst (v := 1) C0.1 C0.2.1 dX5_detach_76 (by decide) ?_
              refine lv_iadd C0.1 C0.2.1 dX5_detach_77 ?_
              refine me_topi (y := nI (((40 * k) + q0) + 1)) (nI_add ((40 * k) + q0) 1) ?_
              refine md_iald C0 hP hM 9 (by decide) (i := (((40 * k) + q0) + 1)) (by show (((40 * k) + q0) + 1) < 8000; omega) dX5_detach_78 ?_
              refine md_iast C0 hP hS hM hMF 9 (by decide) (i := ((40 * k) + q0)) (by show ((40 * k) + q0) < 8000; omega) dX5_detach_79 (fun w4 F4 H locs hF4 hM hMF hP hS => ?_)
              refine lv_iinc (v := nI (q0 + 1)) (lv' := [(4, .int (nI (q0 + 1))), (3, .int (nI t)), (2, .int (nI k)), (0, .ref o), (1, .int (nI j))]) C0.1 C0.2.1 dX5_detach_80 hl (k := 0) rfl (nI_add q0 1) (by decide) rfl (fun ls hl => ?_)
              refine lv_goto (tgt := 43) C0.1 C0.2.1 dX5_detach_83 (by decide) ?_
              exact ih43 (q0 + 1) _ _ (by omega) (by omega) hM hMF (hs1.wr hF4 (by decide)) (by rw [hF4, uF_n (by decide)]; exact h10) (by rw [hF4, uF_s]; exact det_step h9 (by omega) (by omega)) (fun q hq => by rw [hF4, uF_s, upd_ne (by omega)]; exact hou q hq) (by omega) _ _ _ hP hS (lv_sub hl [0, 1, 2, 3, 4] rfl)
        exact loop43 (E.length - t + 1) t _ _ (Nat.le_refl _) (by omega) hM hMF (SameF.rf.wr hF2 (by decide)) (by rw [hF2, uF_s]) (fun q hq => by rw [hF2, uF_n (by decide), hE9 q hq]; by_cases h : q < t; rw [if_pos h]; rw [if_neg h, if_neg h]) (fun q hq => by rw [hF2, uF_n (by decide)]) (Nat.lt_succ_self _) _ _ _ hP hS (lv_sub hl [0, 1, 2, 3, 4] rfl)
      · refine lv_iinc (v := nI (i + 1)) (lv' := [(3, .int (nI (i + 1))), (2, .int (nI k)), (0, .ref o), (1, .int (nI j))]) C0.1 C0.2.1 dX5_detach_24 hl (k := 0) rfl (nI_add i 1) (by decide) rfl (fun ls hl => ?_)
        refine lv_goto (tgt := 9) C0.1 C0.2.1 dX5_detach_27 (by decide) ?_
        exact ih9 (i + 1) (by have : i ≠ t := (fun q => c1 (q ▸ htj)); omega) (by have : i ≠ t := (fun q => c1 (q ▸ htj)); omega) _ (lv_sub hl [0, 1, 2, 3] rfl)
  exact loop9 (t - 0 + 1) 0 (Nat.zero_le _) (Nat.lt_succ_self _) _ (lv_sub hl [0, 1, 2, 3] rfl)

set_option maxHeartbeats 4000000 in
set_option maxRecDepth 100000 in
/-- nodes() -/
theorem c_X5_nodes (l : Launch) (G : me_G) (B0 : Nat) (w : Me) (o : Nat) (a : Nat → Nat) (F : Nat → Nat → Int32) (z : Nat → Int32) (hM : MD G B0 w o a F z) (T : Tre) (hT : RT F T) : CtWI l yX5_nodes (Cond.code yX5_nodes cX5_nodes 3 (some .int)) ({ frames := 0, cells := 0, slots := 0, locals := 0 }) G B0 w [.ref o] (fun r w' => ∃ (F' : Nat → Nat → Int32) (z' : Nat → Int32), MD G B0 w' o a F' z' ∧ MF w w' o a ∧ z' 13 = 0 ∧ F' = F ∧ SameZ z z' [13] ∧ r = nI (cntF T 200)) 0 0 := by
  refine Met.ofW (cc := cX5_nodes) (maxL := 3) (ret := (some .int)) (by decide) rfl ?_
  intro p e s m args below meth c s₁ B hml hv
  obtain ⟨rfl, hK, hP, hKq, hBs⟩ := hv
  have hts := fun w h => atoms_spec (ws := Cond.code yX5_nodes cX5_nodes 3 (some .int) :: tbG) B.pre w (List.mem_cons_of_mem _ h)
  have hown : s.vm.findClass RX5 = some m.cls := findClass_of_methodNamed B.named
  have C0 : Cx G B0 p s m _ c cX5_nodes RX5 := ⟨B.exec, B.bytes, hown, hts, hK, hKq, hBs⟩
  have hS : va_S (me_A B0) s.heap s.heap [] := va_S.rf
  have hl := lv_entry ([.ref o]) (n := 3) (Nat.le_of_ble_eq_true rfl)
  rw [lg_entry_eq]
  generalize (lg_sl ([.ref o]) ++ List.replicate (3 - (lg_sl ([.ref o])).length) Slot.unset).toArray = ls at hl ⊢
  have hl : lv_has ls 3 [(0, .ref o)] := hl
  have hMF : MF w w o a := MF.rf
  refine lv_aload_n C0.1 C0.2.1 dX5_nodes_0 rfl (lv_at hl 0 rfl) ?_
  refine lv_iconst (v := 0) C0.1 C0.2.1 dX5_nodes_1 (by decide) ?_
  refine md_put C0 hP hS hM hMF 13 (by decide) kw_490 rfl rfl rfl dX5_nodes_2 (fun w1 z1 H locs hz1 hM hMF hP hS => ?_)
  have hz1_13 : z1 13 = 0 := by rw [hz1, upd_eq]
  refine lv_iconst (v := 0) C0.1 C0.2.1 dX5_nodes_5 (by decide) ?_
  refine lv_istore_n (lv' := [(1, .int 0), (0, .ref o)]) C0.1 C0.2.1 dX5_nodes_6 rfl hl (by decide) rfl (fun ls hl => ?_)
  refine lv_iconst (v := 0) C0.1 C0.2.1 dX5_nodes_7 (by decide) ?_
  refine lv_istore_n (lv' := [(2, .int 0), (1, .int 0), (0, .ref o)]) C0.1 C0.2.1 dX5_nodes_8 rfl hl (by decide) rfl (fun ls hl => ?_)
  have loop9 : ∀ (n : Nat) (i c0 : Nat), (i ≤ 200) → (c0 = cntF T i) → (200 - i) < n → ∀ (H : Heap) (locs : List Loc), ∀ (ls : Array Slot), me_P G.1 w1 H → va_S (me_A B0) s.heap H locs → lv_has ls 3 [(2, .int (nI i)), (1, .int (nI c0)), (0, .ref o)] → W p l e ({ frames := 0, cells := 0, slots := 0, locals := 0 }) s m ([.ref o] : List Value).toArray below meth c H locs 0 0 (MQ below (va_Qi (fun r w' => ∃ (F' : Nat → Nat → Int32) (z' : Nat → Int32), MD G B0 w' o a F' z' ∧ MF w w' o a ∧ z' 13 = 0 ∧ F' = F ∧ SameZ z z' [13] ∧ r = nI (cntF T 200)) (me_W G) (me_A B0)) ([.ref o] : List Value).toArray s 0 0 (me_A B0)) (F0 m 9 ls []) := by
    intro n
    induction n with
    | zero => intro i c0 _ _ hz; exact absurd hz (Nat.not_lt_zero _)
    | succ n ih9 =>
      intro i c0 hil hc0 hn9 H locs ls hP hS hl
      refine lv_iload_n C0.1 C0.2.1 dX5_nodes_9 rfl (lv_at hl 0 rfl) ?_
      refine lv_sipush (v := 200) C0.1 C0.2.1 dX5_nodes_10 (by decide) ?_
      refine lv_icmp_ge (tgt := 39) C0.1 C0.2.1 dX5_nodes_13 (by decide) (fun c2 => ?_) (fun c2 => ?_)
      · have d2 : 200 ≤ i := (nI_leI (a := 200) (b := i) (by omega) (by omega)).mp c2
        refine lv_iload_n C0.1 C0.2.1 dX5_nodes_39 rfl (lv_at hl 1 rfl) ?_
        exact me_wiret _ C0.1 C0.2.1 B.returns B.notSynchronized hP hS (Nat.le_of_ble_eq_true rfl) (Nat.le_of_ble_eq_true rfl) (⟨_, _, hM, hMF, hz1_13, rfl, SameZ.rf.wr hz1 (by decide), by rw [hc0, show i = 200 by omega]⟩) dX5_nodes_40
      · have d2 : i < 200 := Nat.not_le.mp (fun h => c2 (nI_le (a := 200) (b := i) h (by omega)))
        refine lv_iload_n C0.1 C0.2.1 dX5_nodes_16 rfl (lv_at hl 1 rfl) ?_
        refine lv_aload_n C0.1 C0.2.1 dX5_nodes_17 rfl (lv_at hl 2 rfl) ?_
        refine md_get C0 hP hM 2 (by decide) kw_479 (v := .ref ((a 2))) rfl dX5_nodes_18 ?_
        refine lv_iload_n C0.1 C0.2.1 dX5_nodes_21 rfl (lv_at hl 0 rfl) ?_
        refine md_zald C0 hP hM 2 (by decide) (i := i) (by show i < 200; omega) dX5_nodes_22 ?_
        refine lv_if_eq (tgt := 30) C0.1 C0.2.1 dX5_nodes_23 (by decide) (fun c3 => ?_) (fun c3 => ?_)
        · refine lv_iconst (v := 0) C0.1 C0.2.1 dX5_nodes_30 (by decide) ?_
          have hcle := cntF_le T i
          refine lv_iadd C0.1 C0.2.1 dX5_nodes_31 ?_
          refine me_topi (y := nI (c0 + 0)) (nI_add c0 0) ?_
          refine lv_istore_n (lv' := [(1, .int (nI (c0 + 0))), (2, .int (nI i)), (0, .ref o)]) C0.1 C0.2.1 dX5_nodes_32 rfl hl (by decide) rfl (fun ls hl => ?_)
          refine lv_iinc (v := nI (i + 1)) (lv' := [(2, .int (nI (i + 1))), (1, .int (nI (c0 + 0))), (0, .ref o)]) C0.1 C0.2.1 dX5_nodes_33 hl (k := 1) rfl (nI_add i 1) (by decide) rfl (fun ls hl => ?_)
          refine lv_goto (tgt := 9) C0.1 C0.2.1 dX5_nodes_36 (by decide) ?_
          exact ih9 (i + 1) _ (by omega) (by rw [hc0]; show cntF T i + 0 = cntF T i + (if (T i).isSome then 1 else 0); rw [if_neg (by rw [fr_none hT c3]; decide)]) (by omega) _ _ _ hP hS (lv_sub hl [0, 1, 2] rfl)
        · refine lv_iconst (v := 1) C0.1 C0.2.1 dX5_nodes_26 (by decide) ?_
          refine lv_goto (tgt := 31) C0.1 C0.2.1 dX5_nodes_27 (by decide) ?_
          have hcle := cntF_le T i
          obtain ⟨x, hx⟩ := fr_some hT (by omega) c3
          refine lv_iadd C0.1 C0.2.1 dX5_nodes_31 ?_
          refine me_topi (y := nI (c0 + 1)) (nI_add c0 1) ?_
          refine lv_istore_n (lv' := [(1, .int (nI (c0 + 1))), (2, .int (nI i)), (0, .ref o)]) C0.1 C0.2.1 dX5_nodes_32 rfl hl (by decide) rfl (fun ls hl => ?_)
          refine lv_iinc (v := nI (i + 1)) (lv' := [(2, .int (nI (i + 1))), (1, .int (nI (c0 + 1))), (0, .ref o)]) C0.1 C0.2.1 dX5_nodes_33 hl (k := 1) rfl (nI_add i 1) (by decide) rfl (fun ls hl => ?_)
          refine lv_goto (tgt := 9) C0.1 C0.2.1 dX5_nodes_36 (by decide) ?_
          exact ih9 (i + 1) _ (by omega) (by rw [hc0]; show cntF T i + 1 = cntF T i + (if (T i).isSome then 1 else 0); rw [if_pos (by rw [hx]; rfl)]) (by omega) _ _ _ hP hS (lv_sub hl [0, 1, 2] rfl)
  exact loop9 201 0 0 (Nat.zero_le _) rfl (by omega) _ _ _ hP hS (lv_sub hl [0, 1, 2] rfl)

set_option maxHeartbeats 4000000 in
set_option maxRecDepth 100000 in
/-- entry(d, k) -/
theorem c_X5_entry (l : Launch) (G : me_G) (B0 : Nat) (w : Me) (o : Nat) (a : Nat → Nat) (F : Nat → Nat → Int32) (z : Nat → Int32) (hM : MD G B0 w o a F z) (T : Tre) (hT : RT F T) (d x : Int32) : CtWI l yX5_entry (Cond.code yX5_entry cX5_entry 3 (some .int)) ({ frames := 2, cells := 0, slots := 0, locals := 42 }) G B0 w [.ref o, .int d, .int x] (fun r w' => ∃ (F' : Nat → Nat → Int32) (z' : Nat → Int32), MD G B0 w' o a F' z' ∧ MF w w' o a ∧ z' 13 = 0 ∧ F' = F ∧ SameZ z z' [13] ∧ r = sEntry T d x) 0 0 := by
  refine Met.ofW (cc := cX5_entry) (maxL := 3) (ret := (some .int)) (by decide) rfl ?_
  intro p e s m args below meth c s₁ B hml hv
  obtain ⟨rfl, hK, hP, hKq, hBs⟩ := hv
  have hts := fun w h => atoms_spec (ws := Cond.code yX5_entry cX5_entry 3 (some .int) :: tbG) B.pre w (List.mem_cons_of_mem _ h)
  have hown : s.vm.findClass RX5 = some m.cls := findClass_of_methodNamed B.named
  have C0 : Cx G B0 p s m _ c cX5_entry RX5 := ⟨B.exec, B.bytes, hown, hts, hK, hKq, hBs⟩
  have hS : va_S (me_A B0) s.heap s.heap [] := va_S.rf
  have hl := lv_entry ([.ref o, .int d, .int x]) (n := 3) (Nat.le_of_ble_eq_true rfl)
  rw [lg_entry_eq]
  generalize (lg_sl ([.ref o, .int d, .int x]) ++ List.replicate (3 - (lg_sl ([.ref o, .int d, .int x])).length) Slot.unset).toArray = ls at hl ⊢
  have hl : lv_has ls 3 [(0, .ref o), (1, .int d), (2, .int x)] := hl
  have hMF : MF w w o a := MF.rf
  refine lv_aload_n C0.1 C0.2.1 dX5_entry_0 rfl (lv_at hl 0 rfl) ?_
  refine lv_iconst (v := 0) C0.1 C0.2.1 dX5_entry_1 (by decide) ?_
  refine md_put C0 hP hS hM hMF 13 (by decide) kw_490 rfl rfl rfl dX5_entry_2 (fun w1 z1 H locs hz1 hM hMF hP hS => ?_)
  have hz1_13 : z1 13 = 0 := by rw [hz1, upd_eq]
  refine lv_aload_n C0.1 C0.2.1 dX5_entry_5 rfl (lv_at hl 0 rfl) ?_
  refine lv_iload_n C0.1 C0.2.1 dX5_entry_6 rfl (lv_at hl 1 rfl) ?_
  refine me_cVi (n := 1) C0 hml hP hS (c_X5_noDirectory l G B0 w1 o a F z1 hM T hT d) ⟨kw_618, kw_35, kw_615, ⟨by decide, by decide, by decide +kernel⟩, ⟨rfl, rfl⟩, ⟨Nat.le_of_ble_eq_true rfl, Nat.le_of_ble_eq_true rfl⟩⟩ kw_617 kw_20 hM.1 rfl rfl hl.1 rfl (Nat.le_of_ble_eq_true rfl) ⟨Nat.le_of_ble_eq_true rfl, Nat.le_of_ble_eq_true rfl⟩ dX5_entry_7 (fun r2 hr2 => ?_)
  rcases noD_r (T := T) d with hnnr2 | hnnr2
  · rw [hnnr2] at hr2
    subst hr2
    refine lv_if_eq (tgt := 18) C0.1 C0.2.1 dX5_entry_10 (by decide) (fun c => absurd c (by decide)) (fun c => ?_)
    refine lv_bipush (v := (-5)) C0.1 C0.2.1 dX5_entry_13 (by decide) ?_
    refine lv_goto (tgt := 47) C0.1 C0.2.1 dX5_entry_15 (by decide) ?_
    exact me_wiret _ C0.1 C0.2.1 B.returns B.notSynchronized hP hS (Nat.le_of_ble_eq_true rfl) (Nat.le_of_ble_eq_true rfl) (⟨_, _, hM, hMF, hz1_13, rfl, SameZ.rf.wr hz1 (by decide), (sEntry_no hnnr2).symm⟩) dX5_entry_47
  · rw [hnnr2] at hr2
    subst hr2
    obtain ⟨k, nd, hk, rfl, hTk, hdirk⟩ := noD_s (T := T) (v := d) (by rw [hnnr2]; decide)
    have hNk := (hT.2 k nd hTk).2
    refine lv_if_eq (tgt := 18) C0.1 C0.2.1 dX5_entry_10 (by decide) (fun c => ?_) (fun c => absurd c (by decide))
    refine lv_iload_n C0.1 C0.2.1 dX5_entry_18 rfl (lv_at hl 2 rfl) ?_
    refine lv_if_lt (tgt := 32) C0.1 C0.2.1 dX5_entry_19 (by decide) (fun c5 => ?_) (fun c5 => ?_)
    · refine lv_iconst (v := (-1)) C0.1 C0.2.1 dX5_entry_32 (by decide) ?_
      refine lv_goto (tgt := 47) C0.1 C0.2.1 dX5_entry_33 (by decide) ?_
      exact me_wiret _ C0.1 C0.2.1 B.returns B.notSynchronized hP hS (Nat.le_of_ble_eq_true rfl) (Nat.le_of_ble_eq_true rfl) (⟨_, _, hM, hMF, hz1_13, rfl, SameZ.rf.wr hz1 (by decide), by rw [sEntry_n hk hTk hdirk]; exact (ra_neg c5).symm⟩) dX5_entry_47
    · refine lv_iload_n C0.1 C0.2.1 dX5_entry_22 rfl (lv_at hl 2 rfl) ?_
      refine lv_aload_n C0.1 C0.2.1 dX5_entry_23 rfl (lv_at hl 0 rfl) ?_
      refine md_get C0 hP hM 10 (by decide) kw_487 (v := .ref ((a 10))) rfl dX5_entry_24 ?_
      refine lv_iload_n C0.1 C0.2.1 dX5_entry_27 rfl (lv_at hl 1 rfl) ?_
      refine md_iald C0 hP hM 10 (by decide) (i := k) (by show k < 200; omega) dX5_entry_28 ?_
      have hE40 := hNk.2.2.2.2.2.2.1
      refine me_topi (y := nI nd.2.2.2.2.length) hNk.2.2.2.2.2.1 ?_
      refine lv_icmp_lt (tgt := 36) C0.1 C0.2.1 dX5_entry_29 (by decide) (fun c6 => ?_) (fun c6 => ?_)
      · obtain ⟨hx1, hx2⟩ := nI_lt_of (by omega) c5 c6
        generalize x.toNatClampNeg = i at hx1 hx2
        subst hx2
        refine lv_aload_n C0.1 C0.2.1 dX5_entry_36 rfl (lv_at hl 0 rfl) ?_
        refine md_get C0 hP hM 9 (by decide) kw_486 (v := .ref ((a 9))) rfl dX5_entry_37 ?_
        refine lv_bipush (v := 40) C0.1 C0.2.1 dX5_entry_40 (by decide) ?_
        refine lv_iload_n C0.1 C0.2.1 dX5_entry_42 rfl (lv_at hl 1 rfl) ?_
        refine lv_imul C0.1 C0.2.1 dX5_entry_43 ?_
        refine me_topi (y := nI (40 * k)) (pk_mul 40 k) ?_
        refine lv_iload_n C0.1 C0.2.1 dX5_entry_44 rfl (lv_at hl 2 rfl) ?_
        refine lv_iadd C0.1 C0.2.1 dX5_entry_45 ?_
        refine me_topi (y := nI ((40 * k) + i)) (nI_add (40 * k) i) ?_
        refine md_iald C0 hP hM 9 (by decide) (i := ((40 * k) + i)) (by show ((40 * k) + i) < 8000; omega) dX5_entry_46 ?_
        exact me_wiret _ C0.1 C0.2.1 B.returns B.notSynchronized hP hS (Nat.le_of_ble_eq_true rfl) (Nat.le_of_ble_eq_true rfl) (⟨_, _, hM, hMF, hz1_13, rfl, SameZ.rf.wr hz1 (by decide), by rw [sEntry_n hk hTk hdirk, ra_nat hx1 (by omega)]; exact hNk.2.2.2.2.2.2.2 i hx1⟩) dX5_entry_47
      · refine lv_iconst (v := (-1)) C0.1 C0.2.1 dX5_entry_32 (by decide) ?_
        refine lv_goto (tgt := 47) C0.1 C0.2.1 dX5_entry_33 (by decide) ?_
        exact me_wiret _ C0.1 C0.2.1 B.returns B.notSynchronized hP hS (Nat.le_of_ble_eq_true rfl) (Nat.le_of_ble_eq_true rfl) (⟨_, _, hM, hMF, hz1_13, rfl, SameZ.rf.wr hz1 (by decide), by rw [sEntry_n hk hTk hdirk]; exact (ra_big c6).symm⟩) dX5_entry_47

set_option maxHeartbeats 4000000 in
set_option maxRecDepth 100000 in
/-- letter(v, which, k) -/
theorem c_X5_letter (l : Launch) (G : me_G) (B0 : Nat) (w : Me) (o : Nat) (a : Nat → Nat) (F : Nat → Nat → Int32) (z : Nat → Int32) (hM : MD G B0 w o a F z) (T : Tre) (hT : RT F T) (v wh x : Int32) : CtWI l yX5_letter (Cond.code yX5_letter cX5_letter 4 (some .int)) ({ frames := 1, cells := 0, slots := 0, locals := 21 }) G B0 w [.ref o, .int v, .int wh, .int x] (fun r w' => ∃ (F' : Nat → Nat → Int32) (z' : Nat → Int32), MD G B0 w' o a F' z' ∧ MF w w' o a ∧ F' = F ∧ SameZ z z' [13] ∧ ((¬ (wh = 0 ∨ wh = 1) ∧ z' 13 = 1) ∨ ((wh = 0 ∨ wh = 1) ∧ z' 13 = 0 ∧ r = sLetter T v wh x))) 0 0 := by
  refine Met.ofW (cc := cX5_letter) (maxL := 4) (ret := (some .int)) (by decide) rfl ?_
  intro p e s m args below meth c s₁ B hml hv
  obtain ⟨rfl, hK, hP, hKq, hBs⟩ := hv
  have hts := fun w h => atoms_spec (ws := Cond.code yX5_letter cX5_letter 4 (some .int) :: tbG) B.pre w (List.mem_cons_of_mem _ h)
  have hown : s.vm.findClass RX5 = some m.cls := findClass_of_methodNamed B.named
  have C0 : Cx G B0 p s m _ c cX5_letter RX5 := ⟨B.exec, B.bytes, hown, hts, hK, hKq, hBs⟩
  have hS : va_S (me_A B0) s.heap s.heap [] := va_S.rf
  have hl := lv_entry ([.ref o, .int v, .int wh, .int x]) (n := 4) (Nat.le_of_ble_eq_true rfl)
  rw [lg_entry_eq]
  generalize (lg_sl ([.ref o, .int v, .int wh, .int x]) ++ List.replicate (4 - (lg_sl ([.ref o, .int v, .int wh, .int x])).length) Slot.unset).toArray = ls at hl ⊢
  have hl : lv_has ls 4 [(0, .ref o), (1, .int v), (2, .int wh), (3, .int x)] := hl
  have hMF : MF w w o a := MF.rf
  refine lv_aload_n C0.1 C0.2.1 dX5_letter_0 rfl (lv_at hl 0 rfl) ?_
  refine lv_iload_n C0.1 C0.2.1 dX5_letter_1 rfl (lv_at hl 2 rfl) ?_
  refine lv_if_lt (tgt := 10) C0.1 C0.2.1 dX5_letter_2 (by decide) (fun c1 => ?_) (fun c1 => ?_)
  · refine lv_iconst (v := 1) C0.1 C0.2.1 dX5_letter_10 (by decide) ?_
    refine lv_goto (tgt := 15) C0.1 C0.2.1 dX5_letter_11 (by decide) ?_
    refine md_put C0 hP hS hM hMF 13 (by decide) kw_490 rfl rfl rfl dX5_letter_15 (fun w2 z2 H locs hz2 hM hMF hP hS => ?_)
    have hz2_13 : z2 13 = 1 := by rw [hz2, upd_eq]
    refine lv_aload_n C0.1 C0.2.1 dX5_letter_18 rfl (lv_at hl 0 rfl) ?_
    refine md_get C0 hP hM 13 (by decide) kw_490 (v := .int 1) (by show some (Value.int (z2 13)) = _; rw [hz2_13]) dX5_letter_19 ?_
    refine lv_if_le (tgt := 27) C0.1 C0.2.1 dX5_letter_22 (by decide) (fun c => absurd c (by decide)) (fun c => ?_)
    refine lv_iconst (v := 0) C0.1 C0.2.1 dX5_letter_25 (by decide) ?_
    exact me_wiret _ C0.1 C0.2.1 B.returns B.notSynchronized hP hS (Nat.le_of_ble_eq_true rfl) (Nat.le_of_ble_eq_true rfl) (⟨_, _, hM, hMF, rfl, SameZ.rf.wr hz2 (by decide), Or.inl ⟨by intro h; exact h.elim (fun h => absurd (h ▸ c1) (by decide)) (fun h => absurd (h ▸ c1) (by decide)), hz2_13⟩⟩) dX5_letter_26
  · refine lv_iload_n C0.1 C0.2.1 dX5_letter_5 rfl (lv_at hl 2 rfl) ?_
    refine lv_iconst (v := 1) C0.1 C0.2.1 dX5_letter_6 (by decide) ?_
    refine lv_icmp_le (tgt := 14) C0.1 C0.2.1 dX5_letter_7 (by decide) (fun c4 => ?_) (fun c4 => ?_)
    · obtain ⟨wk, hwk, rfl⟩ := n01 c1 (by exact c4)
      have hwh : nI wk = 0 ∨ nI wk = 1 := by rcases (show wk = 0 ∨ wk = 1 by omega) with rfl | rfl; exact Or.inl rfl; exact Or.inr rfl
      refine lv_iconst (v := 0) C0.1 C0.2.1 dX5_letter_14 (by decide) ?_
      refine md_put C0 hP hS hM hMF 13 (by decide) kw_490 rfl rfl rfl dX5_letter_15 (fun w5 z5 H locs hz5 hM hMF hP hS => ?_)
      have hz5_13 : z5 13 = 0 := by rw [hz5, upd_eq]
      refine lv_aload_n C0.1 C0.2.1 dX5_letter_18 rfl (lv_at hl 0 rfl) ?_
      refine md_get C0 hP hM 13 (by decide) kw_490 (v := .int 0) (by show some (Value.int (z5 13)) = _; rw [hz5_13]) dX5_letter_19 ?_
      refine lv_if_le (tgt := 27) C0.1 C0.2.1 dX5_letter_22 (by decide) (fun c => ?_) (fun c => absurd c (by decide))
      refine lv_aload_n C0.1 C0.2.1 dX5_letter_27 rfl (lv_at hl 0 rfl) ?_
      refine lv_iload_n C0.1 C0.2.1 dX5_letter_28 rfl (lv_at hl 1 rfl) ?_
      refine me_cVi (n := 1) C0 hml hP hS (c_X5_noNode l G B0 w5 o a F z5 hM T hT v) ⟨kw_622, kw_35, kw_619, ⟨by decide, by decide, by decide +kernel⟩, ⟨rfl, rfl⟩, ⟨Nat.le_of_ble_eq_true rfl, Nat.le_of_ble_eq_true rfl⟩⟩ kw_621 kw_21 hM.1 rfl rfl hl.1 rfl (Nat.le_of_ble_eq_true rfl) ⟨Nat.le_of_ble_eq_true rfl, Nat.le_of_ble_eq_true rfl⟩ dX5_letter_29 (fun r7 hr7 => ?_)
      rcases noN_r (T := T) v with hnnr7 | hnnr7
      · rw [hnnr7] at hr7
        subst hr7
        refine lv_if_eq (tgt := 38) C0.1 C0.2.1 dX5_letter_32 (by decide) (fun c => absurd c (by decide)) (fun c => ?_)
        refine lv_bipush (v := (-5)) C0.1 C0.2.1 dX5_letter_35 (by decide) ?_
        exact me_wiret _ C0.1 C0.2.1 B.returns B.notSynchronized hP hS (Nat.le_of_ble_eq_true rfl) (Nat.le_of_ble_eq_true rfl) (⟨_, _, hM, hMF, rfl, SameZ.rf.wr hz5 (by decide), Or.inr ⟨hwh, hz5_13, (sLetter_no hnnr7).symm⟩⟩) dX5_letter_37
      · rw [hnnr7] at hr7
        subst hr7
        obtain ⟨k, nd, hk, rfl, hTk⟩ := noN_s (T := T) (v := v) (by rw [hnnr7]; decide)
        have hNk := (hT.2 k nd hTk).2
        refine lv_if_eq (tgt := 38) C0.1 C0.2.1 dX5_letter_32 (by decide) (fun c => ?_) (fun c => absurd c (by decide))
        refine lv_iload_n C0.1 C0.2.1 dX5_letter_38 rfl (lv_at hl 3 rfl) ?_
        refine lv_if_lt (tgt := 65) C0.1 C0.2.1 dX5_letter_39 (by decide) (fun c10 => ?_) (fun c10 => ?_)
        · refine lv_iconst (v := (-1)) C0.1 C0.2.1 dX5_letter_65 (by decide) ?_
          exact me_wiret _ C0.1 C0.2.1 B.returns B.notSynchronized hP hS (Nat.le_of_ble_eq_true rfl) (Nat.le_of_ble_eq_true rfl) (⟨_, _, hM, hMF, rfl, SameZ.rf.wr hz5 (by decide), Or.inr ⟨hwh, hz5_13, by rw [sLetter_n hk hTk]; split <;> exact (ra_neg c10).symm⟩⟩) dX5_letter_66
        · refine lv_iload_n C0.1 C0.2.1 dX5_letter_42 rfl (lv_at hl 3 rfl) ?_
          refine lv_iload_n C0.1 C0.2.1 dX5_letter_43 rfl (lv_at hl 2 rfl) ?_
          refine lv_if_ne (tgt := 56) C0.1 C0.2.1 dX5_letter_44 (by decide) (fun c11 => ?_) (fun c11 => ?_)
          · have d11 : wk ≠ 0 := fun h => c11 (congrArg nI h)
            refine lv_aload_n C0.1 C0.2.1 dX5_letter_56 rfl (lv_at hl 0 rfl) ?_
            refine md_get C0 hP hM 8 (by decide) kw_485 (v := .ref ((a 8))) rfl dX5_letter_57 ?_
            refine lv_iload_n C0.1 C0.2.1 dX5_letter_60 rfl (lv_at hl 1 rfl) ?_
            refine md_iald C0 hP hM 8 (by decide) (i := k) (by show k < 200; omega) dX5_letter_61 ?_
            have hE60 := hNk.2.2.2.2.1.2.1
            refine me_topi (y := nI nd.2.2.2.1.length) hNk.2.2.2.2.1.1 ?_
            refine lv_icmp_lt (tgt := 67) C0.1 C0.2.1 dX5_letter_62 (by decide) (fun c12 => ?_) (fun c12 => ?_)
            · obtain ⟨hx1, hx2⟩ := nI_lt_of (by omega) c10 c12
              generalize x.toNatClampNeg = i at hx1 hx2
              subst hx2
              refine lv_iload_n C0.1 C0.2.1 dX5_letter_67 rfl (lv_at hl 2 rfl) ?_
              refine lv_if_ne (tgt := 85) C0.1 C0.2.1 dX5_letter_68 (by decide) (fun c13 => ?_) (fun c13 => ?_)
              · have d13 : wk ≠ 0 := fun h => c13 (congrArg nI h)
                refine lv_aload_n C0.1 C0.2.1 dX5_letter_85 rfl (lv_at hl 0 rfl) ?_
                refine md_get C0 hP hM 7 (by decide) kw_484 (v := .ref ((a 7))) rfl dX5_letter_86 ?_
                refine lv_bipush (v := 60) C0.1 C0.2.1 dX5_letter_89 (by decide) ?_
                refine lv_iload_n C0.1 C0.2.1 dX5_letter_91 rfl (lv_at hl 1 rfl) ?_
                refine lv_imul C0.1 C0.2.1 dX5_letter_92 ?_
                refine me_topi (y := nI (60 * k)) (pk_mul 60 k) ?_
                refine lv_iload_n C0.1 C0.2.1 dX5_letter_93 rfl (lv_at hl 3 rfl) ?_
                refine lv_iadd C0.1 C0.2.1 dX5_letter_94 ?_
                refine me_topi (y := nI ((60 * k) + i)) (nI_add (60 * k) i) ?_
                refine md_iald C0 hP hM 7 (by decide) (i := ((60 * k) + i)) (by show ((60 * k) + i) < 12000; omega) dX5_letter_95 ?_
                exact me_wiret _ C0.1 C0.2.1 B.returns B.notSynchronized hP hS (Nat.le_of_ble_eq_true rfl) (Nat.le_of_ble_eq_true rfl) (⟨_, _, hM, hMF, rfl, SameZ.rf.wr hz5 (by decide), Or.inr ⟨hwh, hz5_13, by rw [sLetter_n hk hTk, if_neg c13, ra_nat hx1 (by omega)]; exact hNk.2.2.2.2.1.2.2 i hx1⟩⟩) dX5_letter_96
              · have d13 : wk = 0 := (nI_eq (a := wk) (b := 0) (by omega) (by omega)).mp c13
                refine lv_aload_n C0.1 C0.2.1 dX5_letter_71 rfl (lv_at hl 0 rfl) ?_
                refine md_get C0 hP hM 5 (by decide) kw_482 (v := .ref ((a 5))) rfl dX5_letter_72 ?_
                refine lv_bipush (v := 60) C0.1 C0.2.1 dX5_letter_75 (by decide) ?_
                refine lv_iload_n C0.1 C0.2.1 dX5_letter_77 rfl (lv_at hl 1 rfl) ?_
                refine lv_imul C0.1 C0.2.1 dX5_letter_78 ?_
                refine me_topi (y := nI (60 * k)) (pk_mul 60 k) ?_
                refine lv_iload_n C0.1 C0.2.1 dX5_letter_79 rfl (lv_at hl 3 rfl) ?_
                refine lv_iadd C0.1 C0.2.1 dX5_letter_80 ?_
                refine me_topi (y := nI ((60 * k) + i)) (nI_add (60 * k) i) ?_
                refine md_iald C0 hP hM 5 (by decide) (i := ((60 * k) + i)) (by show ((60 * k) + i) < 12000; omega) dX5_letter_81 ?_
                refine lv_goto (tgt := 96) C0.1 C0.2.1 dX5_letter_82 (by decide) ?_
                exact me_wiret _ C0.1 C0.2.1 B.returns B.notSynchronized hP hS (Nat.le_of_ble_eq_true rfl) (Nat.le_of_ble_eq_true rfl) (⟨_, _, hM, hMF, rfl, SameZ.rf.wr hz5 (by decide), Or.inr ⟨hwh, hz5_13, absurd c13 c11⟩⟩) dX5_letter_96
            · refine lv_iconst (v := (-1)) C0.1 C0.2.1 dX5_letter_65 (by decide) ?_
              exact me_wiret _ C0.1 C0.2.1 B.returns B.notSynchronized hP hS (Nat.le_of_ble_eq_true rfl) (Nat.le_of_ble_eq_true rfl) (⟨_, _, hM, hMF, rfl, SameZ.rf.wr hz5 (by decide), Or.inr ⟨hwh, hz5_13, by rw [sLetter_n hk hTk, if_neg c11]; exact (ra_big c12).symm⟩⟩) dX5_letter_66
          · have d11 : wk = 0 := (nI_eq (a := wk) (b := 0) (by omega) (by omega)).mp c11
            refine lv_aload_n C0.1 C0.2.1 dX5_letter_47 rfl (lv_at hl 0 rfl) ?_
            refine md_get C0 hP hM 6 (by decide) kw_483 (v := .ref ((a 6))) rfl dX5_letter_48 ?_
            refine lv_iload_n C0.1 C0.2.1 dX5_letter_51 rfl (lv_at hl 1 rfl) ?_
            refine md_iald C0 hP hM 6 (by decide) (i := k) (by show k < 200; omega) dX5_letter_52 ?_
            have hE60 := hNk.2.2.2.1.2.1
            refine me_topi (y := nI nd.2.2.1.length) hNk.2.2.2.1.1 ?_
            refine lv_goto (tgt := 62) C0.1 C0.2.1 dX5_letter_53 (by decide) ?_
            refine lv_icmp_lt (tgt := 67) C0.1 C0.2.1 dX5_letter_62 (by decide) (fun c14 => ?_) (fun c14 => ?_)
            · obtain ⟨hx1, hx2⟩ := nI_lt_of (by omega) c10 c14
              generalize x.toNatClampNeg = i at hx1 hx2
              subst hx2
              refine lv_iload_n C0.1 C0.2.1 dX5_letter_67 rfl (lv_at hl 2 rfl) ?_
              refine lv_if_ne (tgt := 85) C0.1 C0.2.1 dX5_letter_68 (by decide) (fun c15 => ?_) (fun c15 => ?_)
              · have d15 : wk ≠ 0 := fun h => c15 (congrArg nI h)
                refine lv_aload_n C0.1 C0.2.1 dX5_letter_85 rfl (lv_at hl 0 rfl) ?_
                refine md_get C0 hP hM 7 (by decide) kw_484 (v := .ref ((a 7))) rfl dX5_letter_86 ?_
                refine lv_bipush (v := 60) C0.1 C0.2.1 dX5_letter_89 (by decide) ?_
                refine lv_iload_n C0.1 C0.2.1 dX5_letter_91 rfl (lv_at hl 1 rfl) ?_
                refine lv_imul C0.1 C0.2.1 dX5_letter_92 ?_
                refine me_topi (y := nI (60 * k)) (pk_mul 60 k) ?_
                refine lv_iload_n C0.1 C0.2.1 dX5_letter_93 rfl (lv_at hl 3 rfl) ?_
                refine lv_iadd C0.1 C0.2.1 dX5_letter_94 ?_
                refine me_topi (y := nI ((60 * k) + i)) (nI_add (60 * k) i) ?_
                refine md_iald C0 hP hM 7 (by decide) (i := ((60 * k) + i)) (by show ((60 * k) + i) < 12000; omega) dX5_letter_95 ?_
                exact me_wiret _ C0.1 C0.2.1 B.returns B.notSynchronized hP hS (Nat.le_of_ble_eq_true rfl) (Nat.le_of_ble_eq_true rfl) (⟨_, _, hM, hMF, rfl, SameZ.rf.wr hz5 (by decide), Or.inr ⟨hwh, hz5_13, absurd c11 c15⟩⟩) dX5_letter_96
              · have d15 : wk = 0 := (nI_eq (a := wk) (b := 0) (by omega) (by omega)).mp c15
                refine lv_aload_n C0.1 C0.2.1 dX5_letter_71 rfl (lv_at hl 0 rfl) ?_
                refine md_get C0 hP hM 5 (by decide) kw_482 (v := .ref ((a 5))) rfl dX5_letter_72 ?_
                refine lv_bipush (v := 60) C0.1 C0.2.1 dX5_letter_75 (by decide) ?_
                refine lv_iload_n C0.1 C0.2.1 dX5_letter_77 rfl (lv_at hl 1 rfl) ?_
                refine lv_imul C0.1 C0.2.1 dX5_letter_78 ?_
                refine me_topi (y := nI (60 * k)) (pk_mul 60 k) ?_
                refine lv_iload_n C0.1 C0.2.1 dX5_letter_79 rfl (lv_at hl 3 rfl) ?_
                refine lv_iadd C0.1 C0.2.1 dX5_letter_80 ?_
                refine me_topi (y := nI ((60 * k) + i)) (nI_add (60 * k) i) ?_
                refine md_iald C0 hP hM 5 (by decide) (i := ((60 * k) + i)) (by show ((60 * k) + i) < 12000; omega) dX5_letter_81 ?_
                refine lv_goto (tgt := 96) C0.1 C0.2.1 dX5_letter_82 (by decide) ?_
                exact me_wiret _ C0.1 C0.2.1 B.returns B.notSynchronized hP hS (Nat.le_of_ble_eq_true rfl) (Nat.le_of_ble_eq_true rfl) (⟨_, _, hM, hMF, rfl, SameZ.rf.wr hz5 (by decide), Or.inr ⟨hwh, hz5_13, by rw [sLetter_n hk hTk, if_pos c15, ra_nat hx1 (by omega)]; exact hNk.2.2.2.1.2.2 i hx1⟩⟩) dX5_letter_96
            · refine lv_iconst (v := (-1)) C0.1 C0.2.1 dX5_letter_65 (by decide) ?_
              exact me_wiret _ C0.1 C0.2.1 B.returns B.notSynchronized hP hS (Nat.le_of_ble_eq_true rfl) (Nat.le_of_ble_eq_true rfl) (⟨_, _, hM, hMF, rfl, SameZ.rf.wr hz5 (by decide), Or.inr ⟨hwh, hz5_13, by rw [sLetter_n hk hTk, if_pos c11]; exact (ra_big c14).symm⟩⟩) dX5_letter_66
    · refine lv_iconst (v := 1) C0.1 C0.2.1 dX5_letter_10 (by decide) ?_
      refine lv_goto (tgt := 15) C0.1 C0.2.1 dX5_letter_11 (by decide) ?_
      refine md_put C0 hP hS hM hMF 13 (by decide) kw_490 rfl rfl rfl dX5_letter_15 (fun w16 z16 H locs hz16 hM hMF hP hS => ?_)
      have hz16_13 : z16 13 = 1 := by rw [hz16, upd_eq]
      refine lv_aload_n C0.1 C0.2.1 dX5_letter_18 rfl (lv_at hl 0 rfl) ?_
      refine md_get C0 hP hM 13 (by decide) kw_490 (v := .int 1) (by show some (Value.int (z16 13)) = _; rw [hz16_13]) dX5_letter_19 ?_
      refine lv_if_le (tgt := 27) C0.1 C0.2.1 dX5_letter_22 (by decide) (fun c => absurd c (by decide)) (fun c => ?_)
      refine lv_iconst (v := 0) C0.1 C0.2.1 dX5_letter_25 (by decide) ?_
      exact me_wiret _ C0.1 C0.2.1 B.returns B.notSynchronized hP hS (Nat.le_of_ble_eq_true rfl) (Nat.le_of_ble_eq_true rfl) (⟨_, _, hM, hMF, rfl, SameZ.rf.wr hz16 (by decide), Or.inl ⟨by intro h; exact h.elim (fun h => absurd (h ▸ c4) (by decide)) (fun h => absurd (h ▸ c4) (by decide)), hz16_13⟩⟩) dX5_letter_26
