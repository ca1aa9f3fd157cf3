set_option maxHeartbeats 4000000 in
set_option maxRecDepth 100000 in
/-- feed(n, octets) -/
theorem c_X4_feed (l : Launch) (hl0 : l.stackTraces = false) (G : me_G) (B0 : Nat) (w : Me) (D : Nat → Prop) (ad : Nat → Nat → Nat) (ex : Nat → Bool) (R : Nat → Nat → List Int32) (N : Nat → Nat → Int32) (cnt : Int32) (hFN : FN G B0 D w ad ex R N cnt) (T : Tre) (Bn : Nat → List Int32) (hCT : CT ex R N T Bn) (tp : List Int32) (htp : R 0 1 = tp) (nn : Int32) (oc : Int64) : CtX l yX4_feed (Cond.code yX4_feed cX4_feed 5 (some .int)) ({ frames := 6, cells := 1, slots := 6, locals := 82 }) G B0 w [.ref (ad 0 0), .int nn, .long oc] (fun r w' => ∃ (q0 : Nat) (R' : Nat → Nat → List Int32), 1 ≤ q0 ∧ q0 ≤ 8 ∧ nn = nI q0 ∧ tp.length + q0 ≤ 200 ∧ r = nI (tp.length + q0) ∧ FN G B0 D w' ad ex R' N cnt ∧ FDr D w w' ∧ (∀ j, j ≠ 1 → R' 0 j = R 0 j) ∧ R' 0 1 = tp ++ octsR oc q0 ∧ CT ex R' N T Bn) (∀ q0 : Nat, 1 ≤ q0 → q0 ≤ 8 → ¬ (nn = nI q0 ∧ tp.length + q0 ≤ 200)) 1 6 := by
  refine vx_ofW (cc := cX4_feed) (maxL := 5) (ret := (some .int)) (by decide) rfl ?_
  intro p e s m args below meth c s₁ B hml hout hv
  obtain ⟨rfl, ⟨hK, hP, hKq, hBs⟩, hE⟩ := hv
  have hts := fun w h => atoms_spec (ws := Cond.code yX4_feed cX4_feed 5 (some .int) :: tbG) B.pre w (List.mem_cons_of_mem _ h)
  have hown : s.vm.findClass RX4 = some m.cls := findClass_of_methodNamed B.named
  have C0 : Cx G B0 p s m _ c cX4_feed RX4 := ⟨B.exec, B.bytes, hown, hts, hK, hKq, hBs⟩
  have hS : va_S (me_A B0) s.heap s.heap [] := va_S.rf
  have hl := lv_entry ([.ref (ad 0 0), .int nn, .long oc]) (n := 5) (Nat.le_of_ble_eq_true rfl)
  rw [lg_entry_eq]
  generalize (lg_sl ([.ref (ad 0 0), .int nn, .long oc]) ++ List.replicate (5 - (lg_sl ([.ref (ad 0 0), .int nn, .long oc])).length) Slot.unset).toArray = ls at hl ⊢
  have hl : lv_has ls 5 [(0, .ref (ad 0 0)), (1, .int nn), (2, .long oc)] := hl
  have hFD : FDr D w w := FDr.rf
  have htl : tp.length ≤ 200 := (hFN.rw0 0 1 hFN.2.2.2.2.1 (Or.inl rfl) htp).2.1
  refine lv_iload_n C0.1 C0.2.1 dX4_feed_0 rfl (lv_at hl 1 rfl) ?_
  refine lv_iconst (v := 1) C0.1 C0.2.1 dX4_feed_1 (by decide) ?_
  refine lv_icmp_lt (tgt := 11) C0.1 C0.2.1 dX4_feed_2 (by decide) (fun c1 => ?_) (fun c1 => ?_)
  · exact me_throw C0 hE hl0 (hl.1.trans hml.symm) hP hS (fun m1 h1 h2 e => absurd (e.1 ▸ c1) (nI_nlt (a := m1) (b := 1) (by omega) (by omega))) hKq.2.1.2.2.1 hout B.notSynchronized (Nat.le_of_ble_eq_true rfl) (Nat.le_of_ble_eq_true rfl) (Nat.le_of_ble_eq_true rfl) (Nat.le_of_ble_eq_true rfl) (Nat.le_of_ble_eq_true rfl) (Nat.le_of_ble_eq_true rfl) dX4_feed_11 dX4_feed_14 dX4_feed_15 dX4_feed_17 dX4_feed_20
  · refine lv_iload_n C0.1 C0.2.1 dX4_feed_5 rfl (lv_at hl 1 rfl) ?_
    refine lv_bipush (v := 8) C0.1 C0.2.1 dX4_feed_6 (by decide) ?_
    refine lv_icmp_le (tgt := 21) C0.1 C0.2.1 dX4_feed_8 (by decide) (fun c2 => ?_) (fun c2 => ?_)
    · obtain ⟨m0, hm1, hm8, rfl⟩ := n18 c1 (Int32.not_lt.mpr c2)
      refine lv_aload_n C0.1 C0.2.1 dX4_feed_21 rfl (lv_at hl 0 rfl) ?_
      refine me_get C0 hP hFN.1 rfl inX4 0 (by decide) kw_118 rfl dX4_feed_22 ?_
      refine me_cVi (n := 0) C0 hml hP hS (c_X2_size l G B0 w (ad 0 1) (ad 0 (1 + 1)) (capR 0 1) tp (hFN.rw0 0 1 hFN.2.2.2.2.1 (Or.inl rfl) htp)) ⟨kw_141, kw_32, kw_138, ⟨by decide, by decide, by decide +kernel⟩, ⟨rfl, rfl⟩, ⟨Nat.le_of_ble_eq_true rfl, Nat.le_of_ble_eq_true rfl⟩⟩ kw_139 kw_140 (hFN.2.2.2.1 0 1 hFN.2.2.2.2.1 (Or.inl rfl)).1 rfl rfl hl.1 rfl (Nat.le_of_ble_eq_true rfl) ⟨Nat.le_of_ble_eq_true rfl, Nat.le_of_ble_eq_true rfl⟩ dX4_feed_25 (fun r3 hr3 => ?_)
      subst hr3
      have hlcr3 : tp.length ≤ 200 := (hFN.rw0 0 1 hFN.2.2.2.2.1 (Or.inl rfl) htp).2.1
      refine lv_iload_n C0.1 C0.2.1 dX4_feed_28 rfl (lv_at hl 1 rfl) ?_
      refine lv_iadd C0.1 C0.2.1 dX4_feed_29 ?_
      refine me_topi (y := nI (tp.length + m0)) (nI_add tp.length m0) ?_
      refine lv_sipush (v := 200) C0.1 C0.2.1 dX4_feed_30 (by decide) ?_
      refine lv_icmp_le (tgt := 46) C0.1 C0.2.1 dX4_feed_33 (by decide) (fun c4 => ?_) (fun c4 => ?_)
      · have d4 : (tp.length + m0) ≤ 200 := (nI_leI (a := (tp.length + m0)) (b := 200) (by omega) (by omega)).mp c4
        refine lv_iconst (v := 0) C0.1 C0.2.1 dX4_feed_46 (by decide) ?_
        refine lv_istore (lv' := [(4, .int 0), (0, .ref (ad 0 0)), (1, .int (nI m0)), (2, .long oc)]) C0.1 C0.2.1 dX4_feed_47 hl (by decide) rfl (fun ls hl => ?_)
        have loop49 : ∀ (n : Nat) (i : Nat) (wl : Me) (Rl : Nat → Nat → List Int32), (i ≤ m0) → (FN G B0 D wl ad ex Rl N cnt) → (FDr D w wl) → (Rl 0 1 = tp ++ octsR oc i) → (∀ j, j ≠ 1 → Rl 0 j = R 0 j) → (CT ex Rl N T Bn) → (m0 - i) < n → ∀ (H : Heap) (locs : List Loc), ∀ (ls : Array Slot), me_P G.1 wl H → va_S (me_A B0) s.heap H locs → lv_has ls 5 [(4, .int (nI i)), (0, .ref (ad 0 0)), (1, .int (nI m0)), (2, .long oc)] → W p l e ({ frames := 6, cells := 1, slots := 6, locals := 82 }) s m ([.ref (ad 0 0), .int (nI m0), .long oc] : List Value).toArray below meth c H locs 0 0 (vx_MQ below (va_Qi (fun r w' => ∃ (q0 : Nat) (R' : Nat → Nat → List Int32), 1 ≤ q0 ∧ q0 ≤ 8 ∧ (nI m0) = nI q0 ∧ tp.length + q0 ≤ 200 ∧ r = nI (tp.length + q0) ∧ FN G B0 D w' ad ex R' N cnt ∧ FDr D w w' ∧ (∀ j, j ≠ 1 → R' 0 j = R 0 j) ∧ R' 0 1 = tp ++ octsR oc q0 ∧ CT ex R' N T Bn) (me_W G) (me_A B0)) (me_XC G B0 w (∀ q0 : Nat, 1 ≤ q0 → q0 ≤ 8 → ¬ ((nI m0) = nI q0 ∧ tp.length + q0 ≤ 200))) ([.ref (ad 0 0), .int (nI m0), .long oc] : List Value).toArray s 1 6 (me_A B0)) (F0 m 49 ls []) := by
          intro n
          induction n with
          | zero => intro i wl Rl _ _ _ _ _ _ hz; exact absurd hz (Nat.not_lt_zero _)
          | succ n ih49 =>
            intro i wl Rl hil hFN hFD hv hr3 hCTl hn49 H locs ls hP hS hl
            refine lv_iload C0.1 C0.2.1 dX4_feed_49 (lv_at hl 0 rfl) ?_
            refine lv_iload_n C0.1 C0.2.1 dX4_feed_51 rfl (lv_at hl 2 rfl) ?_
            refine lv_icmp_ge (tgt := 80) C0.1 C0.2.1 dX4_feed_52 (by decide) (fun c5 => ?_) (fun c5 => ?_)
            · have d5 : m0 ≤ i := (nI_leI (a := m0) (b := i) (by omega) (by omega)).mp c5
              have hi0 : i = m0 := by omega
              refine lv_aload_n C0.1 C0.2.1 dX4_feed_80 rfl (lv_at hl 1 rfl) ?_
              refine me_get C0 hP hFN.1 rfl inX4 0 (by decide) kw_118 rfl dX4_feed_81 ?_
              refine me_cVi (n := 0) C0 hml hP hS (c_X2_size l G B0 wl (ad 0 1) (ad 0 (1 + 1)) (capR 0 1) (tp ++ octsR oc i) (hFN.rw0 0 1 hFN.2.2.2.2.1 (Or.inl rfl) hv)) ⟨kw_141, kw_32, kw_138, ⟨by decide, by decide, by decide +kernel⟩, ⟨rfl, rfl⟩, ⟨Nat.le_of_ble_eq_true rfl, Nat.le_of_ble_eq_true rfl⟩⟩ kw_139 kw_140 (hFN.2.2.2.1 0 1 hFN.2.2.2.2.1 (Or.inl rfl)).1 rfl rfl hl.1 rfl (Nat.le_of_ble_eq_true rfl) ⟨Nat.le_of_ble_eq_true rfl, Nat.le_of_ble_eq_true rfl⟩ dX4_feed_84 (fun r6 hr6 => ?_)
              subst hr6
              have hlcr6 : (tp ++ octsR oc i).length ≤ 200 := (hFN.rw0 0 1 hFN.2.2.2.2.1 (Or.inl rfl) hv).2.1
              exact vx_ret (me_wiret _ C0.1 C0.2.1 B.returns B.notSynchronized hP hS (Nat.le_of_ble_eq_true rfl) (Nat.le_of_ble_eq_true rfl) (⟨m0, _, hm1, hm8, rfl, by omega, by rw [List.length_append, octsR_len, hi0], hFN, hFD, hr3, hv.trans (by rw [hi0]), hCTl⟩) dX4_feed_87)
            · have d5 : i < m0 := Nat.not_le.mp (fun h => c5 (nI_le (a := m0) (b := i) h (by omega)))
              refine lv_aload_n C0.1 C0.2.1 dX4_feed_55 rfl (lv_at hl 1 rfl) ?_
              refine me_get C0 hP hFN.1 rfl inX4 0 (by decide) kw_118 rfl dX4_feed_56 ?_
              refine lv_lload_n C0.1 C0.2.1 dX4_feed_59 rfl (lv_at hl 3 rfl) ?_
              refine lv_bipush (v := 8) C0.1 C0.2.1 dX4_feed_60 (by decide) ?_
              refine lv_iload C0.1 C0.2.1 dX4_feed_62 (lv_at hl 0 rfl) ?_
              refine lv_imul C0.1 C0.2.1 dX4_feed_64 ?_
              refine me_topi (y := nI (8 * i)) (pk_mul 8 i) ?_
              refine lv_lushr C0.1 C0.2.1 dX4_feed_65 rfl ?_
              refine lv_l2i C0.1 C0.2.1 dX4_feed_66 rfl ?_
              refine lv_sipush (v := 255) C0.1 C0.2.1 dX4_feed_67 (by decide) ?_
              refine lv_iand C0.1 C0.2.1 dX4_feed_70 ?_
              refine me_topi (y := octR oc i) (octU oc i (by omega)) ?_
              refine me_cVwv (n := 1) C0 hml hP hS (c_X2_add l G B0 wl (ad 0 1) (ad 0 (1 + 1)) (capR 0 1) (tp ++ octsR oc i) (hFN.rw0 0 1 hFN.2.2.2.2.1 (Or.inl rfl) hv) (hFN.bb hFN.2.2.2.2.1 (rowJ_us (show rowJ 0 1 from (Or.inl rfl))).1) (hFN.bb hFN.2.2.2.2.1 (rowJ_us (show rowJ 0 1 from (Or.inl rfl))).2.1) (octR oc i)) ⟨kw_313, kw_32, kw_310, ⟨by decide, by decide, by decide +kernel⟩, ⟨rfl, rfl⟩, ⟨Nat.le_of_ble_eq_true rfl, Nat.le_of_ble_eq_true rfl⟩⟩ kw_311 kw_312 (hFN.2.2.2.1 0 1 hFN.2.2.2.2.1 (Or.inl rfl)).1 rfl rfl hl.1 rfl (Nat.le_of_ble_eq_true rfl) ⟨Nat.le_of_ble_eq_true rfl, Nat.le_of_ble_eq_true rfl⟩ dX4_feed_71 (fun w7 H locs hw7 hP hS => ?_)
              obtain ⟨hRw7, hCh7⟩ := hw7
              have hFD := hFD.ch (hFN.dd hFN.2.2.2.2.1 (rowJ_us (show rowJ 0 1 from (Or.inl rfl))).1) (hFN.dd hFN.2.2.2.2.1 (rowJ_us (show rowJ 0 1 from (Or.inl rfl))).2.1) hCh7
              have hFN := hFN.row (a := 0) (j := 1) hFN.2.2.2.2.1 (Or.inl rfl) hRw7 hCh7
              obtain ⟨R7, hR7⟩ : ∃ x, x = updR Rl 0 1 (rIns (capR 0 1) (tp ++ octsR oc i) ((tp ++ octsR oc i).length) (octR oc i)) := ⟨_, rfl⟩
              have hFN : FN G B0 D w7 ad ex R7 N cnt := by rw [hR7]; exact hFN
              have hv7_0_1 : R7 0 1 = rIns (capR 0 1) (tp ++ octsR oc i) ((tp ++ octsR oc i).length) (octR oc i) := by rw [hR7, updR_s]
              have hCT7 := hCTl.sr ((SR.rf : SR _ _ [(0, 1)]).wr hR7 (by simp)) (by simp)
              refine lv_iinc (v := nI (i + 1)) (lv' := [(4, .int (nI (i + 1))), (0, .ref (ad 0 0)), (1, .int (nI m0)), (2, .long oc)]) C0.1 C0.2.1 dX4_feed_74 hl (k := 0) rfl (nI_add i 1) (by decide) rfl (fun ls hl => ?_)
              refine lv_goto (tgt := 49) C0.1 C0.2.1 dX4_feed_77 (by decide) ?_
              exact ih49 (i + 1) _ _ (by omega) hFN hFD (hv7_0_1.trans (by rw [octsR_s, ← List.append_assoc]; exact rIns_lt (by rw [List.length_append, octsR_len]; show _ < 200; omega))) (fun j hj => (((SR.rf : SR Rl Rl [(0, 1)]).wr hR7 (by simp)) 0 j (by simp; omega)).trans (hr3 j hj)) hCT7 (by omega) _ _ _ hP hS (lv_sub hl [0, 1, 2, 3] rfl)
        exact loop49 (m0 - 0 + 1) 0 _ _ (Nat.zero_le _) hFN hFD (htp.trans (List.append_nil tp).symm) (fun _ _ => rfl) hCT (Nat.lt_succ_self _) _ _ _ hP hS (lv_sub hl [0, 1, 2, 3] rfl)
      · have d4 : 200 < (tp.length + m0) := Nat.not_le.mp (fun h => c4 (nI_le (a := (tp.length + m0)) (b := 200) h (by omega)))
        exact me_throw C0 hE hl0 (hl.1.trans hml.symm) hP hS (fun m1 h1 h2 e => by have := (nI_eq (by omega) (by omega)).mp e.1; omega) hKq.2.1.2.2.2.1 hout B.notSynchronized (Nat.le_of_ble_eq_true rfl) (Nat.le_of_ble_eq_true rfl) (Nat.le_of_ble_eq_true rfl) (Nat.le_of_ble_eq_true rfl) (Nat.le_of_ble_eq_true rfl) (Nat.le_of_ble_eq_true rfl) dX4_feed_36 dX4_feed_39 dX4_feed_40 dX4_feed_42 dX4_feed_45
    · exact me_throw C0 hE hl0 (hl.1.trans hml.symm) hP hS (fun m1 h1 h2 e => c2 (by rw [e.1]; exact nI_le (a := m1) (b := 8) (by omega) (by omega))) hKq.2.1.2.2.1 hout B.notSynchronized (Nat.le_of_ble_eq_true rfl) (Nat.le_of_ble_eq_true rfl) (Nat.le_of_ble_eq_true rfl) (Nat.le_of_ble_eq_true rfl) (Nat.le_of_ble_eq_true rfl) (Nat.le_of_ble_eq_true rfl) dX4_feed_11 dX4_feed_14 dX4_feed_15 dX4_feed_17 dX4_feed_20

set_option maxHeartbeats 4000000 in
set_option maxRecDepth 100000 in
/-- about(node, what) -/
theorem c_X4_about (l : Launch) (hl0 : l.stackTraces = false) (G : me_G) (B0 : Nat) (w : Me) (D : Nat → Prop) (ad : Nat → Nat → Nat) (ex : Nat → Bool) (R : Nat → Nat → List Int32) (N : Nat → Nat → Int32) (cnt : Int32) (hFN : FN G B0 D w ad ex R N cnt) (T : Tre) (Bn : Nat → List Int32) (hCT : CT ex R N T Bn) (hI : TI T) (dp : Nat → Nat) (hdp : NoRing T dp) (hd200 : ∀ u, dp u < 200) (v wh : Int32) : CtX l yX4_about (Cond.code yX4_about cX4_about 4 (some .int)) ({ frames := 6, cells := 1, slots := 6, locals := 82 }) G B0 w [.ref (ad 0 0), .int v, .int wh] (fun r w' => (¬ wh < 0 ∧ ¬ 5 < wh) ∧ r = sAbout T 200 v wh ∧ w' = w) (¬ (¬ wh < 0 ∧ ¬ 5 < wh)) 1 6 := by
  refine vx_ofW (cc := cX4_about) (maxL := 4) (ret := (some .int)) (by decide) rfl ?_
  intro p e s m args below meth c s₁ B hml hout hv
  obtain ⟨rfl, ⟨hK, hP, hKq, hBs⟩, hE⟩ := hv
  have hts := fun w h => atoms_spec (ws := Cond.code yX4_about cX4_about 4 (some .int) :: tbG) B.pre w (List.mem_cons_of_mem _ h)
  have hown : s.vm.findClass RX4 = some m.cls := findClass_of_methodNamed B.named
  have C0 : Cx G B0 p s m _ c cX4_about RX4 := ⟨B.exec, B.bytes, hown, hts, hK, hKq, hBs⟩
  have hS : va_S (me_A B0) s.heap s.heap [] := va_S.rf
  have hl := lv_entry ([.ref (ad 0 0), .int v, .int wh]) (n := 4) (Nat.le_of_ble_eq_true rfl)
  rw [lg_entry_eq]
  generalize (lg_sl ([.ref (ad 0 0), .int v, .int wh]) ++ List.replicate (4 - (lg_sl ([.ref (ad 0 0), .int v, .int wh])).length) Slot.unset).toArray = ls at hl ⊢
  have hl : lv_has ls 4 [(0, .ref (ad 0 0)), (1, .int v), (2, .int wh)] := hl
  refine lv_iload_n C0.1 C0.2.1 dX4_about_0 rfl (lv_at hl 2 rfl) ?_
  refine lv_if_lt (tgt := 9) C0.1 C0.2.1 dX4_about_1 (by decide) (fun c1 => ?_) (fun c1 => ?_)
  · exact me_throw C0 hE hl0 (hl.1.trans hml.symm) hP hS (fun h => h.1 c1) hKq.2.1.2.2.2.2.1 hout B.notSynchronized (Nat.le_of_ble_eq_true rfl) (Nat.le_of_ble_eq_true rfl) (Nat.le_of_ble_eq_true rfl) (Nat.le_of_ble_eq_true rfl) (Nat.le_of_ble_eq_true rfl) (Nat.le_of_ble_eq_true rfl) dX4_about_9 dX4_about_12 dX4_about_13 dX4_about_15 dX4_about_18
  · refine lv_iload_n C0.1 C0.2.1 dX4_about_4 rfl (lv_at hl 2 rfl) ?_
    refine lv_iconst (v := 5) C0.1 C0.2.1 dX4_about_5 (by decide) ?_
    refine lv_icmp_le (tgt := 19) C0.1 C0.2.1 dX4_about_6 (by decide) (fun c2 => ?_) (fun c2 => ?_)
    · obtain ⟨wk, hwk, rfl⟩ := n05 c1 c2
      refine lv_aload_n C0.1 C0.2.1 dX4_about_19 rfl (lv_at hl 0 rfl) ?_
      refine lv_iload_n C0.1 C0.2.1 dX4_about_20 rfl (lv_at hl 1 rfl) ?_
      refine me_cVq (n := 1) C0 hml hP hS (c_X4_nodeAt l G B0 w D ad ex R N cnt hFN T Bn hCT v) ⟨kw_272, kw_31, kw_269, ⟨by decide, by decide, by decide +kernel⟩, ⟨rfl, rfl⟩, ⟨Nat.le_of_ble_eq_true rfl, Nat.le_of_ble_eq_true rfl⟩⟩ kw_271 kw_2 hFN.1 rfl rfl hl.1 rfl (Nat.le_of_ble_eq_true rfl) ⟨Nat.le_of_ble_eq_true rfl, Nat.le_of_ble_eq_true rfl⟩ dX4_about_21 (fun r3 hr3 => ?_)
      rcases hr3 with ⟨hnok, rfl⟩ | ⟨k, n, hk, rfl, hTk, rfl⟩
      · refine W.eq (g2 := F0 m 24 ls [.null]) rfl ?_
        refine lv_astore_nN (lv' := [(3, .null), (0, .ref (ad 0 0)), (1, .int v), (2, .int (nI wk))]) C0.1 C0.2.1 dX4_about_24 rfl hl (by decide) rfl (fun ls hl => ?_)
        refine lv_aload_nN C0.1 C0.2.1 dX4_about_25 rfl (lv_at hl 0 rfl) ?_
        refine lv_ifnonnullN C0.1 C0.2.1 dX4_about_26 ?_
        refine lv_bipush (v := (-5)) C0.1 C0.2.1 dX4_about_29 (by decide) ?_
        exact vx_ret (me_wiret _ C0.1 C0.2.1 B.returns B.notSynchronized hP hS (Nat.le_of_ble_eq_true rfl) (Nat.le_of_ble_eq_true rfl) (⟨g5 _ (by omega), (sAbout_no (noN_at hnok)).symm, rfl⟩) dX4_about_31)
      · obtain ⟨hk200, hxk, hnk0, hnk1, hnk2, hrk1, hrk3, hrk5, hrk7⟩ := hCT.2 k n hTk
        refine W.eq (g2 := F0 m 24 ls [.ref (ad (k + 1) 0)]) rfl ?_
        refine lv_astore_n (lv' := [(3, .ref (ad (k + 1) 0)), (0, .ref (ad 0 0)), (1, .int (nI k)), (2, .int (nI wk))]) C0.1 C0.2.1 dX4_about_24 rfl hl (by decide) rfl (fun ls hl => ?_)
        refine lv_aload_n C0.1 C0.2.1 dX4_about_25 rfl (lv_at hl 0 rfl) ?_
        refine lv_ifnonnull (tgt := 32) C0.1 C0.2.1 dX4_about_26 (by decide) ?_
        refine lv_iload_n C0.1 C0.2.1 dX4_about_32 rfl (lv_at hl 3 rfl) ?_
        rcases (show wk = 0 ∨ wk = 1 ∨ wk = 2 ∨ wk = 3 ∨ wk = 4 ∨ wk = 5 by omega) with rfl | rfl | rfl | rfl | rfl | rfl
        · refine lv_tableIn (off := 35) (tgt := 68) C0.1 C0.2.1 dX4_about_33 (by decide) (by decide) (by decide) (by decide) ?_
          refine lv_aload_n C0.1 C0.2.1 dX4_about_68 rfl (lv_at hl 0 rfl) ?_
          refine me_get C0 hP (hFN.2.2.1 k hxk) rfl inX1 5 (by decide) kw_92 rfl dX4_about_69 ?_
          refine me_topi (y := n.1) hnk1 ?_
          refine lv_if_eq (tgt := 79) C0.1 C0.2.1 dX4_about_72 (by decide) (fun c4 => ?_) (fun c4 => ?_)
          · refine lv_iconst (v := 0) C0.1 C0.2.1 dX4_about_79 (by decide) ?_
            exact vx_ret (me_wiret _ C0.1 C0.2.1 B.returns B.notSynchronized hP hS (Nat.le_of_ble_eq_true rfl) (Nat.le_of_ble_eq_true rfl) (⟨g5 _ (by omega), by rw [sAbout_n hk hTk, if_pos (by decide), if_pos c4], rfl⟩) dX4_about_80)
          · refine lv_iconst (v := 1) C0.1 C0.2.1 dX4_about_75 (by decide) ?_
            refine lv_goto (tgt := 80) C0.1 C0.2.1 dX4_about_76 (by decide) ?_
            exact vx_ret (me_wiret _ C0.1 C0.2.1 B.returns B.notSynchronized hP hS (Nat.le_of_ble_eq_true rfl) (Nat.le_of_ble_eq_true rfl) (⟨g5 _ (by omega), by rw [sAbout_n hk hTk, if_pos (by decide), if_neg c4], rfl⟩) dX4_about_80)
        · refine lv_tableIn (off := 48) (tgt := 81) C0.1 C0.2.1 dX4_about_33 (by decide) (by decide) (by decide) (by decide) ?_
          refine lv_aload_n C0.1 C0.2.1 dX4_about_81 rfl (lv_at hl 0 rfl) ?_
          refine me_get C0 hP (hFN.2.2.1 k hxk) rfl inX1 6 (by decide) kw_94 rfl dX4_about_82 ?_
          refine me_topi (y := n.2.1) hnk2 ?_
          exact vx_ret (me_wiret _ C0.1 C0.2.1 B.returns B.notSynchronized hP hS (Nat.le_of_ble_eq_true rfl) (Nat.le_of_ble_eq_true rfl) (⟨g5 _ (by omega), by rw [sAbout_n hk hTk, if_neg (by decide), if_pos (by decide)], rfl⟩) dX4_about_85)
        · refine lv_tableIn (off := 53) (tgt := 86) C0.1 C0.2.1 dX4_about_33 (by decide) (by decide) (by decide) (by decide) ?_
          refine lv_aload_n C0.1 C0.2.1 dX4_about_86 rfl (lv_at hl 0 rfl) ?_
          refine me_get C0 hP (hFN.2.2.1 k hxk) rfl inX1 2 (by decide) kw_86 rfl dX4_about_87 ?_
          refine me_cVi (n := 0) C0 hml hP hS (c_X2_size l G B0 w (ad (k + 1) 5) (ad (k + 1) (5 + 1)) (capR (k + 1) 5) n.2.2.2.2 (hFN.rw0 (k + 1) 5 hxk (Or.inr (Or.inr (Or.inl rfl))) hrk5)) ⟨kw_141, kw_32, kw_138, ⟨by decide, by decide, by decide +kernel⟩, ⟨rfl, rfl⟩, ⟨Nat.le_of_ble_eq_true rfl, Nat.le_of_ble_eq_true rfl⟩⟩ kw_139 kw_140 (hFN.2.2.2.1 (k + 1) 5 hxk (Or.inr (Or.inr (Or.inl rfl)))).1 rfl rfl hl.1 rfl (Nat.le_of_ble_eq_true rfl) ⟨Nat.le_of_ble_eq_true rfl, Nat.le_of_ble_eq_true rfl⟩ dX4_about_90 (fun r5 hr5 => ?_)
          subst hr5
          have hlcr5 : n.2.2.2.2.length ≤ 40 := (hFN.rw0 (k + 1) 5 hxk (Or.inr (Or.inr (Or.inl rfl))) hrk5).2.1
          exact vx_ret (me_wiret _ C0.1 C0.2.1 B.returns B.notSynchronized hP hS (Nat.le_of_ble_eq_true rfl) (Nat.le_of_ble_eq_true rfl) (⟨g5 _ (by omega), by rw [sAbout_n hk hTk, if_neg (by decide), if_neg (by decide), if_pos (by decide)], rfl⟩) dX4_about_93)
        · refine lv_tableIn (off := 61) (tgt := 94) C0.1 C0.2.1 dX4_about_33 (by decide) (by decide) (by decide) (by decide) ?_
          refine lv_aload_n C0.1 C0.2.1 dX4_about_94 rfl (lv_at hl 0 rfl) ?_
          refine me_get C0 hP (hFN.2.2.1 k hxk) rfl inX1 0 (by decide) kw_82 rfl dX4_about_95 ?_
          refine me_cVi (n := 0) C0 hml hP hS (c_X2_size l G B0 w (ad (k + 1) 1) (ad (k + 1) (1 + 1)) (capR (k + 1) 1) n.2.2.1 (hFN.rw0 (k + 1) 1 hxk (Or.inl rfl) hrk1)) ⟨kw_141, kw_32, kw_138, ⟨by decide, by decide, by decide +kernel⟩, ⟨rfl, rfl⟩, ⟨Nat.le_of_ble_eq_true rfl, Nat.le_of_ble_eq_true rfl⟩⟩ kw_139 kw_140 (hFN.2.2.2.1 (k + 1) 1 hxk (Or.inl rfl)).1 rfl rfl hl.1 rfl (Nat.le_of_ble_eq_true rfl) ⟨Nat.le_of_ble_eq_true rfl, Nat.le_of_ble_eq_true rfl⟩ dX4_about_98 (fun r6 hr6 => ?_)
          subst hr6
          have hlcr6 : n.2.2.1.length ≤ 60 := (hFN.rw0 (k + 1) 1 hxk (Or.inl rfl) hrk1).2.1
          exact vx_ret (me_wiret _ C0.1 C0.2.1 B.returns B.notSynchronized hP hS (Nat.le_of_ble_eq_true rfl) (Nat.le_of_ble_eq_true rfl) (⟨g5 _ (by omega), by rw [sAbout_n hk hTk, if_neg (by decide), if_neg (by decide), if_neg (by decide), if_pos (by decide)], rfl⟩) dX4_about_101)
        · refine lv_tableIn (off := 69) (tgt := 102) C0.1 C0.2.1 dX4_about_33 (by decide) (by decide) (by decide) (by decide) ?_
          refine lv_aload_n C0.1 C0.2.1 dX4_about_102 rfl (lv_at hl 0 rfl) ?_
          refine me_get C0 hP (hFN.2.2.1 k hxk) rfl inX1 1 (by decide) kw_84 rfl dX4_about_103 ?_
          refine me_cVi (n := 0) C0 hml hP hS (c_X2_size l G B0 w (ad (k + 1) 3) (ad (k + 1) (3 + 1)) (capR (k + 1) 3) n.2.2.2.1 (hFN.rw0 (k + 1) 3 hxk (Or.inr (Or.inl rfl)) hrk3)) ⟨kw_141, kw_32, kw_138, ⟨by decide, by decide, by decide +kernel⟩, ⟨rfl, rfl⟩, ⟨Nat.le_of_ble_eq_true rfl, Nat.le_of_ble_eq_true rfl⟩⟩ kw_139 kw_140 (hFN.2.2.2.1 (k + 1) 3 hxk (Or.inr (Or.inl rfl))).1 rfl rfl hl.1 rfl (Nat.le_of_ble_eq_true rfl) ⟨Nat.le_of_ble_eq_true rfl, Nat.le_of_ble_eq_true rfl⟩ dX4_about_106 (fun r7 hr7 => ?_)
          subst hr7
          have hlcr7 : n.2.2.2.1.length ≤ 60 := (hFN.rw0 (k + 1) 3 hxk (Or.inr (Or.inl rfl)) hrk3).2.1
          exact vx_ret (me_wiret _ C0.1 C0.2.1 B.returns B.notSynchronized hP hS (Nat.le_of_ble_eq_true rfl) (Nat.le_of_ble_eq_true rfl) (⟨g5 _ (by omega), by rw [sAbout_n hk hTk, if_neg (by decide), if_neg (by decide), if_neg (by decide), if_neg (by decide), if_pos (by decide)], rfl⟩) dX4_about_109)
        · refine lv_tableOut (tgt := 110) C0.1 C0.2.1 dX4_about_33 (by decide) (by decide) ?_
          refine lv_aload_n C0.1 C0.2.1 dX4_about_110 rfl (lv_at hl 1 rfl) ?_
          refine lv_iload_n C0.1 C0.2.1 dX4_about_111 rfl (lv_at hl 2 rfl) ?_
          refine me_cVi (n := 1) C0 hml hP hS (c_X4_depthOf l G B0 w D ad ex R N cnt hFN T Bn hCT hI dp hdp hd200 k n hk hTk) ⟨kw_462, kw_31, kw_459, ⟨by decide, by decide, by decide +kernel⟩, ⟨rfl, rfl⟩, ⟨Nat.le_of_ble_eq_true rfl, Nat.le_of_ble_eq_true rfl⟩⟩ kw_461 kw_15 hFN.1 rfl rfl hl.1 rfl (Nat.le_of_ble_eq_true rfl) ⟨Nat.le_of_ble_eq_true rfl, Nat.le_of_ble_eq_true rfl⟩ dX4_about_112 (fun r8 hr8 => ?_)
          subst hr8
          exact vx_ret (me_wiret _ C0.1 C0.2.1 B.returns B.notSynchronized hP hS (Nat.le_of_ble_eq_true rfl) (Nat.le_of_ble_eq_true rfl) (⟨g5 _ (by omega), by rw [sAbout_n hk hTk, if_neg (by decide), if_neg (by decide), if_neg (by decide), if_neg (by decide), if_neg (by decide)], rfl⟩) dX4_about_115)
    · exact me_throw C0 hE hl0 (hl.1.trans hml.symm) hP hS (fun h => c2 (Int32.not_lt.mp h.2)) hKq.2.1.2.2.2.2.1 hout B.notSynchronized (Nat.le_of_ble_eq_true rfl) (Nat.le_of_ble_eq_true rfl) (Nat.le_of_ble_eq_true rfl) (Nat.le_of_ble_eq_true rfl) (Nat.le_of_ble_eq_true rfl) (Nat.le_of_ble_eq_true rfl) dX4_about_9 dX4_about_12 dX4_about_13 dX4_about_15 dX4_about_18

set_option maxHeartbeats 4000000 in
set_option maxRecDepth 100000 in
/-- letter(node, which, k) -/
theorem c_X4_letter (l : Launch) (hl0 : l.stackTraces = false) (G : me_G) (B0 : Nat) (w : Me) (D : Nat → Prop) (ad : Nat → Nat → Nat) (ex : Nat → Bool) (R : Nat → Nat → List Int32) (N : Nat → Nat → Int32) (cnt : Int32) (hFN : FN G B0 D w ad ex R N cnt) (T : Tre) (Bn : Nat → List Int32) (hCT : CT ex R N T Bn) (v wch x : Int32) : CtX l yX4_letter (Cond.code yX4_letter cX4_letter 5 (some .int)) ({ frames := 6, cells := 1, slots := 6, locals := 82 }) G B0 w [.ref (ad 0 0), .int v, .int wch, .int x] (fun r w' => (wch = 0 ∨ wch = 1) ∧ r = sLetter T v wch x ∧ w' = w) (¬ (wch = 0 ∨ wch = 1)) 1 6 := by
  refine vx_ofW (cc := cX4_letter) (maxL := 5) (ret := (some .int)) (by decide) rfl ?_
  intro p e s m args below meth c s₁ B hml hout hv
  obtain ⟨rfl, ⟨hK, hP, hKq, hBs⟩, hE⟩ := hv
  have hts := fun w h => atoms_spec (ws := Cond.code yX4_letter cX4_letter 5 (some .int) :: tbG) B.pre w (List.mem_cons_of_mem _ h)
  have hown : s.vm.findClass RX4 = some m.cls := findClass_of_methodNamed B.named
  have C0 : Cx G B0 p s m _ c cX4_letter RX4 := ⟨B.exec, B.bytes, hown, hts, hK, hKq, hBs⟩
  have hS : va_S (me_A B0) s.heap s.heap [] := va_S.rf
  have hl := lv_entry ([.ref (ad 0 0), .int v, .int wch, .int x]) (n := 5) (Nat.le_of_ble_eq_true rfl)
  rw [lg_entry_eq]
  generalize (lg_sl ([.ref (ad 0 0), .int v, .int wch, .int x]) ++ List.replicate (5 - (lg_sl ([.ref (ad 0 0), .int v, .int wch, .int x])).length) Slot.unset).toArray = ls at hl ⊢
  have hl : lv_has ls 5 [(0, .ref (ad 0 0)), (1, .int v), (2, .int wch), (3, .int x)] := hl
  refine lv_iload_n C0.1 C0.2.1 dX4_letter_0 rfl (lv_at hl 2 rfl) ?_
  refine lv_if_eq (tgt := 19) C0.1 C0.2.1 dX4_letter_1 (by decide) (fun c1 => ?_) (fun c1 => ?_)
  · refine lv_aload_n C0.1 C0.2.1 dX4_letter_19 rfl (lv_at hl 0 rfl) ?_
    refine lv_iload_n C0.1 C0.2.1 dX4_letter_20 rfl (lv_at hl 1 rfl) ?_
    refine me_cVq (n := 1) C0 hml hP hS (c_X4_nodeAt l G B0 w D ad ex R N cnt hFN T Bn hCT v) ⟨kw_272, kw_31, kw_269, ⟨by decide, by decide, by decide +kernel⟩, ⟨rfl, rfl⟩, ⟨Nat.le_of_ble_eq_true rfl, Nat.le_of_ble_eq_true rfl⟩⟩ kw_271 kw_2 hFN.1 rfl rfl hl.1 rfl (Nat.le_of_ble_eq_true rfl) ⟨Nat.le_of_ble_eq_true rfl, Nat.le_of_ble_eq_true rfl⟩ dX4_letter_21 (fun r2 hr2 => ?_)
    rcases hr2 with ⟨hnok, rfl⟩ | ⟨k, n, hk, rfl, hTk, rfl⟩
    · refine W.eq (g2 := F0 m 24 ls [.null]) rfl ?_
      refine lv_astoreN (lv' := [(4, .null), (0, .ref (ad 0 0)), (1, .int v), (2, .int wch), (3, .int x)]) C0.1 C0.2.1 dX4_letter_24 hl (by decide) rfl (fun ls hl => ?_)
      refine lv_aloadN C0.1 C0.2.1 dX4_letter_26 (lv_at hl 0 rfl) ?_
      refine lv_ifnonnullN C0.1 C0.2.1 dX4_letter_28 ?_
      refine lv_bipush (v := (-5)) C0.1 C0.2.1 dX4_letter_31 (by decide) ?_
      exact vx_ret (me_wiret _ C0.1 C0.2.1 B.returns B.notSynchronized hP hS (Nat.le_of_ble_eq_true rfl) (Nat.le_of_ble_eq_true rfl) (⟨Or.inl c1, (sLetter_no (noN_at hnok)).symm, rfl⟩) dX4_letter_33)
    · obtain ⟨hk200, hxk, hnk0, hnk1, hnk2, hrk1, hrk3, hrk5, hrk7⟩ := hCT.2 k n hTk
      refine W.eq (g2 := F0 m 24 ls [.ref (ad (k + 1) 0)]) rfl ?_
      refine lv_astore (lv' := [(4, .ref (ad (k + 1) 0)), (0, .ref (ad 0 0)), (1, .int (nI k)), (2, .int wch), (3, .int x)]) C0.1 C0.2.1 dX4_letter_24 hl (by decide) rfl (fun ls hl => ?_)
      refine lv_aload C0.1 C0.2.1 dX4_letter_26 (lv_at hl 0 rfl) ?_
      refine lv_ifnonnull (tgt := 34) C0.1 C0.2.1 dX4_letter_28 (by decide) ?_
      refine lv_iload_n C0.1 C0.2.1 dX4_letter_34 rfl (lv_at hl 3 rfl) ?_
      refine lv_if_ne (tgt := 50) C0.1 C0.2.1 dX4_letter_35 (by decide) (fun c3 => ?_) (fun c3 => ?_)
      · exact absurd c1 c3
      · refine lv_aload C0.1 C0.2.1 dX4_letter_38 (lv_at hl 0 rfl) ?_
        refine me_get C0 hP (hFN.2.2.1 k hxk) rfl inX1 0 (by decide) kw_82 rfl dX4_letter_40 ?_
        refine lv_iload_n C0.1 C0.2.1 dX4_letter_43 rfl (lv_at hl 4 rfl) ?_
        refine me_cVi (n := 1) C0 hml hP hS (c_X2_at l G B0 w (ad (k + 1) 1) (ad (k + 1) (1 + 1)) (capR (k + 1) 1) n.2.2.1 (hFN.rw0 (k + 1) 1 hxk (Or.inl rfl) hrk1) x) ⟨kw_151, kw_32, kw_256, ⟨by decide, by decide, by decide +kernel⟩, ⟨rfl, rfl⟩, ⟨Nat.le_of_ble_eq_true rfl, Nat.le_of_ble_eq_true rfl⟩⟩ kw_149 kw_150 (hFN.2.2.2.1 (k + 1) 1 hxk (Or.inl rfl)).1 rfl rfl hl.1 rfl (Nat.le_of_ble_eq_true rfl) ⟨Nat.le_of_ble_eq_true rfl, Nat.le_of_ble_eq_true rfl⟩ dX4_letter_44 (fun r4 hr4 => ?_)
        subst hr4
        refine lv_goto (tgt := 59) C0.1 C0.2.1 dX4_letter_47 (by decide) ?_
        exact vx_ret (me_wiret _ C0.1 C0.2.1 B.returns B.notSynchronized hP hS (Nat.le_of_ble_eq_true rfl) (Nat.le_of_ble_eq_true rfl) (⟨Or.inl c1, by rw [sLetter_n hk hTk, if_pos c1], rfl⟩) dX4_letter_59)
  · refine lv_iload_n C0.1 C0.2.1 dX4_letter_4 rfl (lv_at hl 2 rfl) ?_
    refine lv_iconst (v := 1) C0.1 C0.2.1 dX4_letter_5 (by decide) ?_
    refine lv_icmp_eq (tgt := 19) C0.1 C0.2.1 dX4_letter_6 (by decide) (fun c5 => ?_) (fun c5 => ?_)
    · refine lv_aload_n C0.1 C0.2.1 dX4_letter_19 rfl (lv_at hl 0 rfl) ?_
      refine lv_iload_n C0.1 C0.2.1 dX4_letter_20 rfl (lv_at hl 1 rfl) ?_
      refine me_cVq (n := 1) C0 hml hP hS (c_X4_nodeAt l G B0 w D ad ex R N cnt hFN T Bn hCT v) ⟨kw_272, kw_31, kw_269, ⟨by decide, by decide, by decide +kernel⟩, ⟨rfl, rfl⟩, ⟨Nat.le_of_ble_eq_true rfl, Nat.le_of_ble_eq_true rfl⟩⟩ kw_271 kw_2 hFN.1 rfl rfl hl.1 rfl (Nat.le_of_ble_eq_true rfl) ⟨Nat.le_of_ble_eq_true rfl, Nat.le_of_ble_eq_true rfl⟩ dX4_letter_21 (fun r6 hr6 => ?_)
      rcases hr6 with ⟨hnok, rfl⟩ | ⟨k, n, hk, rfl, hTk, rfl⟩
      · refine W.eq (g2 := F0 m 24 ls [.null]) rfl ?_
        refine lv_astoreN (lv' := [(4, .null), (0, .ref (ad 0 0)), (1, .int v), (2, .int wch), (3, .int x)]) C0.1 C0.2.1 dX4_letter_24 hl (by decide) rfl (fun ls hl => ?_)
        refine lv_aloadN C0.1 C0.2.1 dX4_letter_26 (lv_at hl 0 rfl) ?_
        refine lv_ifnonnullN C0.1 C0.2.1 dX4_letter_28 ?_
        refine lv_bipush (v := (-5)) C0.1 C0.2.1 dX4_letter_31 (by decide) ?_
        exact vx_ret (me_wiret _ C0.1 C0.2.1 B.returns B.notSynchronized hP hS (Nat.le_of_ble_eq_true rfl) (Nat.le_of_ble_eq_true rfl) (⟨Or.inr c5, (sLetter_no (noN_at hnok)).symm, rfl⟩) dX4_letter_33)
      · obtain ⟨hk200, hxk, hnk0, hnk1, hnk2, hrk1, hrk3, hrk5, hrk7⟩ := hCT.2 k n hTk
        refine W.eq (g2 := F0 m 24 ls [.ref (ad (k + 1) 0)]) rfl ?_
        refine lv_astore (lv' := [(4, .ref (ad (k + 1) 0)), (0, .ref (ad 0 0)), (1, .int (nI k)), (2, .int wch), (3, .int x)]) C0.1 C0.2.1 dX4_letter_24 hl (by decide) rfl (fun ls hl => ?_)
        refine lv_aload C0.1 C0.2.1 dX4_letter_26 (lv_at hl 0 rfl) ?_
        refine lv_ifnonnull (tgt := 34) C0.1 C0.2.1 dX4_letter_28 (by decide) ?_
        refine lv_iload_n C0.1 C0.2.1 dX4_letter_34 rfl (lv_at hl 3 rfl) ?_
        refine lv_if_ne (tgt := 50) C0.1 C0.2.1 dX4_letter_35 (by decide) (fun c7 => ?_) (fun c7 => ?_)
        · refine lv_aload C0.1 C0.2.1 dX4_letter_50 (lv_at hl 0 rfl) ?_
          refine me_get C0 hP (hFN.2.2.1 k hxk) rfl inX1 1 (by decide) kw_84 rfl dX4_letter_52 ?_
          refine lv_iload_n C0.1 C0.2.1 dX4_letter_55 rfl (lv_at hl 4 rfl) ?_
          refine me_cVi (n := 1) C0 hml hP hS (c_X2_at l G B0 w (ad (k + 1) 3) (ad (k + 1) (3 + 1)) (capR (k + 1) 3) n.2.2.2.1 (hFN.rw0 (k + 1) 3 hxk (Or.inr (Or.inl rfl)) hrk3) x) ⟨kw_151, kw_32, kw_256, ⟨by decide, by decide, by decide +kernel⟩, ⟨rfl, rfl⟩, ⟨Nat.le_of_ble_eq_true rfl, Nat.le_of_ble_eq_true rfl⟩⟩ kw_149 kw_150 (hFN.2.2.2.1 (k + 1) 3 hxk (Or.inr (Or.inl rfl))).1 rfl rfl hl.1 rfl (Nat.le_of_ble_eq_true rfl) ⟨Nat.le_of_ble_eq_true rfl, Nat.le_of_ble_eq_true rfl⟩ dX4_letter_56 (fun r8 hr8 => ?_)
          subst hr8
          exact vx_ret (me_wiret _ C0.1 C0.2.1 B.returns B.notSynchronized hP hS (Nat.le_of_ble_eq_true rfl) (Nat.le_of_ble_eq_true rfl) (⟨Or.inr c5, by rw [sLetter_n hk hTk, if_neg c1], rfl⟩) dX4_letter_59)
        · exact absurd c7 c1
    · exact me_throw C0 hE hl0 (hl.1.trans hml.symm) hP hS (fun h => h.elim c1 c5) hKq.2.1.2.2.2.2.2 hout B.notSynchronized (Nat.le_of_ble_eq_true rfl) (Nat.le_of_ble_eq_true rfl) (Nat.le_of_ble_eq_true rfl) (Nat.le_of_ble_eq_true rfl) (Nat.le_of_ble_eq_true rfl) (Nat.le_of_ble_eq_true rfl) dX4_letter_9 dX4_letter_12 dX4_letter_13 dX4_letter_15 dX4_letter_18
