set_option maxHeartbeats 4000000 in
set_option maxRecDepth 100000 in
/-- walkFromTape(start) -/
theorem c_X4_walkFromTape (l : Launch) (G : me_G) (B0 : Nat) (w : Me) (D : Nat → Prop) (ad : Nat → Nat → Nat) (ex : Nat → Bool) (R : Nat → Nat → List Int32) (N : Nat → Nat → Int32) (cnt : Int32) (hFN : FN G B0 D w ad ex R N cnt) (T : Tre) (Bn : Nat → List Int32) (hCT : CT ex R N T Bn) (hI : TI T) (tp : List Int32) (htp : R 0 1 = tp) (ho : Oct tp) (nd0 : Int32) : CtWI l yX4_walkFromTape (Cond.code yX4_walkFromTape cX4_walkFromTape 6 (some .int)) ({ frames := 9, cells := 0, slots := 0, locals := 204 }) G B0 w [.ref (ad 0 0), .int nd0] (fun r w' => ∃ (R' : Nat → Nat → List Int32), FN G B0 D w' ad ex R' N cnt ∧ FDr D w w' ∧ (∀ i, i ≠ 5 → R' 0 i = R 0 i) ∧ CT ex R' N T Bn ∧ r = sWalk T tp nd0) 0 0 := by
  refine Met.ofW (cc := cX4_walkFromTape) (maxL := 6) (ret := (some .int)) (by decide) rfl ?_
  intro p e s m args below meth c s₁ B hml hv
  obtain ⟨rfl, hK, hP, hKq, hBs⟩ := hv
  have hts := fun w h => atoms_spec (ws := Cond.code yX4_walkFromTape cX4_walkFromTape 6 (some .int) :: tbG) B.pre w (List.mem_cons_of_mem _ h)
  have hown : s.vm.findClass RX4 = some m.cls := findClass_of_methodNamed B.named
  have C0 : Cx G B0 p s m _ c cX4_walkFromTape RX4 := ⟨B.exec, B.bytes, hown, hts, hK, hKq, hBs⟩
  have hS : va_S (me_A B0) s.heap s.heap [] := va_S.rf
  have hl := lv_entry ([.ref (ad 0 0), .int nd0]) (n := 6) (Nat.le_of_ble_eq_true rfl)
  rw [lg_entry_eq]
  generalize (lg_sl ([.ref (ad 0 0), .int nd0]) ++ List.replicate (6 - (lg_sl ([.ref (ad 0 0), .int nd0])).length) Slot.unset).toArray = ls at hl ⊢
  have hl : lv_has ls 6 [(0, .ref (ad 0 0)), (1, .int nd0)] := hl
  have hFD : FDr D w w := FDr.rf
  have htl : tp.length ≤ 200 := (hFN.rw0 0 1 hFN.2.2.2.2.1 (Or.inl rfl) htp).2.1
  refine lv_aload_n C0.1 C0.2.1 dX4_walkFromTape_0 rfl (lv_at hl 0 rfl) ?_
  refine lv_iload_n C0.1 C0.2.1 dX4_walkFromTape_1 rfl (lv_at hl 1 rfl) ?_
  refine me_cVq (n := 1) C0 hml hP hS (c_X4_nodeAt l G B0 w D ad ex R N cnt hFN T Bn hCT nd0) ⟨kw_272, kw_31, kw_269, ⟨by decide, by decide, by decide +kernel⟩, ⟨rfl, rfl⟩, ⟨Nat.le_of_ble_eq_true rfl, Nat.le_of_ble_eq_true rfl⟩⟩ kw_271 kw_2 hFN.1 rfl rfl hl.1 rfl (Nat.le_of_ble_eq_true rfl) ⟨Nat.le_of_ble_eq_true rfl, Nat.le_of_ble_eq_true rfl⟩ dX4_walkFromTape_2 (fun r1 hr1 => ?_)
  rcases hr1 with ⟨hnok, rfl⟩ | ⟨k, nk, hk, rfl, hTk, rfl⟩
  · refine W.eq (g2 := F0 m 5 ls [.null]) rfl ?_
    refine lv_ifnonnullN C0.1 C0.2.1 dX4_walkFromTape_5 ?_
    refine lv_bipush (v := (-5)) C0.1 C0.2.1 dX4_walkFromTape_8 (by decide) ?_
    exact me_wiret _ C0.1 C0.2.1 B.returns B.notSynchronized hP hS (Nat.le_of_ble_eq_true rfl) (Nat.le_of_ble_eq_true rfl) (⟨_, hFN, hFD, (fun j _ => rfl), hCT, by unfold sWalk; rw [if_pos (noN_at hnok)]⟩) dX4_walkFromTape_10
  · obtain ⟨hk200, hxk, hnk0, hnk1, hnk2, hrk1, hrk3, hrk5, hrk7⟩ := hCT.2 k nk hTk
    refine W.eq (g2 := F0 m 5 ls [.ref (ad (k + 1) 0)]) rfl ?_
    refine lv_ifnonnull (tgt := 11) C0.1 C0.2.1 dX4_walkFromTape_5 (by decide) ?_
    refine lv_aload_n C0.1 C0.2.1 dX4_walkFromTape_11 rfl (lv_at hl 0 rfl) ?_
    refine me_get C0 hP hFN.1 rfl inX4 0 (by decide) kw_118 rfl dX4_walkFromTape_12 ?_
    refine lv_iconst (v := 0) C0.1 C0.2.1 dX4_walkFromTape_15 (by decide) ?_
    refine me_cVi (n := 1) C0 hml hP hS (c_X2_at l G B0 w (ad 0 1) (ad 0 (1 + 1)) (capR 0 1) tp (hFN.rw0 0 1 hFN.2.2.2.2.1 (Or.inl rfl) htp) 0) ⟨kw_151, kw_32, kw_256, ⟨by decide, by decide, by decide +kernel⟩, ⟨rfl, rfl⟩, ⟨Nat.le_of_ble_eq_true rfl, Nat.le_of_ble_eq_true rfl⟩⟩ kw_149 kw_150 (hFN.2.2.2.1 0 1 hFN.2.2.2.2.1 (Or.inl rfl)).1 rfl rfl hl.1 rfl (Nat.le_of_ble_eq_true rfl) ⟨Nat.le_of_ble_eq_true rfl, Nat.le_of_ble_eq_true rfl⟩ dX4_walkFromTape_16 (fun r2 hr2 => ?_)
    subst hr2
    have loop35 : ∀ (n : Nat) (i f v0 : Nat) (nv : Nod) (w1 : Me) (R1 : Nat → Nat → List Int32), (i ≤ tp.length + 1) → (f ≤ i) → (v0 < 200) → (T v0 = some nv) → (FN G B0 D w1 ad ex R1 N cnt) → (FDr D w w1) → (∀ j, j ≠ 5 → R1 0 j = R 0 j) → (CT ex R1 N T Bn) → (sWalk T tp (nI k) = wkW T tp f i v0) → (tp.length + 1 - i) < n → ∀ (H : Heap) (locs : List Loc), ∀ (ls : Array Slot), me_P G.1 w1 H → va_S (me_A B0) s.heap H locs → lv_has ls 6 [(4, .int (nI i)), (3, .int (nI f)), (2, .int (nI v0)), (0, .ref (ad 0 0)), (1, .int (nI k))] → W p l e ({ frames := 9, cells := 0, slots := 0, locals := 204 }) s m ([.ref (ad 0 0), .int (nI k)] : List Value).toArray below meth c H locs 0 0 (MQ below (va_Qi (fun r w' => ∃ (R' : Nat → Nat → List Int32), FN G B0 D w' ad ex R' N cnt ∧ FDr D w w' ∧ (∀ i, i ≠ 5 → R' 0 i = R 0 i) ∧ CT ex R' N T Bn ∧ r = sWalk T tp (nI k)) (me_W G) (me_A B0)) ([.ref (ad 0 0), .int (nI k)] : List Value).toArray s 0 0 (me_A B0)) (F0 m 35 ls []) := by
      intro n
      induction n with
      | zero => intro i f v0 nv w1 R1 _ _ _ _ _ _ _ _ _ hz; exact absurd hz (Nat.not_lt_zero _)
      | succ n ih35 =>
        intro i f v0 nv w1 R1 hil hfi hv2 hTv0 hFN hFD hOw hCT hwk hn35 H locs ls hP hS hl
        refine lv_iload C0.1 C0.2.1 dX4_walkFromTape_35 (lv_at hl 0 rfl) ?_
        refine lv_aload_n C0.1 C0.2.1 dX4_walkFromTape_37 rfl (lv_at hl 3 rfl) ?_
        refine me_get C0 hP hFN.1 rfl inX4 0 (by decide) kw_118 rfl dX4_walkFromTape_38 ?_
        refine me_cVi (n := 0) C0 hml hP hS (c_X2_size l G B0 w1 (ad 0 1) (ad 0 (1 + 1)) (capR 0 1) tp (hFN.rw0 0 1 hFN.2.2.2.2.1 (Or.inl rfl) ((hOw 1 (by decide)).trans htp))) ⟨kw_141, kw_32, kw_138, ⟨by decide, by decide, by decide +kernel⟩, ⟨rfl, rfl⟩, ⟨Nat.le_of_ble_eq_true rfl, Nat.le_of_ble_eq_true rfl⟩⟩ kw_139 kw_140 (hFN.2.2.2.1 0 1 hFN.2.2.2.2.1 (Or.inl rfl)).1 rfl rfl hl.1 rfl (Nat.le_of_ble_eq_true rfl) ⟨Nat.le_of_ble_eq_true rfl, Nat.le_of_ble_eq_true rfl⟩ dX4_walkFromTape_41 (fun r3 hr3 => ?_)
        subst hr3
        have hlcr3 : tp.length ≤ 200 := (hFN.rw0 0 1 hFN.2.2.2.2.1 (Or.inl rfl) ((hOw 1 (by decide)).trans htp)).2.1
        refine lv_icmp_gt (tgt := 122) C0.1 C0.2.1 dX4_walkFromTape_44 (by decide) (fun c4 => ?_) (fun c4 => ?_)
        · have d4 : tp.length < i := (nI_ltI (a := tp.length) (b := i) (by omega) (by omega)).mp c4
          refine lv_iload_n C0.1 C0.2.1 dX4_walkFromTape_122 rfl (lv_at hl 2 rfl) ?_
          exact me_wiret _ C0.1 C0.2.1 B.returns B.notSynchronized hP hS (Nat.le_of_ble_eq_true rfl) (Nat.le_of_ble_eq_true rfl) (⟨_, hFN, hFD, hOw, hCT, by rw [hwk]; exact (wkW_end (by omega)).symm⟩) dX4_walkFromTape_123
        · have d4 : i ≤ tp.length := Nat.not_lt.mp (fun h => c4 (nI_lt (a := tp.length) (b := i) h (by omega)))
          refine lv_iload C0.1 C0.2.1 dX4_walkFromTape_47 (lv_at hl 0 rfl) ?_
          refine lv_aload_n C0.1 C0.2.1 dX4_walkFromTape_49 rfl (lv_at hl 3 rfl) ?_
          refine me_get C0 hP hFN.1 rfl inX4 0 (by decide) kw_118 rfl dX4_walkFromTape_50 ?_
          refine me_cVi (n := 0) C0 hml hP hS (c_X2_size l G B0 w1 (ad 0 1) (ad 0 (1 + 1)) (capR 0 1) tp (hFN.rw0 0 1 hFN.2.2.2.2.1 (Or.inl rfl) ((hOw 1 (by decide)).trans htp))) ⟨kw_141, kw_32, kw_138, ⟨by decide, by decide, by decide +kernel⟩, ⟨rfl, rfl⟩, ⟨Nat.le_of_ble_eq_true rfl, Nat.le_of_ble_eq_true rfl⟩⟩ kw_139 kw_140 (hFN.2.2.2.1 0 1 hFN.2.2.2.2.1 (Or.inl rfl)).1 rfl rfl hl.1 rfl (Nat.le_of_ble_eq_true rfl) ⟨Nat.le_of_ble_eq_true rfl, Nat.le_of_ble_eq_true rfl⟩ dX4_walkFromTape_53 (fun r5 hr5 => ?_)
          subst hr5
          have hlcr5 : tp.length ≤ 200 := (hFN.rw0 0 1 hFN.2.2.2.2.1 (Or.inl rfl) ((hOw 1 (by decide)).trans htp)).2.1
          refine lv_icmp_eq (tgt := 73) C0.1 C0.2.1 dX4_walkFromTape_56 (by decide) (fun c6 => ?_) (fun c6 => ?_)
          · have d6 : i = tp.length := (nI_eq (a := i) (b := tp.length) (by omega) (by omega)).mp c6
            refine lv_iconst (v := 1) C0.1 C0.2.1 dX4_walkFromTape_73 (by decide) ?_
            refine lv_goto (tgt := 78) C0.1 C0.2.1 dX4_walkFromTape_74 (by decide) ?_
            refine lv_istore (lv' := [(5, .int 1), (4, .int (nI i)), (3, .int (nI f)), (2, .int (nI v0)), (0, .ref (ad 0 0)), (1, .int (nI k))]) C0.1 C0.2.1 dX4_walkFromTape_78 hl (by decide) rfl (fun ls hl => ?_)
            refine lv_iload C0.1 C0.2.1 dX4_walkFromTape_80 (lv_at hl 0 rfl) ?_
            refine lv_if_eq (tgt := 106) C0.1 C0.2.1 dX4_walkFromTape_82 (by decide) (fun cx => absurd cx (by decide)) (fun cx => ?_)
            refine lv_iload C0.1 C0.2.1 dX4_walkFromTape_85 (lv_at hl 1 rfl) ?_
            refine lv_iload_n C0.1 C0.2.1 dX4_walkFromTape_87 rfl (lv_at hl 2 rfl) ?_
            refine lv_icmp_le (tgt := 106) C0.1 C0.2.1 dX4_walkFromTape_88 (by decide) (fun c8 => ?_) (fun c8 => ?_)
            · have d8 : i ≤ f := (nI_leI (a := i) (b := f) (by omega) (by omega)).mp c8
              refine lv_iload C0.1 C0.2.1 dX4_walkFromTape_106 (lv_at hl 0 rfl) ?_
              refine lv_if_eq (tgt := 116) C0.1 C0.2.1 dX4_walkFromTape_108 (by decide) (fun cx => absurd cx (by decide)) (fun cx => ?_)
              refine lv_iload C0.1 C0.2.1 dX4_walkFromTape_111 (lv_at hl 1 rfl) ?_
              refine lv_iconst (v := 1) C0.1 C0.2.1 dX4_walkFromTape_113 (by decide) ?_
              refine lv_iadd C0.1 C0.2.1 dX4_walkFromTape_114 ?_
              refine me_topi (y := nI (i + 1)) (nI_add i 1) ?_
              refine lv_istore_n (lv' := [(3, .int (nI (i + 1))), (5, .int 1), (4, .int (nI i)), (2, .int (nI v0)), (0, .ref (ad 0 0)), (1, .int (nI k))]) C0.1 C0.2.1 dX4_walkFromTape_115 rfl hl (by decide) rfl (fun ls hl => ?_)
              refine lv_iinc (v := nI (i + 1)) (lv' := [(4, .int (nI (i + 1))), (3, .int (nI (i + 1))), (5, .int 1), (2, .int (nI v0)), (0, .ref (ad 0 0)), (1, .int (nI k))]) C0.1 C0.2.1 dX4_walkFromTape_116 hl (k := 2) rfl (nI_add i 1) (by decide) rfl (fun ls hl => ?_)
              refine lv_goto (tgt := 35) C0.1 C0.2.1 dX4_walkFromTape_119 (by decide) ?_
              exact ih35 (i + 1) (i + 1) v0 _ _ _ (by omega) (Nat.le_refl _) hv2 hTv0 hFN hFD hOw hCT (hwk.trans (wkW_m (by omega) (Or.inl (by omega)) (by omega))) (by omega) _ _ _ hP hS (lv_sub hl [0, 1, 3, 4, 5] rfl)
            · have d8 : f < i := Nat.not_le.mp (fun h => c8 (nI_le (a := i) (b := f) h (by omega)))
              refine lv_aload_n C0.1 C0.2.1 dX4_walkFromTape_91 rfl (lv_at hl 4 rfl) ?_
              refine lv_iload_n C0.1 C0.2.1 dX4_walkFromTape_92 rfl (lv_at hl 3 rfl) ?_
              refine lv_iload_n C0.1 C0.2.1 dX4_walkFromTape_93 rfl (lv_at hl 2 rfl) ?_
              refine lv_iload C0.1 C0.2.1 dX4_walkFromTape_94 (lv_at hl 1 rfl) ?_
              refine me_cVwi (n := 3) C0 hml hP hS (c_X4_stepFrom l G B0 w1 D ad ex R1 N cnt hFN T Bn hCT hI tp ((hOw 1 (by decide)).trans htp) ho v0 f i nv hv2 hTv0 (by omega) (by omega)) ⟨kw_339, kw_31, kw_336, ⟨by decide, by decide, by decide +kernel⟩, ⟨rfl, rfl⟩, ⟨Nat.le_of_ble_eq_true rfl, Nat.le_of_ble_eq_true rfl⟩⟩ kw_338 kw_10 hFN.1 rfl rfl hl.1 rfl (Nat.le_of_ble_eq_true rfl) ⟨Nat.le_of_ble_eq_true rfl, Nat.le_of_ble_eq_true rfl⟩ dX4_walkFromTape_96 (fun r10 w10 H locs hw10 hP hS => ?_)
              obtain ⟨R10, hFN, hFD10, hOw10, hCT10, hres10⟩ := hw10
              have hFD := hFD.tr hFD10
              subst hres10
              rcases stp_ok hI (pc := pieceL tp f i) hv2 hTv0 with hs0 | ⟨u, m2, u1, u2, u3⟩
              · skip
                refine lv_istore_n (lv' := [(2, .int (stp T v0 (pieceL tp f i))), (5, .int 1), (4, .int (nI i)), (3, .int (nI f)), (0, .ref (ad 0 0)), (1, .int (nI k))]) C0.1 C0.2.1 dX4_walkFromTape_99 rfl hl (by decide) rfl (fun ls hl => ?_)
                refine lv_iload_n C0.1 C0.2.1 dX4_walkFromTape_100 rfl (lv_at hl 0 rfl) ?_
                refine lv_if_ge (tgt := 106) C0.1 C0.2.1 dX4_walkFromTape_101 (by decide) (fun c11 => ?_) (fun c11 => ?_)
                · exact absurd hs0 (Int32.not_lt.mpr c11)
                · refine lv_iload_n C0.1 C0.2.1 dX4_walkFromTape_104 rfl (lv_at hl 0 rfl) ?_
                  exact me_wiret _ C0.1 C0.2.1 B.returns B.notSynchronized hP hS (Nat.le_of_ble_eq_true rfl) (Nat.le_of_ble_eq_true rfl) (⟨_, hFN, hFD, (fun j hj => (hOw10 j hj).trans (hOw j hj)), hCT10, by rw [hwk]; exact (wkW_f (by omega) (Or.inl (by omega)) (by omega) rfl hs0).symm⟩) dX4_walkFromTape_105
              · refine me_topi (y := nI u) u2 ?_
                refine lv_istore_n (lv' := [(2, .int (nI u)), (5, .int 1), (4, .int (nI i)), (3, .int (nI f)), (0, .ref (ad 0 0)), (1, .int (nI k))]) C0.1 C0.2.1 dX4_walkFromTape_99 rfl hl (by decide) rfl (fun ls hl => ?_)
                refine lv_iload_n C0.1 C0.2.1 dX4_walkFromTape_100 rfl (lv_at hl 0 rfl) ?_
                refine lv_if_ge (tgt := 106) C0.1 C0.2.1 dX4_walkFromTape_101 (by decide) (fun c12 => ?_) (fun c12 => ?_)
                · have d12 : 0 ≤ u := (nI_leI (a := 0) (b := u) (by omega) (by omega)).mp c12
                  refine lv_iload C0.1 C0.2.1 dX4_walkFromTape_106 (lv_at hl 1 rfl) ?_
                  refine lv_if_eq (tgt := 116) C0.1 C0.2.1 dX4_walkFromTape_108 (by decide) (fun cx => absurd cx (by decide)) (fun cx => ?_)
                  refine lv_iload C0.1 C0.2.1 dX4_walkFromTape_111 (lv_at hl 2 rfl) ?_
                  refine lv_iconst (v := 1) C0.1 C0.2.1 dX4_walkFromTape_113 (by decide) ?_
                  refine lv_iadd C0.1 C0.2.1 dX4_walkFromTape_114 ?_
                  refine me_topi (y := nI (i + 1)) (nI_add i 1) ?_
                  refine lv_istore_n (lv' := [(3, .int (nI (i + 1))), (2, .int (nI u)), (5, .int 1), (4, .int (nI i)), (0, .ref (ad 0 0)), (1, .int (nI k))]) C0.1 C0.2.1 dX4_walkFromTape_115 rfl hl (by decide) rfl (fun ls hl => ?_)
                  refine lv_iinc (v := nI (i + 1)) (lv' := [(4, .int (nI (i + 1))), (3, .int (nI (i + 1))), (2, .int (nI u)), (5, .int 1), (0, .ref (ad 0 0)), (1, .int (nI k))]) C0.1 C0.2.1 dX4_walkFromTape_116 hl (k := 3) rfl (nI_add i 1) (by decide) rfl (fun ls hl => ?_)
                  refine lv_goto (tgt := 35) C0.1 C0.2.1 dX4_walkFromTape_119 (by decide) ?_
                  exact ih35 (i + 1) (i + 1) u _ _ _ (by omega) (Nat.le_refl _) u1 u3 hFN hFD (fun j hj => (hOw10 j hj).trans (hOw j hj)) hCT10 (hwk.trans (wkW_s (by omega) (Or.inl (by omega)) (by omega) u2 u1)) (by omega) _ _ _ hP hS (lv_sub hl [0, 1, 2, 4, 5] rfl)
                · have d12 : u < 0 := Nat.not_le.mp (fun h => c12 (nI_le (a := 0) (b := u) h (by omega)))
                  omega
          · have d6 : i ≠ tp.length := fun h => c6 (congrArg nI h)
            refine lv_aload_n C0.1 C0.2.1 dX4_walkFromTape_59 rfl (lv_at hl 3 rfl) ?_
            refine me_get C0 hP hFN.1 rfl inX4 0 (by decide) kw_118 rfl dX4_walkFromTape_60 ?_
            refine lv_iload C0.1 C0.2.1 dX4_walkFromTape_63 (lv_at hl 0 rfl) ?_
            refine me_cVi (n := 1) C0 hml hP hS (c_X2_at l G B0 w1 (ad 0 1) (ad 0 (1 + 1)) (capR 0 1) tp (hFN.rw0 0 1 hFN.2.2.2.2.1 (Or.inl rfl) ((hOw 1 (by decide)).trans htp)) (nI i)) ⟨kw_151, kw_32, kw_256, ⟨by decide, by decide, by decide +kernel⟩, ⟨rfl, rfl⟩, ⟨Nat.le_of_ble_eq_true rfl, Nat.le_of_ble_eq_true rfl⟩⟩ kw_149 kw_150 (hFN.2.2.2.1 0 1 hFN.2.2.2.2.1 (Or.inl rfl)).1 rfl rfl hl.1 rfl (Nat.le_of_ble_eq_true rfl) ⟨Nat.le_of_ble_eq_true rfl, Nat.le_of_ble_eq_true rfl⟩ dX4_walkFromTape_65 (fun r14 hr14 => ?_)
            subst hr14
            refine me_topi (y := tp.getD i 0) (ra_nat (by omega) (by omega)) ?_
            refine lv_bipush (v := 47) C0.1 C0.2.1 dX4_walkFromTape_68 (by decide) ?_
            refine lv_icmp_ne (tgt := 77) C0.1 C0.2.1 dX4_walkFromTape_70 (by decide) (fun c15 => ?_) (fun c15 => ?_)
            · refine lv_iconst (v := 0) C0.1 C0.2.1 dX4_walkFromTape_77 (by decide) ?_
              refine lv_istore (lv' := [(5, .int 0), (4, .int (nI i)), (3, .int (nI f)), (2, .int (nI v0)), (0, .ref (ad 0 0)), (1, .int (nI k))]) C0.1 C0.2.1 dX4_walkFromTape_78 hl (by decide) rfl (fun ls hl => ?_)
              refine lv_iload C0.1 C0.2.1 dX4_walkFromTape_80 (lv_at hl 0 rfl) ?_
              refine lv_if_eq (tgt := 106) C0.1 C0.2.1 dX4_walkFromTape_82 (by decide) (fun cx => ?_) (fun cx => absurd cx (by decide))
              refine lv_iload C0.1 C0.2.1 dX4_walkFromTape_106 (lv_at hl 0 rfl) ?_
              refine lv_if_eq (tgt := 116) C0.1 C0.2.1 dX4_walkFromTape_108 (by decide) (fun cx => ?_) (fun cx => absurd cx (by decide))
              refine lv_iinc (v := nI (i + 1)) (lv' := [(4, .int (nI (i + 1))), (5, .int 0), (3, .int (nI f)), (2, .int (nI v0)), (0, .ref (ad 0 0)), (1, .int (nI k))]) C0.1 C0.2.1 dX4_walkFromTape_116 hl (k := 1) rfl (nI_add i 1) (by decide) rfl (fun ls hl => ?_)
              refine lv_goto (tgt := 35) C0.1 C0.2.1 dX4_walkFromTape_119 (by decide) ?_
              exact ih35 (i + 1) f v0 _ _ _ (by omega) (by omega) hv2 hTv0 hFN hFD hOw hCT (hwk.trans (wkW_g (by omega) (fun q => q.elim (fun q => by omega) c15))) (by omega) _ _ _ hP hS (lv_sub hl [0, 2, 3, 4, 5] rfl)
            · refine lv_iconst (v := 1) C0.1 C0.2.1 dX4_walkFromTape_73 (by decide) ?_
              refine lv_goto (tgt := 78) C0.1 C0.2.1 dX4_walkFromTape_74 (by decide) ?_
              refine lv_istore (lv' := [(5, .int 1), (4, .int (nI i)), (3, .int (nI f)), (2, .int (nI v0)), (0, .ref (ad 0 0)), (1, .int (nI k))]) C0.1 C0.2.1 dX4_walkFromTape_78 hl (by decide) rfl (fun ls hl => ?_)
              refine lv_iload C0.1 C0.2.1 dX4_walkFromTape_80 (lv_at hl 0 rfl) ?_
              refine lv_if_eq (tgt := 106) C0.1 C0.2.1 dX4_walkFromTape_82 (by decide) (fun cx => absurd cx (by decide)) (fun cx => ?_)
              refine lv_iload C0.1 C0.2.1 dX4_walkFromTape_85 (lv_at hl 1 rfl) ?_
              refine lv_iload_n C0.1 C0.2.1 dX4_walkFromTape_87 rfl (lv_at hl 2 rfl) ?_
              refine lv_icmp_le (tgt := 106) C0.1 C0.2.1 dX4_walkFromTape_88 (by decide) (fun c19 => ?_) (fun c19 => ?_)
              · have d19 : i ≤ f := (nI_leI (a := i) (b := f) (by omega) (by omega)).mp c19
                refine lv_iload C0.1 C0.2.1 dX4_walkFromTape_106 (lv_at hl 0 rfl) ?_
                refine lv_if_eq (tgt := 116) C0.1 C0.2.1 dX4_walkFromTape_108 (by decide) (fun cx => absurd cx (by decide)) (fun cx => ?_)
                refine lv_iload C0.1 C0.2.1 dX4_walkFromTape_111 (lv_at hl 1 rfl) ?_
                refine lv_iconst (v := 1) C0.1 C0.2.1 dX4_walkFromTape_113 (by decide) ?_
                refine lv_iadd C0.1 C0.2.1 dX4_walkFromTape_114 ?_
                refine me_topi (y := nI (i + 1)) (nI_add i 1) ?_
                refine lv_istore_n (lv' := [(3, .int (nI (i + 1))), (5, .int 1), (4, .int (nI i)), (2, .int (nI v0)), (0, .ref (ad 0 0)), (1, .int (nI k))]) C0.1 C0.2.1 dX4_walkFromTape_115 rfl hl (by decide) rfl (fun ls hl => ?_)
                refine lv_iinc (v := nI (i + 1)) (lv' := [(4, .int (nI (i + 1))), (3, .int (nI (i + 1))), (5, .int 1), (2, .int (nI v0)), (0, .ref (ad 0 0)), (1, .int (nI k))]) C0.1 C0.2.1 dX4_walkFromTape_116 hl (k := 2) rfl (nI_add i 1) (by decide) rfl (fun ls hl => ?_)
                refine lv_goto (tgt := 35) C0.1 C0.2.1 dX4_walkFromTape_119 (by decide) ?_
                exact ih35 (i + 1) (i + 1) v0 _ _ _ (by omega) (Nat.le_refl _) hv2 hTv0 hFN hFD hOw hCT (hwk.trans (wkW_m (by omega) (Or.inr c15) (by omega))) (by omega) _ _ _ hP hS (lv_sub hl [0, 1, 3, 4, 5] rfl)
              · have d19 : f < i := Nat.not_le.mp (fun h => c19 (nI_le (a := i) (b := f) h (by omega)))
                refine lv_aload_n C0.1 C0.2.1 dX4_walkFromTape_91 rfl (lv_at hl 4 rfl) ?_
                refine lv_iload_n C0.1 C0.2.1 dX4_walkFromTape_92 rfl (lv_at hl 3 rfl) ?_
                refine lv_iload_n C0.1 C0.2.1 dX4_walkFromTape_93 rfl (lv_at hl 2 rfl) ?_
                refine lv_iload C0.1 C0.2.1 dX4_walkFromTape_94 (lv_at hl 1 rfl) ?_
                refine me_cVwi (n := 3) C0 hml hP hS (c_X4_stepFrom l G B0 w1 D ad ex R1 N cnt hFN T Bn hCT hI tp ((hOw 1 (by decide)).trans htp) ho v0 f i nv hv2 hTv0 (by omega) (by omega)) ⟨kw_339, kw_31, kw_336, ⟨by decide, by decide, by decide +kernel⟩, ⟨rfl, rfl⟩, ⟨Nat.le_of_ble_eq_true rfl, Nat.le_of_ble_eq_true rfl⟩⟩ kw_338 kw_10 hFN.1 rfl rfl hl.1 rfl (Nat.le_of_ble_eq_true rfl) ⟨Nat.le_of_ble_eq_true rfl, Nat.le_of_ble_eq_true rfl⟩ dX4_walkFromTape_96 (fun r21 w21 H locs hw21 hP hS => ?_)
                obtain ⟨R21, hFN, hFD21, hOw21, hCT21, hres21⟩ := hw21
                have hFD := hFD.tr hFD21
                subst hres21
                rcases stp_ok hI (pc := pieceL tp f i) hv2 hTv0 with hs0 | ⟨u, m2, u1, u2, u3⟩
                · skip
                  refine lv_istore_n (lv' := [(2, .int (stp T v0 (pieceL tp f i))), (5, .int 1), (4, .int (nI i)), (3, .int (nI f)), (0, .ref (ad 0 0)), (1, .int (nI k))]) C0.1 C0.2.1 dX4_walkFromTape_99 rfl hl (by decide) rfl (fun ls hl => ?_)
                  refine lv_iload_n C0.1 C0.2.1 dX4_walkFromTape_100 rfl (lv_at hl 0 rfl) ?_
                  refine lv_if_ge (tgt := 106) C0.1 C0.2.1 dX4_walkFromTape_101 (by decide) (fun c22 => ?_) (fun c22 => ?_)
                  · exact absurd hs0 (Int32.not_lt.mpr c22)
                  · refine lv_iload_n C0.1 C0.2.1 dX4_walkFromTape_104 rfl (lv_at hl 0 rfl) ?_
                    exact me_wiret _ C0.1 C0.2.1 B.returns B.notSynchronized hP hS (Nat.le_of_ble_eq_true rfl) (Nat.le_of_ble_eq_true rfl) (⟨_, hFN, hFD, (fun j hj => (hOw21 j hj).trans (hOw j hj)), hCT21, by rw [hwk]; exact (wkW_f (by omega) (Or.inr c15) (by omega) rfl hs0).symm⟩) dX4_walkFromTape_105
                · refine me_topi (y := nI u) u2 ?_
                  refine lv_istore_n (lv' := [(2, .int (nI u)), (5, .int 1), (4, .int (nI i)), (3, .int (nI f)), (0, .ref (ad 0 0)), (1, .int (nI k))]) C0.1 C0.2.1 dX4_walkFromTape_99 rfl hl (by decide) rfl (fun ls hl => ?_)
                  refine lv_iload_n C0.1 C0.2.1 dX4_walkFromTape_100 rfl (lv_at hl 0 rfl) ?_
                  refine lv_if_ge (tgt := 106) C0.1 C0.2.1 dX4_walkFromTape_101 (by decide) (fun c23 => ?_) (fun c23 => ?_)
                  · have d23 : 0 ≤ u := (nI_leI (a := 0) (b := u) (by omega) (by omega)).mp c23
                    refine lv_iload C0.1 C0.2.1 dX4_walkFromTape_106 (lv_at hl 1 rfl) ?_
                    refine lv_if_eq (tgt := 116) C0.1 C0.2.1 dX4_walkFromTape_108 (by decide) (fun cx => absurd cx (by decide)) (fun cx => ?_)
                    refine lv_iload C0.1 C0.2.1 dX4_walkFromTape_111 (lv_at hl 2 rfl) ?_
                    refine lv_iconst (v := 1) C0.1 C0.2.1 dX4_walkFromTape_113 (by decide) ?_
                    refine lv_iadd C0.1 C0.2.1 dX4_walkFromTape_114 ?_
                    refine me_topi (y := nI (i + 1)) (nI_add i 1) ?_
                    refine lv_istore_n (lv' := [(3, .int (nI (i + 1))), (2, .int (nI u)), (5, .int 1), (4, .int (nI i)), (0, .ref (ad 0 0)), (1, .int (nI k))]) C0.1 C0.2.1 dX4_walkFromTape_115 rfl hl (by decide) rfl (fun ls hl => ?_)
                    refine lv_iinc (v := nI (i + 1)) (lv' := [(4, .int (nI (i + 1))), (3, .int (nI (i + 1))), (2, .int (nI u)), (5, .int 1), (0, .ref (ad 0 0)), (1, .int (nI k))]) C0.1 C0.2.1 dX4_walkFromTape_116 hl (k := 3) rfl (nI_add i 1) (by decide) rfl (fun ls hl => ?_)
                    refine lv_goto (tgt := 35) C0.1 C0.2.1 dX4_walkFromTape_119 (by decide) ?_
                    exact ih35 (i + 1) (i + 1) u _ _ _ (by omega) (Nat.le_refl _) u1 u3 hFN hFD (fun j hj => (hOw21 j hj).trans (hOw j hj)) hCT21 (hwk.trans (wkW_s (by omega) (Or.inr c15) (by omega) u2 u1)) (by omega) _ _ _ hP hS (lv_sub hl [0, 1, 2, 4, 5] rfl)
                  · have d23 : u < 0 := Nat.not_le.mp (fun h => c23 (nI_le (a := 0) (b := u) h (by omega)))
                    omega
    refine lv_bipush (v := 47) C0.1 C0.2.1 dX4_walkFromTape_19 (by decide) ?_
    refine lv_icmp_ne (tgt := 28) C0.1 C0.2.1 dX4_walkFromTape_21 (by decide) (fun c25 => ?_) (fun c25 => ?_)
    · refine lv_iload_n C0.1 C0.2.1 dX4_walkFromTape_28 rfl (lv_at hl 1 rfl) ?_
      refine lv_istore_n (lv' := [(2, .int (nI k)), (0, .ref (ad 0 0)), (1, .int (nI k))]) C0.1 C0.2.1 dX4_walkFromTape_29 rfl hl (by decide) rfl (fun ls hl => ?_)
      refine lv_iconst (v := 0) C0.1 C0.2.1 dX4_walkFromTape_30 (by decide) ?_
      refine lv_istore_n (lv' := [(3, .int 0), (2, .int (nI k)), (0, .ref (ad 0 0)), (1, .int (nI k))]) C0.1 C0.2.1 dX4_walkFromTape_31 rfl hl (by decide) rfl (fun ls hl => ?_)
      refine lv_iconst (v := 0) C0.1 C0.2.1 dX4_walkFromTape_32 (by decide) ?_
      refine lv_istore (lv' := [(4, .int 0), (3, .int 0), (2, .int (nI k)), (0, .ref (ad 0 0)), (1, .int (nI k))]) C0.1 C0.2.1 dX4_walkFromTape_33 hl (by decide) rfl (fun ls hl => ?_)
      exact loop35 (tp.length + 1 - 0 + 1) 0 0 k _ _ _ (by omega) (Nat.le_refl _) (by omega) hTk hFN hFD (fun j _ => rfl) hCT (by unfold sWalk; rw [if_neg (noN_at0 hk hTk), nI_clamp (by omega), if_neg (fun q => c25 ((ra_0 (by omega)).mpr q))]) (Nat.lt_succ_self _) _ _ _ hP hS (lv_sub hl [0, 1, 2, 3, 4] rfl)
    · refine lv_iconst (v := 0) C0.1 C0.2.1 dX4_walkFromTape_24 (by decide) ?_
      refine lv_goto (tgt := 29) C0.1 C0.2.1 dX4_walkFromTape_25 (by decide) ?_
      refine lv_istore_n (lv' := [(2, .int 0), (0, .ref (ad 0 0)), (1, .int (nI k))]) C0.1 C0.2.1 dX4_walkFromTape_29 rfl hl (by decide) rfl (fun ls hl => ?_)
      refine lv_iconst (v := 0) C0.1 C0.2.1 dX4_walkFromTape_30 (by decide) ?_
      refine lv_istore_n (lv' := [(3, .int 0), (2, .int 0), (0, .ref (ad 0 0)), (1, .int (nI k))]) C0.1 C0.2.1 dX4_walkFromTape_31 rfl hl (by decide) rfl (fun ls hl => ?_)
      refine lv_iconst (v := 0) C0.1 C0.2.1 dX4_walkFromTape_32 (by decide) ?_
      refine lv_istore (lv' := [(4, .int 0), (3, .int 0), (2, .int 0), (0, .ref (ad 0 0)), (1, .int (nI k))]) C0.1 C0.2.1 dX4_walkFromTape_33 hl (by decide) rfl (fun ls hl => ?_)
      obtain ⟨rt, hrt, -⟩ := hI.1
      exact loop35 (tp.length + 1 - 0 + 1) 0 0 0 _ _ _ (by omega) (Nat.le_refl _) (by omega) hrt hFN hFD (fun j _ => rfl) hCT (by unfold sWalk; rw [if_neg (noN_at0 hk hTk), nI_clamp (by omega), if_pos ((ra_0 (by omega)).mp c25)]) (Nat.lt_succ_self _) _ _ _ hP hS (lv_sub hl [0, 1, 2, 3, 4] rfl)

set_option maxHeartbeats 4000000 in
set_option maxRecDepth 100000 in
/-- walk(node) -/
theorem c_X4_walk (l : Launch) (G : me_G) (B0 : Nat) (w : Me) (D : Nat → Prop) (ad : Nat → Nat → Nat) (ex : Nat → Bool) (R : Nat → Nat → List Int32) (N : Nat → Nat → Int32) (cnt : Int32) (hFN : FN G B0 D w ad ex R N cnt) (T : Tre) (Bn : Nat → List Int32) (hCT : CT ex R N T Bn) (hI : TI T) (tp : List Int32) (htp : R 0 1 = tp) (ho : Oct tp) (nd0 : Int32) : CtWI l yX4_walk (Cond.code yX4_walk cX4_walk 3 (some .int)) ({ frames := 10, cells := 0, slots := 0, locals := 229 }) G B0 w [.ref (ad 0 0), .int nd0] (fun r w' => ∃ (R' : Nat → Nat → List Int32), FN G B0 D w' ad ex R' N cnt ∧ FDr D w w' ∧ (∀ i, i ≠ 1 → i ≠ 5 → R' 0 i = R 0 i) ∧ R' 0 1 = [] ∧ CT ex R' N T Bn ∧ r = sWalk T tp nd0) 0 0 := by
  refine Met.ofW (cc := cX4_walk) (maxL := 3) (ret := (some .int)) (by decide) rfl ?_
  intro p e s m args below meth c s₁ B hml hv
  obtain ⟨rfl, hK, hP, hKq, hBs⟩ := hv
  have hts := fun w h => atoms_spec (ws := Cond.code yX4_walk cX4_walk 3 (some .int) :: tbG) B.pre w (List.mem_cons_of_mem _ h)
  have hown : s.vm.findClass RX4 = some m.cls := findClass_of_methodNamed B.named
  have C0 : Cx G B0 p s m _ c cX4_walk RX4 := ⟨B.exec, B.bytes, hown, hts, hK, hKq, hBs⟩
  have hS : va_S (me_A B0) s.heap s.heap [] := va_S.rf
  have hl := lv_entry ([.ref (ad 0 0), .int nd0]) (n := 3) (Nat.le_of_ble_eq_true rfl)
  rw [lg_entry_eq]
  generalize (lg_sl ([.ref (ad 0 0), .int nd0]) ++ List.replicate (3 - (lg_sl ([.ref (ad 0 0), .int nd0])).length) Slot.unset).toArray = ls at hl ⊢
  have hl : lv_has ls 3 [(0, .ref (ad 0 0)), (1, .int nd0)] := hl
  have hFD : FDr D w w := FDr.rf
  have htl : tp.length ≤ 200 := (hFN.rw0 0 1 hFN.2.2.2.2.1 (Or.inl rfl) htp).2.1
  refine lv_aload_n C0.1 C0.2.1 dX4_walk_0 rfl (lv_at hl 0 rfl) ?_
  refine lv_iload_n C0.1 C0.2.1 dX4_walk_1 rfl (lv_at hl 1 rfl) ?_
  refine me_cVwi (n := 1) C0 hml hP hS (c_X4_walkFromTape l G B0 w D ad ex R N cnt hFN T Bn hCT hI tp htp ho nd0) ⟨kw_335, kw_31, kw_332, ⟨by decide, by decide, by decide +kernel⟩, ⟨rfl, rfl⟩, ⟨Nat.le_of_ble_eq_true rfl, Nat.le_of_ble_eq_true rfl⟩⟩ kw_334 kw_9 hFN.1 rfl rfl hl.1 rfl (Nat.le_of_ble_eq_true rfl) ⟨Nat.le_of_ble_eq_true rfl, Nat.le_of_ble_eq_true rfl⟩ dX4_walk_2 (fun r1 w1 H locs hw1 hP hS => ?_)
  obtain ⟨R1, hFN, hFD1, hOw1, hCT1, hres⟩ := hw1
  have hFD := hFD.tr hFD1
  refine lv_istore_n (lv' := [(2, .int r1), (0, .ref (ad 0 0)), (1, .int nd0)]) C0.1 C0.2.1 dX4_walk_5 rfl hl (by decide) rfl (fun ls hl => ?_)
  refine lv_aload_n C0.1 C0.2.1 dX4_walk_6 rfl (lv_at hl 1 rfl) ?_
  refine me_get C0 hP hFN.1 rfl inX4 0 (by decide) kw_118 rfl dX4_walk_7 ?_
  refine me_cVwv (n := 0) C0 hml hP hS (c_X2_clear l G B0 w1 (ad 0 1) (ad 0 (1 + 1)) (capR 0 1) tp (hFN.rw0 0 1 hFN.2.2.2.2.1 (Or.inl rfl) ((hOw1 1 (by decide)).trans htp)) (hFN.bb hFN.2.2.2.2.1 (rowJ_us (show rowJ 0 1 from (Or.inl rfl))).1) (hFN.bb hFN.2.2.2.2.1 (rowJ_us (show rowJ 0 1 from (Or.inl rfl))).2.1)) ⟨kw_117, kw_32, kw_162, ⟨by decide, by decide, by decide +kernel⟩, ⟨rfl, rfl⟩, ⟨Nat.le_of_ble_eq_true rfl, Nat.le_of_ble_eq_true rfl⟩⟩ kw_115 kw_116 (hFN.2.2.2.1 0 1 hFN.2.2.2.2.1 (Or.inl rfl)).1 rfl rfl hl.1 rfl (Nat.le_of_ble_eq_true rfl) ⟨Nat.le_of_ble_eq_true rfl, Nat.le_of_ble_eq_true rfl⟩ dX4_walk_10 (fun w2 H locs hw2 hP hS => ?_)
  obtain ⟨hRw2, hCh2⟩ := hw2
  have hFD := hFD.ch (hFN.dd hFN.2.2.2.2.1 (rowJ_us (show rowJ 0 1 from (Or.inl rfl))).1) (hFN.dd hFN.2.2.2.2.1 (rowJ_us (show rowJ 0 1 from (Or.inl rfl))).2.1) hCh2
  have hFN := hFN.row (a := 0) (j := 1) hFN.2.2.2.2.1 (Or.inl rfl) hRw2 hCh2
  obtain ⟨R2, hR2⟩ : ∃ x, x = updR R1 0 1 ([]) := ⟨_, rfl⟩
  have hFN : FN G B0 D w2 ad ex R2 N cnt := by rw [hR2]; exact hFN
  have hv2_0_1 : R2 0 1 = [] := by rw [hR2, updR_s]
  have hCT2 := hCT1.sr ((SR.rf : SR _ _ [(0, 1)]).wr hR2 (by simp)) (by simp)
  refine lv_iload_n C0.1 C0.2.1 dX4_walk_13 rfl (lv_at hl 0 rfl) ?_
  exact me_wiret _ C0.1 C0.2.1 B.returns B.notSynchronized hP hS (Nat.le_of_ble_eq_true rfl) (Nat.le_of_ble_eq_true rfl) (⟨_, hFN, hFD, (fun i h1 h5 => ((((SR.rf : SR R1 R1 [(0, 1)]).wr hR2 (by simp)) : SR R1 R2 [(0, 1)]) 0 i (by simp; omega)).trans (hOw1 i h5)), hv2_0_1, hCT2, hres⟩) dX4_walk_14
