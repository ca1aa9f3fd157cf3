set_option maxHeartbeats 4000000 in
set_option maxRecDepth 100000 in
/-- about(v, what) -/
theorem c_X5_about (l : Launch) (G : me_G) (B0 : Nat) (w : Me) (o : Nat) (a : Nat → Nat) (F : Nat → Nat → Int32) (z : Nat → Int32) (hM : MD G B0 w o a F z) (T : Tre) (hT : RT F T) (dp : Nat → Nat) (hdp : NoRing T dp) (hd200 : ∀ u, dp u < 200) (v wh : Int32) : CtWI l yX5_about (Cond.code yX5_about cX5_about 5 (some .int)) ({ frames := 1, cells := 0, slots := 0, locals := 21 }) G B0 w [.ref o, .int v, .int wh] (fun r w' => ∃ (F' : Nat → Nat → Int32) (z' : Nat → Int32), MD G B0 w' o a F' z' ∧ MF w w' o a ∧ F' = F ∧ SameZ z z' [13] ∧ ((¬ (¬ wh < 0 ∧ ¬ 5 < wh) ∧ z' 13 = 1) ∨ ((¬ wh < 0 ∧ ¬ 5 < wh) ∧ z' 13 = 0 ∧ r = sAbout T 200 v wh))) 0 0 := by
  refine Met.ofW (cc := cX5_about) (maxL := 5) (ret := (some .int)) (by decide) rfl ?_
  intro p e s m args below meth c s₁ B hml hv
  obtain ⟨rfl, hK, hP, hKq, hBs⟩ := hv
  have hts := fun w h => atoms_spec (ws := Cond.code yX5_about cX5_about 5 (some .int) :: tbG) B.pre w (List.mem_cons_of_mem _ h)
  have hown : s.vm.findClass RX5 = some m.cls := findClass_of_methodNamed B.named
  have C0 : Cx G B0 p s m _ c cX5_about RX5 := ⟨B.exec, B.bytes, hown, hts, hK, hKq, hBs⟩
  have hS : va_S (me_A B0) s.heap s.heap [] := va_S.rf
  have hl := lv_entry ([.ref o, .int v, .int wh]) (n := 5) (Nat.le_of_ble_eq_true rfl)
  rw [lg_entry_eq]
  generalize (lg_sl ([.ref o, .int v, .int wh]) ++ List.replicate (5 - (lg_sl ([.ref o, .int v, .int wh])).length) Slot.unset).toArray = ls at hl ⊢
  have hl : lv_has ls 5 [(0, .ref o), (1, .int v), (2, .int wh)] := hl
  have hMF : MF w w o a := MF.rf
  refine lv_aload_n C0.1 C0.2.1 dX5_about_0 rfl (lv_at hl 0 rfl) ?_
  refine lv_iload_n C0.1 C0.2.1 dX5_about_1 rfl (lv_at hl 2 rfl) ?_
  refine lv_if_lt (tgt := 10) C0.1 C0.2.1 dX5_about_2 (by decide) (fun c1 => ?_) (fun c1 => ?_)
  · refine lv_iconst (v := 1) C0.1 C0.2.1 dX5_about_10 (by decide) ?_
    refine lv_goto (tgt := 15) C0.1 C0.2.1 dX5_about_11 (by decide) ?_
    refine md_put C0 hP hS hM hMF 13 (by decide) kw_490 rfl rfl rfl dX5_about_15 (fun w2 z2 H locs hz2 hM hMF hP hS => ?_)
    have hz2_13 : z2 13 = 1 := by rw [hz2, upd_eq]
    refine lv_aload_n C0.1 C0.2.1 dX5_about_18 rfl (lv_at hl 0 rfl) ?_
    refine md_get C0 hP hM 13 (by decide) kw_490 (v := .int 1) (by show some (Value.int (z2 13)) = _; rw [hz2_13]) dX5_about_19 ?_
    refine lv_if_le (tgt := 27) C0.1 C0.2.1 dX5_about_22 (by decide) (fun cx => absurd cx (by decide)) (fun cx => ?_)
    refine lv_iconst (v := 0) C0.1 C0.2.1 dX5_about_25 (by decide) ?_
    exact me_wiret _ C0.1 C0.2.1 B.returns B.notSynchronized hP hS (Nat.le_of_ble_eq_true rfl) (Nat.le_of_ble_eq_true rfl) (⟨_, _, hM, hMF, rfl, SameZ.rf.wr hz2 (by decide), Or.inl ⟨fun h => h.1 c1, hz2_13⟩⟩) dX5_about_26
  · refine lv_iload_n C0.1 C0.2.1 dX5_about_5 rfl (lv_at hl 2 rfl) ?_
    refine lv_iconst (v := 5) C0.1 C0.2.1 dX5_about_6 (by decide) ?_
    refine lv_icmp_le (tgt := 14) C0.1 C0.2.1 dX5_about_7 (by decide) (fun c4 => ?_) (fun c4 => ?_)
    · obtain ⟨wk, hwk, rfl⟩ := n05 c1 c4
      refine lv_iconst (v := 0) C0.1 C0.2.1 dX5_about_14 (by decide) ?_
      refine md_put C0 hP hS hM hMF 13 (by decide) kw_490 rfl rfl rfl dX5_about_15 (fun w5 z5 H locs hz5 hM hMF hP hS => ?_)
      have hz5_13 : z5 13 = 0 := by rw [hz5, upd_eq]
      refine lv_aload_n C0.1 C0.2.1 dX5_about_18 rfl (lv_at hl 0 rfl) ?_
      refine md_get C0 hP hM 13 (by decide) kw_490 (v := .int 0) (by show some (Value.int (z5 13)) = _; rw [hz5_13]) dX5_about_19 ?_
      refine lv_if_le (tgt := 27) C0.1 C0.2.1 dX5_about_22 (by decide) (fun cx => ?_) (fun cx => absurd cx (by decide))
      refine lv_aload_n C0.1 C0.2.1 dX5_about_27 rfl (lv_at hl 0 rfl) ?_
      refine lv_iload_n C0.1 C0.2.1 dX5_about_28 rfl (lv_at hl 1 rfl) ?_
      refine me_cVi (n := 1) C0 hml hP hS (c_X5_noNode l G B0 w5 o a F z5 hM T hT v) ⟨kw_622, kw_35, kw_619, ⟨by decide, by decide, by decide +kernel⟩, ⟨rfl, rfl⟩, ⟨Nat.le_of_ble_eq_true rfl, Nat.le_of_ble_eq_true rfl⟩⟩ kw_621 kw_21 hM.1 rfl rfl hl.1 rfl (Nat.le_of_ble_eq_true rfl) ⟨Nat.le_of_ble_eq_true rfl, Nat.le_of_ble_eq_true rfl⟩ dX5_about_29 (fun r7 hr7 => ?_)
      rcases noN_r (T := T) v with hnnr7 | hnnr7
      · rw [hnnr7] at hr7
        subst hr7
        refine lv_if_eq (tgt := 38) C0.1 C0.2.1 dX5_about_32 (by decide) (fun cx => absurd cx (by decide)) (fun cx => ?_)
        refine lv_bipush (v := (-5)) C0.1 C0.2.1 dX5_about_35 (by decide) ?_
        exact me_wiret _ C0.1 C0.2.1 B.returns B.notSynchronized hP hS (Nat.le_of_ble_eq_true rfl) (Nat.le_of_ble_eq_true rfl) (⟨_, _, hM, hMF, rfl, SameZ.rf.wr hz5 (by decide), Or.inr ⟨g5 _ (by omega), hz5_13, (sAbout_no hnnr7).symm⟩⟩) dX5_about_37
      · rw [hnnr7] at hr7
        subst hr7
        obtain ⟨k, nd, hk, rfl, hTk⟩ := noN_s (T := T) (v := v) (by rw [hnnr7]; decide)
        have hNk := (hT.2 k nd hTk).2
        refine lv_if_eq (tgt := 38) C0.1 C0.2.1 dX5_about_32 (by decide) (fun cx => ?_) (fun cx => absurd cx (by decide))
        refine lv_iload_n C0.1 C0.2.1 dX5_about_38 rfl (lv_at hl 2 rfl) ?_
        rcases (show wk = 0 ∨ wk = 1 ∨ wk = 2 ∨ wk = 3 ∨ wk = 4 ∨ wk = 5 by omega) with rfl | rfl | rfl | rfl | rfl | rfl
        · refine lv_tableIn (off := 33) (tgt := 72) C0.1 C0.2.1 dX5_about_39 (by decide) (by decide) (by decide) (by decide) ?_
          refine lv_aload_n C0.1 C0.2.1 dX5_about_72 rfl (lv_at hl 0 rfl) ?_
          refine md_get C0 hP hM 3 (by decide) kw_480 (v := .ref ((a 3))) rfl dX5_about_73 ?_
          refine lv_iload_n C0.1 C0.2.1 dX5_about_76 rfl (lv_at hl 1 rfl) ?_
          refine md_zald C0 hP hM 3 (by decide) (i := k) (by show k < 200; omega) dX5_about_77 ?_
          refine lv_if_eq (tgt := 85) C0.1 C0.2.1 dX5_about_78 (by decide) (fun c10 => ?_) (fun c10 => ?_)
          · refine lv_iconst (v := 0) C0.1 C0.2.1 dX5_about_85 (by decide) ?_
            exact me_wiret _ C0.1 C0.2.1 B.returns B.notSynchronized hP hS (Nat.le_of_ble_eq_true rfl) (Nat.le_of_ble_eq_true rfl) (⟨_, _, hM, hMF, rfl, SameZ.rf.wr hz5 (by decide), Or.inr ⟨g5 _ (by omega), hz5_13, by rw [sAbout_n hk hTk, if_pos (by decide), if_pos (hNk.2.1.symm.trans c10)]⟩⟩) dX5_about_86
          · refine lv_iconst (v := 1) C0.1 C0.2.1 dX5_about_81 (by decide) ?_
            refine lv_goto (tgt := 86) C0.1 C0.2.1 dX5_about_82 (by decide) ?_
            exact me_wiret _ C0.1 C0.2.1 B.returns B.notSynchronized hP hS (Nat.le_of_ble_eq_true rfl) (Nat.le_of_ble_eq_true rfl) (⟨_, _, hM, hMF, rfl, SameZ.rf.wr hz5 (by decide), Or.inr ⟨g5 _ (by omega), hz5_13, by rw [sAbout_n hk hTk, if_pos (by decide), if_neg (fun q => c10 (hNk.2.1.trans q))]⟩⟩) dX5_about_86
        · refine lv_tableIn (off := 48) (tgt := 87) C0.1 C0.2.1 dX5_about_39 (by decide) (by decide) (by decide) (by decide) ?_
          refine lv_aload_n C0.1 C0.2.1 dX5_about_87 rfl (lv_at hl 0 rfl) ?_
          refine md_get C0 hP hM 4 (by decide) kw_481 (v := .ref ((a 4))) rfl dX5_about_88 ?_
          refine lv_iload_n C0.1 C0.2.1 dX5_about_91 rfl (lv_at hl 1 rfl) ?_
          refine md_iald C0 hP hM 4 (by decide) (i := k) (by show k < 200; omega) dX5_about_92 ?_
          exact me_wiret _ C0.1 C0.2.1 B.returns B.notSynchronized hP hS (Nat.le_of_ble_eq_true rfl) (Nat.le_of_ble_eq_true rfl) (⟨_, _, hM, hMF, rfl, SameZ.rf.wr hz5 (by decide), Or.inr ⟨g5 _ (by omega), hz5_13, by rw [sAbout_n hk hTk, if_neg (by decide), if_pos (by decide)]; exact hNk.2.2.1⟩⟩) dX5_about_93
        · refine lv_tableIn (off := 55) (tgt := 94) C0.1 C0.2.1 dX5_about_39 (by decide) (by decide) (by decide) (by decide) ?_
          refine lv_aload_n C0.1 C0.2.1 dX5_about_94 rfl (lv_at hl 0 rfl) ?_
          refine md_get C0 hP hM 10 (by decide) kw_487 (v := .ref ((a 10))) rfl dX5_about_95 ?_
          refine lv_iload_n C0.1 C0.2.1 dX5_about_98 rfl (lv_at hl 1 rfl) ?_
          refine md_iald C0 hP hM 10 (by decide) (i := k) (by show k < 200; omega) dX5_about_99 ?_
          exact me_wiret _ C0.1 C0.2.1 B.returns B.notSynchronized hP hS (Nat.le_of_ble_eq_true rfl) (Nat.le_of_ble_eq_true rfl) (⟨_, _, hM, hMF, rfl, SameZ.rf.wr hz5 (by decide), Or.inr ⟨g5 _ (by omega), hz5_13, by rw [sAbout_n hk hTk, if_neg (by decide), if_neg (by decide), if_pos (by decide)]; exact hNk.2.2.2.2.2.1⟩⟩) dX5_about_100
        · refine lv_tableIn (off := 62) (tgt := 101) C0.1 C0.2.1 dX5_about_39 (by decide) (by decide) (by decide) (by decide) ?_
          refine lv_aload_n C0.1 C0.2.1 dX5_about_101 rfl (lv_at hl 0 rfl) ?_
          refine md_get C0 hP hM 6 (by decide) kw_483 (v := .ref ((a 6))) rfl dX5_about_102 ?_
          refine lv_iload_n C0.1 C0.2.1 dX5_about_105 rfl (lv_at hl 1 rfl) ?_
          refine md_iald C0 hP hM 6 (by decide) (i := k) (by show k < 200; omega) dX5_about_106 ?_
          exact me_wiret _ C0.1 C0.2.1 B.returns B.notSynchronized hP hS (Nat.le_of_ble_eq_true rfl) (Nat.le_of_ble_eq_true rfl) (⟨_, _, hM, hMF, rfl, SameZ.rf.wr hz5 (by decide), Or.inr ⟨g5 _ (by omega), hz5_13, by rw [sAbout_n hk hTk, if_neg (by decide), if_neg (by decide), if_neg (by decide), if_pos (by decide)]; exact hNk.2.2.2.1.1⟩⟩) dX5_about_107
        · refine lv_tableIn (off := 69) (tgt := 108) C0.1 C0.2.1 dX5_about_39 (by decide) (by decide) (by decide) (by decide) ?_
          refine lv_aload_n C0.1 C0.2.1 dX5_about_108 rfl (lv_at hl 0 rfl) ?_
          refine md_get C0 hP hM 8 (by decide) kw_485 (v := .ref ((a 8))) rfl dX5_about_109 ?_
          refine lv_iload_n C0.1 C0.2.1 dX5_about_112 rfl (lv_at hl 1 rfl) ?_
          refine md_iald C0 hP hM 8 (by decide) (i := k) (by show k < 200; omega) dX5_about_113 ?_
          exact me_wiret _ C0.1 C0.2.1 B.returns B.notSynchronized hP hS (Nat.le_of_ble_eq_true rfl) (Nat.le_of_ble_eq_true rfl) (⟨_, _, hM, hMF, rfl, SameZ.rf.wr hz5 (by decide), Or.inr ⟨g5 _ (by omega), hz5_13, by rw [sAbout_n hk hTk, if_neg (by decide), if_neg (by decide), if_neg (by decide), if_neg (by decide), if_pos (by decide)]; exact hNk.2.2.2.2.1.1⟩⟩) dX5_about_114
        · refine lv_tableOut (tgt := 115) C0.1 C0.2.1 dX5_about_39 (by decide) (by decide) ?_
          refine lv_iconst (v := 0) C0.1 C0.2.1 dX5_about_115 (by decide) ?_
          refine lv_istore_n (lv' := [(3, .int 0), (0, .ref o), (1, .int (nI k)), (2, .int (nI 5))]) C0.1 C0.2.1 dX5_about_116 rfl hl (by decide) rfl (fun ls hl => ?_)
          refine lv_iload_n C0.1 C0.2.1 dX5_about_117 rfl (lv_at hl 2 rfl) ?_
          refine lv_istore (lv' := [(4, .int (nI k)), (3, .int 0), (0, .ref o), (1, .int (nI k)), (2, .int (nI 5))]) C0.1 C0.2.1 dX5_about_118 hl (by decide) rfl (fun ls hl => ?_)
          have loop120 : ∀ (n : Nat) (u : Nat) (x : Nod) (c0 n0 : Nat), (u < 200) → (T u = some x) → (dp u < n0) → (c0 + n0 ≤ 200) → (dF T 200 k = c0 + dF T n0 u) → (dp u) < n → ∀ (H : Heap) (locs : List Loc), ∀ (ls : Array Slot), me_P G.1 w5 H → va_S (me_A B0) s.heap H locs → lv_has ls 5 [(4, .int (nI u)), (3, .int (nI c0)), (0, .ref o), (1, .int (nI k)), (2, .int (nI 5))] → W p l e ({ frames := 1, cells := 0, slots := 0, locals := 21 }) s m ([.ref o, .int (nI k), .int (nI 5)] : List Value).toArray below meth c H locs 0 0 (MQ below (va_Qi (fun r w' => ∃ (F' : Nat → Nat → Int32) (z' : Nat → Int32), MD G B0 w' o a F' z' ∧ MF w w' o a ∧ F' = F ∧ SameZ z z' [13] ∧ ((¬ (¬ (nI 5) < 0 ∧ ¬ 5 < (nI 5)) ∧ z' 13 = 1) ∨ ((¬ (nI 5) < 0 ∧ ¬ 5 < (nI 5)) ∧ z' 13 = 0 ∧ r = sAbout T 200 (nI k) (nI 5)))) (me_W G) (me_A B0)) ([.ref o, .int (nI k), .int (nI 5)] : List Value).toArray s 0 0 (me_A B0)) (F0 m 120 ls []) := by
            intro n
            induction n with
            | zero => intro u x c0 n0 _ _ _ _ _ hz; exact absurd hz (Nat.not_lt_zero _)
            | succ n ih120 =>
              intro u x c0 n0 hu hTu hn0 hc0 hdF hn120 H locs ls hP hS hl
              refine lv_iload C0.1 C0.2.1 dX5_about_120 (lv_at hl 0 rfl) ?_
              refine lv_if_eq (tgt := 140) C0.1 C0.2.1 dX5_about_122 (by decide) (fun c11 => ?_) (fun c11 => ?_)
              · have d11 : u = 0 := (nI_eq (a := u) (b := 0) (by omega) (by omega)).mp c11
                refine lv_iload_n C0.1 C0.2.1 dX5_about_140 rfl (lv_at hl 1 rfl) ?_
                exact me_wiret _ C0.1 C0.2.1 B.returns B.notSynchronized hP hS (Nat.le_of_ble_eq_true rfl) (Nat.le_of_ble_eq_true rfl) (⟨_, _, hM, hMF, rfl, SameZ.rf.wr hz5 (by decide), Or.inr ⟨g5 _ (by omega), hz5_13, by rw [sAbout_n hk hTk, if_neg (by decide), if_neg (by decide), if_neg (by decide), if_neg (by decide), if_neg (by decide), hdF, show u = 0 by omega, dF_0]; rfl⟩⟩) dX5_about_141
              · have d11 : u ≠ 0 := fun h => c11 (congrArg nI h)
                refine lv_iinc (v := nI (c0 + 1)) (lv' := [(3, .int (nI (c0 + 1))), (4, .int (nI u)), (0, .ref o), (1, .int (nI k)), (2, .int (nI 5))]) C0.1 C0.2.1 dX5_about_125 hl (k := 1) rfl (nI_add c0 1) (by decide) rfl (fun ls hl => ?_)
                refine lv_aload_n C0.1 C0.2.1 dX5_about_128 rfl (lv_at hl 2 rfl) ?_
                refine md_get C0 hP hM 4 (by decide) kw_481 (v := .ref ((a 4))) rfl dX5_about_129 ?_
                refine lv_iload C0.1 C0.2.1 dX5_about_132 (lv_at hl 1 rfl) ?_
                refine md_iald C0 hP hM 4 (by decide) (i := u) (by show u < 200; omega) dX5_about_134 ?_
                obtain ⟨pp, y, p1, p2, p3, p4⟩ := hdp u x hTu (by omega)
                refine me_topi (y := nI pp) ((hT.2 u x hTu).2.2.2.1.trans p2) ?_
                refine lv_istore (lv' := [(4, .int (nI pp)), (3, .int (nI (c0 + 1))), (0, .ref o), (1, .int (nI k)), (2, .int (nI 5))]) C0.1 C0.2.1 dX5_about_135 hl (by decide) rfl (fun ls hl => ?_)
                refine lv_goto (tgt := 120) C0.1 C0.2.1 dX5_about_137 (by decide) ?_
                exact ih120 pp y (c0 + 1) (n0 - 1) p1 p3 (by omega) (by omega) (by rw [hdF, show n0 = (n0 - 1) + 1 by omega, dF_s (by omega) hTu p2 p1]; show c0 + (dF T (n0 - 1) pp + 1) = c0 + 1 + dF T (n0 - 1) pp; omega) (by omega) _ _ _ hP hS (lv_sub hl [0, 1, 2, 3, 4] rfl)
          exact loop120 (dp k + 1) k nd 0 200 hk hTk (hd200 k) (by omega) (by omega) (Nat.lt_succ_self _) _ _ _ hP hS (lv_sub hl [0, 1, 2, 3, 4] rfl)
    · refine lv_iconst (v := 1) C0.1 C0.2.1 dX5_about_10 (by decide) ?_
      refine lv_goto (tgt := 15) C0.1 C0.2.1 dX5_about_11 (by decide) ?_
      refine md_put C0 hP hS hM hMF 13 (by decide) kw_490 rfl rfl rfl dX5_about_15 (fun w12 z12 H locs hz12 hM hMF hP hS => ?_)
      have hz12_13 : z12 13 = 1 := by rw [hz12, upd_eq]
      refine lv_aload_n C0.1 C0.2.1 dX5_about_18 rfl (lv_at hl 0 rfl) ?_
      refine md_get C0 hP hM 13 (by decide) kw_490 (v := .int 1) (by show some (Value.int (z12 13)) = _; rw [hz12_13]) dX5_about_19 ?_
      refine lv_if_le (tgt := 27) C0.1 C0.2.1 dX5_about_22 (by decide) (fun cx => absurd cx (by decide)) (fun cx => ?_)
      refine lv_iconst (v := 0) C0.1 C0.2.1 dX5_about_25 (by decide) ?_
      exact me_wiret _ C0.1 C0.2.1 B.returns B.notSynchronized hP hS (Nat.le_of_ble_eq_true rfl) (Nat.le_of_ble_eq_true rfl) (⟨_, _, hM, hMF, rfl, SameZ.rf.wr hz12 (by decide), Or.inl ⟨fun h => c4 (Int32.not_lt.mp h.2), hz12_13⟩⟩) dX5_about_26

set_option maxHeartbeats 4000000 in
set_option maxRecDepth 100000 in
/-- feed(n, octets) -/
theorem c_X5_feed (l : Launch) (G : me_G) (B0 : Nat) (w : Me) (o : Nat) (a : Nat → Nat) (F : Nat → Nat → Int32) (z : Nat → Int32) (hM : MD G B0 w o a F z) (Tp : List Int32) (hTp : Ls F z 0 1 200 Tp) (nn : Int32) (oc : Int64) : CtWI l yX5_feed (Cond.code yX5_feed cX5_feed 5 (some .int)) ({ frames := 0, cells := 0, slots := 0, locals := 0 }) G B0 w [.ref o, .int nn, .long oc] (fun r w' => ∃ (F' : Nat → Nat → Int32) (z' : Nat → Int32), MD G B0 w' o a F' z' ∧ MF w w' o a ∧ SameF F F' [0] ∧ SameZ z z' [1, 13] ∧ ((( ∀ q0 : Nat, 1 ≤ q0 → q0 ≤ 8 → ¬ (nn = nI q0 ∧ Tp.length + q0 ≤ 200)) ∧ z' 13 = 1 ∧ F' = F ∧ z' 1 = z 1) ∨ (∃ q0 : Nat, 1 ≤ q0 ∧ q0 ≤ 8 ∧ nn = nI q0 ∧ Tp.length + q0 ≤ 200 ∧ z' 13 = 0 ∧ r = nI (Tp.length + q0) ∧ Ls F' z' 0 1 200 (Tp ++ octsR oc q0)))) 0 0 := by
  refine Met.ofW (cc := cX5_feed) (maxL := 5) (ret := (some .int)) (by decide) rfl ?_
  intro p e s m args below meth c s₁ B hml hv
  obtain ⟨rfl, hK, hP, hKq, hBs⟩ := hv
  have hts := fun w h => atoms_spec (ws := Cond.code yX5_feed cX5_feed 5 (some .int) :: tbG) B.pre w (List.mem_cons_of_mem _ h)
  have hown : s.vm.findClass RX5 = some m.cls := findClass_of_methodNamed B.named
  have C0 : Cx G B0 p s m _ c cX5_feed RX5 := ⟨B.exec, B.bytes, hown, hts, hK, hKq, hBs⟩
  have hS : va_S (me_A B0) s.heap s.heap [] := va_S.rf
  have hl := lv_entry ([.ref o, .int nn, .long oc]) (n := 5) (Nat.le_of_ble_eq_true rfl)
  rw [lg_entry_eq]
  generalize (lg_sl ([.ref o, .int nn, .long oc]) ++ List.replicate (5 - (lg_sl ([.ref o, .int nn, .long oc])).length) Slot.unset).toArray = ls at hl ⊢
  have hl : lv_has ls 5 [(0, .ref o), (1, .int nn), (2, .long oc)] := hl
  have hMF : MF w w o a := MF.rf
  have hTl := hTp.2.1
  refine lv_aload_n C0.1 C0.2.1 dX5_feed_0 rfl (lv_at hl 0 rfl) ?_
  refine lv_iload_n C0.1 C0.2.1 dX5_feed_1 rfl (lv_at hl 1 rfl) ?_
  refine lv_iconst (v := 1) C0.1 C0.2.1 dX5_feed_2 (by decide) ?_
  refine lv_icmp_lt (tgt := 24) C0.1 C0.2.1 dX5_feed_3 (by decide) (fun c1 => ?_) (fun c1 => ?_)
  · refine lv_iconst (v := 1) C0.1 C0.2.1 dX5_feed_24 (by decide) ?_
    refine lv_goto (tgt := 29) C0.1 C0.2.1 dX5_feed_25 (by decide) ?_
    refine md_put C0 hP hS hM hMF 13 (by decide) kw_490 rfl rfl rfl dX5_feed_29 (fun w2 z2 H locs hz2 hM hMF hP hS => ?_)
    have hz2_1 : z2 1 = nI Tp.length := by rw [hz2, upd_ne (by decide)]; exact hTp.1
    have hz2_13 : z2 13 = 1 := by rw [hz2, upd_eq]
    refine lv_aload_n C0.1 C0.2.1 dX5_feed_32 rfl (lv_at hl 0 rfl) ?_
    refine md_get C0 hP hM 13 (by decide) kw_490 (v := .int 1) (by show some (Value.int (z2 13)) = _; rw [hz2_13]) dX5_feed_33 ?_
    refine lv_if_le (tgt := 41) C0.1 C0.2.1 dX5_feed_36 (by decide) (fun cx => absurd cx (by decide)) (fun cx => ?_)
    refine lv_iconst (v := 0) C0.1 C0.2.1 dX5_feed_39 (by decide) ?_
    exact me_wiret _ C0.1 C0.2.1 B.returns B.notSynchronized hP hS (Nat.le_of_ble_eq_true rfl) (Nat.le_of_ble_eq_true rfl) (⟨_, _, hM, hMF, SameF.rf, SameZ.rf.wr hz2 (by decide), Or.inl ⟨fun m1 h1 h2 e => absurd (e.1 ▸ c1) (nI_nlt (a := m1) (b := 1) (by omega) (by omega)), hz2_13, rfl, by rw [hz2, upd_ne (by decide)]⟩⟩) dX5_feed_40
  · refine lv_iload_n C0.1 C0.2.1 dX5_feed_6 rfl (lv_at hl 1 rfl) ?_
    refine lv_bipush (v := 8) C0.1 C0.2.1 dX5_feed_7 (by decide) ?_
    refine lv_icmp_gt (tgt := 24) C0.1 C0.2.1 dX5_feed_9 (by decide) (fun c4 => ?_) (fun c4 => ?_)
    · refine lv_iconst (v := 1) C0.1 C0.2.1 dX5_feed_24 (by decide) ?_
      refine lv_goto (tgt := 29) C0.1 C0.2.1 dX5_feed_25 (by decide) ?_
      refine md_put C0 hP hS hM hMF 13 (by decide) kw_490 rfl rfl rfl dX5_feed_29 (fun w5 z5 H locs hz5 hM hMF hP hS => ?_)
      have hz5_1 : z5 1 = nI Tp.length := by rw [hz5, upd_ne (by decide)]; exact hTp.1
      have hz5_13 : z5 13 = 1 := by rw [hz5, upd_eq]
      refine lv_aload_n C0.1 C0.2.1 dX5_feed_32 rfl (lv_at hl 0 rfl) ?_
      refine md_get C0 hP hM 13 (by decide) kw_490 (v := .int 1) (by show some (Value.int (z5 13)) = _; rw [hz5_13]) dX5_feed_33 ?_
      refine lv_if_le (tgt := 41) C0.1 C0.2.1 dX5_feed_36 (by decide) (fun cx => absurd cx (by decide)) (fun cx => ?_)
      refine lv_iconst (v := 0) C0.1 C0.2.1 dX5_feed_39 (by decide) ?_
      exact me_wiret _ C0.1 C0.2.1 B.returns B.notSynchronized hP hS (Nat.le_of_ble_eq_true rfl) (Nat.le_of_ble_eq_true rfl) (⟨_, _, hM, hMF, SameF.rf, SameZ.rf.wr hz5 (by decide), Or.inl ⟨fun m1 h1 h2 e => absurd (e.1 ▸ c4) (nI_nlt (a := 8) (b := m1) (by omega) (by omega)), hz5_13, rfl, by rw [hz5, upd_ne (by decide)]⟩⟩) dX5_feed_40
    · obtain ⟨m0, hm1, hm8, rfl⟩ := n18 c1 c4
      refine lv_aload_n C0.1 C0.2.1 dX5_feed_12 rfl (lv_at hl 0 rfl) ?_
      refine md_get C0 hP hM 1 (by decide) kw_478 (v := .int (nI Tp.length)) (by show some (Value.int (z 1)) = _; rw [hTp.1]) dX5_feed_13 ?_
      refine lv_iload_n C0.1 C0.2.1 dX5_feed_16 rfl (lv_at hl 1 rfl) ?_
      refine lv_iadd C0.1 C0.2.1 dX5_feed_17 ?_
      refine me_topi (y := nI (Tp.length + m0)) (nI_add Tp.length m0) ?_
      refine lv_sipush (v := 200) C0.1 C0.2.1 dX5_feed_18 (by decide) ?_
      refine lv_icmp_le (tgt := 28) C0.1 C0.2.1 dX5_feed_21 (by decide) (fun c7 => ?_) (fun c7 => ?_)
      · have d7 : (Tp.length + m0) ≤ 200 := (nI_leI (a := (Tp.length + m0)) (b := 200) (by omega) (by omega)).mp c7
        refine lv_iconst (v := 0) C0.1 C0.2.1 dX5_feed_28 (by decide) ?_
        refine md_put C0 hP hS hM hMF 13 (by decide) kw_490 rfl rfl rfl dX5_feed_29 (fun w8 z8 H locs hz8 hM hMF hP hS => ?_)
        have hz8_1 : z8 1 = nI Tp.length := by rw [hz8, upd_ne (by decide)]; exact hTp.1
        have hz8_13 : z8 13 = 0 := by rw [hz8, upd_eq]
        refine lv_aload_n C0.1 C0.2.1 dX5_feed_32 rfl (lv_at hl 0 rfl) ?_
        refine md_get C0 hP hM 13 (by decide) kw_490 (v := .int 0) (by show some (Value.int (z8 13)) = _; rw [hz8_13]) dX5_feed_33 ?_
        refine lv_if_le (tgt := 41) C0.1 C0.2.1 dX5_feed_36 (by decide) (fun cx => ?_) (fun cx => absurd cx (by decide))
        refine lv_iconst (v := 0) C0.1 C0.2.1 dX5_feed_41 (by decide) ?_
        refine lv_istore (lv' := [(4, .int 0), (0, .ref o), (1, .int (nI m0)), (2, .long oc)]) C0.1 C0.2.1 dX5_feed_42 hl (by decide) rfl (fun ls hl => ?_)
        have loop44 : ∀ (n : Nat) (i : Nat) (w1 : Me) (G1 : Nat → Nat → Int32), (i ≤ m0) → (MD G B0 w1 o a G1 z8) → (MF w w1 o a) → (SameF F G1 [0]) → (∀ q, q < Tp.length → G1 0 q = F 0 q) → (∀ q, q < i → G1 0 (Tp.length + q) = octR oc q) → (m0 - i) < n → ∀ (H : Heap) (locs : List Loc), ∀ (ls : Array Slot), me_P G.1 w1 H → va_S (me_A B0) s.heap H locs → lv_has ls 5 [(4, .int (nI i)), (0, .ref o), (1, .int (nI m0)), (2, .long oc)] → W p l e ({ frames := 0, cells := 0, slots := 0, locals := 0 }) s m ([.ref o, .int (nI m0), .long oc] : List Value).toArray below meth c H locs 0 0 (MQ below (va_Qi (fun r w' => ∃ (F' : Nat → Nat → Int32) (z' : Nat → Int32), MD G B0 w' o a F' z' ∧ MF w w' o a ∧ SameF F F' [0] ∧ SameZ z z' [1, 13] ∧ ((( ∀ q0 : Nat, 1 ≤ q0 → q0 ≤ 8 → ¬ ((nI m0) = nI q0 ∧ Tp.length + q0 ≤ 200)) ∧ z' 13 = 1 ∧ F' = F ∧ z' 1 = z 1) ∨ (∃ q0 : Nat, 1 ≤ q0 ∧ q0 ≤ 8 ∧ (nI m0) = nI q0 ∧ Tp.length + q0 ≤ 200 ∧ z' 13 = 0 ∧ r = nI (Tp.length + q0) ∧ Ls F' z' 0 1 200 (Tp ++ octsR oc q0)))) (me_W G) (me_A B0)) ([.ref o, .int (nI m0), .long oc] : List Value).toArray s 0 0 (me_A B0)) (F0 m 44 ls []) := by
          intro n
          induction n with
          | zero => intro i w1 G1 _ _ _ _ _ _ hz; exact absurd hz (Nat.not_lt_zero _)
          | succ n ih44 =>
            intro i w1 G1 hil hM hMF hs1 hlo hhi hn44 H locs ls hP hS hl
            refine lv_iload C0.1 C0.2.1 dX5_feed_44 (lv_at hl 0 rfl) ?_
            refine lv_iload_n C0.1 C0.2.1 dX5_feed_46 rfl (lv_at hl 2 rfl) ?_
            refine lv_icmp_ge (tgt := 80) C0.1 C0.2.1 dX5_feed_47 (by decide) (fun c10 => ?_) (fun c10 => ?_)
            · have d10 : m0 ≤ i := (nI_leI (a := m0) (b := i) (by omega) (by omega)).mp c10
              refine lv_aload_n C0.1 C0.2.1 dX5_feed_80 rfl (lv_at hl 1 rfl) ?_
              refine lv_dup C0.1 C0.2.1 dX5_feed_81 rfl ?_
              refine md_get C0 hP hM 1 (by decide) kw_478 (v := .int (nI Tp.length)) (by show some (Value.int (z8 1)) = _; rw [hz8_1]) dX5_feed_82 ?_
              refine lv_iload_n C0.1 C0.2.1 dX5_feed_85 rfl (lv_at hl 2 rfl) ?_
              refine lv_iadd C0.1 C0.2.1 dX5_feed_86 ?_
              refine me_topi (y := nI (Tp.length + m0)) (nI_add Tp.length m0) ?_
              refine md_put C0 hP hS hM hMF 1 (by decide) kw_478 rfl rfl rfl dX5_feed_87 (fun w11 z11 H locs hz11 hM hMF hP hS => ?_)
              have hz11_13 : z11 13 = 0 := by rw [hz11, upd_ne (by decide)]; exact hz8_13
              have hz11_1 : z11 1 = nI (Tp.length + m0) := by rw [hz11, upd_eq]
              refine lv_aload_n C0.1 C0.2.1 dX5_feed_90 rfl (lv_at hl 1 rfl) ?_
              refine md_get C0 hP hM 1 (by decide) kw_478 (v := .int (nI (Tp.length + m0))) (by show some (Value.int (z11 1)) = _; rw [hz11_1]) dX5_feed_91 ?_
              exact me_wiret _ C0.1 C0.2.1 B.returns B.notSynchronized hP hS (Nat.le_of_ble_eq_true rfl) (Nat.le_of_ble_eq_true rfl) (⟨_, _, hM, hMF, hs1, (SameZ.rf.wr hz8 (by decide)).wr hz11 (by decide), Or.inr ⟨m0, hm1, hm8, rfl, by omega, hz11_13, rfl, hTp.app hlo (fun i hi => by rw [octsR_len] at hi; rw [octsR_get hi]; exact hhi i (by omega)) (by rw [octsR_len]; exact hz11_1) (by rw [octsR_len]; omega)⟩⟩) dX5_feed_94
            · have d10 : i < m0 := Nat.not_le.mp (fun h => c10 (nI_le (a := m0) (b := i) h (by omega)))
              refine lv_aload_n C0.1 C0.2.1 dX5_feed_50 rfl (lv_at hl 1 rfl) ?_
              refine md_get C0 hP hM 0 (by decide) kw_477 (v := .ref ((a 0))) rfl dX5_feed_51 ?_
              refine lv_aload_n C0.1 C0.2.1 dX5_feed_54 rfl (lv_at hl 1 rfl) ?_
              refine md_get C0 hP hM 1 (by decide) kw_478 (v := .int (nI Tp.length)) (by show some (Value.int (z8 1)) = _; rw [hz8_1]) dX5_feed_55 ?_
              refine lv_iload C0.1 C0.2.1 dX5_feed_58 (lv_at hl 0 rfl) ?_
              refine lv_iadd C0.1 C0.2.1 dX5_feed_60 ?_
              refine me_topi (y := nI (Tp.length + i)) (nI_add Tp.length i) ?_
              refine lv_lload_n C0.1 C0.2.1 dX5_feed_61 rfl (lv_at hl 3 rfl) ?_
              refine lv_bipush (v := 8) C0.1 C0.2.1 dX5_feed_62 (by decide) ?_
              refine lv_iload C0.1 C0.2.1 dX5_feed_64 (lv_at hl 0 rfl) ?_
              refine lv_imul C0.1 C0.2.1 dX5_feed_66 ?_
              refine me_topi (y := nI (8 * i)) (pk_mul 8 i) ?_
              refine lv_lshr C0.1 C0.2.1 dX5_feed_67 rfl ?_
              refine lv_ldc2 (v := 255) C0.1 C0.2.1 C0.2.2.1 (C0.2.2.2.1 _ kw_550) dX5_feed_68 ?_
              refine lv_land C0.1 C0.2.1 dX5_feed_71 ?_
              refine lv_l2i C0.1 C0.2.1 dX5_feed_72 rfl ?_
              refine me_topi (y := octR oc i) rfl ?_
              refine md_iast C0 hP hS hM hMF 0 (by decide) (i := (Tp.length + i)) (by show (Tp.length + i) < 200; omega) dX5_feed_73 (fun w12 F12 H locs hF12 hM hMF hP hS => ?_)
              refine lv_iinc (v := nI (i + 1)) (lv' := [(4, .int (nI (i + 1))), (0, .ref o), (1, .int (nI m0)), (2, .long oc)]) C0.1 C0.2.1 dX5_feed_74 hl (k := 0) rfl (nI_add i 1) (by decide) rfl (fun ls hl => ?_)
              refine lv_goto (tgt := 44) C0.1 C0.2.1 dX5_feed_77 (by decide) ?_
              exact ih44 (i + 1) _ _ (by omega) hM hMF (hs1.wr hF12 (by decide)) (fun q hq => by rw [hF12, uF_s, upd_ne (by omega)]; exact hlo q hq) (by rw [hF12, uF_s]; exact lt_s (fun q hq => by rw [upd_ne (by omega)]; exact hhi q hq) (by rw [upd_eq])) (by omega) _ _ _ hP hS (lv_sub hl [0, 1, 2, 3] rfl)
        exact loop44 (m0 - 0 + 1) 0 _ _ (Nat.zero_le _) hM hMF SameF.rf (fun q hq => rfl) (fun q hq => absurd hq (Nat.not_lt_zero q)) (Nat.lt_succ_self _) _ _ _ hP hS (lv_sub hl [0, 1, 2, 3] rfl)
      · have d7 : 200 < (Tp.length + m0) := Nat.not_le.mp (fun h => c7 (nI_le (a := (Tp.length + m0)) (b := 200) h (by omega)))
        refine lv_iconst (v := 1) C0.1 C0.2.1 dX5_feed_24 (by decide) ?_
        refine lv_goto (tgt := 29) C0.1 C0.2.1 dX5_feed_25 (by decide) ?_
        refine md_put C0 hP hS hM hMF 13 (by decide) kw_490 rfl rfl rfl dX5_feed_29 (fun w13 z13 H locs hz13 hM hMF hP hS => ?_)
        have hz13_1 : z13 1 = nI Tp.length := by rw [hz13, upd_ne (by decide)]; exact hTp.1
        have hz13_13 : z13 13 = 1 := by rw [hz13, upd_eq]
        refine lv_aload_n C0.1 C0.2.1 dX5_feed_32 rfl (lv_at hl 0 rfl) ?_
        refine md_get C0 hP hM 13 (by decide) kw_490 (v := .int 1) (by show some (Value.int (z13 13)) = _; rw [hz13_13]) dX5_feed_33 ?_
        refine lv_if_le (tgt := 41) C0.1 C0.2.1 dX5_feed_36 (by decide) (fun cx => absurd cx (by decide)) (fun cx => ?_)
        refine lv_iconst (v := 0) C0.1 C0.2.1 dX5_feed_39 (by decide) ?_
        exact me_wiret _ C0.1 C0.2.1 B.returns B.notSynchronized hP hS (Nat.le_of_ble_eq_true rfl) (Nat.le_of_ble_eq_true rfl) (⟨_, _, hM, hMF, SameF.rf, SameZ.rf.wr hz13 (by decide), Or.inl ⟨fun m1 h1 h2 e => by have := (nI_eq (by omega) (by omega)).mp e.1; omega, hz13_13, rfl, by rw [hz13, upd_ne (by decide)]⟩⟩) dX5_feed_40
