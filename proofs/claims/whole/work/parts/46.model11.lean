theorem wkW_all {T : Tre} {tp : List Int32} {i v : Nat} (h : tp.length ≤ i) : wkW T tp i i v = nI v := by
  by_cases e : tp.length < i
  · exact wkW_end e
  · rw [wkW_m (by omega) (Or.inl (by omega)) (by omega), wkW_end (by omega)]

set_option maxHeartbeats 4000000 in
set_option maxRecDepth 100000 in
/-- walk(node) -/
theorem c_X5_walk (l : Launch) (G : me_G) (B0 : Nat) (w : Me) (o : Nat) (a : Nat → Nat) (F : Nat → Nat → Int32) (z : Nat → Int32) (hM : MD G B0 w o a F z) (T : Tre) (hT : RT F T) (hI : TI T) (tp : List Int32) (hTp : Ls F z 0 1 200 tp) (ho : Oct tp) (nd0 : Int32) : CtWI l yX5_walk (Cond.code yX5_walk cX5_walk 7 (some .int)) ({ frames := 4, cells := 0, slots := 0, locals := 90 }) G B0 w [.ref o, .int nd0] (fun r w' => ∃ (F' : Nat → Nat → Int32) (z' : Nat → Int32), MD G B0 w' o a F' z' ∧ MF w w' o a ∧ z' 13 = 0 ∧ SameF F F' [14, 16, 18, 20] ∧ SameZ z z' [1, 13, 15, 17, 19] ∧ Ls F' z' 0 1 200 [] ∧ r = sWalk T tp nd0) 0 0 := by
  refine Met.ofW (cc := cX5_walk) (maxL := 7) (ret := (some .int)) (by decide) rfl ?_
  intro p e s m args below meth c s₁ B hml hv
  obtain ⟨rfl, hK, hP, hKq, hBs⟩ := hv
  have hts := fun w h => atoms_spec (ws := Cond.code yX5_walk cX5_walk 7 (some .int) :: tbG) B.pre w (List.mem_cons_of_mem _ h)
  have hown : s.vm.findClass RX5 = some m.cls := findClass_of_methodNamed B.named
  have C0 : Cx G B0 p s m _ c cX5_walk RX5 := ⟨B.exec, B.bytes, hown, hts, hK, hKq, hBs⟩
  have hS : va_S (me_A B0) s.heap s.heap [] := va_S.rf
  have hl := lv_entry ([.ref o, .int nd0]) (n := 7) (Nat.le_of_ble_eq_true rfl)
  rw [lg_entry_eq]
  generalize (lg_sl ([.ref o, .int nd0]) ++ List.replicate (7 - (lg_sl ([.ref o, .int nd0])).length) Slot.unset).toArray = ls at hl ⊢
  have hl : lv_has ls 7 [(0, .ref o), (1, .int nd0)] := hl
  have hMF : MF w w o a := MF.rf
  refine lv_aload_n C0.1 C0.2.1 dX5_walk_0 rfl (lv_at hl 0 rfl) ?_
  refine lv_iconst (v := 0) C0.1 C0.2.1 dX5_walk_1 (by decide) ?_
  refine md_put C0 hP hS hM hMF 13 (by decide) kw_490 rfl rfl rfl dX5_walk_2 (fun w1 z1 H locs hz1 hM hMF hP hS => ?_)
  have hz1_1 : z1 1 = nI tp.length := by rw [hz1, upd_ne (by decide)]; exact hTp.1
  have hz1_13 : z1 13 = 0 := by rw [hz1, upd_eq]
  refine lv_aload_n C0.1 C0.2.1 dX5_walk_5 rfl (lv_at hl 0 rfl) ?_
  refine md_get C0 hP hM 1 (by decide) kw_478 (v := .int (nI tp.length)) (by show some (Value.int (z1 1)) = _; rw [hz1_1]) dX5_walk_6 ?_
  refine lv_istore_n (lv' := [(2, .int (nI tp.length)), (0, .ref o), (1, .int nd0)]) C0.1 C0.2.1 dX5_walk_9 rfl hl (by decide) rfl (fun ls hl => ?_)
  refine lv_iconst (v := 0) C0.1 C0.2.1 dX5_walk_10 (by decide) ?_
  refine lv_istore_n (lv' := [(3, .int 0), (2, .int (nI tp.length)), (0, .ref o), (1, .int nd0)]) C0.1 C0.2.1 dX5_walk_11 rfl hl (by decide) rfl (fun ls hl => ?_)
  have lF2 : SameF F F [] := SameF.rf
  have lZ2 : SameZ z z1 [13] := (SameZ.rf.wr hz1 (by decide))
  have sF2 := (SameF.rf : SameF F F [14, 16, 18, 20]).tr lF2 (by decide)
  have sZ2 := (SameZ.rf : SameZ z z [1, 13, 15, 17, 19]).tr lZ2 (by decide)
  have hTp_2 := hTp.sm lF2 lZ2 (by decide) (by decide)
  have hT_2 := hT.sm lF2 (by decide)
  have htl := hTp.2.1
  have loop12 : ∀ (n : Nat) (i : Nat) (w1 : Me) (G1 : Nat → Nat → Int32), (i ≤ tp.length) → (MD G B0 w1 o a G1 z1) → (MF w w1 o a) → (SameF F G1 [20]) → (∀ q, q < i → G1 20 q = tp.getD q 0) → (tp.length - i) < n → ∀ (H : Heap) (locs : List Loc), ∀ (ls : Array Slot), me_P G.1 w1 H → va_S (me_A B0) s.heap H locs → lv_has ls 7 [(3, .int (nI i)), (2, .int (nI tp.length)), (0, .ref o), (1, .int nd0)] → W p l e ({ frames := 4, cells := 0, slots := 0, locals := 90 }) s m ([.ref o, .int nd0] : List Value).toArray below meth c H locs 0 0 (MQ below (va_Qi (fun r w' => ∃ (F' : Nat → Nat → Int32) (z' : Nat → Int32), MD G B0 w' o a F' z' ∧ MF w w' o a ∧ z' 13 = 0 ∧ SameF F F' [14, 16, 18, 20] ∧ SameZ z z' [1, 13, 15, 17, 19] ∧ Ls F' z' 0 1 200 [] ∧ r = sWalk T tp nd0) (me_W G) (me_A B0)) ([.ref o, .int nd0] : List Value).toArray s 0 0 (me_A B0)) (F0 m 12 ls []) := by
    intro n
    induction n with
    | zero => intro i w1 G1 _ _ _ _ _ hz; exact absurd hz (Nat.not_lt_zero _)
    | succ n ih12 =>
      intro i w1 G1 hil hM hMF hs1 hlo hn12 H locs ls hP hS hl
      refine lv_iload_n C0.1 C0.2.1 dX5_walk_12 rfl (lv_at hl 0 rfl) ?_
      refine lv_iload_n C0.1 C0.2.1 dX5_walk_13 rfl (lv_at hl 1 rfl) ?_
      refine lv_icmp_ge (tgt := 35) C0.1 C0.2.1 dX5_walk_14 (by decide) (fun c3 => ?_) (fun c3 => ?_)
      · have d3 : tp.length ≤ i := (nI_leI (a := tp.length) (b := i) (by omega) (by omega)).mp c3
        have sF4 := sF2.tr hs1 (by decide)
        have sZ4 := sZ2.tr (SameZ.rf : SameZ _ _ []) (by decide)
        have hTp_4 := hTp_2.sm hs1 (SameZ.rf : SameZ _ _ []) (by decide) (by decide)
        have hT_4 := hT_2.sm hs1 (by decide)
        have hwy : ∀ q, q < tp.length → G1 20 q = tp.getD q 0 := fun q hq => hlo q (by omega)
        refine lv_aload_n C0.1 C0.2.1 dX5_walk_35 rfl (lv_at hl 2 rfl) ?_
        refine lv_iconst (v := 0) C0.1 C0.2.1 dX5_walk_36 (by decide) ?_
        refine md_put C0 hP hS hM hMF 1 (by decide) kw_478 rfl rfl rfl dX5_walk_37 (fun w5 z5 H locs hz5 hM hMF hP hS => ?_)
        have hz5_1 : z5 1 = 0 := by rw [hz5, upd_eq]
        have lF6 : SameF G1 G1 [] := SameF.rf
        have lZ6 : SameZ z1 z5 [1] := (SameZ.rf.wr hz5 (by decide))
        have sF6 := sF4.tr lF6 (by decide)
        have sZ6 := sZ4.tr lZ6 (by decide)
        have hT_6 := hT_4.sm lF6 (by decide)
        refine lv_aload_n C0.1 C0.2.1 dX5_walk_40 rfl (lv_at hl 2 rfl) ?_
        refine lv_iload_n C0.1 C0.2.1 dX5_walk_41 rfl (lv_at hl 3 rfl) ?_
        refine me_cVi (n := 1) C0 hml hP hS (c_X5_noNode l G B0 w5 o a G1 z5 hM T hT_6 nd0) ⟨kw_622, kw_35, kw_619, ⟨by decide, by decide, by decide +kernel⟩, ⟨rfl, rfl⟩, ⟨Nat.le_of_ble_eq_true rfl, Nat.le_of_ble_eq_true rfl⟩⟩ kw_621 kw_21 hM.1 rfl rfl hl.1 rfl (Nat.le_of_ble_eq_true rfl) ⟨Nat.le_of_ble_eq_true rfl, Nat.le_of_ble_eq_true rfl⟩ dX5_walk_42 (fun r7 hr7 => ?_)
        rcases noN_r (T := T) nd0 with hnnr7 | hnnr7
        · rw [hnnr7] at hr7
          subst hr7
          refine lv_if_eq (tgt := 51) C0.1 C0.2.1 dX5_walk_45 (by decide) (fun cx => absurd cx (by decide)) (fun cx => ?_)
          refine lv_bipush (v := (-5)) C0.1 C0.2.1 dX5_walk_48 (by decide) ?_
          exact me_wiret _ C0.1 C0.2.1 B.returns B.notSynchronized hP hS (Nat.le_of_ble_eq_true rfl) (Nat.le_of_ble_eq_true rfl) (⟨_, _, hM, hMF, ((lZ6 13 (by decide)).trans (((SameZ.rf : SameZ _ _ []) 13 (by decide)).trans hz1_13)), sF6, sZ6, (Ls.nil (F := G1) (ka := 0) (cap := 200) hz5_1), by unfold sWalk; rw [if_pos hnnr7]⟩) dX5_walk_50
        · rw [hnnr7] at hr7
          subst hr7
          obtain ⟨k, nk, hk, rfl, hTk⟩ := noN_s (T := T) (v := nd0) (by rw [hnnr7]; decide)
          have hnk : ¬ noN T (nI k) = 1 := by rw [hnnr7]; decide
          have hNk := (hT_6.2 k nk hTk).2
          have hEk := hNk.2.2.2.2.2.2.1
          refine lv_if_eq (tgt := 51) C0.1 C0.2.1 dX5_walk_45 (by decide) (fun cx => ?_) (fun cx => absurd cx (by decide))
          have loop75 : ∀ (n : Nat) (i v0 : Nat) (nv : Nod) (w2 : Me) (G2 : Nat → Nat → Int32) (y2 : Nat → Int32), (v0 < 200) → (T v0 = some nv) → (i ≤ tp.length + 1) → (MD G B0 w2 o a G2 y2) → (MF w w2 o a) → (SameF F G2 [14, 16, 18, 20]) → (SameZ z y2 [1, 13, 15, 17, 19]) → (y2 13 = 0) → (Ls G2 y2 0 1 200 []) → (∀ q, q < tp.length → G2 20 q = tp.getD q 0) → (sWalk T tp (nI k) = wkW T tp i i v0) → (tp.length + 1 - i) < n → ∀ (H : Heap) (locs : List Loc), ∀ (ls : Array Slot), me_P G.1 w2 H → va_S (me_A B0) s.heap H locs → lv_has ls 7 [(4, .int (nI i)), (3, .int (nI v0)), (2, .int (nI tp.length)), (0, .ref o), (1, .int (nI k))] → W p l e ({ frames := 4, cells := 0, slots := 0, locals := 90 }) s m ([.ref o, .int (nI k)] : List Value).toArray below meth c H locs 0 0 (MQ below (va_Qi (fun r w' => ∃ (F' : Nat → Nat → Int32) (z' : Nat → Int32), MD G B0 w' o a F' z' ∧ MF w w' o a ∧ z' 13 = 0 ∧ SameF F F' [14, 16, 18, 20] ∧ SameZ z z' [1, 13, 15, 17, 19] ∧ Ls F' z' 0 1 200 [] ∧ r = sWalk T tp (nI k)) (me_W G) (me_A B0)) ([.ref o, .int (nI k)] : List Value).toArray s 0 0 (me_A B0)) (F0 m 75 ls []) := by
            intro n
            induction n with
            | zero => intro i v0 nv w2 G2 y2 _ _ _ _ _ _ _ _ _ _ _ hz; exact absurd hz (Nat.not_lt_zero _)
            | succ n ih75 =>
              intro i v0 nv w2 G2 y2 hv2 hTv hil hM hMF hsF1 hsZ1 h13 hte hway hwk hn75 H locs ls hP hS hl
              have hT2 := hT.sm hsF1 (by decide)
              refine lv_iload C0.1 C0.2.1 dX5_walk_75 (lv_at hl 0 rfl) ?_
              refine lv_iload_n C0.1 C0.2.1 dX5_walk_77 rfl (lv_at hl 2 rfl) ?_
              refine lv_icmp_ge (tgt := 287) C0.1 C0.2.1 dX5_walk_78 (by decide) (fun c10 => ?_) (fun c10 => ?_)
              · have d10 : tp.length ≤ i := (nI_leI (a := tp.length) (b := i) (by omega) (by omega)).mp c10
                refine lv_iload_n C0.1 C0.2.1 dX5_walk_287 rfl (lv_at hl 1 rfl) ?_
                exact me_wiret _ C0.1 C0.2.1 B.returns B.notSynchronized hP hS (Nat.le_of_ble_eq_true rfl) (Nat.le_of_ble_eq_true rfl) (⟨_, _, hM, hMF, h13, hsF1, hsZ1, hte, by rw [hwk]; exact (wkW_all (by omega)).symm⟩) dX5_walk_288
              · have d10 : i < tp.length := Nat.not_le.mp (fun h => c10 (nI_le (a := tp.length) (b := i) h (by omega)))
                refine lv_aload_n C0.1 C0.2.1 dX5_walk_81 rfl (lv_at hl 3 rfl) ?_
                refine lv_iconst (v := 0) C0.1 C0.2.1 dX5_walk_82 (by decide) ?_
                refine md_put C0 hP hS hM hMF 15 (by decide) kw_492 rfl rfl rfl dX5_walk_83 (fun w11 z11 H locs hz11 hM hMF hP hS => ?_)
                have hz11_15 : z11 15 = 0 := by rw [hz11, upd_eq]
                have loop86 : ∀ (n : Nat) (j : Nat) (w3 : Me) (G3 : Nat → Nat → Int32) (y3 : Nat → Int32), (i ≤ j) → (j ≤ tp.length) → (MD G B0 w3 o a G3 y3) → (MF w w3 o a) → (SameF G2 G3 [14]) → (SameZ y2 y3 [15]) → (y3 15 = nI (j - i)) → (∀ q, q < j - i → G3 14 q = tp.getD (i + q) 0) → (wkW T tp i i v0 = wkW T tp i j v0) → (tp.length - j) < n → ∀ (H : Heap) (locs : List Loc), ∀ (ls : Array Slot), me_P G.1 w3 H → va_S (me_A B0) s.heap H locs → lv_has ls 7 [(4, .int (nI j)), (3, .int (nI v0)), (2, .int (nI tp.length)), (0, .ref o), (1, .int (nI k))] → W p l e ({ frames := 4, cells := 0, slots := 0, locals := 90 }) s m ([.ref o, .int (nI k)] : List Value).toArray below meth c H locs 0 0 (MQ below (va_Qi (fun r w' => ∃ (F' : Nat → Nat → Int32) (z' : Nat → Int32), MD G B0 w' o a F' z' ∧ MF w w' o a ∧ z' 13 = 0 ∧ SameF F F' [14, 16, 18, 20] ∧ SameZ z z' [1, 13, 15, 17, 19] ∧ Ls F' z' 0 1 200 [] ∧ r = sWalk T tp (nI k)) (me_W G) (me_A B0)) ([.ref o, .int (nI k)] : List Value).toArray s 0 0 (me_A B0)) (F0 m 86 ls []) := by
                  intro n
                  induction n with
                  | zero => intro j w3 G3 y3 _ _ _ _ _ _ _ _ _ hz; exact absurd hz (Nat.not_lt_zero _)
                  | succ n ih86 =>
                    intro j w3 G3 y3 hij hjl hM hMF hsF3 hsZ3 h15 hha hwk2 hn86 H locs ls hP hS hl
                    refine lv_iload C0.1 C0.2.1 dX5_walk_86 (lv_at hl 0 rfl) ?_
                    refine lv_iload_n C0.1 C0.2.1 dX5_walk_88 rfl (lv_at hl 2 rfl) ?_
                    refine lv_icmp_ge (tgt := 136) C0.1 C0.2.1 dX5_walk_89 (by decide) (fun c12 => ?_) (fun c12 => ?_)
                    · have d12 : tp.length ≤ j := (nI_leI (a := tp.length) (b := j) (by omega) (by omega)).mp c12
                      have hends : endsW tp j := Or.inl (by omega)
                      have sF13 := hsF1.tr hsF3 (by decide)
                      have sZ13 := hsZ1.tr hsZ3 (by decide)
                      have hTe_13 := hte.sm hsF3 hsZ3 (by decide) (by decide)
                      have hway_13 := fun q (hq : q < tp.length) => (congrFun (hsF3 20 (by decide)) q).trans (hway q hq)
                      have hT_13 := hT2.sm hsF3 (by decide)
                      refine lv_iinc (v := nI (j + 1)) (lv' := [(4, .int (nI (j + 1))), (3, .int (nI v0)), (2, .int (nI tp.length)), (0, .ref o), (1, .int (nI k))]) C0.1 C0.2.1 dX5_walk_136 hl (k := 0) rfl (nI_add j 1) (by decide) rfl (fun ls hl => ?_)
                      refine lv_aload_n C0.1 C0.2.1 dX5_walk_139 rfl (lv_at hl 3 rfl) ?_
                      refine md_get C0 hP hM 15 (by decide) kw_492 (v := .int (nI (j - i))) (by show some (Value.int (y3 15)) = _; rw [h15]) dX5_walk_140 ?_
                      refine lv_if_le (tgt := 75) C0.1 C0.2.1 dX5_walk_143 (by decide) (fun c14 => ?_) (fun c14 => ?_)
                      · have d14 : (j - i) ≤ 0 := (nI_leI (a := (j - i)) (b := 0) (by omega) (by omega)).mp c14
                        exact ih75 (j + 1) v0 nv _ _ _ hv2 hTv (by omega) hM hMF sF13 sZ13 ((hsZ3 13 (by decide)).trans h13) hTe_13 hway_13 (by rw [hwk, hwk2]; exact wkW_m hjl hends (by omega)) (by omega) _ _ _ hP hS (lv_sub hl [0, 1, 2, 3, 4] rfl)
                      · have d14 : 0 < (j - i) := Nat.not_le.mp (fun h => c14 (nI_le (a := (j - i)) (b := 0) h (by omega)))
                        obtain ⟨Hd, hHd⟩ : ∃ Hd, Hd = pieceL tp i j := ⟨_, rfl⟩
                        have hHl : Hd.length = j - i := by rw [hHd]; exact piece_len hjl
                        have hH : Ls G3 y3 14 15 200 Hd := ⟨by rw [h15, hHl], by omega, fun q hq => by rw [hHl] at hq; rw [hha q hq, hHd, piece_get hq]⟩
                        have hoH : Oct Hd := by rw [hHd]; exact piece_oct ho hjl
                        refine lv_aload_n C0.1 C0.2.1 dX5_walk_146 rfl (lv_at hl 3 rfl) ?_
                        refine md_get C0 hP hM 14 (by decide) kw_491 (v := .ref ((a 14))) rfl dX5_walk_147 ?_
                        refine lv_iconst (v := 0) C0.1 C0.2.1 dX5_walk_150 (by decide) ?_
                        refine md_iald C0 hP hM 14 (by decide) (i := 0) (by show 0 < 200; omega) dX5_walk_151 ?_
                        refine me_topi (y := Hd.getD 0 0) (hH.2.2 0 (by omega)) ?_
                        refine lv_bipush (v := 46) C0.1 C0.2.1 dX5_walk_152 (by decide) ?_
                        refine lv_icmp_ne (tgt := 169) C0.1 C0.2.1 dX5_walk_154 (by decide) (fun c15 => ?_) (fun c15 => ?_)
                        · refine lv_iconst (v := 0) C0.1 C0.2.1 dX5_walk_169 (by decide) ?_
                          refine lv_istore (lv' := [(5, .int 0), (4, .int (nI (j + 1))), (3, .int (nI v0)), (2, .int (nI tp.length)), (0, .ref o), (1, .int (nI k))]) C0.1 C0.2.1 dX5_walk_170 hl (by decide) rfl (fun ls hl => ?_)
                          refine lv_aload_n C0.1 C0.2.1 dX5_walk_172 rfl (lv_at hl 4 rfl) ?_
                          refine md_get C0 hP hM 14 (by decide) kw_491 (v := .ref ((a 14))) rfl dX5_walk_173 ?_
                          refine lv_iconst (v := 0) C0.1 C0.2.1 dX5_walk_176 (by decide) ?_
                          refine md_iald C0 hP hM 14 (by decide) (i := 0) (by show 0 < 200; omega) dX5_walk_177 ?_
                          refine me_topi (y := Hd.getD 0 0) (hH.2.2 0 (by omega)) ?_
                          refine lv_bipush (v := 46) C0.1 C0.2.1 dX5_walk_178 (by decide) ?_
                          refine lv_icmp_ne (tgt := 206) C0.1 C0.2.1 dX5_walk_180 (by decide) (fun c16 => ?_) (fun c16 => ?_)
                          · refine lv_iconst (v := 0) C0.1 C0.2.1 dX5_walk_206 (by decide) ?_
                            have hD : ¬ isD Hd 0 Hd.length := fun q => c15 q.2.1
                            refine lv_istore (lv' := [(6, .int 0), (5, .int 0), (4, .int (nI (j + 1))), (3, .int (nI v0)), (2, .int (nI tp.length)), (0, .ref o), (1, .int (nI k))]) C0.1 C0.2.1 dX5_walk_207 hl (by decide) rfl (fun ls hl => ?_)
                            refine lv_iload C0.1 C0.2.1 dX5_walk_209 (lv_at hl 1 rfl) ?_
                            refine lv_if_ne (tgt := 229) C0.1 C0.2.1 dX5_walk_211 (by decide) (fun cx => absurd cx (by decide)) (fun cx => ?_)
                            refine lv_iload C0.1 C0.2.1 dX5_walk_214 (lv_at hl 0 rfl) ?_
                            refine lv_if_ne (tgt := 229) C0.1 C0.2.1 dX5_walk_216 (by decide) (fun cx => absurd cx (by decide)) (fun cx => ?_)
                            refine lv_aload_n C0.1 C0.2.1 dX5_walk_219 rfl (lv_at hl 5 rfl) ?_
                            refine me_cVwi (n := 0) C0 hml hP hS (c_X5_isName l G B0 w3 o a G3 y3 hM Hd hH hoH) ⟨kw_626, kw_35, kw_623, ⟨by decide, by decide, by decide +kernel⟩, ⟨rfl, rfl⟩, ⟨Nat.le_of_ble_eq_true rfl, Nat.le_of_ble_eq_true rfl⟩⟩ kw_625 kw_22 hM.1 rfl rfl hl.1 rfl (Nat.le_of_ble_eq_true rfl) ⟨Nat.le_of_ble_eq_true rfl, Nat.le_of_ble_eq_true rfl⟩ dX5_walk_220 (fun r19 w19 H locs hw19 hP hS => ?_)
                            obtain ⟨F19, z19, hM, hMF19, hsF19, hsZ19, hres19⟩ := hw19
                            have hMF := hMF.tr hMF19
                            have sF19 := sF13.tr hsF19 (by decide)
                            have sZ19 := sZ13.tr hsZ19 (by decide)
                            have hTe_19 := hTe_13.sm hsF19 hsZ19 (by decide) (by decide)
                            have hH_19 := hH.sm hsF19 hsZ19 (by decide) (by decide)
                            have hway_19 := fun q (hq : q < tp.length) => (congrFun (hsF19 20 (by decide)) q).trans (hway_13 q hq)
                            have hT_19 := hT_13.sm hsF19 (by decide)
                            rcases hres19 with ⟨hok, rfl, hX⟩ | ⟨hno, rfl⟩
                            · have hnm : nmI Hd = 1 := nmI_1 hok
                              refine lv_if_ne (tgt := 229) C0.1 C0.2.1 dX5_walk_223 (by decide) (fun cx => ?_) (fun cx => absurd cx (by decide))
                              refine lv_aload_n C0.1 C0.2.1 dX5_walk_229 rfl (lv_at hl 5 rfl) ?_
                              refine md_get C0 hP hM 3 (by decide) kw_480 (v := .ref ((a 3))) rfl dX5_walk_230 ?_
                              refine lv_iload_n C0.1 C0.2.1 dX5_walk_233 rfl (lv_at hl 3 rfl) ?_
                              refine md_zald C0 hP hM 3 (by decide) (i := v0) (by show v0 < 200; omega) dX5_walk_234 ?_
                              refine me_topi (y := nv.1) (hT_19.2 v0 nv hTv).2.2.1 ?_
                              refine lv_if_ne (tgt := 240) C0.1 C0.2.1 dX5_walk_235 (by decide) (fun c21 => ?_) (fun c21 => ?_)
                              · refine lv_iload C0.1 C0.2.1 dX5_walk_240 (lv_at hl 1 rfl) ?_
                                refine lv_if_eq (tgt := 249) C0.1 C0.2.1 dX5_walk_242 (by decide) (fun cx => ?_) (fun cx => absurd cx (by decide))
                                refine lv_iload C0.1 C0.2.1 dX5_walk_249 (lv_at hl 0 rfl) ?_
                                refine lv_if_eq (tgt := 271) C0.1 C0.2.1 dX5_walk_251 (by decide) (fun cx => ?_) (fun cx => absurd cx (by decide))
                                refine lv_aload_n C0.1 C0.2.1 dX5_walk_271 rfl (lv_at hl 5 rfl) ?_
                                refine lv_iload_n C0.1 C0.2.1 dX5_walk_272 rfl (lv_at hl 3 rfl) ?_
                                refine lv_iconst (v := (-1)) C0.1 C0.2.1 dX5_walk_273 (by decide) ?_
                                refine me_cVi (n := 2) C0 hml hP hS (c_X5_entryLike l G B0 w19 o a F19 z19 hM T hT_19 v0 nv hv2 hTv (folds Hd) hX nv.2.2.2.2 rfl (hI.ent v0 nv hTv) (-1)) ⟨kw_630, kw_35, kw_627, ⟨by decide, by decide, by decide +kernel⟩, ⟨rfl, rfl⟩, ⟨Nat.le_of_ble_eq_true rfl, Nat.le_of_ble_eq_true rfl⟩⟩ kw_629 kw_23 hM.1 rfl rfl hl.1 rfl (Nat.le_of_ble_eq_true rfl) ⟨Nat.le_of_ble_eq_true rfl, Nat.le_of_ble_eq_true rfl⟩ dX5_walk_274 (fun r24 hr24 => ?_)
                                rcases hI.elk hTv hr24 with ⟨hel, hel0⟩ | ⟨u, m, u1, u2, rfl, u4, u5, u6, u7⟩
                                · refine lv_istore_n (lv' := [(3, .int r24), (6, .int 0), (5, .int 0), (4, .int (nI (j + 1))), (2, .int (nI tp.length)), (0, .ref o), (1, .int (nI k))]) C0.1 C0.2.1 dX5_walk_277 rfl hl (by decide) rfl (fun ls hl => ?_)
                                  refine lv_iload_n C0.1 C0.2.1 dX5_walk_278 rfl (lv_at hl 0 rfl) ?_
                                  refine lv_if_ge (tgt := 284) C0.1 C0.2.1 dX5_walk_279 (by decide) (fun c25 => ?_) (fun c25 => ?_)
                                  · exact absurd hel0 (Int32.not_lt.mpr c25)
                                  · refine lv_iconst (v := (-1)) C0.1 C0.2.1 dX5_walk_282 (by decide) ?_
                                    exact me_wiret _ C0.1 C0.2.1 B.returns B.notSynchronized hP hS (Nat.le_of_ble_eq_true rfl) (Nat.le_of_ble_eq_true rfl) (⟨_, _, hM, hMF, ((hsZ19 13 (by decide)).trans ((hsZ3 13 (by decide)).trans h13)), sF19, sZ19, hTe_19, by rw [hwk, hwk2]; exact (wkW_f hjl hends (by omega) (by rw [← hHd]; exact (by rw [stp_n hTv, if_neg hD, if_neg (by rw [hnm]; decide), if_neg c21]; exact hr24.symm.trans hel)) (by decide)).symm⟩) dX5_walk_283
                                · refine lv_istore_n (lv' := [(3, .int (nI u)), (6, .int 0), (5, .int 0), (4, .int (nI (j + 1))), (2, .int (nI tp.length)), (0, .ref o), (1, .int (nI k))]) C0.1 C0.2.1 dX5_walk_277 rfl hl (by decide) rfl (fun ls hl => ?_)
                                  refine lv_iload_n C0.1 C0.2.1 dX5_walk_278 rfl (lv_at hl 0 rfl) ?_
                                  refine lv_if_ge (tgt := 284) C0.1 C0.2.1 dX5_walk_279 (by decide) (fun c26 => ?_) (fun c26 => ?_)
                                  · have d26 : 0 ≤ u := (nI_leI (a := 0) (b := u) (by omega) (by omega)).mp c26
                                    refine lv_goto (tgt := 75) C0.1 C0.2.1 dX5_walk_284 (by decide) ?_
                                    exact ih75 (j + 1) u _ _ _ _ u1 u4 (by omega) hM hMF sF19 sZ19 ((hsZ19 13 (by decide)).trans ((hsZ3 13 (by decide)).trans h13)) hTe_19 hway_19 (by rw [hwk, hwk2]; exact wkW_s hjl hends (by omega) (by rw [← hHd]; exact (by rw [stp_n hTv, if_neg hD, if_neg (by rw [hnm]; decide), if_neg c21]; exact hr24.symm)) u1) (by omega) _ _ _ hP hS (lv_sub hl [3, 0, 4, 5, 6] rfl)
                                  · have d26 : u < 0 := Nat.not_le.mp (fun h => c26 (nI_le (a := 0) (b := u) h (by omega)))
                                    omega
                              · refine lv_iconst (v := (-1)) C0.1 C0.2.1 dX5_walk_238 (by decide) ?_
                                exact me_wiret _ C0.1 C0.2.1 B.returns B.notSynchronized hP hS (Nat.le_of_ble_eq_true rfl) (Nat.le_of_ble_eq_true rfl) (⟨_, _, hM, hMF, ((hsZ19 13 (by decide)).trans ((hsZ3 13 (by decide)).trans h13)), sF19, sZ19, hTe_19, by rw [hwk, hwk2]; exact (wkW_f hjl hends (by omega) (by rw [← hHd]; exact (by rw [stp_n hTv, if_neg hD, if_neg (by rw [hnm]; decide), if_pos c21])) (by decide)).symm⟩) dX5_walk_239
                            · have hnm : nmI Hd = 0 := nmI_0 hno
                              refine lv_if_ne (tgt := 229) C0.1 C0.2.1 dX5_walk_223 (by decide) (fun cx => absurd cx (by decide)) (fun cx => ?_)
                              refine lv_bipush (v := (-2)) C0.1 C0.2.1 dX5_walk_226 (by decide) ?_
                              exact me_wiret _ C0.1 C0.2.1 B.returns B.notSynchronized hP hS (Nat.le_of_ble_eq_true rfl) (Nat.le_of_ble_eq_true rfl) (⟨_, _, hM, hMF, ((hsZ19 13 (by decide)).trans ((hsZ3 13 (by decide)).trans h13)), sF19, sZ19, hTe_19, by rw [hwk, hwk2]; exact (wkW_f hjl hends (by omega) (by rw [← hHd]; exact (by rw [stp_n hTv, if_neg hD, if_pos hnm])) (by decide)).symm⟩) dX5_walk_228
                          · exact absurd c16 c15
                        · refine lv_aload_n C0.1 C0.2.1 dX5_walk_157 rfl (lv_at hl 3 rfl) ?_
                          refine md_get C0 hP hM 15 (by decide) kw_492 (v := .int (nI Hd.length)) (by show some (Value.int (y3 15)) = _; rw [hH.1]) dX5_walk_158 ?_
                          refine lv_iconst (v := 1) C0.1 C0.2.1 dX5_walk_161 (by decide) ?_
                          refine lv_icmp_ne (tgt := 169) C0.1 C0.2.1 dX5_walk_162 (by decide) (fun c28 => ?_) (fun c28 => ?_)
                          · have d28 : Hd.length ≠ 1 := fun h => c28 (congrArg nI h)
                            refine lv_iconst (v := 0) C0.1 C0.2.1 dX5_walk_169 (by decide) ?_
                            refine lv_istore (lv' := [(5, .int 0), (4, .int (nI (j + 1))), (3, .int (nI v0)), (2, .int (nI tp.length)), (0, .ref o), (1, .int (nI k))]) C0.1 C0.2.1 dX5_walk_170 hl (by decide) rfl (fun ls hl => ?_)
                            refine lv_aload_n C0.1 C0.2.1 dX5_walk_172 rfl (lv_at hl 4 rfl) ?_
                            refine md_get C0 hP hM 14 (by decide) kw_491 (v := .ref ((a 14))) rfl dX5_walk_173 ?_
                            refine lv_iconst (v := 0) C0.1 C0.2.1 dX5_walk_176 (by decide) ?_
                            refine md_iald C0 hP hM 14 (by decide) (i := 0) (by show 0 < 200; omega) dX5_walk_177 ?_
                            refine me_topi (y := Hd.getD 0 0) (hH.2.2 0 (by omega)) ?_
                            refine lv_bipush (v := 46) C0.1 C0.2.1 dX5_walk_178 (by decide) ?_
                            refine lv_icmp_ne (tgt := 206) C0.1 C0.2.1 dX5_walk_180 (by decide) (fun c29 => ?_) (fun c29 => ?_)
                            · exact absurd c15 c29
                            · refine lv_aload_n C0.1 C0.2.1 dX5_walk_183 rfl (lv_at hl 4 rfl) ?_
                              refine md_get C0 hP hM 15 (by decide) kw_492 (v := .int (nI Hd.length)) (by show some (Value.int (y3 15)) = _; rw [hH.1]) dX5_walk_184 ?_
                              refine lv_iconst (v := 2) C0.1 C0.2.1 dX5_walk_187 (by decide) ?_
                              refine lv_icmp_ne (tgt := 206) C0.1 C0.2.1 dX5_walk_188 (by decide) (fun c30 => ?_) (fun c30 => ?_)
                              · have d30 : Hd.length ≠ 2 := fun h => c30 (congrArg nI h)
                                refine lv_iconst (v := 0) C0.1 C0.2.1 dX5_walk_206 (by decide) ?_
                                have hD : ¬ isD Hd 0 Hd.length := fun q => by have := q.1; omega
                                refine lv_istore (lv' := [(6, .int 0), (5, .int 0), (4, .int (nI (j + 1))), (3, .int (nI v0)), (2, .int (nI tp.length)), (0, .ref o), (1, .int (nI k))]) C0.1 C0.2.1 dX5_walk_207 hl (by decide) rfl (fun ls hl => ?_)
                                refine lv_iload C0.1 C0.2.1 dX5_walk_209 (lv_at hl 1 rfl) ?_
                                refine lv_if_ne (tgt := 229) C0.1 C0.2.1 dX5_walk_211 (by decide) (fun cx => absurd cx (by decide)) (fun cx => ?_)
                                refine lv_iload C0.1 C0.2.1 dX5_walk_214 (lv_at hl 0 rfl) ?_
                                refine lv_if_ne (tgt := 229) C0.1 C0.2.1 dX5_walk_216 (by decide) (fun cx => absurd cx (by decide)) (fun cx => ?_)
                                refine lv_aload_n C0.1 C0.2.1 dX5_walk_219 rfl (lv_at hl 5 rfl) ?_
                                refine me_cVwi (n := 0) C0 hml hP hS (c_X5_isName l G B0 w3 o a G3 y3 hM Hd hH hoH) ⟨kw_626, kw_35, kw_623, ⟨by decide, by decide, by decide +kernel⟩, ⟨rfl, rfl⟩, ⟨Nat.le_of_ble_eq_true rfl, Nat.le_of_ble_eq_true rfl⟩⟩ kw_625 kw_22 hM.1 rfl rfl hl.1 rfl (Nat.le_of_ble_eq_true rfl) ⟨Nat.le_of_ble_eq_true rfl, Nat.le_of_ble_eq_true rfl⟩ dX5_walk_220 (fun r33 w33 H locs hw33 hP hS => ?_)
                                obtain ⟨F33, z33, hM, hMF33, hsF33, hsZ33, hres33⟩ := hw33
                                have hMF := hMF.tr hMF33
                                have sF33 := sF13.tr hsF33 (by decide)
                                have sZ33 := sZ13.tr hsZ33 (by decide)
                                have hTe_33 := hTe_13.sm hsF33 hsZ33 (by decide) (by decide)
                                have hH_33 := hH.sm hsF33 hsZ33 (by decide) (by decide)
                                have hway_33 := fun q (hq : q < tp.length) => (congrFun (hsF33 20 (by decide)) q).trans (hway_13 q hq)
                                have hT_33 := hT_13.sm hsF33 (by decide)
                                rcases hres33 with ⟨hok, rfl, hX⟩ | ⟨hno, rfl⟩
                                · have hnm : nmI Hd = 1 := nmI_1 hok
                                  refine lv_if_ne (tgt := 229) C0.1 C0.2.1 dX5_walk_223 (by decide) (fun cx => ?_) (fun cx => absurd cx (by decide))
                                  refine lv_aload_n C0.1 C0.2.1 dX5_walk_229 rfl (lv_at hl 5 rfl) ?_
                                  refine md_get C0 hP hM 3 (by decide) kw_480 (v := .ref ((a 3))) rfl dX5_walk_230 ?_
                                  refine lv_iload_n C0.1 C0.2.1 dX5_walk_233 rfl (lv_at hl 3 rfl) ?_
                                  refine md_zald C0 hP hM 3 (by decide) (i := v0) (by show v0 < 200; omega) dX5_walk_234 ?_
                                  refine me_topi (y := nv.1) (hT_33.2 v0 nv hTv).2.2.1 ?_
                                  refine lv_if_ne (tgt := 240) C0.1 C0.2.1 dX5_walk_235 (by decide) (fun c35 => ?_) (fun c35 => ?_)
                                  · refine lv_iload C0.1 C0.2.1 dX5_walk_240 (lv_at hl 1 rfl) ?_
                                    refine lv_if_eq (tgt := 249) C0.1 C0.2.1 dX5_walk_242 (by decide) (fun cx => ?_) (fun cx => absurd cx (by decide))
                                    refine lv_iload C0.1 C0.2.1 dX5_walk_249 (lv_at hl 0 rfl) ?_
                                    refine lv_if_eq (tgt := 271) C0.1 C0.2.1 dX5_walk_251 (by decide) (fun cx => ?_) (fun cx => absurd cx (by decide))
                                    refine lv_aload_n C0.1 C0.2.1 dX5_walk_271 rfl (lv_at hl 5 rfl) ?_
                                    refine lv_iload_n C0.1 C0.2.1 dX5_walk_272 rfl (lv_at hl 3 rfl) ?_
                                    refine lv_iconst (v := (-1)) C0.1 C0.2.1 dX5_walk_273 (by decide) ?_
                                    refine me_cVi (n := 2) C0 hml hP hS (c_X5_entryLike l G B0 w33 o a F33 z33 hM T hT_33 v0 nv hv2 hTv (folds Hd) hX nv.2.2.2.2 rfl (hI.ent v0 nv hTv) (-1)) ⟨kw_630, kw_35, kw_627, ⟨by decide, by decide, by decide +kernel⟩, ⟨rfl, rfl⟩, ⟨Nat.le_of_ble_eq_true rfl, Nat.le_of_ble_eq_true rfl⟩⟩ kw_629 kw_23 hM.1 rfl rfl hl.1 rfl (Nat.le_of_ble_eq_true rfl) ⟨Nat.le_of_ble_eq_true rfl, Nat.le_of_ble_eq_true rfl⟩ dX5_walk_274 (fun r38 hr38 => ?_)
                                    rcases hI.elk hTv hr38 with ⟨hel, hel0⟩ | ⟨u, m, u1, u2, rfl, u4, u5, u6, u7⟩
                                    · refine lv_istore_n (lv' := [(3, .int r38), (6, .int 0), (5, .int 0), (4, .int (nI (j + 1))), (2, .int (nI tp.length)), (0, .ref o), (1, .int (nI k))]) C0.1 C0.2.1 dX5_walk_277 rfl hl (by decide) rfl (fun ls hl => ?_)
                                      refine lv_iload_n C0.1 C0.2.1 dX5_walk_278 rfl (lv_at hl 0 rfl) ?_
                                      refine lv_if_ge (tgt := 284) C0.1 C0.2.1 dX5_walk_279 (by decide) (fun c39 => ?_) (fun c39 => ?_)
                                      · exact absurd hel0 (Int32.not_lt.mpr c39)
                                      · refine lv_iconst (v := (-1)) C0.1 C0.2.1 dX5_walk_282 (by decide) ?_
                                        exact me_wiret _ C0.1 C0.2.1 B.returns B.notSynchronized hP hS (Nat.le_of_ble_eq_true rfl) (Nat.le_of_ble_eq_true rfl) (⟨_, _, hM, hMF, ((hsZ33 13 (by decide)).trans ((hsZ3 13 (by decide)).trans h13)), sF33, sZ33, hTe_33, by rw [hwk, hwk2]; exact (wkW_f hjl hends (by omega) (by rw [← hHd]; exact (by rw [stp_n hTv, if_neg hD, if_neg (by rw [hnm]; decide), if_neg c35]; exact hr38.symm.trans hel)) (by decide)).symm⟩) dX5_walk_283
                                    · refine lv_istore_n (lv' := [(3, .int (nI u)), (6, .int 0), (5, .int 0), (4, .int (nI (j + 1))), (2, .int (nI tp.length)), (0, .ref o), (1, .int (nI k))]) C0.1 C0.2.1 dX5_walk_277 rfl hl (by decide) rfl (fun ls hl => ?_)
                                      refine lv_iload_n C0.1 C0.2.1 dX5_walk_278 rfl (lv_at hl 0 rfl) ?_
                                      refine lv_if_ge (tgt := 284) C0.1 C0.2.1 dX5_walk_279 (by decide) (fun c40 => ?_) (fun c40 => ?_)
                                      · have d40 : 0 ≤ u := (nI_leI (a := 0) (b := u) (by omega) (by omega)).mp c40
                                        refine lv_goto (tgt := 75) C0.1 C0.2.1 dX5_walk_284 (by decide) ?_
                                        exact ih75 (j + 1) u _ _ _ _ u1 u4 (by omega) hM hMF sF33 sZ33 ((hsZ33 13 (by decide)).trans ((hsZ3 13 (by decide)).trans h13)) hTe_33 hway_33 (by rw [hwk, hwk2]; exact wkW_s hjl hends (by omega) (by rw [← hHd]; exact (by rw [stp_n hTv, if_neg hD, if_neg (by rw [hnm]; decide), if_neg c35]; exact hr38.symm)) u1) (by omega) _ _ _ hP hS (lv_sub hl [3, 0, 4, 5, 6] rfl)
                                      · have d40 : u < 0 := Nat.not_le.mp (fun h => c40 (nI_le (a := 0) (b := u) h (by omega)))
                                        omega
                                  · refine lv_iconst (v := (-1)) C0.1 C0.2.1 dX5_walk_238 (by decide) ?_
                                    exact me_wiret _ C0.1 C0.2.1 B.returns B.notSynchronized hP hS (Nat.le_of_ble_eq_true rfl) (Nat.le_of_ble_eq_true rfl) (⟨_, _, hM, hMF, ((hsZ33 13 (by decide)).trans ((hsZ3 13 (by decide)).trans h13)), sF33, sZ33, hTe_33, by rw [hwk, hwk2]; exact (wkW_f hjl hends (by omega) (by rw [← hHd]; exact (by rw [stp_n hTv, if_neg hD, if_neg (by rw [hnm]; decide), if_pos c35])) (by decide)).symm⟩) dX5_walk_239
                                · have hnm : nmI Hd = 0 := nmI_0 hno
                                  refine lv_if_ne (tgt := 229) C0.1 C0.2.1 dX5_walk_223 (by decide) (fun cx => absurd cx (by decide)) (fun cx => ?_)
                                  refine lv_bipush (v := (-2)) C0.1 C0.2.1 dX5_walk_226 (by decide) ?_
                                  exact me_wiret _ C0.1 C0.2.1 B.returns B.notSynchronized hP hS (Nat.le_of_ble_eq_true rfl) (Nat.le_of_ble_eq_true rfl) (⟨_, _, hM, hMF, ((hsZ33 13 (by decide)).trans ((hsZ3 13 (by decide)).trans h13)), sF33, sZ33, hTe_33, by rw [hwk, hwk2]; exact (wkW_f hjl hends (by omega) (by rw [← hHd]; exact (by rw [stp_n hTv, if_neg hD, if_pos hnm])) (by decide)).symm⟩) dX5_walk_228
                              · have d30 : Hd.length = 2 := (nI_eq (a := Hd.length) (b := 2) (by omega) (by omega)).mp c30
                                refine lv_aload_n C0.1 C0.2.1 dX5_walk_191 rfl (lv_at hl 4 rfl) ?_
                                refine md_get C0 hP hM 14 (by decide) kw_491 (v := .ref ((a 14))) rfl dX5_walk_192 ?_
                                refine lv_iconst (v := 1) C0.1 C0.2.1 dX5_walk_195 (by decide) ?_
                                refine md_iald C0 hP hM 14 (by decide) (i := 1) (by show 1 < 200; omega) dX5_walk_196 ?_
                                refine me_topi (y := Hd.getD 1 0) (hH.2.2 1 (by omega)) ?_
                                refine lv_bipush (v := 46) C0.1 C0.2.1 dX5_walk_197 (by decide) ?_
                                refine lv_icmp_ne (tgt := 206) C0.1 C0.2.1 dX5_walk_199 (by decide) (fun c42 => ?_) (fun c42 => ?_)
                                · refine lv_iconst (v := 0) C0.1 C0.2.1 dX5_walk_206 (by decide) ?_
                                  have hD : ¬ isD Hd 0 Hd.length := fun q => c42 (by have := q.2.2; rw [show Hd.length - 1 = 1 by omega] at this; exact this)
                                  refine lv_istore (lv' := [(6, .int 0), (5, .int 0), (4, .int (nI (j + 1))), (3, .int (nI v0)), (2, .int (nI tp.length)), (0, .ref o), (1, .int (nI k))]) C0.1 C0.2.1 dX5_walk_207 hl (by decide) rfl (fun ls hl => ?_)
                                  refine lv_iload C0.1 C0.2.1 dX5_walk_209 (lv_at hl 1 rfl) ?_
                                  refine lv_if_ne (tgt := 229) C0.1 C0.2.1 dX5_walk_211 (by decide) (fun cx => absurd cx (by decide)) (fun cx => ?_)
                                  refine lv_iload C0.1 C0.2.1 dX5_walk_214 (lv_at hl 0 rfl) ?_
                                  refine lv_if_ne (tgt := 229) C0.1 C0.2.1 dX5_walk_216 (by decide) (fun cx => absurd cx (by decide)) (fun cx => ?_)
                                  refine lv_aload_n C0.1 C0.2.1 dX5_walk_219 rfl (lv_at hl 5 rfl) ?_
                                  refine me_cVwi (n := 0) C0 hml hP hS (c_X5_isName l G B0 w3 o a G3 y3 hM Hd hH hoH) ⟨kw_626, kw_35, kw_623, ⟨by decide, by decide, by decide +kernel⟩, ⟨rfl, rfl⟩, ⟨Nat.le_of_ble_eq_true rfl, Nat.le_of_ble_eq_true rfl⟩⟩ kw_625 kw_22 hM.1 rfl rfl hl.1 rfl (Nat.le_of_ble_eq_true rfl) ⟨Nat.le_of_ble_eq_true rfl, Nat.le_of_ble_eq_true rfl⟩ dX5_walk_220 (fun r45 w45 H locs hw45 hP hS => ?_)
                                  obtain ⟨F45, z45, hM, hMF45, hsF45, hsZ45, hres45⟩ := hw45
                                  have hMF := hMF.tr hMF45
                                  have sF45 := sF13.tr hsF45 (by decide)
                                  have sZ45 := sZ13.tr hsZ45 (by decide)
                                  have hTe_45 := hTe_13.sm hsF45 hsZ45 (by decide) (by decide)
                                  have hH_45 := hH.sm hsF45 hsZ45 (by decide) (by decide)
                                  have hway_45 := fun q (hq : q < tp.length) => (congrFun (hsF45 20 (by decide)) q).trans (hway_13 q hq)
                                  have hT_45 := hT_13.sm hsF45 (by decide)
                                  rcases hres45 with ⟨hok, rfl, hX⟩ | ⟨hno, rfl⟩
                                  · have hnm : nmI Hd = 1 := nmI_1 hok
                                    refine lv_if_ne (tgt := 229) C0.1 C0.2.1 dX5_walk_223 (by decide) (fun cx => ?_) (fun cx => absurd cx (by decide))
                                    refine lv_aload_n C0.1 C0.2.1 dX5_walk_229 rfl (lv_at hl 5 rfl) ?_
                                    refine md_get C0 hP hM 3 (by decide) kw_480 (v := .ref ((a 3))) rfl dX5_walk_230 ?_
                                    refine lv_iload_n C0.1 C0.2.1 dX5_walk_233 rfl (lv_at hl 3 rfl) ?_
                                    refine md_zald C0 hP hM 3 (by decide) (i := v0) (by show v0 < 200; omega) dX5_walk_234 ?_
                                    refine me_topi (y := nv.1) (hT_45.2 v0 nv hTv).2.2.1 ?_
                                    refine lv_if_ne (tgt := 240) C0.1 C0.2.1 dX5_walk_235 (by decide) (fun c47 => ?_) (fun c47 => ?_)
                                    · refine lv_iload C0.1 C0.2.1 dX5_walk_240 (lv_at hl 1 rfl) ?_
                                      refine lv_if_eq (tgt := 249) C0.1 C0.2.1 dX5_walk_242 (by decide) (fun cx => ?_) (fun cx => absurd cx (by decide))
                                      refine lv_iload C0.1 C0.2.1 dX5_walk_249 (lv_at hl 0 rfl) ?_
                                      refine lv_if_eq (tgt := 271) C0.1 C0.2.1 dX5_walk_251 (by decide) (fun cx => ?_) (fun cx => absurd cx (by decide))
                                      refine lv_aload_n C0.1 C0.2.1 dX5_walk_271 rfl (lv_at hl 5 rfl) ?_
                                      refine lv_iload_n C0.1 C0.2.1 dX5_walk_272 rfl (lv_at hl 3 rfl) ?_
                                      refine lv_iconst (v := (-1)) C0.1 C0.2.1 dX5_walk_273 (by decide) ?_
                                      refine me_cVi (n := 2) C0 hml hP hS (c_X5_entryLike l G B0 w45 o a F45 z45 hM T hT_45 v0 nv hv2 hTv (folds Hd) hX nv.2.2.2.2 rfl (hI.ent v0 nv hTv) (-1)) ⟨kw_630, kw_35, kw_627, ⟨by decide, by decide, by decide +kernel⟩, ⟨rfl, rfl⟩, ⟨Nat.le_of_ble_eq_true rfl, Nat.le_of_ble_eq_true rfl⟩⟩ kw_629 kw_23 hM.1 rfl rfl hl.1 rfl (Nat.le_of_ble_eq_true rfl) ⟨Nat.le_of_ble_eq_true rfl, Nat.le_of_ble_eq_true rfl⟩ dX5_walk_274 (fun r50 hr50 => ?_)
                                      rcases hI.elk hTv hr50 with ⟨hel, hel0⟩ | ⟨u, m, u1, u2, rfl, u4, u5, u6, u7⟩
                                      · refine lv_istore_n (lv' := [(3, .int r50), (6, .int 0), (5, .int 0), (4, .int (nI (j + 1))), (2, .int (nI tp.length)), (0, .ref o), (1, .int (nI k))]) C0.1 C0.2.1 dX5_walk_277 rfl hl (by decide) rfl (fun ls hl => ?_)
                                        refine lv_iload_n C0.1 C0.2.1 dX5_walk_278 rfl (lv_at hl 0 rfl) ?_
                                        refine lv_if_ge (tgt := 284) C0.1 C0.2.1 dX5_walk_279 (by decide) (fun c51 => ?_) (fun c51 => ?_)
                                        · exact absurd hel0 (Int32.not_lt.mpr c51)
                                        · refine lv_iconst (v := (-1)) C0.1 C0.2.1 dX5_walk_282 (by decide) ?_
                                          exact me_wiret _ C0.1 C0.2.1 B.returns B.notSynchronized hP hS (Nat.le_of_ble_eq_true rfl) (Nat.le_of_ble_eq_true rfl) (⟨_, _, hM, hMF, ((hsZ45 13 (by decide)).trans ((hsZ3 13 (by decide)).trans h13)), sF45, sZ45, hTe_45, by rw [hwk, hwk2]; exact (wkW_f hjl hends (by omega) (by rw [← hHd]; exact (by rw [stp_n hTv, if_neg hD, if_neg (by rw [hnm]; decide), if_neg c47]; exact hr50.symm.trans hel)) (by decide)).symm⟩) dX5_walk_283
                                      · refine lv_istore_n (lv' := [(3, .int (nI u)), (6, .int 0), (5, .int 0), (4, .int (nI (j + 1))), (2, .int (nI tp.length)), (0, .ref o), (1, .int (nI k))]) C0.1 C0.2.1 dX5_walk_277 rfl hl (by decide) rfl (fun ls hl => ?_)
                                        refine lv_iload_n C0.1 C0.2.1 dX5_walk_278 rfl (lv_at hl 0 rfl) ?_
                                        refine lv_if_ge (tgt := 284) C0.1 C0.2.1 dX5_walk_279 (by decide) (fun c52 => ?_) (fun c52 => ?_)
                                        · have d52 : 0 ≤ u := (nI_leI (a := 0) (b := u) (by omega) (by omega)).mp c52
                                          refine lv_goto (tgt := 75) C0.1 C0.2.1 dX5_walk_284 (by decide) ?_
                                          exact ih75 (j + 1) u _ _ _ _ u1 u4 (by omega) hM hMF sF45 sZ45 ((hsZ45 13 (by decide)).trans ((hsZ3 13 (by decide)).trans h13)) hTe_45 hway_45 (by rw [hwk, hwk2]; exact wkW_s hjl hends (by omega) (by rw [← hHd]; exact (by rw [stp_n hTv, if_neg hD, if_neg (by rw [hnm]; decide), if_neg c47]; exact hr50.symm)) u1) (by omega) _ _ _ hP hS (lv_sub hl [3, 0, 4, 5, 6] rfl)
                                        · have d52 : u < 0 := Nat.not_le.mp (fun h => c52 (nI_le (a := 0) (b := u) h (by omega)))
                                          omega
                                    · refine lv_iconst (v := (-1)) C0.1 C0.2.1 dX5_walk_238 (by decide) ?_
                                      exact me_wiret _ C0.1 C0.2.1 B.returns B.notSynchronized hP hS (Nat.le_of_ble_eq_true rfl) (Nat.le_of_ble_eq_true rfl) (⟨_, _, hM, hMF, ((hsZ45 13 (by decide)).trans ((hsZ3 13 (by decide)).trans h13)), sF45, sZ45, hTe_45, by rw [hwk, hwk2]; exact (wkW_f hjl hends (by omega) (by rw [← hHd]; exact (by rw [stp_n hTv, if_neg hD, if_neg (by rw [hnm]; decide), if_pos c47])) (by decide)).symm⟩) dX5_walk_239
                                  · have hnm : nmI Hd = 0 := nmI_0 hno
                                    refine lv_if_ne (tgt := 229) C0.1 C0.2.1 dX5_walk_223 (by decide) (fun cx => absurd cx (by decide)) (fun cx => ?_)
                                    refine lv_bipush (v := (-2)) C0.1 C0.2.1 dX5_walk_226 (by decide) ?_
                                    exact me_wiret _ C0.1 C0.2.1 B.returns B.notSynchronized hP hS (Nat.le_of_ble_eq_true rfl) (Nat.le_of_ble_eq_true rfl) (⟨_, _, hM, hMF, ((hsZ45 13 (by decide)).trans ((hsZ3 13 (by decide)).trans h13)), sF45, sZ45, hTe_45, by rw [hwk, hwk2]; exact (wkW_f hjl hends (by omega) (by rw [← hHd]; exact (by rw [stp_n hTv, if_neg hD, if_pos hnm])) (by decide)).symm⟩) dX5_walk_228
                                · refine lv_iconst (v := 1) C0.1 C0.2.1 dX5_walk_202 (by decide) ?_
                                  refine lv_goto (tgt := 207) C0.1 C0.2.1 dX5_walk_203 (by decide) ?_
                                  have hD : isD Hd 0 Hd.length := ⟨by omega, c15, by rw [show Hd.length - 1 = 1 by omega]; exact c42⟩
                                  have hD2 : ¬ Hd.length = 1 := by omega
                                  refine lv_istore (lv' := [(6, .int 1), (5, .int 0), (4, .int (nI (j + 1))), (3, .int (nI v0)), (2, .int (nI tp.length)), (0, .ref o), (1, .int (nI k))]) C0.1 C0.2.1 dX5_walk_207 hl (by decide) rfl (fun ls hl => ?_)
                                  refine lv_iload C0.1 C0.2.1 dX5_walk_209 (lv_at hl 1 rfl) ?_
                                  refine lv_if_ne (tgt := 229) C0.1 C0.2.1 dX5_walk_211 (by decide) (fun cx => absurd cx (by decide)) (fun cx => ?_)
                                  refine lv_iload C0.1 C0.2.1 dX5_walk_214 (lv_at hl 0 rfl) ?_
                                  refine lv_if_ne (tgt := 229) C0.1 C0.2.1 dX5_walk_216 (by decide) (fun cx => ?_) (fun cx => absurd cx (by decide))
                                  refine lv_aload_n C0.1 C0.2.1 dX5_walk_229 rfl (lv_at hl 5 rfl) ?_
                                  refine md_get C0 hP hM 3 (by decide) kw_480 (v := .ref ((a 3))) rfl dX5_walk_230 ?_
                                  refine lv_iload_n C0.1 C0.2.1 dX5_walk_233 rfl (lv_at hl 3 rfl) ?_
                                  refine md_zald C0 hP hM 3 (by decide) (i := v0) (by show v0 < 200; omega) dX5_walk_234 ?_
                                  refine me_topi (y := nv.1) (hT_13.2 v0 nv hTv).2.2.1 ?_
                                  refine lv_if_ne (tgt := 240) C0.1 C0.2.1 dX5_walk_235 (by decide) (fun c56 => ?_) (fun c56 => ?_)
                                  · refine lv_iload C0.1 C0.2.1 dX5_walk_240 (lv_at hl 1 rfl) ?_
                                    refine lv_if_eq (tgt := 249) C0.1 C0.2.1 dX5_walk_242 (by decide) (fun cx => ?_) (fun cx => absurd cx (by decide))
                                    refine lv_iload C0.1 C0.2.1 dX5_walk_249 (lv_at hl 0 rfl) ?_
                                    refine lv_if_eq (tgt := 271) C0.1 C0.2.1 dX5_walk_251 (by decide) (fun cx => absurd cx (by decide)) (fun cx => ?_)
                                    refine lv_iload_n C0.1 C0.2.1 dX5_walk_254 rfl (lv_at hl 3 rfl) ?_
                                    refine lv_if_ne (tgt := 262) C0.1 C0.2.1 dX5_walk_255 (by decide) (fun c59 => ?_) (fun c59 => ?_)
                                    · have d59 : v0 ≠ 0 := fun h => c59 (congrArg nI h)
                                      refine lv_aload_n C0.1 C0.2.1 dX5_walk_262 rfl (lv_at hl 5 rfl) ?_
                                      refine md_get C0 hP hM 4 (by decide) kw_481 (v := .ref ((a 4))) rfl dX5_walk_263 ?_
                                      refine lv_iload_n C0.1 C0.2.1 dX5_walk_266 rfl (lv_at hl 3 rfl) ?_
                                      refine md_iald C0 hP hM 4 (by decide) (i := v0) (by show v0 < 200; omega) dX5_walk_267 ?_
                                      obtain ⟨-, up, um, up1, up2, up3, -⟩ := hI.2.2.1 v0 nv hTv (by omega)
                                      refine me_topi (y := nI up) ((hT_13.2 v0 nv hTv).2.2.2.1.trans up2) ?_
                                      refine lv_goto (tgt := 277) C0.1 C0.2.1 dX5_walk_268 (by decide) ?_
                                      refine lv_istore_n (lv' := [(3, .int (nI up)), (6, .int 1), (5, .int 0), (4, .int (nI (j + 1))), (2, .int (nI tp.length)), (0, .ref o), (1, .int (nI k))]) C0.1 C0.2.1 dX5_walk_277 rfl hl (by decide) rfl (fun ls hl => ?_)
                                      refine lv_iload_n C0.1 C0.2.1 dX5_walk_278 rfl (lv_at hl 0 rfl) ?_
                                      refine lv_if_ge (tgt := 284) C0.1 C0.2.1 dX5_walk_279 (by decide) (fun c60 => ?_) (fun c60 => ?_)
                                      · have d60 : 0 ≤ up := (nI_leI (a := 0) (b := up) (by omega) (by omega)).mp c60
                                        refine lv_goto (tgt := 75) C0.1 C0.2.1 dX5_walk_284 (by decide) ?_
                                        exact ih75 (j + 1) up _ _ _ _ up1 up3 (by omega) hM hMF sF13 sZ13 ((hsZ3 13 (by decide)).trans h13) hTe_13 hway_13 (by rw [hwk, hwk2]; exact wkW_s hjl hends (by omega) (by rw [← hHd]; exact (by rw [stp_n hTv, if_pos hD, if_neg c56, if_neg hD2, if_neg (by omega)]; exact up2)) up1) (by omega) _ _ _ hP hS (lv_sub hl [3, 0, 4, 5, 6] rfl)
                                      · have d60 : up < 0 := Nat.not_le.mp (fun h => c60 (nI_le (a := 0) (b := up) h (by omega)))
                                        omega
                                    · have d59 : v0 = 0 := (nI_eq (a := v0) (b := 0) (by omega) (by omega)).mp c59
                                      refine lv_iconst (v := 0) C0.1 C0.2.1 dX5_walk_258 (by decide) ?_
                                      refine lv_goto (tgt := 277) C0.1 C0.2.1 dX5_walk_259 (by decide) ?_
                                      obtain ⟨rt, hrt, -⟩ := hI.1
                                      refine lv_istore_n (lv' := [(3, .int (nI 0)), (6, .int 1), (5, .int 0), (4, .int (nI (j + 1))), (2, .int (nI tp.length)), (0, .ref o), (1, .int (nI k))]) C0.1 C0.2.1 dX5_walk_277 rfl hl (by decide) rfl (fun ls hl => ?_)
                                      refine lv_iload_n C0.1 C0.2.1 dX5_walk_278 rfl (lv_at hl 0 rfl) ?_
                                      refine lv_if_ge (tgt := 284) C0.1 C0.2.1 dX5_walk_279 (by decide) (fun c61 => ?_) (fun c61 => ?_)
                                      · refine lv_goto (tgt := 75) C0.1 C0.2.1 dX5_walk_284 (by decide) ?_
                                        exact ih75 (j + 1) 0 _ _ _ _ (by omega) hrt (by omega) hM hMF sF13 sZ13 ((hsZ3 13 (by decide)).trans h13) hTe_13 hway_13 (by rw [hwk, hwk2]; exact wkW_s hjl hends (by omega) (by rw [← hHd]; exact (by rw [stp_n hTv, if_pos hD, if_neg c56, if_neg hD2, if_pos (by omega)]; rfl)) (by omega)) (by omega) _ _ _ hP hS (lv_sub hl [3, 0, 4, 5, 6] rfl)
                                      · exact absurd (show (0 : Int32) ≤ nI 0 by decide) c61
                                  · refine lv_iconst (v := (-1)) C0.1 C0.2.1 dX5_walk_238 (by decide) ?_
                                    exact me_wiret _ C0.1 C0.2.1 B.returns B.notSynchronized hP hS (Nat.le_of_ble_eq_true rfl) (Nat.le_of_ble_eq_true rfl) (⟨_, _, hM, hMF, ((hsZ3 13 (by decide)).trans h13), sF13, sZ13, hTe_13, by rw [hwk, hwk2]; exact (wkW_f hjl hends (by omega) (by rw [← hHd]; exact (by rw [stp_n hTv, if_pos hD, if_pos c56])) (by decide)).symm⟩) dX5_walk_239
                          · have d28 : Hd.length = 1 := (nI_eq (a := Hd.length) (b := 1) (by omega) (by omega)).mp c28
                            refine lv_iconst (v := 1) C0.1 C0.2.1 dX5_walk_165 (by decide) ?_
                            refine lv_goto (tgt := 170) C0.1 C0.2.1 dX5_walk_166 (by decide) ?_
                            refine lv_istore (lv' := [(5, .int 1), (4, .int (nI (j + 1))), (3, .int (nI v0)), (2, .int (nI tp.length)), (0, .ref o), (1, .int (nI k))]) C0.1 C0.2.1 dX5_walk_170 hl (by decide) rfl (fun ls hl => ?_)
                            refine lv_aload_n C0.1 C0.2.1 dX5_walk_172 rfl (lv_at hl 4 rfl) ?_
                            refine md_get C0 hP hM 14 (by decide) kw_491 (v := .ref ((a 14))) rfl dX5_walk_173 ?_
                            refine lv_iconst (v := 0) C0.1 C0.2.1 dX5_walk_176 (by decide) ?_
                            refine md_iald C0 hP hM 14 (by decide) (i := 0) (by show 0 < 200; omega) dX5_walk_177 ?_
                            refine me_topi (y := Hd.getD 0 0) (hH.2.2 0 (by omega)) ?_
                            refine lv_bipush (v := 46) C0.1 C0.2.1 dX5_walk_178 (by decide) ?_
                            refine lv_icmp_ne (tgt := 206) C0.1 C0.2.1 dX5_walk_180 (by decide) (fun c62 => ?_) (fun c62 => ?_)
                            · exact absurd c15 c62
                            · refine lv_aload_n C0.1 C0.2.1 dX5_walk_183 rfl (lv_at hl 4 rfl) ?_
                              refine md_get C0 hP hM 15 (by decide) kw_492 (v := .int (nI Hd.length)) (by show some (Value.int (y3 15)) = _; rw [hH.1]) dX5_walk_184 ?_
                              refine lv_iconst (v := 2) C0.1 C0.2.1 dX5_walk_187 (by decide) ?_
                              refine lv_icmp_ne (tgt := 206) C0.1 C0.2.1 dX5_walk_188 (by decide) (fun c63 => ?_) (fun c63 => ?_)
                              · have d63 : Hd.length ≠ 2 := fun h => c63 (congrArg nI h)
                                refine lv_iconst (v := 0) C0.1 C0.2.1 dX5_walk_206 (by decide) ?_
                                have hD : isD Hd 0 Hd.length := ⟨by omega, c15, by rw [show Hd.length - 1 = 0 by omega]; exact c15⟩
                                have hD1 : Hd.length = 1 := by omega
                                refine lv_istore (lv' := [(6, .int 0), (5, .int 1), (4, .int (nI (j + 1))), (3, .int (nI v0)), (2, .int (nI tp.length)), (0, .ref o), (1, .int (nI k))]) C0.1 C0.2.1 dX5_walk_207 hl (by decide) rfl (fun ls hl => ?_)
                                refine lv_iload C0.1 C0.2.1 dX5_walk_209 (lv_at hl 1 rfl) ?_
                                refine lv_if_ne (tgt := 229) C0.1 C0.2.1 dX5_walk_211 (by decide) (fun cx => ?_) (fun cx => absurd cx (by decide))
                                refine lv_aload_n C0.1 C0.2.1 dX5_walk_229 rfl (lv_at hl 5 rfl) ?_
                                refine md_get C0 hP hM 3 (by decide) kw_480 (v := .ref ((a 3))) rfl dX5_walk_230 ?_
                                refine lv_iload_n C0.1 C0.2.1 dX5_walk_233 rfl (lv_at hl 3 rfl) ?_
                                refine md_zald C0 hP hM 3 (by decide) (i := v0) (by show v0 < 200; omega) dX5_walk_234 ?_
                                refine me_topi (y := nv.1) (hT_13.2 v0 nv hTv).2.2.1 ?_
                                refine lv_if_ne (tgt := 240) C0.1 C0.2.1 dX5_walk_235 (by decide) (fun c65 => ?_) (fun c65 => ?_)
                                · refine lv_iload C0.1 C0.2.1 dX5_walk_240 (lv_at hl 1 rfl) ?_
                                  refine lv_if_eq (tgt := 249) C0.1 C0.2.1 dX5_walk_242 (by decide) (fun cx => absurd cx (by decide)) (fun cx => ?_)
                                  refine lv_iload_n C0.1 C0.2.1 dX5_walk_245 rfl (lv_at hl 3 rfl) ?_
                                  refine lv_goto (tgt := 277) C0.1 C0.2.1 dX5_walk_246 (by decide) ?_
                                  refine lv_istore_n (lv' := [(3, .int (nI v0)), (6, .int 0), (5, .int 1), (4, .int (nI (j + 1))), (2, .int (nI tp.length)), (0, .ref o), (1, .int (nI k))]) C0.1 C0.2.1 dX5_walk_277 rfl hl (by decide) rfl (fun ls hl => ?_)
                                  refine lv_iload_n C0.1 C0.2.1 dX5_walk_278 rfl (lv_at hl 0 rfl) ?_
                                  refine lv_if_ge (tgt := 284) C0.1 C0.2.1 dX5_walk_279 (by decide) (fun c67 => ?_) (fun c67 => ?_)
                                  · have d67 : 0 ≤ v0 := (nI_leI (a := 0) (b := v0) (by omega) (by omega)).mp c67
                                    refine lv_goto (tgt := 75) C0.1 C0.2.1 dX5_walk_284 (by decide) ?_
                                    exact ih75 (j + 1) v0 _ _ _ _ hv2 hTv (by omega) hM hMF sF13 sZ13 ((hsZ3 13 (by decide)).trans h13) hTe_13 hway_13 (by rw [hwk, hwk2]; exact wkW_s hjl hends (by omega) (by rw [← hHd]; exact (by rw [stp_n hTv, if_pos hD, if_neg c65, if_pos hD1])) hv2) (by omega) _ _ _ hP hS (lv_sub hl [3, 0, 4, 5, 6] rfl)
                                  · have d67 : v0 < 0 := Nat.not_le.mp (fun h => c67 (nI_le (a := 0) (b := v0) h (by omega)))
                                    omega
                                · refine lv_iconst (v := (-1)) C0.1 C0.2.1 dX5_walk_238 (by decide) ?_
                                  exact me_wiret _ C0.1 C0.2.1 B.returns B.notSynchronized hP hS (Nat.le_of_ble_eq_true rfl) (Nat.le_of_ble_eq_true rfl) (⟨_, _, hM, hMF, ((hsZ3 13 (by decide)).trans h13), sF13, sZ13, hTe_13, by rw [hwk, hwk2]; exact (wkW_f hjl hends (by omega) (by rw [← hHd]; exact (by rw [stp_n hTv, if_pos hD, if_pos c65])) (by decide)).symm⟩) dX5_walk_239
                              · have d63 : Hd.length = 2 := (nI_eq (a := Hd.length) (b := 2) (by omega) (by omega)).mp c63
                                omega
                    · have d12 : j < tp.length := Nat.not_le.mp (fun h => c12 (nI_le (a := tp.length) (b := j) h (by omega)))
                      refine lv_aload_n C0.1 C0.2.1 dX5_walk_92 rfl (lv_at hl 3 rfl) ?_
                      refine md_get C0 hP hM 20 (by decide) kw_497 (v := .ref ((a 20))) rfl dX5_walk_93 ?_
                      refine lv_iload C0.1 C0.2.1 dX5_walk_96 (lv_at hl 0 rfl) ?_
                      refine md_iald C0 hP hM 20 (by decide) (i := j) (by show j < 200; omega) dX5_walk_98 ?_
                      refine me_topi (y := tp.getD j 0) (by rw [hsF3 20 (by decide)]; exact hway j (by omega)) ?_
                      refine lv_bipush (v := 47) C0.1 C0.2.1 dX5_walk_99 (by decide) ?_
                      refine lv_icmp_eq (tgt := 136) C0.1 C0.2.1 dX5_walk_101 (by decide) (fun c68 => ?_) (fun c68 => ?_)
                      · have hends : endsW tp j := Or.inr c68
                        have sF69 := hsF1.tr hsF3 (by decide)
                        have sZ69 := hsZ1.tr hsZ3 (by decide)
                        have hTe_69 := hte.sm hsF3 hsZ3 (by decide) (by decide)
                        have hway_69 := fun q (hq : q < tp.length) => (congrFun (hsF3 20 (by decide)) q).trans (hway q hq)
                        have hT_69 := hT2.sm hsF3 (by decide)
                        refine lv_iinc (v := nI (j + 1)) (lv' := [(4, .int (nI (j + 1))), (3, .int (nI v0)), (2, .int (nI tp.length)), (0, .ref o), (1, .int (nI k))]) C0.1 C0.2.1 dX5_walk_136 hl (k := 0) rfl (nI_add j 1) (by decide) rfl (fun ls hl => ?_)
                        refine lv_aload_n C0.1 C0.2.1 dX5_walk_139 rfl (lv_at hl 3 rfl) ?_
                        refine md_get C0 hP hM 15 (by decide) kw_492 (v := .int (nI (j - i))) (by show some (Value.int (y3 15)) = _; rw [h15]) dX5_walk_140 ?_
                        refine lv_if_le (tgt := 75) C0.1 C0.2.1 dX5_walk_143 (by decide) (fun c70 => ?_) (fun c70 => ?_)
                        · have d70 : (j - i) ≤ 0 := (nI_leI (a := (j - i)) (b := 0) (by omega) (by omega)).mp c70
                          exact ih75 (j + 1) v0 nv _ _ _ hv2 hTv (by omega) hM hMF sF69 sZ69 ((hsZ3 13 (by decide)).trans h13) hTe_69 hway_69 (by rw [hwk, hwk2]; exact wkW_m hjl hends (by omega)) (by omega) _ _ _ hP hS (lv_sub hl [0, 1, 2, 3, 4] rfl)
                        · have d70 : 0 < (j - i) := Nat.not_le.mp (fun h => c70 (nI_le (a := (j - i)) (b := 0) h (by omega)))
                          obtain ⟨Hd, hHd⟩ : ∃ Hd, Hd = pieceL tp i j := ⟨_, rfl⟩
                          have hHl : Hd.length = j - i := by rw [hHd]; exact piece_len hjl
                          have hH : Ls G3 y3 14 15 200 Hd := ⟨by rw [h15, hHl], by omega, fun q hq => by rw [hHl] at hq; rw [hha q hq, hHd, piece_get hq]⟩
                          have hoH : Oct Hd := by rw [hHd]; exact piece_oct ho hjl
                          refine lv_aload_n C0.1 C0.2.1 dX5_walk_146 rfl (lv_at hl 3 rfl) ?_
                          refine md_get C0 hP hM 14 (by decide) kw_491 (v := .ref ((a 14))) rfl dX5_walk_147 ?_
                          refine lv_iconst (v := 0) C0.1 C0.2.1 dX5_walk_150 (by decide) ?_
                          refine md_iald C0 hP hM 14 (by decide) (i := 0) (by show 0 < 200; omega) dX5_walk_151 ?_
                          refine me_topi (y := Hd.getD 0 0) (hH.2.2 0 (by omega)) ?_
                          refine lv_bipush (v := 46) C0.1 C0.2.1 dX5_walk_152 (by decide) ?_
                          refine lv_icmp_ne (tgt := 169) C0.1 C0.2.1 dX5_walk_154 (by decide) (fun c71 => ?_) (fun c71 => ?_)
                          · refine lv_iconst (v := 0) C0.1 C0.2.1 dX5_walk_169 (by decide) ?_
                            refine lv_istore (lv' := [(5, .int 0), (4, .int (nI (j + 1))), (3, .int (nI v0)), (2, .int (nI tp.length)), (0, .ref o), (1, .int (nI k))]) C0.1 C0.2.1 dX5_walk_170 hl (by decide) rfl (fun ls hl => ?_)
                            refine lv_aload_n C0.1 C0.2.1 dX5_walk_172 rfl (lv_at hl 4 rfl) ?_
                            refine md_get C0 hP hM 14 (by decide) kw_491 (v := .ref ((a 14))) rfl dX5_walk_173 ?_
                            refine lv_iconst (v := 0) C0.1 C0.2.1 dX5_walk_176 (by decide) ?_
                            refine md_iald C0 hP hM 14 (by decide) (i := 0) (by show 0 < 200; omega) dX5_walk_177 ?_
                            refine me_topi (y := Hd.getD 0 0) (hH.2.2 0 (by omega)) ?_
                            refine lv_bipush (v := 46) C0.1 C0.2.1 dX5_walk_178 (by decide) ?_
                            refine lv_icmp_ne (tgt := 206) C0.1 C0.2.1 dX5_walk_180 (by decide) (fun c72 => ?_) (fun c72 => ?_)
                            · refine lv_iconst (v := 0) C0.1 C0.2.1 dX5_walk_206 (by decide) ?_
                              have hD : ¬ isD Hd 0 Hd.length := fun q => c71 q.2.1
                              refine lv_istore (lv' := [(6, .int 0), (5, .int 0), (4, .int (nI (j + 1))), (3, .int (nI v0)), (2, .int (nI tp.length)), (0, .ref o), (1, .int (nI k))]) C0.1 C0.2.1 dX5_walk_207 hl (by decide) rfl (fun ls hl => ?_)
                              refine lv_iload C0.1 C0.2.1 dX5_walk_209 (lv_at hl 1 rfl) ?_
                              refine lv_if_ne (tgt := 229) C0.1 C0.2.1 dX5_walk_211 (by decide) (fun cx => absurd cx (by decide)) (fun cx => ?_)
                              refine lv_iload C0.1 C0.2.1 dX5_walk_214 (lv_at hl 0 rfl) ?_
                              refine lv_if_ne (tgt := 229) C0.1 C0.2.1 dX5_walk_216 (by decide) (fun cx => absurd cx (by decide)) (fun cx => ?_)
                              refine lv_aload_n C0.1 C0.2.1 dX5_walk_219 rfl (lv_at hl 5 rfl) ?_
                              refine me_cVwi (n := 0) C0 hml hP hS (c_X5_isName l G B0 w3 o a G3 y3 hM Hd hH hoH) ⟨kw_626, kw_35, kw_623, ⟨by decide, by decide, by decide +kernel⟩, ⟨rfl, rfl⟩, ⟨Nat.le_of_ble_eq_true rfl, Nat.le_of_ble_eq_true rfl⟩⟩ kw_625 kw_22 hM.1 rfl rfl hl.1 rfl (Nat.le_of_ble_eq_true rfl) ⟨Nat.le_of_ble_eq_true rfl, Nat.le_of_ble_eq_true rfl⟩ dX5_walk_220 (fun r75 w75 H locs hw75 hP hS => ?_)
                              obtain ⟨F75, z75, hM, hMF75, hsF75, hsZ75, hres75⟩ := hw75
                              have hMF := hMF.tr hMF75
                              have sF75 := sF69.tr hsF75 (by decide)
                              have sZ75 := sZ69.tr hsZ75 (by decide)
                              have hTe_75 := hTe_69.sm hsF75 hsZ75 (by decide) (by decide)
                              have hH_75 := hH.sm hsF75 hsZ75 (by decide) (by decide)
                              have hway_75 := fun q (hq : q < tp.length) => (congrFun (hsF75 20 (by decide)) q).trans (hway_69 q hq)
                              have hT_75 := hT_69.sm hsF75 (by decide)
                              rcases hres75 with ⟨hok, rfl, hX⟩ | ⟨hno, rfl⟩
                              · have hnm : nmI Hd = 1 := nmI_1 hok
                                refine lv_if_ne (tgt := 229) C0.1 C0.2.1 dX5_walk_223 (by decide) (fun cx => ?_) (fun cx => absurd cx (by decide))
                                refine lv_aload_n C0.1 C0.2.1 dX5_walk_229 rfl (lv_at hl 5 rfl) ?_
                                refine md_get C0 hP hM 3 (by decide) kw_480 (v := .ref ((a 3))) rfl dX5_walk_230 ?_
                                refine lv_iload_n C0.1 C0.2.1 dX5_walk_233 rfl (lv_at hl 3 rfl) ?_
                                refine md_zald C0 hP hM 3 (by decide) (i := v0) (by show v0 < 200; omega) dX5_walk_234 ?_
                                refine me_topi (y := nv.1) (hT_75.2 v0 nv hTv).2.2.1 ?_
                                refine lv_if_ne (tgt := 240) C0.1 C0.2.1 dX5_walk_235 (by decide) (fun c77 => ?_) (fun c77 => ?_)
                                · refine lv_iload C0.1 C0.2.1 dX5_walk_240 (lv_at hl 1 rfl) ?_
                                  refine lv_if_eq (tgt := 249) C0.1 C0.2.1 dX5_walk_242 (by decide) (fun cx => ?_) (fun cx => absurd cx (by decide))
                                  refine lv_iload C0.1 C0.2.1 dX5_walk_249 (lv_at hl 0 rfl) ?_
                                  refine lv_if_eq (tgt := 271) C0.1 C0.2.1 dX5_walk_251 (by decide) (fun cx => ?_) (fun cx => absurd cx (by decide))
                                  refine lv_aload_n C0.1 C0.2.1 dX5_walk_271 rfl (lv_at hl 5 rfl) ?_
                                  refine lv_iload_n C0.1 C0.2.1 dX5_walk_272 rfl (lv_at hl 3 rfl) ?_
                                  refine lv_iconst (v := (-1)) C0.1 C0.2.1 dX5_walk_273 (by decide) ?_
                                  refine me_cVi (n := 2) C0 hml hP hS (c_X5_entryLike l G B0 w75 o a F75 z75 hM T hT_75 v0 nv hv2 hTv (folds Hd) hX nv.2.2.2.2 rfl (hI.ent v0 nv hTv) (-1)) ⟨kw_630, kw_35, kw_627, ⟨by decide, by decide, by decide +kernel⟩, ⟨rfl, rfl⟩, ⟨Nat.le_of_ble_eq_true rfl, Nat.le_of_ble_eq_true rfl⟩⟩ kw_629 kw_23 hM.1 rfl rfl hl.1 rfl (Nat.le_of_ble_eq_true rfl) ⟨Nat.le_of_ble_eq_true rfl, Nat.le_of_ble_eq_true rfl⟩ dX5_walk_274 (fun r80 hr80 => ?_)
                                  rcases hI.elk hTv hr80 with ⟨hel, hel0⟩ | ⟨u, m, u1, u2, rfl, u4, u5, u6, u7⟩
                                  · refine lv_istore_n (lv' := [(3, .int r80), (6, .int 0), (5, .int 0), (4, .int (nI (j + 1))), (2, .int (nI tp.length)), (0, .ref o), (1, .int (nI k))]) C0.1 C0.2.1 dX5_walk_277 rfl hl (by decide) rfl (fun ls hl => ?_)
                                    refine lv_iload_n C0.1 C0.2.1 dX5_walk_278 rfl (lv_at hl 0 rfl) ?_
                                    refine lv_if_ge (tgt := 284) C0.1 C0.2.1 dX5_walk_279 (by decide) (fun c81 => ?_) (fun c81 => ?_)
                                    · exact absurd hel0 (Int32.not_lt.mpr c81)
                                    · refine lv_iconst (v := (-1)) C0.1 C0.2.1 dX5_walk_282 (by decide) ?_
                                      exact me_wiret _ C0.1 C0.2.1 B.returns B.notSynchronized hP hS (Nat.le_of_ble_eq_true rfl) (Nat.le_of_ble_eq_true rfl) (⟨_, _, hM, hMF, ((hsZ75 13 (by decide)).trans ((hsZ3 13 (by decide)).trans h13)), sF75, sZ75, hTe_75, by rw [hwk, hwk2]; exact (wkW_f hjl hends (by omega) (by rw [← hHd]; exact (by rw [stp_n hTv, if_neg hD, if_neg (by rw [hnm]; decide), if_neg c77]; exact hr80.symm.trans hel)) (by decide)).symm⟩) dX5_walk_283
                                  · refine lv_istore_n (lv' := [(3, .int (nI u)), (6, .int 0), (5, .int 0), (4, .int (nI (j + 1))), (2, .int (nI tp.length)), (0, .ref o), (1, .int (nI k))]) C0.1 C0.2.1 dX5_walk_277 rfl hl (by decide) rfl (fun ls hl => ?_)
                                    refine lv_iload_n C0.1 C0.2.1 dX5_walk_278 rfl (lv_at hl 0 rfl) ?_
                                    refine lv_if_ge (tgt := 284) C0.1 C0.2.1 dX5_walk_279 (by decide) (fun c82 => ?_) (fun c82 => ?_)
                                    · have d82 : 0 ≤ u := (nI_leI (a := 0) (b := u) (by omega) (by omega)).mp c82
                                      refine lv_goto (tgt := 75) C0.1 C0.2.1 dX5_walk_284 (by decide) ?_
                                      exact ih75 (j + 1) u _ _ _ _ u1 u4 (by omega) hM hMF sF75 sZ75 ((hsZ75 13 (by decide)).trans ((hsZ3 13 (by decide)).trans h13)) hTe_75 hway_75 (by rw [hwk, hwk2]; exact wkW_s hjl hends (by omega) (by rw [← hHd]; exact (by rw [stp_n hTv, if_neg hD, if_neg (by rw [hnm]; decide), if_neg c77]; exact hr80.symm)) u1) (by omega) _ _ _ hP hS (lv_sub hl [3, 0, 4, 5, 6] rfl)
                                    · have d82 : u < 0 := Nat.not_le.mp (fun h => c82 (nI_le (a := 0) (b := u) h (by omega)))
                                      omega
                                · refine lv_iconst (v := (-1)) C0.1 C0.2.1 dX5_walk_238 (by decide) ?_
                                  exact me_wiret _ C0.1 C0.2.1 B.returns B.notSynchronized hP hS (Nat.le_of_ble_eq_true rfl) (Nat.le_of_ble_eq_true rfl) (⟨_, _, hM, hMF, ((hsZ75 13 (by decide)).trans ((hsZ3 13 (by decide)).trans h13)), sF75, sZ75, hTe_75, by rw [hwk, hwk2]; exact (wkW_f hjl hends (by omega) (by rw [← hHd]; exact (by rw [stp_n hTv, if_neg hD, if_neg (by rw [hnm]; decide), if_pos c77])) (by decide)).symm⟩) dX5_walk_239
                              · have hnm : nmI Hd = 0 := nmI_0 hno
                                refine lv_if_ne (tgt := 229) C0.1 C0.2.1 dX5_walk_223 (by decide) (fun cx => absurd cx (by decide)) (fun cx => ?_)
                                refine lv_bipush (v := (-2)) C0.1 C0.2.1 dX5_walk_226 (by decide) ?_
                                exact me_wiret _ C0.1 C0.2.1 B.returns B.notSynchronized hP hS (Nat.le_of_ble_eq_true rfl) (Nat.le_of_ble_eq_true rfl) (⟨_, _, hM, hMF, ((hsZ75 13 (by decide)).trans ((hsZ3 13 (by decide)).trans h13)), sF75, sZ75, hTe_75, by rw [hwk, hwk2]; exact (wkW_f hjl hends (by omega) (by rw [← hHd]; exact (by rw [stp_n hTv, if_neg hD, if_pos hnm])) (by decide)).symm⟩) dX5_walk_228
                            · exact absurd c72 c71
                          · refine lv_aload_n C0.1 C0.2.1 dX5_walk_157 rfl (lv_at hl 3 rfl) ?_
                            refine md_get C0 hP hM 15 (by decide) kw_492 (v := .int (nI Hd.length)) (by show some (Value.int (y3 15)) = _; rw [hH.1]) dX5_walk_158 ?_
                            refine lv_iconst (v := 1) C0.1 C0.2.1 dX5_walk_161 (by decide) ?_
                            refine lv_icmp_ne (tgt := 169) C0.1 C0.2.1 dX5_walk_162 (by decide) (fun c84 => ?_) (fun c84 => ?_)
                            · have d84 : Hd.length ≠ 1 := fun h => c84 (congrArg nI h)
                              refine lv_iconst (v := 0) C0.1 C0.2.1 dX5_walk_169 (by decide) ?_
                              refine lv_istore (lv' := [(5, .int 0), (4, .int (nI (j + 1))), (3, .int (nI v0)), (2, .int (nI tp.length)), (0, .ref o), (1, .int (nI k))]) C0.1 C0.2.1 dX5_walk_170 hl (by decide) rfl (fun ls hl => ?_)
                              refine lv_aload_n C0.1 C0.2.1 dX5_walk_172 rfl (lv_at hl 4 rfl) ?_
                              refine md_get C0 hP hM 14 (by decide) kw_491 (v := .ref ((a 14))) rfl dX5_walk_173 ?_
                              refine lv_iconst (v := 0) C0.1 C0.2.1 dX5_walk_176 (by decide) ?_
                              refine md_iald C0 hP hM 14 (by decide) (i := 0) (by show 0 < 200; omega) dX5_walk_177 ?_
                              refine me_topi (y := Hd.getD 0 0) (hH.2.2 0 (by omega)) ?_
                              refine lv_bipush (v := 46) C0.1 C0.2.1 dX5_walk_178 (by decide) ?_
                              refine lv_icmp_ne (tgt := 206) C0.1 C0.2.1 dX5_walk_180 (by decide) (fun c85 => ?_) (fun c85 => ?_)
                              · exact absurd c71 c85
                              · refine lv_aload_n C0.1 C0.2.1 dX5_walk_183 rfl (lv_at hl 4 rfl) ?_
                                refine md_get C0 hP hM 15 (by decide) kw_492 (v := .int (nI Hd.length)) (by show some (Value.int (y3 15)) = _; rw [hH.1]) dX5_walk_184 ?_
                                refine lv_iconst (v := 2) C0.1 C0.2.1 dX5_walk_187 (by decide) ?_
                                refine lv_icmp_ne (tgt := 206) C0.1 C0.2.1 dX5_walk_188 (by decide) (fun c86 => ?_) (fun c86 => ?_)
                                · have d86 : Hd.length ≠ 2 := fun h => c86 (congrArg nI h)
                                  refine lv_iconst (v := 0) C0.1 C0.2.1 dX5_walk_206 (by decide) ?_
                                  have hD : ¬ isD Hd 0 Hd.length := fun q => by have := q.1; omega
                                  refine lv_istore (lv' := [(6, .int 0), (5, .int 0), (4, .int (nI (j + 1))), (3, .int (nI v0)), (2, .int (nI tp.length)), (0, .ref o), (1, .int (nI k))]) C0.1 C0.2.1 dX5_walk_207 hl (by decide) rfl (fun ls hl => ?_)
                                  refine lv_iload C0.1 C0.2.1 dX5_walk_209 (lv_at hl 1 rfl) ?_
                                  refine lv_if_ne (tgt := 229) C0.1 C0.2.1 dX5_walk_211 (by decide) (fun cx => absurd cx (by decide)) (fun cx => ?_)
                                  refine lv_iload C0.1 C0.2.1 dX5_walk_214 (lv_at hl 0 rfl) ?_
                                  refine lv_if_ne (tgt := 229) C0.1 C0.2.1 dX5_walk_216 (by decide) (fun cx => absurd cx (by decide)) (fun cx => ?_)
                                  refine lv_aload_n C0.1 C0.2.1 dX5_walk_219 rfl (lv_at hl 5 rfl) ?_
                                  refine me_cVwi (n := 0) C0 hml hP hS (c_X5_isName l G B0 w3 o a G3 y3 hM Hd hH hoH) ⟨kw_626, kw_35, kw_623, ⟨by decide, by decide, by decide +kernel⟩, ⟨rfl, rfl⟩, ⟨Nat.le_of_ble_eq_true rfl, Nat.le_of_ble_eq_true rfl⟩⟩ kw_625 kw_22 hM.1 rfl rfl hl.1 rfl (Nat.le_of_ble_eq_true rfl) ⟨Nat.le_of_ble_eq_true rfl, Nat.le_of_ble_eq_true rfl⟩ dX5_walk_220 (fun r89 w89 H locs hw89 hP hS => ?_)
                                  obtain ⟨F89, z89, hM, hMF89, hsF89, hsZ89, hres89⟩ := hw89
                                  have hMF := hMF.tr hMF89
                                  have sF89 := sF69.tr hsF89 (by decide)
                                  have sZ89 := sZ69.tr hsZ89 (by decide)
                                  have hTe_89 := hTe_69.sm hsF89 hsZ89 (by decide) (by decide)
                                  have hH_89 := hH.sm hsF89 hsZ89 (by decide) (by decide)
                                  have hway_89 := fun q (hq : q < tp.length) => (congrFun (hsF89 20 (by decide)) q).trans (hway_69 q hq)
                                  have hT_89 := hT_69.sm hsF89 (by decide)
                                  rcases hres89 with ⟨hok, rfl, hX⟩ | ⟨hno, rfl⟩
                                  · have hnm : nmI Hd = 1 := nmI_1 hok
                                    refine lv_if_ne (tgt := 229) C0.1 C0.2.1 dX5_walk_223 (by decide) (fun cx => ?_) (fun cx => absurd cx (by decide))
                                    refine lv_aload_n C0.1 C0.2.1 dX5_walk_229 rfl (lv_at hl 5 rfl) ?_
                                    refine md_get C0 hP hM 3 (by decide) kw_480 (v := .ref ((a 3))) rfl dX5_walk_230 ?_
                                    refine lv_iload_n C0.1 C0.2.1 dX5_walk_233 rfl (lv_at hl 3 rfl) ?_
                                    refine md_zald C0 hP hM 3 (by decide) (i := v0) (by show v0 < 200; omega) dX5_walk_234 ?_
                                    refine me_topi (y := nv.1) (hT_89.2 v0 nv hTv).2.2.1 ?_
                                    refine lv_if_ne (tgt := 240) C0.1 C0.2.1 dX5_walk_235 (by decide) (fun c91 => ?_) (fun c91 => ?_)
                                    · refine lv_iload C0.1 C0.2.1 dX5_walk_240 (lv_at hl 1 rfl) ?_
                                      refine lv_if_eq (tgt := 249) C0.1 C0.2.1 dX5_walk_242 (by decide) (fun cx => ?_) (fun cx => absurd cx (by decide))
                                      refine lv_iload C0.1 C0.2.1 dX5_walk_249 (lv_at hl 0 rfl) ?_
                                      refine lv_if_eq (tgt := 271) C0.1 C0.2.1 dX5_walk_251 (by decide) (fun cx => ?_) (fun cx => absurd cx (by decide))
                                      refine lv_aload_n C0.1 C0.2.1 dX5_walk_271 rfl (lv_at hl 5 rfl) ?_
                                      refine lv_iload_n C0.1 C0.2.1 dX5_walk_272 rfl (lv_at hl 3 rfl) ?_
                                      refine lv_iconst (v := (-1)) C0.1 C0.2.1 dX5_walk_273 (by decide) ?_
                                      refine me_cVi (n := 2) C0 hml hP hS (c_X5_entryLike l G B0 w89 o a F89 z89 hM T hT_89 v0 nv hv2 hTv (folds Hd) hX nv.2.2.2.2 rfl (hI.ent v0 nv hTv) (-1)) ⟨kw_630, kw_35, kw_627, ⟨by decide, by decide, by decide +kernel⟩, ⟨rfl, rfl⟩, ⟨Nat.le_of_ble_eq_true rfl, Nat.le_of_ble_eq_true rfl⟩⟩ kw_629 kw_23 hM.1 rfl rfl hl.1 rfl (Nat.le_of_ble_eq_true rfl) ⟨Nat.le_of_ble_eq_true rfl, Nat.le_of_ble_eq_true rfl⟩ dX5_walk_274 (fun r94 hr94 => ?_)
                                      rcases hI.elk hTv hr94 with ⟨hel, hel0⟩ | ⟨u, m, u1, u2, rfl, u4, u5, u6, u7⟩
                                      · refine lv_istore_n (lv' := [(3, .int r94), (6, .int 0), (5, .int 0), (4, .int (nI (j + 1))), (2, .int (nI tp.length)), (0, .ref o), (1, .int (nI k))]) C0.1 C0.2.1 dX5_walk_277 rfl hl (by decide) rfl (fun ls hl => ?_)
                                        refine lv_iload_n C0.1 C0.2.1 dX5_walk_278 rfl (lv_at hl 0 rfl) ?_
                                        refine lv_if_ge (tgt := 284) C0.1 C0.2.1 dX5_walk_279 (by decide) (fun c95 => ?_) (fun c95 => ?_)
                                        · exact absurd hel0 (Int32.not_lt.mpr c95)
                                        · refine lv_iconst (v := (-1)) C0.1 C0.2.1 dX5_walk_282 (by decide) ?_
                                          exact me_wiret _ C0.1 C0.2.1 B.returns B.notSynchronized hP hS (Nat.le_of_ble_eq_true rfl) (Nat.le_of_ble_eq_true rfl) (⟨_, _, hM, hMF, ((hsZ89 13 (by decide)).trans ((hsZ3 13 (by decide)).trans h13)), sF89, sZ89, hTe_89, by rw [hwk, hwk2]; exact (wkW_f hjl hends (by omega) (by rw [← hHd]; exact (by rw [stp_n hTv, if_neg hD, if_neg (by rw [hnm]; decide), if_neg c91]; exact hr94.symm.trans hel)) (by decide)).symm⟩) dX5_walk_283
                                      · refine lv_istore_n (lv' := [(3, .int (nI u)), (6, .int 0), (5, .int 0), (4, .int (nI (j + 1))), (2, .int (nI tp.length)), (0, .ref o), (1, .int (nI k))]) C0.1 C0.2.1 dX5_walk_277 rfl hl (by decide) rfl (fun ls hl => ?_)
                                        refine lv_iload_n C0.1 C0.2.1 dX5_walk_278 rfl (lv_at hl 0 rfl) ?_
                                        refine lv_if_ge (tgt := 284) C0.1 C0.2.1 dX5_walk_279 (by decide) (fun c96 => ?_) (fun c96 => ?_)
                                        · have d96 : 0 ≤ u := (nI_leI (a := 0) (b := u) (by omega) (by omega)).mp c96
                                          refine lv_goto (tgt := 75) C0.1 C0.2.1 dX5_walk_284 (by decide) ?_
                                          exact ih75 (j + 1) u _ _ _ _ u1 u4 (by omega) hM hMF sF89 sZ89 ((hsZ89 13 (by decide)).trans ((hsZ3 13 (by decide)).trans h13)) hTe_89 hway_89 (by rw [hwk, hwk2]; exact wkW_s hjl hends (by omega) (by rw [← hHd]; exact (by rw [stp_n hTv, if_neg hD, if_neg (by rw [hnm]; decide), if_neg c91]; exact hr94.symm)) u1) (by omega) _ _ _ hP hS (lv_sub hl [3, 0, 4, 5, 6] rfl)
                                        · have d96 : u < 0 := Nat.not_le.mp (fun h => c96 (nI_le (a := 0) (b := u) h (by omega)))
                                          omega
                                    · refine lv_iconst (v := (-1)) C0.1 C0.2.1 dX5_walk_238 (by decide) ?_
                                      exact me_wiret _ C0.1 C0.2.1 B.returns B.notSynchronized hP hS (Nat.le_of_ble_eq_true rfl) (Nat.le_of_ble_eq_true rfl) (⟨_, _, hM, hMF, ((hsZ89 13 (by decide)).trans ((hsZ3 13 (by decide)).trans h13)), sF89, sZ89, hTe_89, by rw [hwk, hwk2]; exact (wkW_f hjl hends (by omega) (by rw [← hHd]; exact (by rw [stp_n hTv, if_neg hD, if_neg (by rw [hnm]; decide), if_pos c91])) (by decide)).symm⟩) dX5_walk_239
                                  · have hnm : nmI Hd = 0 := nmI_0 hno
                                    refine lv_if_ne (tgt := 229) C0.1 C0.2.1 dX5_walk_223 (by decide) (fun cx => absurd cx (by decide)) (fun cx => ?_)
                                    refine lv_bipush (v := (-2)) C0.1 C0.2.1 dX5_walk_226 (by decide) ?_
                                    exact me_wiret _ C0.1 C0.2.1 B.returns B.notSynchronized hP hS (Nat.le_of_ble_eq_true rfl) (Nat.le_of_ble_eq_true rfl) (⟨_, _, hM, hMF, ((hsZ89 13 (by decide)).trans ((hsZ3 13 (by decide)).trans h13)), sF89, sZ89, hTe_89, by rw [hwk, hwk2]; exact (wkW_f hjl hends (by omega) (by rw [← hHd]; exact (by rw [stp_n hTv, if_neg hD, if_pos hnm])) (by decide)).symm⟩) dX5_walk_228
                                · have d86 : Hd.length = 2 := (nI_eq (a := Hd.length) (b := 2) (by omega) (by omega)).mp c86
                                  refine lv_aload_n C0.1 C0.2.1 dX5_walk_191 rfl (lv_at hl 4 rfl) ?_
                                  refine md_get C0 hP hM 14 (by decide) kw_491 (v := .ref ((a 14))) rfl dX5_walk_192 ?_
                                  refine lv_iconst (v := 1) C0.1 C0.2.1 dX5_walk_195 (by decide) ?_
                                  refine md_iald C0 hP hM 14 (by decide) (i := 1) (by show 1 < 200; omega) dX5_walk_196 ?_
                                  refine me_topi (y := Hd.getD 1 0) (hH.2.2 1 (by omega)) ?_
                                  refine lv_bipush (v := 46) C0.1 C0.2.1 dX5_walk_197 (by decide) ?_
                                  refine lv_icmp_ne (tgt := 206) C0.1 C0.2.1 dX5_walk_199 (by decide) (fun c98 => ?_) (fun c98 => ?_)
                                  · refine lv_iconst (v := 0) C0.1 C0.2.1 dX5_walk_206 (by decide) ?_
                                    have hD : ¬ isD Hd 0 Hd.length := fun q => c98 (by have := q.2.2; rw [show Hd.length - 1 = 1 by omega] at this; exact this)
                                    refine lv_istore (lv' := [(6, .int 0), (5, .int 0), (4, .int (nI (j + 1))), (3, .int (nI v0)), (2, .int (nI tp.length)), (0, .ref o), (1, .int (nI k))]) C0.1 C0.2.1 dX5_walk_207 hl (by decide) rfl (fun ls hl => ?_)
                                    refine lv_iload C0.1 C0.2.1 dX5_walk_209 (lv_at hl 1 rfl) ?_
                                    refine lv_if_ne (tgt := 229) C0.1 C0.2.1 dX5_walk_211 (by decide) (fun cx => absurd cx (by decide)) (fun cx => ?_)
                                    refine lv_iload C0.1 C0.2.1 dX5_walk_214 (lv_at hl 0 rfl) ?_
                                    refine lv_if_ne (tgt := 229) C0.1 C0.2.1 dX5_walk_216 (by decide) (fun cx => absurd cx (by decide)) (fun cx => ?_)
                                    refine lv_aload_n C0.1 C0.2.1 dX5_walk_219 rfl (lv_at hl 5 rfl) ?_
                                    refine me_cVwi (n := 0) C0 hml hP hS (c_X5_isName l G B0 w3 o a G3 y3 hM Hd hH hoH) ⟨kw_626, kw_35, kw_623, ⟨by decide, by decide, by decide +kernel⟩, ⟨rfl, rfl⟩, ⟨Nat.le_of_ble_eq_true rfl, Nat.le_of_ble_eq_true rfl⟩⟩ kw_625 kw_22 hM.1 rfl rfl hl.1 rfl (Nat.le_of_ble_eq_true rfl) ⟨Nat.le_of_ble_eq_true rfl, Nat.le_of_ble_eq_true rfl⟩ dX5_walk_220 (fun r101 w101 H locs hw101 hP hS => ?_)
                                    obtain ⟨F101, z101, hM, hMF101, hsF101, hsZ101, hres101⟩ := hw101
                                    have hMF := hMF.tr hMF101
                                    have sF101 := sF69.tr hsF101 (by decide)
                                    have sZ101 := sZ69.tr hsZ101 (by decide)
                                    have hTe_101 := hTe_69.sm hsF101 hsZ101 (by decide) (by decide)
                                    have hH_101 := hH.sm hsF101 hsZ101 (by decide) (by decide)
                                    have hway_101 := fun q (hq : q < tp.length) => (congrFun (hsF101 20 (by decide)) q).trans (hway_69 q hq)
                                    have hT_101 := hT_69.sm hsF101 (by decide)
                                    rcases hres101 with ⟨hok, rfl, hX⟩ | ⟨hno, rfl⟩
                                    · have hnm : nmI Hd = 1 := nmI_1 hok
                                      refine lv_if_ne (tgt := 229) C0.1 C0.2.1 dX5_walk_223 (by decide) (fun cx => ?_) (fun cx => absurd cx (by decide))
                                      refine lv_aload_n C0.1 C0.2.1 dX5_walk_229 rfl (lv_at hl 5 rfl) ?_
                                      refine md_get C0 hP hM 3 (by decide) kw_480 (v := .ref ((a 3))) rfl dX5_walk_230 ?_
                                      refine lv_iload_n C0.1 C0.2.1 dX5_walk_233 rfl (lv_at hl 3 rfl) ?_
                                      refine md_zald C0 hP hM 3 (by decide) (i := v0) (by show v0 < 200; omega) dX5_walk_234 ?_
                                      refine me_topi (y := nv.1) (hT_101.2 v0 nv hTv).2.2.1 ?_
                                      refine lv_if_ne (tgt := 240) C0.1 C0.2.1 dX5_walk_235 (by decide) (fun c103 => ?_) (fun c103 => ?_)
                                      · refine lv_iload C0.1 C0.2.1 dX5_walk_240 (lv_at hl 1 rfl) ?_
                                        refine lv_if_eq (tgt := 249) C0.1 C0.2.1 dX5_walk_242 (by decide) (fun cx => ?_) (fun cx => absurd cx (by decide))
                                        refine lv_iload C0.1 C0.2.1 dX5_walk_249 (lv_at hl 0 rfl) ?_
                                        refine lv_if_eq (tgt := 271) C0.1 C0.2.1 dX5_walk_251 (by decide) (fun cx => ?_) (fun cx => absurd cx (by decide))
                                        refine lv_aload_n C0.1 C0.2.1 dX5_walk_271 rfl (lv_at hl 5 rfl) ?_
                                        refine lv_iload_n C0.1 C0.2.1 dX5_walk_272 rfl (lv_at hl 3 rfl) ?_
                                        refine lv_iconst (v := (-1)) C0.1 C0.2.1 dX5_walk_273 (by decide) ?_
                                        refine me_cVi (n := 2) C0 hml hP hS (c_X5_entryLike l G B0 w101 o a F101 z101 hM T hT_101 v0 nv hv2 hTv (folds Hd) hX nv.2.2.2.2 rfl (hI.ent v0 nv hTv) (-1)) ⟨kw_630, kw_35, kw_627, ⟨by decide, by decide, by decide +kernel⟩, ⟨rfl, rfl⟩, ⟨Nat.le_of_ble_eq_true rfl, Nat.le_of_ble_eq_true rfl⟩⟩ kw_629 kw_23 hM.1 rfl rfl hl.1 rfl (Nat.le_of_ble_eq_true rfl) ⟨Nat.le_of_ble_eq_true rfl, Nat.le_of_ble_eq_true rfl⟩ dX5_walk_274 (fun r106 hr106 => ?_)
                                        rcases hI.elk hTv hr106 with ⟨hel, hel0⟩ | ⟨u, m, u1, u2, rfl, u4, u5, u6, u7⟩
                                        · refine lv_istore_n (lv' := [(3, .int r106), (6, .int 0), (5, .int 0), (4, .int (nI (j + 1))), (2, .int (nI tp.length)), (0, .ref o), (1, .int (nI k))]) C0.1 C0.2.1 dX5_walk_277 rfl hl (by decide) rfl (fun ls hl => ?_)
                                          refine lv_iload_n C0.1 C0.2.1 dX5_walk_278 rfl (lv_at hl 0 rfl) ?_
                                          refine lv_if_ge (tgt := 284) C0.1 C0.2.1 dX5_walk_279 (by decide) (fun c107 => ?_) (fun c107 => ?_)
                                          · exact absurd hel0 (Int32.not_lt.mpr c107)
                                          · refine lv_iconst (v := (-1)) C0.1 C0.2.1 dX5_walk_282 (by decide) ?_
                                            exact me_wiret _ C0.1 C0.2.1 B.returns B.notSynchronized hP hS (Nat.le_of_ble_eq_true rfl) (Nat.le_of_ble_eq_true rfl) (⟨_, _, hM, hMF, ((hsZ101 13 (by decide)).trans ((hsZ3 13 (by decide)).trans h13)), sF101, sZ101, hTe_101, by rw [hwk, hwk2]; exact (wkW_f hjl hends (by omega) (by rw [← hHd]; exact (by rw [stp_n hTv, if_neg hD, if_neg (by rw [hnm]; decide), if_neg c103]; exact hr106.symm.trans hel)) (by decide)).symm⟩) dX5_walk_283
                                        · refine lv_istore_n (lv' := [(3, .int (nI u)), (6, .int 0), (5, .int 0), (4, .int (nI (j + 1))), (2, .int (nI tp.length)), (0, .ref o), (1, .int (nI k))]) C0.1 C0.2.1 dX5_walk_277 rfl hl (by decide) rfl (fun ls hl => ?_)
                                          refine lv_iload_n C0.1 C0.2.1 dX5_walk_278 rfl (lv_at hl 0 rfl) ?_
                                          refine lv_if_ge (tgt := 284) C0.1 C0.2.1 dX5_walk_279 (by decide) (fun c108 => ?_) (fun c108 => ?_)
                                          · have d108 : 0 ≤ u := (nI_leI (a := 0) (b := u) (by omega) (by omega)).mp c108
                                            refine lv_goto (tgt := 75) C0.1 C0.2.1 dX5_walk_284 (by decide) ?_
                                            exact ih75 (j + 1) u _ _ _ _ u1 u4 (by omega) hM hMF sF101 sZ101 ((hsZ101 13 (by decide)).trans ((hsZ3 13 (by decide)).trans h13)) hTe_101 hway_101 (by rw [hwk, hwk2]; exact wkW_s hjl hends (by omega) (by rw [← hHd]; exact (by rw [stp_n hTv, if_neg hD, if_neg (by rw [hnm]; decide), if_neg c103]; exact hr106.symm)) u1) (by omega) _ _ _ hP hS (lv_sub hl [3, 0, 4, 5, 6] rfl)
                                          · have d108 : u < 0 := Nat.not_le.mp (fun h => c108 (nI_le (a := 0) (b := u) h (by omega)))
                                            omega
                                      · refine lv_iconst (v := (-1)) C0.1 C0.2.1 dX5_walk_238 (by decide) ?_
                                        exact me_wiret _ C0.1 C0.2.1 B.returns B.notSynchronized hP hS (Nat.le_of_ble_eq_true rfl) (Nat.le_of_ble_eq_true rfl) (⟨_, _, hM, hMF, ((hsZ101 13 (by decide)).trans ((hsZ3 13 (by decide)).trans h13)), sF101, sZ101, hTe_101, by rw [hwk, hwk2]; exact (wkW_f hjl hends (by omega) (by rw [← hHd]; exact (by rw [stp_n hTv, if_neg hD, if_neg (by rw [hnm]; decide), if_pos c103])) (by decide)).symm⟩) dX5_walk_239
                                    · have hnm : nmI Hd = 0 := nmI_0 hno
                                      refine lv_if_ne (tgt := 229) C0.1 C0.2.1 dX5_walk_223 (by decide) (fun cx => absurd cx (by decide)) (fun cx => ?_)
                                      refine lv_bipush (v := (-2)) C0.1 C0.2.1 dX5_walk_226 (by decide) ?_
                                      exact me_wiret _ C0.1 C0.2.1 B.returns B.notSynchronized hP hS (Nat.le_of_ble_eq_true rfl) (Nat.le_of_ble_eq_true rfl) (⟨_, _, hM, hMF, ((hsZ101 13 (by decide)).trans ((hsZ3 13 (by decide)).trans h13)), sF101, sZ101, hTe_101, by rw [hwk, hwk2]; exact (wkW_f hjl hends (by omega) (by rw [← hHd]; exact (by rw [stp_n hTv, if_neg hD, if_pos hnm])) (by decide)).symm⟩) dX5_walk_228
                                  · refine lv_iconst (v := 1) C0.1 C0.2.1 dX5_walk_202 (by decide) ?_
                                    refine lv_goto (tgt := 207) C0.1 C0.2.1 dX5_walk_203 (by decide) ?_
                                    have hD : isD Hd 0 Hd.length := ⟨by omega, c71, by rw [show Hd.length - 1 = 1 by omega]; exact c98⟩
                                    have hD2 : ¬ Hd.length = 1 := by omega
                                    refine lv_istore (lv' := [(6, .int 1), (5, .int 0), (4, .int (nI (j + 1))), (3, .int (nI v0)), (2, .int (nI tp.length)), (0, .ref o), (1, .int (nI k))]) C0.1 C0.2.1 dX5_walk_207 hl (by decide) rfl (fun ls hl => ?_)
                                    refine lv_iload C0.1 C0.2.1 dX5_walk_209 (lv_at hl 1 rfl) ?_
                                    refine lv_if_ne (tgt := 229) C0.1 C0.2.1 dX5_walk_211 (by decide) (fun cx => absurd cx (by decide)) (fun cx => ?_)
                                    refine lv_iload C0.1 C0.2.1 dX5_walk_214 (lv_at hl 0 rfl) ?_
                                    refine lv_if_ne (tgt := 229) C0.1 C0.2.1 dX5_walk_216 (by decide) (fun cx => ?_) (fun cx => absurd cx (by decide))
                                    refine lv_aload_n C0.1 C0.2.1 dX5_walk_229 rfl (lv_at hl 5 rfl) ?_
                                    refine md_get C0 hP hM 3 (by decide) kw_480 (v := .ref ((a 3))) rfl dX5_walk_230 ?_
                                    refine lv_iload_n C0.1 C0.2.1 dX5_walk_233 rfl (lv_at hl 3 rfl) ?_
                                    refine md_zald C0 hP hM 3 (by decide) (i := v0) (by show v0 < 200; omega) dX5_walk_234 ?_
                                    refine me_topi (y := nv.1) (hT_69.2 v0 nv hTv).2.2.1 ?_
                                    refine lv_if_ne (tgt := 240) C0.1 C0.2.1 dX5_walk_235 (by decide) (fun c112 => ?_) (fun c112 => ?_)
                                    · refine lv_iload C0.1 C0.2.1 dX5_walk_240 (lv_at hl 1 rfl) ?_
                                      refine lv_if_eq (tgt := 249) C0.1 C0.2.1 dX5_walk_242 (by decide) (fun cx => ?_) (fun cx => absurd cx (by decide))
                                      refine lv_iload C0.1 C0.2.1 dX5_walk_249 (lv_at hl 0 rfl) ?_
                                      refine lv_if_eq (tgt := 271) C0.1 C0.2.1 dX5_walk_251 (by decide) (fun cx => absurd cx (by decide)) (fun cx => ?_)
                                      refine lv_iload_n C0.1 C0.2.1 dX5_walk_254 rfl (lv_at hl 3 rfl) ?_
                                      refine lv_if_ne (tgt := 262) C0.1 C0.2.1 dX5_walk_255 (by decide) (fun c115 => ?_) (fun c115 => ?_)
                                      · have d115 : v0 ≠ 0 := fun h => c115 (congrArg nI h)
                                        refine lv_aload_n C0.1 C0.2.1 dX5_walk_262 rfl (lv_at hl 5 rfl) ?_
                                        refine md_get C0 hP hM 4 (by decide) kw_481 (v := .ref ((a 4))) rfl dX5_walk_263 ?_
                                        refine lv_iload_n C0.1 C0.2.1 dX5_walk_266 rfl (lv_at hl 3 rfl) ?_
                                        refine md_iald C0 hP hM 4 (by decide) (i := v0) (by show v0 < 200; omega) dX5_walk_267 ?_
                                        obtain ⟨-, up, um, up1, up2, up3, -⟩ := hI.2.2.1 v0 nv hTv (by omega)
                                        refine me_topi (y := nI up) ((hT_69.2 v0 nv hTv).2.2.2.1.trans up2) ?_
                                        refine lv_goto (tgt := 277) C0.1 C0.2.1 dX5_walk_268 (by decide) ?_
                                        refine lv_istore_n (lv' := [(3, .int (nI up)), (6, .int 1), (5, .int 0), (4, .int (nI (j + 1))), (2, .int (nI tp.length)), (0, .ref o), (1, .int (nI k))]) C0.1 C0.2.1 dX5_walk_277 rfl hl (by decide) rfl (fun ls hl => ?_)
                                        refine lv_iload_n C0.1 C0.2.1 dX5_walk_278 rfl (lv_at hl 0 rfl) ?_
                                        refine lv_if_ge (tgt := 284) C0.1 C0.2.1 dX5_walk_279 (by decide) (fun c116 => ?_) (fun c116 => ?_)
                                        · have d116 : 0 ≤ up := (nI_leI (a := 0) (b := up) (by omega) (by omega)).mp c116
                                          refine lv_goto (tgt := 75) C0.1 C0.2.1 dX5_walk_284 (by decide) ?_
                                          exact ih75 (j + 1) up _ _ _ _ up1 up3 (by omega) hM hMF sF69 sZ69 ((hsZ3 13 (by decide)).trans h13) hTe_69 hway_69 (by rw [hwk, hwk2]; exact wkW_s hjl hends (by omega) (by rw [← hHd]; exact (by rw [stp_n hTv, if_pos hD, if_neg c112, if_neg hD2, if_neg (by omega)]; exact up2)) up1) (by omega) _ _ _ hP hS (lv_sub hl [3, 0, 4, 5, 6] rfl)
                                        · have d116 : up < 0 := Nat.not_le.mp (fun h => c116 (nI_le (a := 0) (b := up) h (by omega)))
                                          omega
                                      · have d115 : v0 = 0 := (nI_eq (a := v0) (b := 0) (by omega) (by omega)).mp c115
                                        refine lv_iconst (v := 0) C0.1 C0.2.1 dX5_walk_258 (by decide) ?_
                                        refine lv_goto (tgt := 277) C0.1 C0.2.1 dX5_walk_259 (by decide) ?_
                                        obtain ⟨rt, hrt, -⟩ := hI.1
                                        refine lv_istore_n (lv' := [(3, .int (nI 0)), (6, .int 1), (5, .int 0), (4, .int (nI (j + 1))), (2, .int (nI tp.length)), (0, .ref o), (1, .int (nI k))]) C0.1 C0.2.1 dX5_walk_277 rfl hl (by decide) rfl (fun ls hl => ?_)
                                        refine lv_iload_n C0.1 C0.2.1 dX5_walk_278 rfl (lv_at hl 0 rfl) ?_
                                        refine lv_if_ge (tgt := 284) C0.1 C0.2.1 dX5_walk_279 (by decide) (fun c117 => ?_) (fun c117 => ?_)
                                        · refine lv_goto (tgt := 75) C0.1 C0.2.1 dX5_walk_284 (by decide) ?_
                                          exact ih75 (j + 1) 0 _ _ _ _ (by omega) hrt (by omega) hM hMF sF69 sZ69 ((hsZ3 13 (by decide)).trans h13) hTe_69 hway_69 (by rw [hwk, hwk2]; exact wkW_s hjl hends (by omega) (by rw [← hHd]; exact (by rw [stp_n hTv, if_pos hD, if_neg c112, if_neg hD2, if_pos (by omega)]; rfl)) (by omega)) (by omega) _ _ _ hP hS (lv_sub hl [3, 0, 4, 5, 6] rfl)
                                        · exact absurd (show (0 : Int32) ≤ nI 0 by decide) c117
                                    · refine lv_iconst (v := (-1)) C0.1 C0.2.1 dX5_walk_238 (by decide) ?_
                                      exact me_wiret _ C0.1 C0.2.1 B.returns B.notSynchronized hP hS (Nat.le_of_ble_eq_true rfl) (Nat.le_of_ble_eq_true rfl) (⟨_, _, hM, hMF, ((hsZ3 13 (by decide)).trans h13), sF69, sZ69, hTe_69, by rw [hwk, hwk2]; exact (wkW_f hjl hends (by omega) (by rw [← hHd]; exact (by rw [stp_n hTv, if_pos hD, if_pos c112])) (by decide)).symm⟩) dX5_walk_239
                            · have d84 : Hd.length = 1 := (nI_eq (a := Hd.length) (b := 1) (by omega) (by omega)).mp c84
                              refine lv_iconst (v := 1) C0.1 C0.2.1 dX5_walk_165 (by decide) ?_
                              refine lv_goto (tgt := 170) C0.1 C0.2.1 dX5_walk_166 (by decide) ?_
                              refine lv_istore (lv' := [(5, .int 1), (4, .int (nI (j + 1))), (3, .int (nI v0)), (2, .int (nI tp.length)), (0, .ref o), (1, .int (nI k))]) C0.1 C0.2.1 dX5_walk_170 hl (by decide) rfl (fun ls hl => ?_)
                              refine lv_aload_n C0.1 C0.2.1 dX5_walk_172 rfl (lv_at hl 4 rfl) ?_
                              refine md_get C0 hP hM 14 (by decide) kw_491 (v := .ref ((a 14))) rfl dX5_walk_173 ?_
                              refine lv_iconst (v := 0) C0.1 C0.2.1 dX5_walk_176 (by decide) ?_
                              refine md_iald C0 hP hM 14 (by decide) (i := 0) (by show 0 < 200; omega) dX5_walk_177 ?_
                              refine me_topi (y := Hd.getD 0 0) (hH.2.2 0 (by omega)) ?_
                              refine lv_bipush (v := 46) C0.1 C0.2.1 dX5_walk_178 (by decide) ?_
                              refine lv_icmp_ne (tgt := 206) C0.1 C0.2.1 dX5_walk_180 (by decide) (fun c118 => ?_) (fun c118 => ?_)
                              · exact absurd c71 c118
                              · refine lv_aload_n C0.1 C0.2.1 dX5_walk_183 rfl (lv_at hl 4 rfl) ?_
                                refine md_get C0 hP hM 15 (by decide) kw_492 (v := .int (nI Hd.length)) (by show some (Value.int (y3 15)) = _; rw [hH.1]) dX5_walk_184 ?_
                                refine lv_iconst (v := 2) C0.1 C0.2.1 dX5_walk_187 (by decide) ?_
                                refine lv_icmp_ne (tgt := 206) C0.1 C0.2.1 dX5_walk_188 (by decide) (fun c119 => ?_) (fun c119 => ?_)
                                · have d119 : Hd.length ≠ 2 := fun h => c119 (congrArg nI h)
                                  refine lv_iconst (v := 0) C0.1 C0.2.1 dX5_walk_206 (by decide) ?_
                                  have hD : isD Hd 0 Hd.length := ⟨by omega, c71, by rw [show Hd.length - 1 = 0 by omega]; exact c71⟩
                                  have hD1 : Hd.length = 1 := by omega
                                  refine lv_istore (lv' := [(6, .int 0), (5, .int 1), (4, .int (nI (j + 1))), (3, .int (nI v0)), (2, .int (nI tp.length)), (0, .ref o), (1, .int (nI k))]) C0.1 C0.2.1 dX5_walk_207 hl (by decide) rfl (fun ls hl => ?_)
                                  refine lv_iload C0.1 C0.2.1 dX5_walk_209 (lv_at hl 1 rfl) ?_
                                  refine lv_if_ne (tgt := 229) C0.1 C0.2.1 dX5_walk_211 (by decide) (fun cx => ?_) (fun cx => absurd cx (by decide))
                                  refine lv_aload_n C0.1 C0.2.1 dX5_walk_229 rfl (lv_at hl 5 rfl) ?_
                                  refine md_get C0 hP hM 3 (by decide) kw_480 (v := .ref ((a 3))) rfl dX5_walk_230 ?_
                                  refine lv_iload_n C0.1 C0.2.1 dX5_walk_233 rfl (lv_at hl 3 rfl) ?_
                                  refine md_zald C0 hP hM 3 (by decide) (i := v0) (by show v0 < 200; omega) dX5_walk_234 ?_
                                  refine me_topi (y := nv.1) (hT_69.2 v0 nv hTv).2.2.1 ?_
                                  refine lv_if_ne (tgt := 240) C0.1 C0.2.1 dX5_walk_235 (by decide) (fun c121 => ?_) (fun c121 => ?_)
                                  · refine lv_iload C0.1 C0.2.1 dX5_walk_240 (lv_at hl 1 rfl) ?_
                                    refine lv_if_eq (tgt := 249) C0.1 C0.2.1 dX5_walk_242 (by decide) (fun cx => absurd cx (by decide)) (fun cx => ?_)
                                    refine lv_iload_n C0.1 C0.2.1 dX5_walk_245 rfl (lv_at hl 3 rfl) ?_
                                    refine lv_goto (tgt := 277) C0.1 C0.2.1 dX5_walk_246 (by decide) ?_
                                    refine lv_istore_n (lv' := [(3, .int (nI v0)), (6, .int 0), (5, .int 1), (4, .int (nI (j + 1))), (2, .int (nI tp.length)), (0, .ref o), (1, .int (nI k))]) C0.1 C0.2.1 dX5_walk_277 rfl hl (by decide) rfl (fun ls hl => ?_)
                                    refine lv_iload_n C0.1 C0.2.1 dX5_walk_278 rfl (lv_at hl 0 rfl) ?_
                                    refine lv_if_ge (tgt := 284) C0.1 C0.2.1 dX5_walk_279 (by decide) (fun c123 => ?_) (fun c123 => ?_)
                                    · have d123 : 0 ≤ v0 := (nI_leI (a := 0) (b := v0) (by omega) (by omega)).mp c123
                                      refine lv_goto (tgt := 75) C0.1 C0.2.1 dX5_walk_284 (by decide) ?_
                                      exact ih75 (j + 1) v0 _ _ _ _ hv2 hTv (by omega) hM hMF sF69 sZ69 ((hsZ3 13 (by decide)).trans h13) hTe_69 hway_69 (by rw [hwk, hwk2]; exact wkW_s hjl hends (by omega) (by rw [← hHd]; exact (by rw [stp_n hTv, if_pos hD, if_neg c121, if_pos hD1])) hv2) (by omega) _ _ _ hP hS (lv_sub hl [3, 0, 4, 5, 6] rfl)
                                    · have d123 : v0 < 0 := Nat.not_le.mp (fun h => c123 (nI_le (a := 0) (b := v0) h (by omega)))
                                      omega
                                  · refine lv_iconst (v := (-1)) C0.1 C0.2.1 dX5_walk_238 (by decide) ?_
                                    exact me_wiret _ C0.1 C0.2.1 B.returns B.notSynchronized hP hS (Nat.le_of_ble_eq_true rfl) (Nat.le_of_ble_eq_true rfl) (⟨_, _, hM, hMF, ((hsZ3 13 (by decide)).trans h13), sF69, sZ69, hTe_69, by rw [hwk, hwk2]; exact (wkW_f hjl hends (by omega) (by rw [← hHd]; exact (by rw [stp_n hTv, if_pos hD, if_pos c121])) (by decide)).symm⟩) dX5_walk_239
                                · have d119 : Hd.length = 2 := (nI_eq (a := Hd.length) (b := 2) (by omega) (by omega)).mp c119
                                  omega
                      · refine lv_aload_n C0.1 C0.2.1 dX5_walk_104 rfl (lv_at hl 3 rfl) ?_
                        refine md_get C0 hP hM 14 (by decide) kw_491 (v := .ref ((a 14))) rfl dX5_walk_105 ?_
                        refine lv_aload_n C0.1 C0.2.1 dX5_walk_108 rfl (lv_at hl 3 rfl) ?_
                        refine md_get C0 hP hM 15 (by decide) kw_492 (v := .int (nI (j - i))) (by show some (Value.int (y3 15)) = _; rw [h15]) dX5_walk_109 ?_
                        refine lv_aload_n C0.1 C0.2.1 dX5_walk_112 rfl (lv_at hl 3 rfl) ?_
                        refine md_get C0 hP hM 20 (by decide) kw_497 (v := .ref ((a 20))) rfl dX5_walk_113 ?_
                        refine lv_iload C0.1 C0.2.1 dX5_walk_116 (lv_at hl 0 rfl) ?_
                        refine md_iald C0 hP hM 20 (by decide) (i := j) (by show j < 200; omega) dX5_walk_118 ?_
                        refine me_topi (y := tp.getD j 0) (by rw [hsF3 20 (by decide)]; exact hway j (by omega)) ?_
                        refine md_iast C0 hP hS hM hMF 14 (by decide) (i := (j - i)) (by show (j - i) < 200; omega) dX5_walk_119 (fun w124 F124 H locs hF124 hM hMF hP hS => ?_)
                        refine lv_aload_n C0.1 C0.2.1 dX5_walk_120 rfl (lv_at hl 3 rfl) ?_
                        refine lv_dup C0.1 C0.2.1 dX5_walk_121 rfl ?_
                        refine md_get C0 hP hM 15 (by decide) kw_492 (v := .int (nI (j - i))) (by show some (Value.int (y3 15)) = _; rw [h15]) dX5_walk_122 ?_
                        refine lv_iconst (v := 1) C0.1 C0.2.1 dX5_walk_125 (by decide) ?_
                        refine lv_iadd C0.1 C0.2.1 dX5_walk_126 ?_
                        refine me_topi (y := nI ((j - i) + 1)) (nI_add (j - i) 1) ?_
                        refine md_put C0 hP hS hM hMF 15 (by decide) kw_492 rfl rfl rfl dX5_walk_127 (fun w125 z125 H locs hz125 hM hMF hP hS => ?_)
                        have hz125_15 : z125 15 = nI ((j - i) + 1) := by rw [hz125, upd_eq]
                        refine lv_iinc (v := nI (j + 1)) (lv' := [(4, .int (nI (j + 1))), (3, .int (nI v0)), (2, .int (nI tp.length)), (0, .ref o), (1, .int (nI k))]) C0.1 C0.2.1 dX5_walk_130 hl (k := 0) rfl (nI_add j 1) (by decide) rfl (fun ls hl => ?_)
                        refine lv_goto (tgt := 86) C0.1 C0.2.1 dX5_walk_133 (by decide) ?_
                        exact ih86 (j + 1) _ _ _ (by omega) (by omega) hM hMF (hsF3.wr hF124 (by decide)) (hsZ3.wr hz125 (by decide)) (by rw [hz125_15]; congr 1; omega) (by rw [hF124, uF_s, show j + 1 - i = (j - i) + 1 by omega]; exact lt_s (fun q hq => by rw [upd_ne (by omega)]; exact hha q hq) (by rw [upd_eq, show i + (j - i) = j by omega])) (hwk2.trans (wkW_g hjl (fun q => q.elim (fun q => by omega) c68))) (by omega) _ _ _ hP hS (lv_sub hl [0, 1, 2, 3, 4] rfl)
                exact loop86 (tp.length - i + 1) i _ _ _ (Nat.le_refl _) (by omega) hM hMF SameF.rf (SameZ.rf.wr hz11 (by decide)) (by rw [hz11_15, Nat.sub_self]; rfl) (fun q hq => by omega) rfl (Nat.lt_succ_self _) _ _ _ hP hS (lv_sub hl [0, 1, 2, 3, 4] rfl)
          refine lv_iload_n C0.1 C0.2.1 dX5_walk_51 rfl (lv_at hl 1 rfl) ?_
          refine lv_if_le (tgt := 70) C0.1 C0.2.1 dX5_walk_52 (by decide) (fun c126 => ?_) (fun c126 => ?_)
          · have d126 : tp.length ≤ 0 := (nI_leI (a := tp.length) (b := 0) (by omega) (by omega)).mp c126
            refine lv_iload_n C0.1 C0.2.1 dX5_walk_70 rfl (lv_at hl 3 rfl) ?_
            refine lv_istore_n (lv' := [(3, .int (nI k)), (2, .int (nI tp.length)), (0, .ref o), (1, .int (nI k))]) C0.1 C0.2.1 dX5_walk_71 rfl hl (by decide) rfl (fun ls hl => ?_)
            refine lv_iconst (v := 0) C0.1 C0.2.1 dX5_walk_72 (by decide) ?_
            refine lv_istore (lv' := [(4, .int 0), (3, .int (nI k)), (2, .int (nI tp.length)), (0, .ref o), (1, .int (nI k))]) C0.1 C0.2.1 dX5_walk_73 hl (by decide) rfl (fun ls hl => ?_)
            exact loop75 (tp.length + 1 - 0 + 1) 0 k _ _ _ _ (by omega) hTk (by omega) hM hMF sF6 sZ6 ((lZ6 13 (by decide)).trans (((SameZ.rf : SameZ _ _ []) 13 (by decide)).trans hz1_13)) (Ls.nil (F := G1) (ka := 0) (cap := 200) hz5_1) hwy (by unfold sWalk; rw [if_neg hnk, nI_clamp (by omega), if_neg (fun q => by omega)]) (Nat.lt_succ_self _) _ _ _ hP hS (lv_sub hl [0, 1, 2, 3, 4] rfl)
          · have d126 : 0 < tp.length := Nat.not_le.mp (fun h => c126 (nI_le (a := tp.length) (b := 0) h (by omega)))
            refine lv_aload_n C0.1 C0.2.1 dX5_walk_55 rfl (lv_at hl 2 rfl) ?_
            refine md_get C0 hP hM 20 (by decide) kw_497 (v := .ref ((a 20))) rfl dX5_walk_56 ?_
            refine lv_iconst (v := 0) C0.1 C0.2.1 dX5_walk_59 (by decide) ?_
            refine md_iald C0 hP hM 20 (by decide) (i := 0) (by show 0 < 200; omega) dX5_walk_60 ?_
            refine me_topi (y := tp.getD 0 0) (hwy 0 (by omega)) ?_
            refine lv_bipush (v := 47) C0.1 C0.2.1 dX5_walk_61 (by decide) ?_
            refine lv_icmp_ne (tgt := 70) C0.1 C0.2.1 dX5_walk_63 (by decide) (fun c127 => ?_) (fun c127 => ?_)
            · refine lv_iload_n C0.1 C0.2.1 dX5_walk_70 rfl (lv_at hl 3 rfl) ?_
              refine lv_istore_n (lv' := [(3, .int (nI k)), (2, .int (nI tp.length)), (0, .ref o), (1, .int (nI k))]) C0.1 C0.2.1 dX5_walk_71 rfl hl (by decide) rfl (fun ls hl => ?_)
              refine lv_iconst (v := 0) C0.1 C0.2.1 dX5_walk_72 (by decide) ?_
              refine lv_istore (lv' := [(4, .int 0), (3, .int (nI k)), (2, .int (nI tp.length)), (0, .ref o), (1, .int (nI k))]) C0.1 C0.2.1 dX5_walk_73 hl (by decide) rfl (fun ls hl => ?_)
              exact loop75 (tp.length + 1 - 0 + 1) 0 k _ _ _ _ (by omega) hTk (by omega) hM hMF sF6 sZ6 ((lZ6 13 (by decide)).trans (((SameZ.rf : SameZ _ _ []) 13 (by decide)).trans hz1_13)) (Ls.nil (F := G1) (ka := 0) (cap := 200) hz5_1) hwy (by unfold sWalk; rw [if_neg hnk, nI_clamp (by omega), if_neg (fun q => c127 q.2)]) (Nat.lt_succ_self _) _ _ _ hP hS (lv_sub hl [0, 1, 2, 3, 4] rfl)
            · refine lv_iconst (v := 0) C0.1 C0.2.1 dX5_walk_66 (by decide) ?_
              refine lv_goto (tgt := 71) C0.1 C0.2.1 dX5_walk_67 (by decide) ?_
              refine lv_istore_n (lv' := [(3, .int 0), (2, .int (nI tp.length)), (0, .ref o), (1, .int (nI k))]) C0.1 C0.2.1 dX5_walk_71 rfl hl (by decide) rfl (fun ls hl => ?_)
              refine lv_iconst (v := 0) C0.1 C0.2.1 dX5_walk_72 (by decide) ?_
              refine lv_istore (lv' := [(4, .int 0), (3, .int 0), (2, .int (nI tp.length)), (0, .ref o), (1, .int (nI k))]) C0.1 C0.2.1 dX5_walk_73 hl (by decide) rfl (fun ls hl => ?_)
              obtain ⟨rt, hrt, -⟩ := hI.1
              exact loop75 (tp.length + 1 - 0 + 1) 0 0 _ _ _ _ (by omega) hrt (by omega) hM hMF sF6 sZ6 ((lZ6 13 (by decide)).trans (((SameZ.rf : SameZ _ _ []) 13 (by decide)).trans hz1_13)) (Ls.nil (F := G1) (ka := 0) (cap := 200) hz5_1) hwy (by unfold sWalk; rw [if_neg hnk, nI_clamp (by omega), if_pos ⟨by omega, c127⟩]) (Nat.lt_succ_self _) _ _ _ hP hS (lv_sub hl [0, 1, 2, 3, 4] rfl)
      · have d3 : i < tp.length := Nat.not_le.mp (fun h => c3 (nI_le (a := tp.length) (b := i) h (by omega)))
        refine lv_aload_n C0.1 C0.2.1 dX5_walk_17 rfl (lv_at hl 2 rfl) ?_
        refine md_get C0 hP hM 20 (by decide) kw_497 (v := .ref ((a 20))) rfl dX5_walk_18 ?_
        refine lv_iload_n C0.1 C0.2.1 dX5_walk_21 rfl (lv_at hl 0 rfl) ?_
        refine lv_aload_n C0.1 C0.2.1 dX5_walk_22 rfl (lv_at hl 2 rfl) ?_
        refine md_get C0 hP hM 0 (by decide) kw_477 (v := .ref ((a 0))) rfl dX5_walk_23 ?_
        refine lv_iload_n C0.1 C0.2.1 dX5_walk_26 rfl (lv_at hl 0 rfl) ?_
        refine md_iald C0 hP hM 0 (by decide) (i := i) (by show i < 200; omega) dX5_walk_27 ?_
        refine md_iast C0 hP hS hM hMF 20 (by decide) (i := i) (by show i < 200; omega) dX5_walk_28 (fun w128 F128 H locs hF128 hM hMF hP hS => ?_)
        refine lv_iinc (v := nI (i + 1)) (lv' := [(3, .int (nI (i + 1))), (2, .int (nI tp.length)), (0, .ref o), (1, .int nd0)]) C0.1 C0.2.1 dX5_walk_29 hl (k := 0) rfl (nI_add i 1) (by decide) rfl (fun ls hl => ?_)
        refine lv_goto (tgt := 12) C0.1 C0.2.1 dX5_walk_32 (by decide) ?_
        exact ih12 (i + 1) _ _ (by omega) hM hMF (hs1.wr hF128 (by decide)) (by rw [hF128, uF_s]; exact lt_s (fun q hq => by rw [upd_ne (by omega)]; exact hlo q hq) (by rw [upd_eq, hs1 0 (by decide)]; exact hTp.2.2 i (by omega))) (by omega) _ _ _ hP hS (lv_sub hl [0, 1, 2, 3] rfl)
  exact loop12 (tp.length - 0 + 1) 0 _ _ (Nat.zero_le _) hM hMF SameF.rf (fun q hq => absurd hq (Nat.not_lt_zero q)) (Nat.lt_succ_self _) _ _ _ hP hS (lv_sub hl [0, 1, 2, 3] rfl)
