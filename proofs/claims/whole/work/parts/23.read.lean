set_option maxHeartbeats 4000000 in
set_option maxRecDepth 100000 in
/-- read() -/
theorem c_X5_read (l : Launch) (G : me_G) (B0 : Nat) (w : Me) (o : Nat) (a : Nat → Nat) (F : Nat → Nat → Int32) (z : Nat → Int32) (hM : MD G B0 w o a F z) (Hd : List Int32) (hH : Ls F z 14 15 200 Hd) (ho : Oct Hd) : CtWI l yX5_read (Cond.code yX5_read cX5_read 7 (some .int)) ({ frames := 0, cells := 0, slots := 0, locals := 0 }) G B0 w [.ref o] (fun r w' => ∃ (F' : Nat → Nat → Int32) (z' : Nat → Int32), MD G B0 w' o a F' z' ∧ MF w w' o a ∧ r = wr Hd Hd.length 0 ∧ SameF F F' [16] ∧ SameZ z z' [17] ∧ (wr Hd Hd.length 0 = -1 → Ls F' z' 16 17 200 (pts Hd Hd.length 0))) 0 0 := by
  refine Met.ofW (cc := cX5_read) (maxL := 7) (ret := (some .int)) (by decide) rfl ?_
  intro p e s m args below meth c s₁ B hml hv
  obtain ⟨rfl, hK, hP, hKq, hBs⟩ := hv
  have hts := fun w h => atoms_spec (ws := Cond.code yX5_read cX5_read 7 (some .int) :: tbG) B.pre w (List.mem_cons_of_mem _ h)
  have hown : s.vm.findClass RX5 = some m.cls := findClass_of_methodNamed B.named
  have C0 : Cx G B0 p s m _ c cX5_read RX5 := ⟨B.exec, B.bytes, hown, hts, hK, hKq, hBs⟩
  have hS : va_S (me_A B0) s.heap s.heap [] := va_S.rf
  have hl := lv_entry ([.ref o]) (n := 7) (Nat.le_of_ble_eq_true rfl)
  rw [lg_entry_eq]
  generalize (lg_sl ([.ref o]) ++ List.replicate (7 - (lg_sl ([.ref o])).length) Slot.unset).toArray = ls at hl ⊢
  have hl : lv_has ls 7 [(0, .ref o)] := hl
  have hMF : MF w w o a := MF.rf
  have hHl := hH.2.1
  refine lv_aload_n C0.1 C0.2.1 dX5_read_0 rfl (lv_at hl 0 rfl) ?_
  refine lv_iconst (v := 0) C0.1 C0.2.1 dX5_read_1 (by decide) ?_
  refine md_put C0 hP hS hM hMF 17 (by decide) kw_494 rfl rfl rfl dX5_read_2 (fun w1 z1 H locs hz1 hM hMF hP hS => ?_)
  have hz1_15 : z1 15 = nI Hd.length := by rw [hz1, upd_ne (by decide)]; exact hH.1
  have hz1_17 : z1 17 = 0 := by rw [hz1, upd_eq]
  refine lv_iconst (v := 0) C0.1 C0.2.1 dX5_read_5 (by decide) ?_
  refine lv_istore_n (lv' := [(1, .int 0), (0, .ref o)]) C0.1 C0.2.1 dX5_read_6 rfl hl (by decide) rfl (fun ls hl => ?_)
  have loop7 : ∀ (n : Nat) (b : Nat) (P : List Int32) (w1 : Me) (F1 : Nat → Nat → Int32) (z1 : Nat → Int32), (b ≤ Hd.length) → (MD G B0 w1 o a F1 z1) → (MF w w1 o a) → (SameF F F1 [16]) → (SameZ z z1 [17]) → (Ls F1 z1 16 17 200 P) → (P.length ≤ b) → (wr Hd Hd.length 0 = wr Hd Hd.length b) → (pts Hd Hd.length 0 = P ++ pts Hd Hd.length b) → (Hd.length - b) < n → ∀ (H : Heap) (locs : List Loc), ∀ (ls : Array Slot), me_P G.1 w1 H → va_S (me_A B0) s.heap H locs → lv_has ls 7 [(1, .int (nI b)), (0, .ref o)] → W p l e ({ frames := 0, cells := 0, slots := 0, locals := 0 }) s m ([.ref o] : List Value).toArray below meth c H locs 0 0 (MQ below (va_Qi (fun r w' => ∃ (F' : Nat → Nat → Int32) (z' : Nat → Int32), MD G B0 w' o a F' z' ∧ MF w w' o a ∧ r = wr Hd Hd.length 0 ∧ SameF F F' [16] ∧ SameZ z z' [17] ∧ (wr Hd Hd.length 0 = -1 → Ls F' z' 16 17 200 (pts Hd Hd.length 0))) (me_W G) (me_A B0)) ([.ref o] : List Value).toArray s 0 0 (me_A B0)) (F0 m 7 ls []) := by
    intro n
    induction n with
    | zero => intro b P w1 F1 z1 _ _ _ _ _ _ _ _ _ hz; exact absurd hz (Nat.not_lt_zero _)
    | succ n ih7 =>
      intro b P w1 F1 z1 hbn hM hMF hsF hsZ hPl hPb hwr hpt hn7 H locs ls hP hS hl
      have h15 : z1 15 = nI Hd.length := (hsZ 15 (by decide)).trans hH.1
      have h14 : ∀ i, i < Hd.length → F1 14 i = Hd.getD i 0 := fun i hi => (congrFun (hsF 14 (by decide)) i).trans (hH.2.2 i hi)
      refine lv_iload_n C0.1 C0.2.1 dX5_read_7 rfl (lv_at hl 0 rfl) ?_
      refine lv_aload_n C0.1 C0.2.1 dX5_read_8 rfl (lv_at hl 1 rfl) ?_
      refine md_get C0 hP hM 15 (by decide) kw_492 (v := .int (nI Hd.length)) (by show some (Value.int (z1 15)) = _; rw [h15]) dX5_read_9 ?_
      refine lv_icmp_ge (tgt := 294) C0.1 C0.2.1 dX5_read_12 (by decide) (fun c2 => ?_) (fun c2 => ?_)
      · have d2 : Hd.length ≤ b := (nI_leI (a := Hd.length) (b := b) (by omega) (by omega)).mp c2
        refine lv_iconst (v := (-1)) C0.1 C0.2.1 dX5_read_294 (by decide) ?_
        exact me_wiret _ C0.1 C0.2.1 B.returns B.notSynchronized hP hS (Nat.le_of_ble_eq_true rfl) (Nat.le_of_ble_eq_true rfl) (⟨_, _, hM, hMF, by rw [hwr]; exact (wr_end (by omega)).symm, hsF, hsZ, fun _ => by rw [hpt, pts_end (by omega), List.append_nil]; exact hPl⟩) dX5_read_295
      · have d2 : b < Hd.length := Nat.not_le.mp (fun h => c2 (nI_le (a := Hd.length) (b := b) h (by omega)))
        refine lv_aload_n C0.1 C0.2.1 dX5_read_15 rfl (lv_at hl 1 rfl) ?_
        refine md_get C0 hP hM 14 (by decide) kw_491 (v := .ref ((a 14))) rfl dX5_read_16 ?_
        refine lv_iload_n C0.1 C0.2.1 dX5_read_19 rfl (lv_at hl 0 rfl) ?_
        refine md_iald C0 hP hM 14 (by decide) (i := b) (by show b < 200; omega) dX5_read_20 ?_
        obtain ⟨xb, hx256, hxb⟩ := ho b (by omega)
        refine me_topi (y := nI xb) ((h14 b (by omega)).trans hxb) ?_
        refine lv_istore_n (lv' := [(2, .int (nI xb)), (1, .int (nI b)), (0, .ref o)]) C0.1 C0.2.1 dX5_read_21 rfl hl (by decide) rfl (fun ls hl => ?_)
        refine lv_iload_n C0.1 C0.2.1 dX5_read_22 rfl (lv_at hl 0 rfl) ?_
        refine lv_sipush (v := 128) C0.1 C0.2.1 dX5_read_23 (by decide) ?_
        refine lv_icmp_ge (tgt := 33) C0.1 C0.2.1 dX5_read_26 (by decide) (fun c3 => ?_) (fun c3 => ?_)
        · have d3 : 128 ≤ xb := (nI_leI (a := 128) (b := xb) (by omega) (by omega)).mp c3
          refine lv_iload_n C0.1 C0.2.1 dX5_read_33 rfl (lv_at hl 0 rfl) ?_
          refine lv_sipush (v := 194) C0.1 C0.2.1 dX5_read_34 (by decide) ?_
          refine lv_icmp_lt (tgt := 51) C0.1 C0.2.1 dX5_read_37 (by decide) (fun c4 => ?_) (fun c4 => ?_)
          · have d4 : xb < 194 := (nI_ltI (a := xb) (b := 194) (by omega) (by omega)).mp c4
            refine lv_iload_n C0.1 C0.2.1 dX5_read_51 rfl (lv_at hl 0 rfl) ?_
            refine lv_sipush (v := 224) C0.1 C0.2.1 dX5_read_52 (by decide) ?_
            refine lv_icmp_lt (tgt := 69) C0.1 C0.2.1 dX5_read_55 (by decide) (fun c5 => ?_) (fun c5 => ?_)
            · have d5 : xb < 224 := (nI_ltI (a := xb) (b := 224) (by omega) (by omega)).mp c5
              refine lv_iload_n C0.1 C0.2.1 dX5_read_69 rfl (lv_at hl 0 rfl) ?_
              refine lv_sipush (v := 240) C0.1 C0.2.1 dX5_read_70 (by decide) ?_
              refine lv_icmp_lt (tgt := 87) C0.1 C0.2.1 dX5_read_73 (by decide) (fun c6 => ?_) (fun c6 => ?_)
              · have d6 : xb < 240 := (nI_ltI (a := xb) (b := 240) (by omega) (by omega)).mp c6
                refine lv_iconst (v := (-1)) C0.1 C0.2.1 dX5_read_87 (by decide) ?_
                have hk : octMore (Hd.getD b 0) = -1 := by rw [hxb]; exact om_m xb hx256 (by omega)
                refine lv_istore_n (lv' := [(3, .int ((-1))), (2, .int (nI xb)), (1, .int (nI b)), (0, .ref o)]) C0.1 C0.2.1 dX5_read_88 rfl hl (by decide) rfl (fun ls hl => ?_)
                refine lv_iload_n C0.1 C0.2.1 dX5_read_89 rfl (lv_at hl 0 rfl) ?_
                refine lv_if_lt (tgt := 103) C0.1 C0.2.1 dX5_read_90 (by decide) (fun c => ?_) (fun c => absurd c (by decide))
                refine lv_iload_n C0.1 C0.2.1 dX5_read_103 rfl (lv_at hl 2 rfl) ?_
                exact me_wiret _ C0.1 C0.2.1 B.returns B.notSynchronized hP hS (Nat.le_of_ble_eq_true rfl) (Nat.le_of_ble_eq_true rfl) (⟨_, _, hM, hMF, by rw [hwr]; exact (wr_bad (by omega) (ref_m1 hk)).symm, hsF, hsZ, fun h => absurd h (by rw [hwr, wr_bad (by omega) (ref_m1 hk)]; exact nI_m1 (by omega))⟩) dX5_read_104
              · have d6 : 240 ≤ xb := Nat.not_lt.mp (fun h => c6 (nI_lt (a := xb) (b := 240) h (by omega)))
                refine lv_iload_n C0.1 C0.2.1 dX5_read_76 rfl (lv_at hl 0 rfl) ?_
                refine lv_sipush (v := 244) C0.1 C0.2.1 dX5_read_77 (by decide) ?_
                refine lv_icmp_gt (tgt := 87) C0.1 C0.2.1 dX5_read_80 (by decide) (fun c8 => ?_) (fun c8 => ?_)
                · have d8 : 244 < xb := (nI_ltI (a := 244) (b := xb) (by omega) (by omega)).mp c8
                  refine lv_iconst (v := (-1)) C0.1 C0.2.1 dX5_read_87 (by decide) ?_
                  have hk : octMore (Hd.getD b 0) = -1 := by rw [hxb]; exact om_m xb hx256 (by omega)
                  refine lv_istore_n (lv' := [(3, .int ((-1))), (2, .int (nI xb)), (1, .int (nI b)), (0, .ref o)]) C0.1 C0.2.1 dX5_read_88 rfl hl (by decide) rfl (fun ls hl => ?_)
                  refine lv_iload_n C0.1 C0.2.1 dX5_read_89 rfl (lv_at hl 0 rfl) ?_
                  refine lv_if_lt (tgt := 103) C0.1 C0.2.1 dX5_read_90 (by decide) (fun c => ?_) (fun c => absurd c (by decide))
                  refine lv_iload_n C0.1 C0.2.1 dX5_read_103 rfl (lv_at hl 2 rfl) ?_
                  exact me_wiret _ C0.1 C0.2.1 B.returns B.notSynchronized hP hS (Nat.le_of_ble_eq_true rfl) (Nat.le_of_ble_eq_true rfl) (⟨_, _, hM, hMF, by rw [hwr]; exact (wr_bad (by omega) (ref_m1 hk)).symm, hsF, hsZ, fun h => absurd h (by rw [hwr, wr_bad (by omega) (ref_m1 hk)]; exact nI_m1 (by omega))⟩) dX5_read_104
                · have d8 : xb ≤ 244 := Nat.not_lt.mp (fun h => c8 (nI_lt (a := 244) (b := xb) h (by omega)))
                  refine lv_iconst (v := 3) C0.1 C0.2.1 dX5_read_83 (by decide) ?_
                  refine lv_goto (tgt := 88) C0.1 C0.2.1 dX5_read_84 (by decide) ?_
                  have hk : octMore (Hd.getD b 0) = nI 3 := by rw [hxb]; exact om_3 xb hx256 (by omega)
                  refine lv_istore_n (lv' := [(3, .int 3), (2, .int (nI xb)), (1, .int (nI b)), (0, .ref o)]) C0.1 C0.2.1 dX5_read_88 rfl hl (by decide) rfl (fun ls hl => ?_)
                  refine lv_iload_n C0.1 C0.2.1 dX5_read_89 rfl (lv_at hl 0 rfl) ?_
                  refine lv_if_lt (tgt := 103) C0.1 C0.2.1 dX5_read_90 (by decide) (fun c => absurd c (by decide)) (fun c => ?_)
                  refine lv_iload_n C0.1 C0.2.1 dX5_read_93 rfl (lv_at hl 2 rfl) ?_
                  refine lv_iload_n C0.1 C0.2.1 dX5_read_94 rfl (lv_at hl 0 rfl) ?_
                  refine lv_iadd C0.1 C0.2.1 dX5_read_95 ?_
                  refine me_topi (y := nI (b + 3)) (nI_add b 3) ?_
                  refine lv_aload_n C0.1 C0.2.1 dX5_read_96 rfl (lv_at hl 3 rfl) ?_
                  refine md_get C0 hP hM 15 (by decide) kw_492 (v := .int (nI Hd.length)) (by show some (Value.int (z1 15)) = _; rw [h15]) dX5_read_97 ?_
                  refine lv_icmp_lt (tgt := 105) C0.1 C0.2.1 dX5_read_100 (by decide) (fun c11 => ?_) (fun c11 => ?_)
                  · have d11 : (b + 3) < Hd.length := (nI_ltI (a := (b + 3)) (b := Hd.length) (by omega) (by omega)).mp c11
                    refine lv_iload_n C0.1 C0.2.1 dX5_read_105 rfl (lv_at hl 0 rfl) ?_
                    refine lv_if_ne (tgt := 113) C0.1 C0.2.1 dX5_read_106 (by decide) (fun c => ?_) (fun c => absurd c (by decide))
                    refine lv_iload_n C0.1 C0.2.1 dX5_read_113 rfl (lv_at hl 0 rfl) ?_
                    refine lv_iconst (v := 1) C0.1 C0.2.1 dX5_read_114 (by decide) ?_
                    refine lv_icmp_ne (tgt := 125) C0.1 C0.2.1 dX5_read_115 (by decide) (fun c => ?_) (fun c => absurd c (by decide))
                    refine lv_iload_n C0.1 C0.2.1 dX5_read_125 rfl (lv_at hl 0 rfl) ?_
                    refine lv_iconst (v := 2) C0.1 C0.2.1 dX5_read_126 (by decide) ?_
                    refine lv_icmp_ne (tgt := 137) C0.1 C0.2.1 dX5_read_127 (by decide) (fun c => ?_) (fun c => absurd c (by decide))
                    refine lv_iload_n C0.1 C0.2.1 dX5_read_137 rfl (lv_at hl 1 rfl) ?_
                    refine lv_bipush (v := 7) C0.1 C0.2.1 dX5_read_138 (by decide) ?_
                    refine lv_iand C0.1 C0.2.1 dX5_read_140 ?_
                    have hv0 : hd (Hd.getD b 0) 3 = (nI xb) &&& 7 := by rw [hxb]; unfold hd; rw [if_neg (by decide), show (63 : Int32) >>> (nI 3 &&& 31) = 7 by decide]
                    refine lv_istore (lv' := [(4, .int ((nI xb) &&& 7)), (3, .int 3), (2, .int (nI xb)), (1, .int (nI b)), (0, .ref o)]) C0.1 C0.2.1 dX5_read_141 hl (by decide) rfl (fun ls hl => ?_)
                    refine lv_iconst (v := 1) C0.1 C0.2.1 dX5_read_143 (by decide) ?_
                    refine lv_istore (lv' := [(5, .int 1), (4, .int ((nI xb) &&& 7)), (3, .int 3), (2, .int (nI xb)), (1, .int (nI b)), (0, .ref o)]) C0.1 C0.2.1 dX5_read_144 hl (by decide) rfl (fun ls hl => ?_)
                    refine lv_iload C0.1 C0.2.1 dX5_read_146 (lv_at hl 0 rfl) ?_
                    refine lv_iload_n C0.1 C0.2.1 dX5_read_148 rfl (lv_at hl 2 rfl) ?_
                    refine lv_icmp_gt (tgt := 200) C0.1 C0.2.1 dX5_read_149 (by decide) (fun c => absurd c (by decide)) (fun c => ?_)
                    refine lv_aload_n C0.1 C0.2.1 dX5_read_152 rfl (lv_at hl 5 rfl) ?_
                    refine md_get C0 hP hM 14 (by decide) kw_491 (v := .ref ((a 14))) rfl dX5_read_153 ?_
                    refine lv_iload_n C0.1 C0.2.1 dX5_read_156 rfl (lv_at hl 4 rfl) ?_
                    refine lv_iload C0.1 C0.2.1 dX5_read_157 (lv_at hl 0 rfl) ?_
                    refine lv_iadd C0.1 C0.2.1 dX5_read_159 ?_
                    refine me_topi (y := nI (b + 1)) (nI_add b 1) ?_
                    refine md_iald C0 hP hM 14 (by decide) (i := (b + 1)) (by show (b + 1) < 200; omega) dX5_read_160 ?_
                    refine me_topi (y := Hd.getD (b + 1) 0) (h14 (b + 1) (by omega)) ?_
                    refine lv_istore (lv' := [(6, .int (Hd.getD (b + 1) 0)), (5, .int 1), (4, .int ((nI xb) &&& 7)), (3, .int 3), (2, .int (nI xb)), (1, .int (nI b)), (0, .ref o)]) C0.1 C0.2.1 dX5_read_161 hl (by decide) rfl (fun ls hl => ?_)
                    refine lv_iload C0.1 C0.2.1 dX5_read_163 (lv_at hl 0 rfl) ?_
                    refine lv_sipush (v := 128) C0.1 C0.2.1 dX5_read_165 (by decide) ?_
                    refine lv_icmp_lt (tgt := 179) C0.1 C0.2.1 dX5_read_168 (by decide) (fun c16 => ?_) (fun c16 => ?_)
                    · refine lv_iload_n C0.1 C0.2.1 dX5_read_179 rfl (lv_at hl 5 rfl) ?_
                      exact me_wiret _ C0.1 C0.2.1 B.returns B.notSynchronized hP hS (Nat.le_of_ble_eq_true rfl) (Nat.le_of_ble_eq_true rfl) (⟨_, _, hM, hMF, by rw [hwr]; exact (wr_bad (by omega) (ref_no hk (by omega) (Or.inr (by rw [hv0, conts_s (by omega), if_pos c16])))).symm, hsF, hsZ, fun h => absurd h (by rw [hwr, wr_bad (by omega) (ref_no hk (by omega) (Or.inr (by rw [hv0, conts_s (by omega), if_pos c16])))]; exact nI_m1 (by omega))⟩) dX5_read_180
                    · refine lv_iload C0.1 C0.2.1 dX5_read_171 (lv_at hl 0 rfl) ?_
                      refine lv_sipush (v := 191) C0.1 C0.2.1 dX5_read_173 (by decide) ?_
                      refine lv_icmp_le (tgt := 181) C0.1 C0.2.1 dX5_read_176 (by decide) (fun c17 => ?_) (fun c17 => ?_)
                      · refine lv_iload C0.1 C0.2.1 dX5_read_181 (lv_at hl 2 rfl) ?_
                        refine lv_bipush (v := 6) C0.1 C0.2.1 dX5_read_183 (by decide) ?_
                        refine lv_ishl C0.1 C0.2.1 dX5_read_185 ?_
                        refine lv_iload C0.1 C0.2.1 dX5_read_186 (lv_at hl 0 rfl) ?_
                        refine lv_bipush (v := 63) C0.1 C0.2.1 dX5_read_188 (by decide) ?_
                        refine lv_iand C0.1 C0.2.1 dX5_read_190 ?_
                        refine lv_ior C0.1 C0.2.1 dX5_read_191 ?_
                        refine lv_istore (lv' := [(4, .int ((((nI xb) &&& 7) <<< (6 &&& 31)) ||| ((Hd.getD (b + 1) 0) &&& 63))), (6, .int (Hd.getD (b + 1) 0)), (5, .int 1), (3, .int 3), (2, .int (nI xb)), (1, .int (nI b)), (0, .ref o)]) C0.1 C0.2.1 dX5_read_192 hl (by decide) rfl (fun ls hl => ?_)
                        refine lv_iinc (v := 2) (lv' := [(5, .int 2), (4, .int ((((nI xb) &&& 7) <<< (6 &&& 31)) ||| ((Hd.getD (b + 1) 0) &&& 63))), (6, .int (Hd.getD (b + 1) 0)), (3, .int 3), (2, .int (nI xb)), (1, .int (nI b)), (0, .ref o)]) C0.1 C0.2.1 dX5_read_194 hl (k := 2) rfl rfl (by decide) rfl (fun ls hl => ?_)
                        refine lv_goto (tgt := 146) C0.1 C0.2.1 dX5_read_197 (by decide) ?_
                        refine lv_iload C0.1 C0.2.1 dX5_read_146 (lv_at hl 0 rfl) ?_
                        refine lv_iload_n C0.1 C0.2.1 dX5_read_148 rfl (lv_at hl 3 rfl) ?_
                        refine lv_icmp_gt (tgt := 200) C0.1 C0.2.1 dX5_read_149 (by decide) (fun c => absurd c (by decide)) (fun c => ?_)
                        refine lv_aload_n C0.1 C0.2.1 dX5_read_152 rfl (lv_at hl 6 rfl) ?_
                        refine md_get C0 hP hM 14 (by decide) kw_491 (v := .ref ((a 14))) rfl dX5_read_153 ?_
                        refine lv_iload_n C0.1 C0.2.1 dX5_read_156 rfl (lv_at hl 5 rfl) ?_
                        refine lv_iload C0.1 C0.2.1 dX5_read_157 (lv_at hl 0 rfl) ?_
                        refine lv_iadd C0.1 C0.2.1 dX5_read_159 ?_
                        refine me_topi (y := nI (b + 2)) (nI_add b 2) ?_
                        refine md_iald C0 hP hM 14 (by decide) (i := (b + 2)) (by show (b + 2) < 200; omega) dX5_read_160 ?_
                        refine me_topi (y := Hd.getD (b + 2) 0) (h14 (b + 2) (by omega)) ?_
                        refine lv_istore (lv' := [(6, .int (Hd.getD (b + 2) 0)), (5, .int 2), (4, .int ((((nI xb) &&& 7) <<< (6 &&& 31)) ||| ((Hd.getD (b + 1) 0) &&& 63))), (3, .int 3), (2, .int (nI xb)), (1, .int (nI b)), (0, .ref o)]) C0.1 C0.2.1 dX5_read_161 hl (by decide) rfl (fun ls hl => ?_)
                        refine lv_iload C0.1 C0.2.1 dX5_read_163 (lv_at hl 0 rfl) ?_
                        refine lv_sipush (v := 128) C0.1 C0.2.1 dX5_read_165 (by decide) ?_
                        refine lv_icmp_lt (tgt := 179) C0.1 C0.2.1 dX5_read_168 (by decide) (fun c19 => ?_) (fun c19 => ?_)
                        · refine lv_iload_n C0.1 C0.2.1 dX5_read_179 rfl (lv_at hl 5 rfl) ?_
                          exact me_wiret _ C0.1 C0.2.1 B.returns B.notSynchronized hP hS (Nat.le_of_ble_eq_true rfl) (Nat.le_of_ble_eq_true rfl) (⟨_, _, hM, hMF, by rw [hwr]; exact (wr_bad (by omega) (ref_no hk (by omega) (Or.inr (by rw [hv0, conts_s (by omega), if_neg c16, if_pos c17, conts_s (by omega), if_pos c19])))).symm, hsF, hsZ, fun h => absurd h (by rw [hwr, wr_bad (by omega) (ref_no hk (by omega) (Or.inr (by rw [hv0, conts_s (by omega), if_neg c16, if_pos c17, conts_s (by omega), if_pos c19])))]; exact nI_m1 (by omega))⟩) dX5_read_180
                        · refine lv_iload C0.1 C0.2.1 dX5_read_171 (lv_at hl 0 rfl) ?_
                          refine lv_sipush (v := 191) C0.1 C0.2.1 dX5_read_173 (by decide) ?_
                          refine lv_icmp_le (tgt := 181) C0.1 C0.2.1 dX5_read_176 (by decide) (fun c20 => ?_) (fun c20 => ?_)
                          · refine lv_iload C0.1 C0.2.1 dX5_read_181 (lv_at hl 2 rfl) ?_
                            refine lv_bipush (v := 6) C0.1 C0.2.1 dX5_read_183 (by decide) ?_
                            refine lv_ishl C0.1 C0.2.1 dX5_read_185 ?_
                            refine lv_iload C0.1 C0.2.1 dX5_read_186 (lv_at hl 0 rfl) ?_
                            refine lv_bipush (v := 63) C0.1 C0.2.1 dX5_read_188 (by decide) ?_
                            refine lv_iand C0.1 C0.2.1 dX5_read_190 ?_
                            refine lv_ior C0.1 C0.2.1 dX5_read_191 ?_
                            refine lv_istore (lv' := [(4, .int ((((((nI xb) &&& 7) <<< (6 &&& 31)) ||| ((Hd.getD (b + 1) 0) &&& 63)) <<< (6 &&& 31)) ||| ((Hd.getD (b + 2) 0) &&& 63))), (6, .int (Hd.getD (b + 2) 0)), (5, .int 2), (3, .int 3), (2, .int (nI xb)), (1, .int (nI b)), (0, .ref o)]) C0.1 C0.2.1 dX5_read_192 hl (by decide) rfl (fun ls hl => ?_)
                            refine lv_iinc (v := 3) (lv' := [(5, .int 3), (4, .int ((((((nI xb) &&& 7) <<< (6 &&& 31)) ||| ((Hd.getD (b + 1) 0) &&& 63)) <<< (6 &&& 31)) ||| ((Hd.getD (b + 2) 0) &&& 63))), (6, .int (Hd.getD (b + 2) 0)), (3, .int 3), (2, .int (nI xb)), (1, .int (nI b)), (0, .ref o)]) C0.1 C0.2.1 dX5_read_194 hl (k := 2) rfl rfl (by decide) rfl (fun ls hl => ?_)
                            refine lv_goto (tgt := 146) C0.1 C0.2.1 dX5_read_197 (by decide) ?_
                            refine lv_iload C0.1 C0.2.1 dX5_read_146 (lv_at hl 0 rfl) ?_
                            refine lv_iload_n C0.1 C0.2.1 dX5_read_148 rfl (lv_at hl 3 rfl) ?_
                            refine lv_icmp_gt (tgt := 200) C0.1 C0.2.1 dX5_read_149 (by decide) (fun c => absurd c (by decide)) (fun c => ?_)
                            refine lv_aload_n C0.1 C0.2.1 dX5_read_152 rfl (lv_at hl 6 rfl) ?_
                            refine md_get C0 hP hM 14 (by decide) kw_491 (v := .ref ((a 14))) rfl dX5_read_153 ?_
                            refine lv_iload_n C0.1 C0.2.1 dX5_read_156 rfl (lv_at hl 5 rfl) ?_
                            refine lv_iload C0.1 C0.2.1 dX5_read_157 (lv_at hl 0 rfl) ?_
                            refine lv_iadd C0.1 C0.2.1 dX5_read_159 ?_
                            refine me_topi (y := nI (b + 3)) (nI_add b 3) ?_
                            refine md_iald C0 hP hM 14 (by decide) (i := (b + 3)) (by show (b + 3) < 200; omega) dX5_read_160 ?_
                            refine me_topi (y := Hd.getD (b + 3) 0) (h14 (b + 3) (by omega)) ?_
                            refine lv_istore (lv' := [(6, .int (Hd.getD (b + 3) 0)), (5, .int 3), (4, .int ((((((nI xb) &&& 7) <<< (6 &&& 31)) ||| ((Hd.getD (b + 1) 0) &&& 63)) <<< (6 &&& 31)) ||| ((Hd.getD (b + 2) 0) &&& 63))), (3, .int 3), (2, .int (nI xb)), (1, .int (nI b)), (0, .ref o)]) C0.1 C0.2.1 dX5_read_161 hl (by decide) rfl (fun ls hl => ?_)
                            refine lv_iload C0.1 C0.2.1 dX5_read_163 (lv_at hl 0 rfl) ?_
                            refine lv_sipush (v := 128) C0.1 C0.2.1 dX5_read_165 (by decide) ?_
                            refine lv_icmp_lt (tgt := 179) C0.1 C0.2.1 dX5_read_168 (by decide) (fun c22 => ?_) (fun c22 => ?_)
                            · refine lv_iload_n C0.1 C0.2.1 dX5_read_179 rfl (lv_at hl 5 rfl) ?_
                              exact me_wiret _ C0.1 C0.2.1 B.returns B.notSynchronized hP hS (Nat.le_of_ble_eq_true rfl) (Nat.le_of_ble_eq_true rfl) (⟨_, _, hM, hMF, by rw [hwr]; exact (wr_bad (by omega) (ref_no hk (by omega) (Or.inr (by rw [hv0, conts_s (by omega), if_neg c16, if_pos c17, conts_s (by omega), if_neg c19, if_pos c20, conts_s (by omega), if_pos c22])))).symm, hsF, hsZ, fun h => absurd h (by rw [hwr, wr_bad (by omega) (ref_no hk (by omega) (Or.inr (by rw [hv0, conts_s (by omega), if_neg c16, if_pos c17, conts_s (by omega), if_neg c19, if_pos c20, conts_s (by omega), if_pos c22])))]; exact nI_m1 (by omega))⟩) dX5_read_180
                            · refine lv_iload C0.1 C0.2.1 dX5_read_171 (lv_at hl 0 rfl) ?_
                              refine lv_sipush (v := 191) C0.1 C0.2.1 dX5_read_173 (by decide) ?_
                              refine lv_icmp_le (tgt := 181) C0.1 C0.2.1 dX5_read_176 (by decide) (fun c23 => ?_) (fun c23 => ?_)
                              · refine lv_iload C0.1 C0.2.1 dX5_read_181 (lv_at hl 2 rfl) ?_
                                refine lv_bipush (v := 6) C0.1 C0.2.1 dX5_read_183 (by decide) ?_
                                refine lv_ishl C0.1 C0.2.1 dX5_read_185 ?_
                                refine lv_iload C0.1 C0.2.1 dX5_read_186 (lv_at hl 0 rfl) ?_
                                refine lv_bipush (v := 63) C0.1 C0.2.1 dX5_read_188 (by decide) ?_
                                refine lv_iand C0.1 C0.2.1 dX5_read_190 ?_
                                refine lv_ior C0.1 C0.2.1 dX5_read_191 ?_
                                refine lv_istore (lv' := [(4, .int ((((((((nI xb) &&& 7) <<< (6 &&& 31)) ||| ((Hd.getD (b + 1) 0) &&& 63)) <<< (6 &&& 31)) ||| ((Hd.getD (b + 2) 0) &&& 63)) <<< (6 &&& 31)) ||| ((Hd.getD (b + 3) 0) &&& 63))), (6, .int (Hd.getD (b + 3) 0)), (5, .int 3), (3, .int 3), (2, .int (nI xb)), (1, .int (nI b)), (0, .ref o)]) C0.1 C0.2.1 dX5_read_192 hl (by decide) rfl (fun ls hl => ?_)
                                refine lv_iinc (v := 4) (lv' := [(5, .int 4), (4, .int ((((((((nI xb) &&& 7) <<< (6 &&& 31)) ||| ((Hd.getD (b + 1) 0) &&& 63)) <<< (6 &&& 31)) ||| ((Hd.getD (b + 2) 0) &&& 63)) <<< (6 &&& 31)) ||| ((Hd.getD (b + 3) 0) &&& 63))), (6, .int (Hd.getD (b + 3) 0)), (3, .int 3), (2, .int (nI xb)), (1, .int (nI b)), (0, .ref o)]) C0.1 C0.2.1 dX5_read_194 hl (k := 2) rfl rfl (by decide) rfl (fun ls hl => ?_)
                                refine lv_goto (tgt := 146) C0.1 C0.2.1 dX5_read_197 (by decide) ?_
                                refine lv_iload C0.1 C0.2.1 dX5_read_146 (lv_at hl 0 rfl) ?_
                                refine lv_iload_n C0.1 C0.2.1 dX5_read_148 rfl (lv_at hl 3 rfl) ?_
                                refine lv_icmp_gt (tgt := 200) C0.1 C0.2.1 dX5_read_149 (by decide) (fun c => ?_) (fun c => absurd c (by decide))
                                refine lv_iload_n C0.1 C0.2.1 dX5_read_200 rfl (lv_at hl 3 rfl) ?_
                                refine lv_if_ne (tgt := 208) C0.1 C0.2.1 dX5_read_201 (by decide) (fun c => ?_) (fun c => absurd c (by decide))
                                refine lv_iload_n C0.1 C0.2.1 dX5_read_208 rfl (lv_at hl 3 rfl) ?_
                                refine lv_iconst (v := 1) C0.1 C0.2.1 dX5_read_209 (by decide) ?_
                                refine lv_icmp_ne (tgt := 219) C0.1 C0.2.1 dX5_read_210 (by decide) (fun c => ?_) (fun c => absurd c (by decide))
                                refine lv_iload_n C0.1 C0.2.1 dX5_read_219 rfl (lv_at hl 3 rfl) ?_
                                refine lv_iconst (v := 2) C0.1 C0.2.1 dX5_read_220 (by decide) ?_
                                refine lv_icmp_ne (tgt := 230) C0.1 C0.2.1 dX5_read_221 (by decide) (fun c => ?_) (fun c => absurd c (by decide))
                                refine lv_ldc (v := 65536) C0.1 C0.2.1 C0.2.2.1 (C0.2.2.2.1 _ kw_563) dX5_read_230 ?_
                                refine lv_istore (lv' := [(5, .int 65536), (4, .int ((((((((nI xb) &&& 7) <<< (6 &&& 31)) ||| ((Hd.getD (b + 1) 0) &&& 63)) <<< (6 &&& 31)) ||| ((Hd.getD (b + 2) 0) &&& 63)) <<< (6 &&& 31)) ||| ((Hd.getD (b + 3) 0) &&& 63))), (6, .int (Hd.getD (b + 3) 0)), (3, .int 3), (2, .int (nI xb)), (1, .int (nI b)), (0, .ref o)]) C0.1 C0.2.1 dX5_read_232 hl (by decide) rfl (fun ls hl => ?_)
                                refine lv_iload C0.1 C0.2.1 dX5_read_234 (lv_at hl 1 rfl) ?_
                                refine lv_iload C0.1 C0.2.1 dX5_read_236 (lv_at hl 0 rfl) ?_
                                refine lv_icmp_lt (tgt := 262) C0.1 C0.2.1 dX5_read_238 (by decide) (fun c28 => ?_) (fun c28 => ?_)
                                · refine lv_iload_n C0.1 C0.2.1 dX5_read_262 rfl (lv_at hl 5 rfl) ?_
                                  exact me_wiret _ C0.1 C0.2.1 B.returns B.notSynchronized hP hS (Nat.le_of_ble_eq_true rfl) (Nat.le_of_ble_eq_true rfl) (⟨_, _, hM, hMF, by rw [hwr]; exact (wr_bad (by omega) ((ref_pt ho rfl (by omega) hk (by omega) (fun h => absurd h (by decide)) (by omega) (v := (((((((nI xb) &&& 7) <<< (6 &&& 31)) ||| ((Hd.getD (b + 1) 0) &&& 63)) <<< (6 &&& 31)) ||| ((Hd.getD (b + 2) 0) &&& 63)) <<< (6 &&& 31)) ||| ((Hd.getD (b + 3) 0) &&& 63)) (by rw [hv0, conts_s (by omega), if_neg c16, if_pos c17, conts_s (by omega), if_neg c19, if_pos c20, conts_s (by omega), if_neg c22, if_pos c23, conts_0])).1 (Or.inl c28))).symm, hsF, hsZ, fun h => absurd h (by rw [hwr, wr_bad (by omega) ((ref_pt ho rfl (by omega) hk (by omega) (fun h => absurd h (by decide)) (by omega) (v := (((((((nI xb) &&& 7) <<< (6 &&& 31)) ||| ((Hd.getD (b + 1) 0) &&& 63)) <<< (6 &&& 31)) ||| ((Hd.getD (b + 2) 0) &&& 63)) <<< (6 &&& 31)) ||| ((Hd.getD (b + 3) 0) &&& 63)) (by rw [hv0, conts_s (by omega), if_neg c16, if_pos c17, conts_s (by omega), if_neg c19, if_pos c20, conts_s (by omega), if_neg c22, if_pos c23, conts_0])).1 (Or.inl c28))]; exact nI_m1 (by omega))⟩) dX5_read_263
                                · refine lv_iload C0.1 C0.2.1 dX5_read_241 (lv_at hl 1 rfl) ?_
                                  refine lv_ldc (v := 1114111) C0.1 C0.2.1 C0.2.2.1 (C0.2.2.2.1 _ kw_564) dX5_read_243 ?_
                                  refine lv_icmp_gt (tgt := 262) C0.1 C0.2.1 dX5_read_245 (by decide) (fun c29 => ?_) (fun c29 => ?_)
                                  · refine lv_iload_n C0.1 C0.2.1 dX5_read_262 rfl (lv_at hl 5 rfl) ?_
                                    exact me_wiret _ C0.1 C0.2.1 B.returns B.notSynchronized hP hS (Nat.le_of_ble_eq_true rfl) (Nat.le_of_ble_eq_true rfl) (⟨_, _, hM, hMF, by rw [hwr]; exact (wr_bad (by omega) ((ref_pt ho rfl (by omega) hk (by omega) (fun h => absurd h (by decide)) (by omega) (v := (((((((nI xb) &&& 7) <<< (6 &&& 31)) ||| ((Hd.getD (b + 1) 0) &&& 63)) <<< (6 &&& 31)) ||| ((Hd.getD (b + 2) 0) &&& 63)) <<< (6 &&& 31)) ||| ((Hd.getD (b + 3) 0) &&& 63)) (by rw [hv0, conts_s (by omega), if_neg c16, if_pos c17, conts_s (by omega), if_neg c19, if_pos c20, conts_s (by omega), if_neg c22, if_pos c23, conts_0])).1 (Or.inr (Or.inl c29)))).symm, hsF, hsZ, fun h => absurd h (by rw [hwr, wr_bad (by omega) ((ref_pt ho rfl (by omega) hk (by omega) (fun h => absurd h (by decide)) (by omega) (v := (((((((nI xb) &&& 7) <<< (6 &&& 31)) ||| ((Hd.getD (b + 1) 0) &&& 63)) <<< (6 &&& 31)) ||| ((Hd.getD (b + 2) 0) &&& 63)) <<< (6 &&& 31)) ||| ((Hd.getD (b + 3) 0) &&& 63)) (by rw [hv0, conts_s (by omega), if_neg c16, if_pos c17, conts_s (by omega), if_neg c19, if_pos c20, conts_s (by omega), if_neg c22, if_pos c23, conts_0])).1 (Or.inr (Or.inl c29)))]; exact nI_m1 (by omega))⟩) dX5_read_263
                                  · refine lv_iload C0.1 C0.2.1 dX5_read_248 (lv_at hl 1 rfl) ?_
                                    refine lv_ldc (v := 55296) C0.1 C0.2.1 C0.2.2.1 (C0.2.2.2.1 _ kw_565) dX5_read_250 ?_
                                    refine lv_icmp_lt (tgt := 264) C0.1 C0.2.1 dX5_read_252 (by decide) (fun c30 => ?_) (fun c30 => ?_)
                                    · obtain ⟨hp1, hp2, hp3⟩ := (ref_pt ho rfl (by omega) hk (by omega) (fun h => absurd h (by decide)) (by omega) (v := (((((((nI xb) &&& 7) <<< (6 &&& 31)) ||| ((Hd.getD (b + 1) 0) &&& 63)) <<< (6 &&& 31)) ||| ((Hd.getD (b + 2) 0) &&& 63)) <<< (6 &&& 31)) ||| ((Hd.getD (b + 3) 0) &&& 63)) (by rw [hv0, conts_s (by omega), if_neg c16, if_pos c17, conts_s (by omega), if_neg c19, if_pos c20, conts_s (by omega), if_neg c22, if_pos c23, conts_0])).2 (fun h => h.elim (fun h => c28 h) (fun h => h.elim (fun h => c29 h) (fun h => h.1 c30)))
                                      have hp3 : ¬ ptC Hd b Hd.length = -1 := hp1 ▸ hp3
                                      refine lv_aload_n C0.1 C0.2.1 dX5_read_264 rfl (lv_at hl 6 rfl) ?_
                                      refine md_get C0 hP hM 16 (by decide) kw_493 (v := .ref ((a 16))) rfl dX5_read_265 ?_
                                      refine lv_aload_n C0.1 C0.2.1 dX5_read_268 rfl (lv_at hl 6 rfl) ?_
                                      refine md_get C0 hP hM 17 (by decide) kw_494 (v := .int (nI P.length)) (by show some (Value.int (z1 17)) = _; rw [hPl.1]) dX5_read_269 ?_
                                      refine lv_iload C0.1 C0.2.1 dX5_read_272 (lv_at hl 1 rfl) ?_
                                      refine md_iast C0 hP hS hM hMF 16 (by decide) (i := P.length) (by show P.length < 200; omega) dX5_read_274 (fun w31 F31 H locs hF31 hM hMF hP hS => ?_)
                                      refine lv_aload_n C0.1 C0.2.1 dX5_read_275 rfl (lv_at hl 6 rfl) ?_
                                      refine lv_dup C0.1 C0.2.1 dX5_read_276 rfl ?_
                                      refine md_get C0 hP hM 17 (by decide) kw_494 (v := .int (nI P.length)) (by show some (Value.int (z1 17)) = _; rw [hPl.1]) dX5_read_277 ?_
                                      refine lv_iconst (v := 1) C0.1 C0.2.1 dX5_read_280 (by decide) ?_
                                      refine lv_iadd C0.1 C0.2.1 dX5_read_281 ?_
                                      refine me_topi (y := nI (P.length + 1)) (nI_add P.length 1) ?_
                                      refine md_put C0 hP hS hM hMF 17 (by decide) kw_494 rfl rfl rfl dX5_read_282 (fun w32 z32 H locs hz32 hM hMF hP hS => ?_)
                                      have hz32_15 : z32 15 = nI Hd.length := by rw [hz32, upd_ne (by decide)]; exact h15
                                      have hz32_17 : z32 17 = nI (P.length + 1) := by rw [hz32, upd_eq]
                                      refine lv_iload_n C0.1 C0.2.1 dX5_read_285 rfl (lv_at hl 5 rfl) ?_
                                      refine lv_iload_n C0.1 C0.2.1 dX5_read_286 rfl (lv_at hl 3 rfl) ?_
                                      refine lv_iconst (v := 1) C0.1 C0.2.1 dX5_read_287 (by decide) ?_
                                      refine lv_iadd C0.1 C0.2.1 dX5_read_288 ?_
                                      refine me_topi (y := nI (3 + 1)) (nI_add 3 1) ?_
                                      refine lv_iadd C0.1 C0.2.1 dX5_read_289 ?_
                                      refine me_topi (y := nI (b + (3 + 1))) (nI_add b (3 + 1)) ?_
                                      refine lv_istore_n (lv' := [(1, .int (nI (b + (3 + 1)))), (5, .int 65536), (4, .int ((((((((nI xb) &&& 7) <<< (6 &&& 31)) ||| ((Hd.getD (b + 1) 0) &&& 63)) <<< (6 &&& 31)) ||| ((Hd.getD (b + 2) 0) &&& 63)) <<< (6 &&& 31)) ||| ((Hd.getD (b + 3) 0) &&& 63))), (6, .int (Hd.getD (b + 3) 0)), (3, .int 3), (2, .int (nI xb)), (0, .ref o)]) C0.1 C0.2.1 dX5_read_290 rfl hl (by decide) rfl (fun ls hl => ?_)
                                      refine lv_goto (tgt := 7) C0.1 C0.2.1 dX5_read_291 (by decide) ?_
                                      exact ih7 (b + (3 + 1)) (P ++ [(((((((nI xb) &&& 7) <<< (6 &&& 31)) ||| ((Hd.getD (b + 1) 0) &&& 63)) <<< (6 &&& 31)) ||| ((Hd.getD (b + 2) 0) &&& 63)) <<< (6 &&& 31)) ||| ((Hd.getD (b + 3) 0) &&& 63)]) _ _ _ (by omega) hM hMF (hsF.wr hF31 (by decide)) (hsZ.wr hz32 (by decide)) (hPl.put hF31 hz32_17 (by omega)) (by simp; omega) (by rw [hwr]; exact wr_go (by omega) hp3 (hp1 ▸ hp2) (by omega)) (by rw [hpt, pts_go (by omega) hp3 (hp1 ▸ hp2) (by omega), hp1, List.append_assoc]; rfl) (by omega) _ _ _ hP hS (lv_sub hl [0, 6] rfl)
                                    · refine lv_iload C0.1 C0.2.1 dX5_read_255 (lv_at hl 1 rfl) ?_
                                      refine lv_ldc (v := 57343) C0.1 C0.2.1 C0.2.2.1 (C0.2.2.2.1 _ kw_566) dX5_read_257 ?_
                                      refine lv_icmp_gt (tgt := 264) C0.1 C0.2.1 dX5_read_259 (by decide) (fun c33 => ?_) (fun c33 => ?_)
                                      · obtain ⟨hp1, hp2, hp3⟩ := (ref_pt ho rfl (by omega) hk (by omega) (fun h => absurd h (by decide)) (by omega) (v := (((((((nI xb) &&& 7) <<< (6 &&& 31)) ||| ((Hd.getD (b + 1) 0) &&& 63)) <<< (6 &&& 31)) ||| ((Hd.getD (b + 2) 0) &&& 63)) <<< (6 &&& 31)) ||| ((Hd.getD (b + 3) 0) &&& 63)) (by rw [hv0, conts_s (by omega), if_neg c16, if_pos c17, conts_s (by omega), if_neg c19, if_pos c20, conts_s (by omega), if_neg c22, if_pos c23, conts_0])).2 (fun h => h.elim (fun h => c28 h) (fun h => h.elim (fun h => c29 h) (fun h => h.2 c33)))
                                        have hp3 : ¬ ptC Hd b Hd.length = -1 := hp1 ▸ hp3
                                        refine lv_aload_n C0.1 C0.2.1 dX5_read_264 rfl (lv_at hl 6 rfl) ?_
                                        refine md_get C0 hP hM 16 (by decide) kw_493 (v := .ref ((a 16))) rfl dX5_read_265 ?_
                                        refine lv_aload_n C0.1 C0.2.1 dX5_read_268 rfl (lv_at hl 6 rfl) ?_
                                        refine md_get C0 hP hM 17 (by decide) kw_494 (v := .int (nI P.length)) (by show some (Value.int (z1 17)) = _; rw [hPl.1]) dX5_read_269 ?_
                                        refine lv_iload C0.1 C0.2.1 dX5_read_272 (lv_at hl 1 rfl) ?_
                                        refine md_iast C0 hP hS hM hMF 16 (by decide) (i := P.length) (by show P.length < 200; omega) dX5_read_274 (fun w34 F34 H locs hF34 hM hMF hP hS => ?_)
                                        refine lv_aload_n C0.1 C0.2.1 dX5_read_275 rfl (lv_at hl 6 rfl) ?_
                                        refine lv_dup C0.1 C0.2.1 dX5_read_276 rfl ?_
                                        refine md_get C0 hP hM 17 (by decide) kw_494 (v := .int (nI P.length)) (by show some (Value.int (z1 17)) = _; rw [hPl.1]) dX5_read_277 ?_
                                        refine lv_iconst (v := 1) C0.1 C0.2.1 dX5_read_280 (by decide) ?_
                                        refine lv_iadd C0.1 C0.2.1 dX5_read_281 ?_
                                        refine me_topi (y := nI (P.length + 1)) (nI_add P.length 1) ?_
                                        refine md_put C0 hP hS hM hMF 17 (by decide) kw_494 rfl rfl rfl dX5_read_282 (fun w35 z35 H locs hz35 hM hMF hP hS => ?_)
                                        have hz35_15 : z35 15 = nI Hd.length := by rw [hz35, upd_ne (by decide)]; exact h15
                                        have hz35_17 : z35 17 = nI (P.length + 1) := by rw [hz35, upd_eq]
                                        refine lv_iload_n C0.1 C0.2.1 dX5_read_285 rfl (lv_at hl 5 rfl) ?_
                                        refine lv_iload_n C0.1 C0.2.1 dX5_read_286 rfl (lv_at hl 3 rfl) ?_
                                        refine lv_iconst (v := 1) C0.1 C0.2.1 dX5_read_287 (by decide) ?_
                                        refine lv_iadd C0.1 C0.2.1 dX5_read_288 ?_
                                        refine me_topi (y := nI (3 + 1)) (nI_add 3 1) ?_
                                        refine lv_iadd C0.1 C0.2.1 dX5_read_289 ?_
                                        refine me_topi (y := nI (b + (3 + 1))) (nI_add b (3 + 1)) ?_
                                        refine lv_istore_n (lv' := [(1, .int (nI (b + (3 + 1)))), (5, .int 65536), (4, .int ((((((((nI xb) &&& 7) <<< (6 &&& 31)) ||| ((Hd.getD (b + 1) 0) &&& 63)) <<< (6 &&& 31)) ||| ((Hd.getD (b + 2) 0) &&& 63)) <<< (6 &&& 31)) ||| ((Hd.getD (b + 3) 0) &&& 63))), (6, .int (Hd.getD (b + 3) 0)), (3, .int 3), (2, .int (nI xb)), (0, .ref o)]) C0.1 C0.2.1 dX5_read_290 rfl hl (by decide) rfl (fun ls hl => ?_)
                                        refine lv_goto (tgt := 7) C0.1 C0.2.1 dX5_read_291 (by decide) ?_
                                        exact ih7 (b + (3 + 1)) (P ++ [(((((((nI xb) &&& 7) <<< (6 &&& 31)) ||| ((Hd.getD (b + 1) 0) &&& 63)) <<< (6 &&& 31)) ||| ((Hd.getD (b + 2) 0) &&& 63)) <<< (6 &&& 31)) ||| ((Hd.getD (b + 3) 0) &&& 63)]) _ _ _ (by omega) hM hMF (hsF.wr hF34 (by decide)) (hsZ.wr hz35 (by decide)) (hPl.put hF34 hz35_17 (by omega)) (by simp; omega) (by rw [hwr]; exact wr_go (by omega) hp3 (hp1 ▸ hp2) (by omega)) (by rw [hpt, pts_go (by omega) hp3 (hp1 ▸ hp2) (by omega), hp1, List.append_assoc]; rfl) (by omega) _ _ _ hP hS (lv_sub hl [0, 6] rfl)
                                      · refine lv_iload_n C0.1 C0.2.1 dX5_read_262 rfl (lv_at hl 5 rfl) ?_
                                        exact me_wiret _ C0.1 C0.2.1 B.returns B.notSynchronized hP hS (Nat.le_of_ble_eq_true rfl) (Nat.le_of_ble_eq_true rfl) (⟨_, _, hM, hMF, by rw [hwr]; exact (wr_bad (by omega) ((ref_pt ho rfl (by omega) hk (by omega) (fun h => absurd h (by decide)) (by omega) (v := (((((((nI xb) &&& 7) <<< (6 &&& 31)) ||| ((Hd.getD (b + 1) 0) &&& 63)) <<< (6 &&& 31)) ||| ((Hd.getD (b + 2) 0) &&& 63)) <<< (6 &&& 31)) ||| ((Hd.getD (b + 3) 0) &&& 63)) (by rw [hv0, conts_s (by omega), if_neg c16, if_pos c17, conts_s (by omega), if_neg c19, if_pos c20, conts_s (by omega), if_neg c22, if_pos c23, conts_0])).1 (Or.inr (Or.inr ⟨c30, c33⟩)))).symm, hsF, hsZ, fun h => absurd h (by rw [hwr, wr_bad (by omega) ((ref_pt ho rfl (by omega) hk (by omega) (fun h => absurd h (by decide)) (by omega) (v := (((((((nI xb) &&& 7) <<< (6 &&& 31)) ||| ((Hd.getD (b + 1) 0) &&& 63)) <<< (6 &&& 31)) ||| ((Hd.getD (b + 2) 0) &&& 63)) <<< (6 &&& 31)) ||| ((Hd.getD (b + 3) 0) &&& 63)) (by rw [hv0, conts_s (by omega), if_neg c16, if_pos c17, conts_s (by omega), if_neg c19, if_pos c20, conts_s (by omega), if_neg c22, if_pos c23, conts_0])).1 (Or.inr (Or.inr ⟨c30, c33⟩)))]; exact nI_m1 (by omega))⟩) dX5_read_263
                              · refine lv_iload_n C0.1 C0.2.1 dX5_read_179 rfl (lv_at hl 5 rfl) ?_
                                exact me_wiret _ C0.1 C0.2.1 B.returns B.notSynchronized hP hS (Nat.le_of_ble_eq_true rfl) (Nat.le_of_ble_eq_true rfl) (⟨_, _, hM, hMF, by rw [hwr]; exact (wr_bad (by omega) (ref_no hk (by omega) (Or.inr (by rw [hv0, conts_s (by omega), if_neg c16, if_pos c17, conts_s (by omega), if_neg c19, if_pos c20, conts_s (by omega), if_neg c22, if_neg c23])))).symm, hsF, hsZ, fun h => absurd h (by rw [hwr, wr_bad (by omega) (ref_no hk (by omega) (Or.inr (by rw [hv0, conts_s (by omega), if_neg c16, if_pos c17, conts_s (by omega), if_neg c19, if_pos c20, conts_s (by omega), if_neg c22, if_neg c23])))]; exact nI_m1 (by omega))⟩) dX5_read_180
                          · refine lv_iload_n C0.1 C0.2.1 dX5_read_179 rfl (lv_at hl 5 rfl) ?_
                            exact me_wiret _ C0.1 C0.2.1 B.returns B.notSynchronized hP hS (Nat.le_of_ble_eq_true rfl) (Nat.le_of_ble_eq_true rfl) (⟨_, _, hM, hMF, by rw [hwr]; exact (wr_bad (by omega) (ref_no hk (by omega) (Or.inr (by rw [hv0, conts_s (by omega), if_neg c16, if_pos c17, conts_s (by omega), if_neg c19, if_neg c20])))).symm, hsF, hsZ, fun h => absurd h (by rw [hwr, wr_bad (by omega) (ref_no hk (by omega) (Or.inr (by rw [hv0, conts_s (by omega), if_neg c16, if_pos c17, conts_s (by omega), if_neg c19, if_neg c20])))]; exact nI_m1 (by omega))⟩) dX5_read_180
                      · refine lv_iload_n C0.1 C0.2.1 dX5_read_179 rfl (lv_at hl 5 rfl) ?_
                        exact me_wiret _ C0.1 C0.2.1 B.returns B.notSynchronized hP hS (Nat.le_of_ble_eq_true rfl) (Nat.le_of_ble_eq_true rfl) (⟨_, _, hM, hMF, by rw [hwr]; exact (wr_bad (by omega) (ref_no hk (by omega) (Or.inr (by rw [hv0, conts_s (by omega), if_neg c16, if_neg c17])))).symm, hsF, hsZ, fun h => absurd h (by rw [hwr, wr_bad (by omega) (ref_no hk (by omega) (Or.inr (by rw [hv0, conts_s (by omega), if_neg c16, if_neg c17])))]; exact nI_m1 (by omega))⟩) dX5_read_180
                  · have d11 : Hd.length ≤ (b + 3) := Nat.not_lt.mp (fun h => c11 (nI_lt (a := (b + 3)) (b := Hd.length) h (by omega)))
                    refine lv_iload_n C0.1 C0.2.1 dX5_read_103 rfl (lv_at hl 2 rfl) ?_
                    exact me_wiret _ C0.1 C0.2.1 B.returns B.notSynchronized hP hS (Nat.le_of_ble_eq_true rfl) (Nat.le_of_ble_eq_true rfl) (⟨_, _, hM, hMF, by rw [hwr]; exact (wr_bad (by omega) (ref_no hk (by omega) (Or.inl (by omega)))).symm, hsF, hsZ, fun h => absurd h (by rw [hwr, wr_bad (by omega) (ref_no hk (by omega) (Or.inl (by omega)))]; exact nI_m1 (by omega))⟩) dX5_read_104
            · have d5 : 224 ≤ xb := Nat.not_lt.mp (fun h => c5 (nI_lt (a := xb) (b := 224) h (by omega)))
              refine lv_iload_n C0.1 C0.2.1 dX5_read_58 rfl (lv_at hl 0 rfl) ?_
              refine lv_sipush (v := 239) C0.1 C0.2.1 dX5_read_59 (by decide) ?_
              refine lv_icmp_gt (tgt := 69) C0.1 C0.2.1 dX5_read_62 (by decide) (fun c36 => ?_) (fun c36 => ?_)
              · have d36 : 239 < xb := (nI_ltI (a := 239) (b := xb) (by omega) (by omega)).mp c36
                refine lv_iload_n C0.1 C0.2.1 dX5_read_69 rfl (lv_at hl 0 rfl) ?_
                refine lv_sipush (v := 240) C0.1 C0.2.1 dX5_read_70 (by decide) ?_
                refine lv_icmp_lt (tgt := 87) C0.1 C0.2.1 dX5_read_73 (by decide) (fun c37 => ?_) (fun c37 => ?_)
                · have d37 : xb < 240 := (nI_ltI (a := xb) (b := 240) (by omega) (by omega)).mp c37
                  refine lv_iconst (v := (-1)) C0.1 C0.2.1 dX5_read_87 (by decide) ?_
                  have hk : octMore (Hd.getD b 0) = -1 := by rw [hxb]; exact om_m xb hx256 (by omega)
                  refine lv_istore_n (lv' := [(3, .int ((-1))), (2, .int (nI xb)), (1, .int (nI b)), (0, .ref o)]) C0.1 C0.2.1 dX5_read_88 rfl hl (by decide) rfl (fun ls hl => ?_)
                  refine lv_iload_n C0.1 C0.2.1 dX5_read_89 rfl (lv_at hl 0 rfl) ?_
                  refine lv_if_lt (tgt := 103) C0.1 C0.2.1 dX5_read_90 (by decide) (fun c => ?_) (fun c => absurd c (by decide))
                  refine lv_iload_n C0.1 C0.2.1 dX5_read_103 rfl (lv_at hl 2 rfl) ?_
                  exact me_wiret _ C0.1 C0.2.1 B.returns B.notSynchronized hP hS (Nat.le_of_ble_eq_true rfl) (Nat.le_of_ble_eq_true rfl) (⟨_, _, hM, hMF, by rw [hwr]; exact (wr_bad (by omega) (ref_m1 hk)).symm, hsF, hsZ, fun h => absurd h (by rw [hwr, wr_bad (by omega) (ref_m1 hk)]; exact nI_m1 (by omega))⟩) dX5_read_104
                · have d37 : 240 ≤ xb := Nat.not_lt.mp (fun h => c37 (nI_lt (a := xb) (b := 240) h (by omega)))
                  refine lv_iload_n C0.1 C0.2.1 dX5_read_76 rfl (lv_at hl 0 rfl) ?_
                  refine lv_sipush (v := 244) C0.1 C0.2.1 dX5_read_77 (by decide) ?_
                  refine lv_icmp_gt (tgt := 87) C0.1 C0.2.1 dX5_read_80 (by decide) (fun c39 => ?_) (fun c39 => ?_)
                  · have d39 : 244 < xb := (nI_ltI (a := 244) (b := xb) (by omega) (by omega)).mp c39
                    refine lv_iconst (v := (-1)) C0.1 C0.2.1 dX5_read_87 (by decide) ?_
                    have hk : octMore (Hd.getD b 0) = -1 := by rw [hxb]; exact om_m xb hx256 (by omega)
                    refine lv_istore_n (lv' := [(3, .int ((-1))), (2, .int (nI xb)), (1, .int (nI b)), (0, .ref o)]) C0.1 C0.2.1 dX5_read_88 rfl hl (by decide) rfl (fun ls hl => ?_)
                    refine lv_iload_n C0.1 C0.2.1 dX5_read_89 rfl (lv_at hl 0 rfl) ?_
                    refine lv_if_lt (tgt := 103) C0.1 C0.2.1 dX5_read_90 (by decide) (fun c => ?_) (fun c => absurd c (by decide))
                    refine lv_iload_n C0.1 C0.2.1 dX5_read_103 rfl (lv_at hl 2 rfl) ?_
                    exact me_wiret _ C0.1 C0.2.1 B.returns B.notSynchronized hP hS (Nat.le_of_ble_eq_true rfl) (Nat.le_of_ble_eq_true rfl) (⟨_, _, hM, hMF, by rw [hwr]; exact (wr_bad (by omega) (ref_m1 hk)).symm, hsF, hsZ, fun h => absurd h (by rw [hwr, wr_bad (by omega) (ref_m1 hk)]; exact nI_m1 (by omega))⟩) dX5_read_104
                  · have d39 : xb ≤ 244 := Nat.not_lt.mp (fun h => c39 (nI_lt (a := 244) (b := xb) h (by omega)))
                    refine lv_iconst (v := 3) C0.1 C0.2.1 dX5_read_83 (by decide) ?_
                    refine lv_goto (tgt := 88) C0.1 C0.2.1 dX5_read_84 (by decide) ?_
                    have hk : octMore (Hd.getD b 0) = nI 3 := by rw [hxb]; exact om_3 xb hx256 (by omega)
                    refine lv_istore_n (lv' := [(3, .int 3), (2, .int (nI xb)), (1, .int (nI b)), (0, .ref o)]) C0.1 C0.2.1 dX5_read_88 rfl hl (by decide) rfl (fun ls hl => ?_)
                    refine lv_iload_n C0.1 C0.2.1 dX5_read_89 rfl (lv_at hl 0 rfl) ?_
                    refine lv_if_lt (tgt := 103) C0.1 C0.2.1 dX5_read_90 (by decide) (fun c => absurd c (by decide)) (fun c => ?_)
                    refine lv_iload_n C0.1 C0.2.1 dX5_read_93 rfl (lv_at hl 2 rfl) ?_
                    refine lv_iload_n C0.1 C0.2.1 dX5_read_94 rfl (lv_at hl 0 rfl) ?_
                    refine lv_iadd C0.1 C0.2.1 dX5_read_95 ?_
                    refine me_topi (y := nI (b + 3)) (nI_add b 3) ?_
                    refine lv_aload_n C0.1 C0.2.1 dX5_read_96 rfl (lv_at hl 3 rfl) ?_
                    refine md_get C0 hP hM 15 (by decide) kw_492 (v := .int (nI Hd.length)) (by show some (Value.int (z1 15)) = _; rw [h15]) dX5_read_97 ?_
                    refine lv_icmp_lt (tgt := 105) C0.1 C0.2.1 dX5_read_100 (by decide) (fun c42 => ?_) (fun c42 => ?_)
                    · have d42 : (b + 3) < Hd.length := (nI_ltI (a := (b + 3)) (b := Hd.length) (by omega) (by omega)).mp c42
                      refine lv_iload_n C0.1 C0.2.1 dX5_read_105 rfl (lv_at hl 0 rfl) ?_
                      refine lv_if_ne (tgt := 113) C0.1 C0.2.1 dX5_read_106 (by decide) (fun c => ?_) (fun c => absurd c (by decide))
                      refine lv_iload_n C0.1 C0.2.1 dX5_read_113 rfl (lv_at hl 0 rfl) ?_
                      refine lv_iconst (v := 1) C0.1 C0.2.1 dX5_read_114 (by decide) ?_
                      refine lv_icmp_ne (tgt := 125) C0.1 C0.2.1 dX5_read_115 (by decide) (fun c => ?_) (fun c => absurd c (by decide))
                      refine lv_iload_n C0.1 C0.2.1 dX5_read_125 rfl (lv_at hl 0 rfl) ?_
                      refine lv_iconst (v := 2) C0.1 C0.2.1 dX5_read_126 (by decide) ?_
                      refine lv_icmp_ne (tgt := 137) C0.1 C0.2.1 dX5_read_127 (by decide) (fun c => ?_) (fun c => absurd c (by decide))
                      refine lv_iload_n C0.1 C0.2.1 dX5_read_137 rfl (lv_at hl 1 rfl) ?_
                      refine lv_bipush (v := 7) C0.1 C0.2.1 dX5_read_138 (by decide) ?_
                      refine lv_iand C0.1 C0.2.1 dX5_read_140 ?_
                      have hv0 : hd (Hd.getD b 0) 3 = (nI xb) &&& 7 := by rw [hxb]; unfold hd; rw [if_neg (by decide), show (63 : Int32) >>> (nI 3 &&& 31) = 7 by decide]
                      refine lv_istore (lv' := [(4, .int ((nI xb) &&& 7)), (3, .int 3), (2, .int (nI xb)), (1, .int (nI b)), (0, .ref o)]) C0.1 C0.2.1 dX5_read_141 hl (by decide) rfl (fun ls hl => ?_)
                      refine lv_iconst (v := 1) C0.1 C0.2.1 dX5_read_143 (by decide) ?_
                      refine lv_istore (lv' := [(5, .int 1), (4, .int ((nI xb) &&& 7)), (3, .int 3), (2, .int (nI xb)), (1, .int (nI b)), (0, .ref o)]) C0.1 C0.2.1 dX5_read_144 hl (by decide) rfl (fun ls hl => ?_)
                      refine lv_iload C0.1 C0.2.1 dX5_read_146 (lv_at hl 0 rfl) ?_
                      refine lv_iload_n C0.1 C0.2.1 dX5_read_148 rfl (lv_at hl 2 rfl) ?_
                      refine lv_icmp_gt (tgt := 200) C0.1 C0.2.1 dX5_read_149 (by decide) (fun c => absurd c (by decide)) (fun c => ?_)
                      refine lv_aload_n C0.1 C0.2.1 dX5_read_152 rfl (lv_at hl 5 rfl) ?_
                      refine md_get C0 hP hM 14 (by decide) kw_491 (v := .ref ((a 14))) rfl dX5_read_153 ?_
                      refine lv_iload_n C0.1 C0.2.1 dX5_read_156 rfl (lv_at hl 4 rfl) ?_
                      refine lv_iload C0.1 C0.2.1 dX5_read_157 (lv_at hl 0 rfl) ?_
                      refine lv_iadd C0.1 C0.2.1 dX5_read_159 ?_
                      refine me_topi (y := nI (b + 1)) (nI_add b 1) ?_
                      refine md_iald C0 hP hM 14 (by decide) (i := (b + 1)) (by show (b + 1) < 200; omega) dX5_read_160 ?_
                      refine me_topi (y := Hd.getD (b + 1) 0) (h14 (b + 1) (by omega)) ?_
                      refine lv_istore (lv' := [(6, .int (Hd.getD (b + 1) 0)), (5, .int 1), (4, .int ((nI xb) &&& 7)), (3, .int 3), (2, .int (nI xb)), (1, .int (nI b)), (0, .ref o)]) C0.1 C0.2.1 dX5_read_161 hl (by decide) rfl (fun ls hl => ?_)
                      refine lv_iload C0.1 C0.2.1 dX5_read_163 (lv_at hl 0 rfl) ?_
                      refine lv_sipush (v := 128) C0.1 C0.2.1 dX5_read_165 (by decide) ?_
                      refine lv_icmp_lt (tgt := 179) C0.1 C0.2.1 dX5_read_168 (by decide) (fun c47 => ?_) (fun c47 => ?_)
                      · refine lv_iload_n C0.1 C0.2.1 dX5_read_179 rfl (lv_at hl 5 rfl) ?_
                        exact me_wiret _ C0.1 C0.2.1 B.returns B.notSynchronized hP hS (Nat.le_of_ble_eq_true rfl) (Nat.le_of_ble_eq_true rfl) (⟨_, _, hM, hMF, by rw [hwr]; exact (wr_bad (by omega) (ref_no hk (by omega) (Or.inr (by rw [hv0, conts_s (by omega), if_pos c47])))).symm, hsF, hsZ, fun h => absurd h (by rw [hwr, wr_bad (by omega) (ref_no hk (by omega) (Or.inr (by rw [hv0, conts_s (by omega), if_pos c47])))]; exact nI_m1 (by omega))⟩) dX5_read_180
                      · refine lv_iload C0.1 C0.2.1 dX5_read_171 (lv_at hl 0 rfl) ?_
                        refine lv_sipush (v := 191) C0.1 C0.2.1 dX5_read_173 (by decide) ?_
                        refine lv_icmp_le (tgt := 181) C0.1 C0.2.1 dX5_read_176 (by decide) (fun c48 => ?_) (fun c48 => ?_)
                        · refine lv_iload C0.1 C0.2.1 dX5_read_181 (lv_at hl 2 rfl) ?_
                          refine lv_bipush (v := 6) C0.1 C0.2.1 dX5_read_183 (by decide) ?_
                          refine lv_ishl C0.1 C0.2.1 dX5_read_185 ?_
                          refine lv_iload C0.1 C0.2.1 dX5_read_186 (lv_at hl 0 rfl) ?_
                          refine lv_bipush (v := 63) C0.1 C0.2.1 dX5_read_188 (by decide) ?_
                          refine lv_iand C0.1 C0.2.1 dX5_read_190 ?_
                          refine lv_ior C0.1 C0.2.1 dX5_read_191 ?_
                          refine lv_istore (lv' := [(4, .int ((((nI xb) &&& 7) <<< (6 &&& 31)) ||| ((Hd.getD (b + 1) 0) &&& 63))), (6, .int (Hd.getD (b + 1) 0)), (5, .int 1), (3, .int 3), (2, .int (nI xb)), (1, .int (nI b)), (0, .ref o)]) C0.1 C0.2.1 dX5_read_192 hl (by decide) rfl (fun ls hl => ?_)
                          refine lv_iinc (v := 2) (lv' := [(5, .int 2), (4, .int ((((nI xb) &&& 7) <<< (6 &&& 31)) ||| ((Hd.getD (b + 1) 0) &&& 63))), (6, .int (Hd.getD (b + 1) 0)), (3, .int 3), (2, .int (nI xb)), (1, .int (nI b)), (0, .ref o)]) C0.1 C0.2.1 dX5_read_194 hl (k := 2) rfl rfl (by decide) rfl (fun ls hl => ?_)
                          refine lv_goto (tgt := 146) C0.1 C0.2.1 dX5_read_197 (by decide) ?_
                          refine lv_iload C0.1 C0.2.1 dX5_read_146 (lv_at hl 0 rfl) ?_
                          refine lv_iload_n C0.1 C0.2.1 dX5_read_148 rfl (lv_at hl 3 rfl) ?_
                          refine lv_icmp_gt (tgt := 200) C0.1 C0.2.1 dX5_read_149 (by decide) (fun c => absurd c (by decide)) (fun c => ?_)
                          refine lv_aload_n C0.1 C0.2.1 dX5_read_152 rfl (lv_at hl 6 rfl) ?_
                          refine md_get C0 hP hM 14 (by decide) kw_491 (v := .ref ((a 14))) rfl dX5_read_153 ?_
                          refine lv_iload_n C0.1 C0.2.1 dX5_read_156 rfl (lv_at hl 5 rfl) ?_
                          refine lv_iload C0.1 C0.2.1 dX5_read_157 (lv_at hl 0 rfl) ?_
                          refine lv_iadd C0.1 C0.2.1 dX5_read_159 ?_
                          refine me_topi (y := nI (b + 2)) (nI_add b 2) ?_
                          refine md_iald C0 hP hM 14 (by decide) (i := (b + 2)) (by show (b + 2) < 200; omega) dX5_read_160 ?_
                          refine me_topi (y := Hd.getD (b + 2) 0) (h14 (b + 2) (by omega)) ?_
                          refine lv_istore (lv' := [(6, .int (Hd.getD (b + 2) 0)), (5, .int 2), (4, .int ((((nI xb) &&& 7) <<< (6 &&& 31)) ||| ((Hd.getD (b + 1) 0) &&& 63))), (3, .int 3), (2, .int (nI xb)), (1, .int (nI b)), (0, .ref o)]) C0.1 C0.2.1 dX5_read_161 hl (by decide) rfl (fun ls hl => ?_)
                          refine lv_iload C0.1 C0.2.1 dX5_read_163 (lv_at hl 0 rfl) ?_
                          refine lv_sipush (v := 128) C0.1 C0.2.1 dX5_read_165 (by decide) ?_
                          refine lv_icmp_lt (tgt := 179) C0.1 C0.2.1 dX5_read_168 (by decide) (fun c50 => ?_) (fun c50 => ?_)
                          · refine lv_iload_n C0.1 C0.2.1 dX5_read_179 rfl (lv_at hl 5 rfl) ?_
                            exact me_wiret _ C0.1 C0.2.1 B.returns B.notSynchronized hP hS (Nat.le_of_ble_eq_true rfl) (Nat.le_of_ble_eq_true rfl) (⟨_, _, hM, hMF, by rw [hwr]; exact (wr_bad (by omega) (ref_no hk (by omega) (Or.inr (by rw [hv0, conts_s (by omega), if_neg c47, if_pos c48, conts_s (by omega), if_pos c50])))).symm, hsF, hsZ, fun h => absurd h (by rw [hwr, wr_bad (by omega) (ref_no hk (by omega) (Or.inr (by rw [hv0, conts_s (by omega), if_neg c47, if_pos c48, conts_s (by omega), if_pos c50])))]; exact nI_m1 (by omega))⟩) dX5_read_180
                          · refine lv_iload C0.1 C0.2.1 dX5_read_171 (lv_at hl 0 rfl) ?_
                            refine lv_sipush (v := 191) C0.1 C0.2.1 dX5_read_173 (by decide) ?_
                            refine lv_icmp_le (tgt := 181) C0.1 C0.2.1 dX5_read_176 (by decide) (fun c51 => ?_) (fun c51 => ?_)
                            · refine lv_iload C0.1 C0.2.1 dX5_read_181 (lv_at hl 2 rfl) ?_
                              refine lv_bipush (v := 6) C0.1 C0.2.1 dX5_read_183 (by decide) ?_
                              refine lv_ishl C0.1 C0.2.1 dX5_read_185 ?_
                              refine lv_iload C0.1 C0.2.1 dX5_read_186 (lv_at hl 0 rfl) ?_
                              refine lv_bipush (v := 63) C0.1 C0.2.1 dX5_read_188 (by decide) ?_
                              refine lv_iand C0.1 C0.2.1 dX5_read_190 ?_
                              refine lv_ior C0.1 C0.2.1 dX5_read_191 ?_
                              refine lv_istore (lv' := [(4, .int ((((((nI xb) &&& 7) <<< (6 &&& 31)) ||| ((Hd.getD (b + 1) 0) &&& 63)) <<< (6 &&& 31)) ||| ((Hd.getD (b + 2) 0) &&& 63))), (6, .int (Hd.getD (b + 2) 0)), (5, .int 2), (3, .int 3), (2, .int (nI xb)), (1, .int (nI b)), (0, .ref o)]) C0.1 C0.2.1 dX5_read_192 hl (by decide) rfl (fun ls hl => ?_)
                              refine lv_iinc (v := 3) (lv' := [(5, .int 3), (4, .int ((((((nI xb) &&& 7) <<< (6 &&& 31)) ||| ((Hd.getD (b + 1) 0) &&& 63)) <<< (6 &&& 31)) ||| ((Hd.getD (b + 2) 0) &&& 63))), (6, .int (Hd.getD (b + 2) 0)), (3, .int 3), (2, .int (nI xb)), (1, .int (nI b)), (0, .ref o)]) C0.1 C0.2.1 dX5_read_194 hl (k := 2) rfl rfl (by decide) rfl (fun ls hl => ?_)
                              refine lv_goto (tgt := 146) C0.1 C0.2.1 dX5_read_197 (by decide) ?_
                              refine lv_iload C0.1 C0.2.1 dX5_read_146 (lv_at hl 0 rfl) ?_
                              refine lv_iload_n C0.1 C0.2.1 dX5_read_148 rfl (lv_at hl 3 rfl) ?_
                              refine lv_icmp_gt (tgt := 200) C0.1 C0.2.1 dX5_read_149 (by decide) (fun c => absurd c (by decide)) (fun c => ?_)
                              refine lv_aload_n C0.1 C0.2.1 dX5_read_152 rfl (lv_at hl 6 rfl) ?_
                              refine md_get C0 hP hM 14 (by decide) kw_491 (v := .ref ((a 14))) rfl dX5_read_153 ?_
                              refine lv_iload_n C0.1 C0.2.1 dX5_read_156 rfl (lv_at hl 5 rfl) ?_
                              refine lv_iload C0.1 C0.2.1 dX5_read_157 (lv_at hl 0 rfl) ?_
                              refine lv_iadd C0.1 C0.2.1 dX5_read_159 ?_
                              refine me_topi (y := nI (b + 3)) (nI_add b 3) ?_
                              refine md_iald C0 hP hM 14 (by decide) (i := (b + 3)) (by show (b + 3) < 200; omega) dX5_read_160 ?_
                              refine me_topi (y := Hd.getD (b + 3) 0) (h14 (b + 3) (by omega)) ?_
                              refine lv_istore (lv' := [(6, .int (Hd.getD (b + 3) 0)), (5, .int 3), (4, .int ((((((nI xb) &&& 7) <<< (6 &&& 31)) ||| ((Hd.getD (b + 1) 0) &&& 63)) <<< (6 &&& 31)) ||| ((Hd.getD (b + 2) 0) &&& 63))), (3, .int 3), (2, .int (nI xb)), (1, .int (nI b)), (0, .ref o)]) C0.1 C0.2.1 dX5_read_161 hl (by decide) rfl (fun ls hl => ?_)
                              refine lv_iload C0.1 C0.2.1 dX5_read_163 (lv_at hl 0 rfl) ?_
                              refine lv_sipush (v := 128) C0.1 C0.2.1 dX5_read_165 (by decide) ?_
                              refine lv_icmp_lt (tgt := 179) C0.1 C0.2.1 dX5_read_168 (by decide) (fun c53 => ?_) (fun c53 => ?_)
                              · refine lv_iload_n C0.1 C0.2.1 dX5_read_179 rfl (lv_at hl 5 rfl) ?_
                                exact me_wiret _ C0.1 C0.2.1 B.returns B.notSynchronized hP hS (Nat.le_of_ble_eq_true rfl) (Nat.le_of_ble_eq_true rfl) (⟨_, _, hM, hMF, by rw [hwr]; exact (wr_bad (by omega) (ref_no hk (by omega) (Or.inr (by rw [hv0, conts_s (by omega), if_neg c47, if_pos c48, conts_s (by omega), if_neg c50, if_pos c51, conts_s (by omega), if_pos c53])))).symm, hsF, hsZ, fun h => absurd h (by rw [hwr, wr_bad (by omega) (ref_no hk (by omega) (Or.inr (by rw [hv0, conts_s (by omega), if_neg c47, if_pos c48, conts_s (by omega), if_neg c50, if_pos c51, conts_s (by omega), if_pos c53])))]; exact nI_m1 (by omega))⟩) dX5_read_180
                              · refine lv_iload C0.1 C0.2.1 dX5_read_171 (lv_at hl 0 rfl) ?_
                                refine lv_sipush (v := 191) C0.1 C0.2.1 dX5_read_173 (by decide) ?_
                                refine lv_icmp_le (tgt := 181) C0.1 C0.2.1 dX5_read_176 (by decide) (fun c54 => ?_) (fun c54 => ?_)
                                · refine lv_iload C0.1 C0.2.1 dX5_read_181 (lv_at hl 2 rfl) ?_
                                  refine lv_bipush (v := 6) C0.1 C0.2.1 dX5_read_183 (by decide) ?_
                                  refine lv_ishl C0.1 C0.2.1 dX5_read_185 ?_
                                  refine lv_iload C0.1 C0.2.1 dX5_read_186 (lv_at hl 0 rfl) ?_
                                  refine lv_bipush (v := 63) C0.1 C0.2.1 dX5_read_188 (by decide) ?_
                                  refine lv_iand C0.1 C0.2.1 dX5_read_190 ?_
                                  refine lv_ior C0.1 C0.2.1 dX5_read_191 ?_
                                  refine lv_istore (lv' := [(4, .int ((((((((nI xb) &&& 7) <<< (6 &&& 31)) ||| ((Hd.getD (b + 1) 0) &&& 63)) <<< (6 &&& 31)) ||| ((Hd.getD (b + 2) 0) &&& 63)) <<< (6 &&& 31)) ||| ((Hd.getD (b + 3) 0) &&& 63))), (6, .int (Hd.getD (b + 3) 0)), (5, .int 3), (3, .int 3), (2, .int (nI xb)), (1, .int (nI b)), (0, .ref o)]) C0.1 C0.2.1 dX5_read_192 hl (by decide) rfl (fun ls hl => ?_)
                                  refine lv_iinc (v := 4) (lv' := [(5, .int 4), (4, .int ((((((((nI xb) &&& 7) <<< (6 &&& 31)) ||| ((Hd.getD (b + 1) 0) &&& 63)) <<< (6 &&& 31)) ||| ((Hd.getD (b + 2) 0) &&& 63)) <<< (6 &&& 31)) ||| ((Hd.getD (b + 3) 0) &&& 63))), (6, .int (Hd.getD (b + 3) 0)), (3, .int 3), (2, .int (nI xb)), (1, .int (nI b)), (0, .ref o)]) C0.1 C0.2.1 dX5_read_194 hl (k := 2) rfl rfl (by decide) rfl (fun ls hl => ?_)
                                  refine lv_goto (tgt := 146) C0.1 C0.2.1 dX5_read_197 (by decide) ?_
                                  refine lv_iload C0.1 C0.2.1 dX5_read_146 (lv_at hl 0 rfl) ?_
                                  refine lv_iload_n C0.1 C0.2.1 dX5_read_148 rfl (lv_at hl 3 rfl) ?_
                                  refine lv_icmp_gt (tgt := 200) C0.1 C0.2.1 dX5_read_149 (by decide) (fun c => ?_) (fun c => absurd c (by decide))
                                  refine lv_iload_n C0.1 C0.2.1 dX5_read_200 rfl (lv_at hl 3 rfl) ?_
                                  refine lv_if_ne (tgt := 208) C0.1 C0.2.1 dX5_read_201 (by decide) (fun c => ?_) (fun c => absurd c (by decide))
                                  refine lv_iload_n C0.1 C0.2.1 dX5_read_208 rfl (lv_at hl 3 rfl) ?_
                                  refine lv_iconst (v := 1) C0.1 C0.2.1 dX5_read_209 (by decide) ?_
                                  refine lv_icmp_ne (tgt := 219) C0.1 C0.2.1 dX5_read_210 (by decide) (fun c => ?_) (fun c => absurd c (by decide))
                                  refine lv_iload_n C0.1 C0.2.1 dX5_read_219 rfl (lv_at hl 3 rfl) ?_
                                  refine lv_iconst (v := 2) C0.1 C0.2.1 dX5_read_220 (by decide) ?_
                                  refine lv_icmp_ne (tgt := 230) C0.1 C0.2.1 dX5_read_221 (by decide) (fun c => ?_) (fun c => absurd c (by decide))
                                  refine lv_ldc (v := 65536) C0.1 C0.2.1 C0.2.2.1 (C0.2.2.2.1 _ kw_563) dX5_read_230 ?_
                                  refine lv_istore (lv' := [(5, .int 65536), (4, .int ((((((((nI xb) &&& 7) <<< (6 &&& 31)) ||| ((Hd.getD (b + 1) 0) &&& 63)) <<< (6 &&& 31)) ||| ((Hd.getD (b + 2) 0) &&& 63)) <<< (6 &&& 31)) ||| ((Hd.getD (b + 3) 0) &&& 63))), (6, .int (Hd.getD (b + 3) 0)), (3, .int 3), (2, .int (nI xb)), (1, .int (nI b)), (0, .ref o)]) C0.1 C0.2.1 dX5_read_232 hl (by decide) rfl (fun ls hl => ?_)
                                  refine lv_iload C0.1 C0.2.1 dX5_read_234 (lv_at hl 1 rfl) ?_
                                  refine lv_iload C0.1 C0.2.1 dX5_read_236 (lv_at hl 0 rfl) ?_
                                  refine lv_icmp_lt (tgt := 262) C0.1 C0.2.1 dX5_read_238 (by decide) (fun c59 => ?_) (fun c59 => ?_)
                                  · refine lv_iload_n C0.1 C0.2.1 dX5_read_262 rfl (lv_at hl 5 rfl) ?_
                                    exact me_wiret _ C0.1 C0.2.1 B.returns B.notSynchronized hP hS (Nat.le_of_ble_eq_true rfl) (Nat.le_of_ble_eq_true rfl) (⟨_, _, hM, hMF, by rw [hwr]; exact (wr_bad (by omega) ((ref_pt ho rfl (by omega) hk (by omega) (fun h => absurd h (by decide)) (by omega) (v := (((((((nI xb) &&& 7) <<< (6 &&& 31)) ||| ((Hd.getD (b + 1) 0) &&& 63)) <<< (6 &&& 31)) ||| ((Hd.getD (b + 2) 0) &&& 63)) <<< (6 &&& 31)) ||| ((Hd.getD (b + 3) 0) &&& 63)) (by rw [hv0, conts_s (by omega), if_neg c47, if_pos c48, conts_s (by omega), if_neg c50, if_pos c51, conts_s (by omega), if_neg c53, if_pos c54, conts_0])).1 (Or.inl c59))).symm, hsF, hsZ, fun h => absurd h (by rw [hwr, wr_bad (by omega) ((ref_pt ho rfl (by omega) hk (by omega) (fun h => absurd h (by decide)) (by omega) (v := (((((((nI xb) &&& 7) <<< (6 &&& 31)) ||| ((Hd.getD (b + 1) 0) &&& 63)) <<< (6 &&& 31)) ||| ((Hd.getD (b + 2) 0) &&& 63)) <<< (6 &&& 31)) ||| ((Hd.getD (b + 3) 0) &&& 63)) (by rw [hv0, conts_s (by omega), if_neg c47, if_pos c48, conts_s (by omega), if_neg c50, if_pos c51, conts_s (by omega), if_neg c53, if_pos c54, conts_0])).1 (Or.inl c59))]; exact nI_m1 (by omega))⟩) dX5_read_263
                                  · refine lv_iload C0.1 C0.2.1 dX5_read_241 (lv_at hl 1 rfl) ?_
                                    refine lv_ldc (v := 1114111) C0.1 C0.2.1 C0.2.2.1 (C0.2.2.2.1 _ kw_564) dX5_read_243 ?_
                                    refine lv_icmp_gt (tgt := 262) C0.1 C0.2.1 dX5_read_245 (by decide) (fun c60 => ?_) (fun c60 => ?_)
                                    · refine lv_iload_n C0.1 C0.2.1 dX5_read_262 rfl (lv_at hl 5 rfl) ?_
                                      exact me_wiret _ C0.1 C0.2.1 B.returns B.notSynchronized hP hS (Nat.le_of_ble_eq_true rfl) (Nat.le_of_ble_eq_true rfl) (⟨_, _, hM, hMF, by rw [hwr]; exact (wr_bad (by omega) ((ref_pt ho rfl (by omega) hk (by omega) (fun h => absurd h (by decide)) (by omega) (v := (((((((nI xb) &&& 7) <<< (6 &&& 31)) ||| ((Hd.getD (b + 1) 0) &&& 63)) <<< (6 &&& 31)) ||| ((Hd.getD (b + 2) 0) &&& 63)) <<< (6 &&& 31)) ||| ((Hd.getD (b + 3) 0) &&& 63)) (by rw [hv0, conts_s (by omega), if_neg c47, if_pos c48, conts_s (by omega), if_neg c50, if_pos c51, conts_s (by omega), if_neg c53, if_pos c54, conts_0])).1 (Or.inr (Or.inl c60)))).symm, hsF, hsZ, fun h => absurd h (by rw [hwr, wr_bad (by omega) ((ref_pt ho rfl (by omega) hk (by omega) (fun h => absurd h (by decide)) (by omega) (v := (((((((nI xb) &&& 7) <<< (6 &&& 31)) ||| ((Hd.getD (b + 1) 0) &&& 63)) <<< (6 &&& 31)) ||| ((Hd.getD (b + 2) 0) &&& 63)) <<< (6 &&& 31)) ||| ((Hd.getD (b + 3) 0) &&& 63)) (by rw [hv0, conts_s (by omega), if_neg c47, if_pos c48, conts_s (by omega), if_neg c50, if_pos c51, conts_s (by omega), if_neg c53, if_pos c54, conts_0])).1 (Or.inr (Or.inl c60)))]; exact nI_m1 (by omega))⟩) dX5_read_263
                                    · refine lv_iload C0.1 C0.2.1 dX5_read_248 (lv_at hl 1 rfl) ?_
                                      refine lv_ldc (v := 55296) C0.1 C0.2.1 C0.2.2.1 (C0.2.2.2.1 _ kw_565) dX5_read_250 ?_
                                      refine lv_icmp_lt (tgt := 264) C0.1 C0.2.1 dX5_read_252 (by decide) (fun c61 => ?_) (fun c61 => ?_)
                                      · obtain ⟨hp1, hp2, hp3⟩ := (ref_pt ho rfl (by omega) hk (by omega) (fun h => absurd h (by decide)) (by omega) (v := (((((((nI xb) &&& 7) <<< (6 &&& 31)) ||| ((Hd.getD (b + 1) 0) &&& 63)) <<< (6 &&& 31)) ||| ((Hd.getD (b + 2) 0) &&& 63)) <<< (6 &&& 31)) ||| ((Hd.getD (b + 3) 0) &&& 63)) (by rw [hv0, conts_s (by omega), if_neg c47, if_pos c48, conts_s (by omega), if_neg c50, if_pos c51, conts_s (by omega), if_neg c53, if_pos c54, conts_0])).2 (fun h => h.elim (fun h => c59 h) (fun h => h.elim (fun h => c60 h) (fun h => h.1 c61)))
                                        have hp3 : ¬ ptC Hd b Hd.length = -1 := hp1 ▸ hp3
                                        refine lv_aload_n C0.1 C0.2.1 dX5_read_264 rfl (lv_at hl 6 rfl) ?_
                                        refine md_get C0 hP hM 16 (by decide) kw_493 (v := .ref ((a 16))) rfl dX5_read_265 ?_
                                        refine lv_aload_n C0.1 C0.2.1 dX5_read_268 rfl (lv_at hl 6 rfl) ?_
                                        refine md_get C0 hP hM 17 (by decide) kw_494 (v := .int (nI P.length)) (by show some (Value.int (z1 17)) = _; rw [hPl.1]) dX5_read_269 ?_
                                        refine lv_iload C0.1 C0.2.1 dX5_read_272 (lv_at hl 1 rfl) ?_
                                        refine md_iast C0 hP hS hM hMF 16 (by decide) (i := P.length) (by show P.length < 200; omega) dX5_read_274 (fun w62 F62 H locs hF62 hM hMF hP hS => ?_)
                                        refine lv_aload_n C0.1 C0.2.1 dX5_read_275 rfl (lv_at hl 6 rfl) ?_
                                        refine lv_dup C0.1 C0.2.1 dX5_read_276 rfl ?_
                                        refine md_get C0 hP hM 17 (by decide) kw_494 (v := .int (nI P.length)) (by show some (Value.int (z1 17)) = _; rw [hPl.1]) dX5_read_277 ?_
                                        refine lv_iconst (v := 1) C0.1 C0.2.1 dX5_read_280 (by decide) ?_
                                        refine lv_iadd C0.1 C0.2.1 dX5_read_281 ?_
                                        refine me_topi (y := nI (P.length + 1)) (nI_add P.length 1) ?_
                                        refine md_put C0 hP hS hM hMF 17 (by decide) kw_494 rfl rfl rfl dX5_read_282 (fun w63 z63 H locs hz63 hM hMF hP hS => ?_)
                                        have hz63_15 : z63 15 = nI Hd.length := by rw [hz63, upd_ne (by decide)]; exact h15
                                        have hz63_17 : z63 17 = nI (P.length + 1) := by rw [hz63, upd_eq]
                                        refine lv_iload_n C0.1 C0.2.1 dX5_read_285 rfl (lv_at hl 5 rfl) ?_
                                        refine lv_iload_n C0.1 C0.2.1 dX5_read_286 rfl (lv_at hl 3 rfl) ?_
                                        refine lv_iconst (v := 1) C0.1 C0.2.1 dX5_read_287 (by decide) ?_
                                        refine lv_iadd C0.1 C0.2.1 dX5_read_288 ?_
                                        refine me_topi (y := nI (3 + 1)) (nI_add 3 1) ?_
                                        refine lv_iadd C0.1 C0.2.1 dX5_read_289 ?_
                                        refine me_topi (y := nI (b + (3 + 1))) (nI_add b (3 + 1)) ?_
                                        refine lv_istore_n (lv' := [(1, .int (nI (b + (3 + 1)))), (5, .int 65536), (4, .int ((((((((nI xb) &&& 7) <<< (6 &&& 31)) ||| ((Hd.getD (b + 1) 0) &&& 63)) <<< (6 &&& 31)) ||| ((Hd.getD (b + 2) 0) &&& 63)) <<< (6 &&& 31)) ||| ((Hd.getD (b + 3) 0) &&& 63))), (6, .int (Hd.getD (b + 3) 0)), (3, .int 3), (2, .int (nI xb)), (0, .ref o)]) C0.1 C0.2.1 dX5_read_290 rfl hl (by decide) rfl (fun ls hl => ?_)
                                        refine lv_goto (tgt := 7) C0.1 C0.2.1 dX5_read_291 (by decide) ?_
                                        exact ih7 (b + (3 + 1)) (P ++ [(((((((nI xb) &&& 7) <<< (6 &&& 31)) ||| ((Hd.getD (b + 1) 0) &&& 63)) <<< (6 &&& 31)) ||| ((Hd.getD (b + 2) 0) &&& 63)) <<< (6 &&& 31)) ||| ((Hd.getD (b + 3) 0) &&& 63)]) _ _ _ (by omega) hM hMF (hsF.wr hF62 (by decide)) (hsZ.wr hz63 (by decide)) (hPl.put hF62 hz63_17 (by omega)) (by simp; omega) (by rw [hwr]; exact wr_go (by omega) hp3 (hp1 ▸ hp2) (by omega)) (by rw [hpt, pts_go (by omega) hp3 (hp1 ▸ hp2) (by omega), hp1, List.append_assoc]; rfl) (by omega) _ _ _ hP hS (lv_sub hl [0, 6] rfl)
                                      · refine lv_iload C0.1 C0.2.1 dX5_read_255 (lv_at hl 1 rfl) ?_
                                        refine lv_ldc (v := 57343) C0.1 C0.2.1 C0.2.2.1 (C0.2.2.2.1 _ kw_566) dX5_read_257 ?_
                                        refine lv_icmp_gt (tgt := 264) C0.1 C0.2.1 dX5_read_259 (by decide) (fun c64 => ?_) (fun c64 => ?_)
                                        · obtain ⟨hp1, hp2, hp3⟩ := (ref_pt ho rfl (by omega) hk (by omega) (fun h => absurd h (by decide)) (by omega) (v := (((((((nI xb) &&& 7) <<< (6 &&& 31)) ||| ((Hd.getD (b + 1) 0) &&& 63)) <<< (6 &&& 31)) ||| ((Hd.getD (b + 2) 0) &&& 63)) <<< (6 &&& 31)) ||| ((Hd.getD (b + 3) 0) &&& 63)) (by rw [hv0, conts_s (by omega), if_neg c47, if_pos c48, conts_s (by omega), if_neg c50, if_pos c51, conts_s (by omega), if_neg c53, if_pos c54, conts_0])).2 (fun h => h.elim (fun h => c59 h) (fun h => h.elim (fun h => c60 h) (fun h => h.2 c64)))
                                          have hp3 : ¬ ptC Hd b Hd.length = -1 := hp1 ▸ hp3
                                          refine lv_aload_n C0.1 C0.2.1 dX5_read_264 rfl (lv_at hl 6 rfl) ?_
                                          refine md_get C0 hP hM 16 (by decide) kw_493 (v := .ref ((a 16))) rfl dX5_read_265 ?_
                                          refine lv_aload_n C0.1 C0.2.1 dX5_read_268 rfl (lv_at hl 6 rfl) ?_
                                          refine md_get C0 hP hM 17 (by decide) kw_494 (v := .int (nI P.length)) (by show some (Value.int (z1 17)) = _; rw [hPl.1]) dX5_read_269 ?_
                                          refine lv_iload C0.1 C0.2.1 dX5_read_272 (lv_at hl 1 rfl) ?_
                                          refine md_iast C0 hP hS hM hMF 16 (by decide) (i := P.length) (by show P.length < 200; omega) dX5_read_274 (fun w65 F65 H locs hF65 hM hMF hP hS => ?_)
                                          refine lv_aload_n C0.1 C0.2.1 dX5_read_275 rfl (lv_at hl 6 rfl) ?_
                                          refine lv_dup C0.1 C0.2.1 dX5_read_276 rfl ?_
                                          refine md_get C0 hP hM 17 (by decide) kw_494 (v := .int (nI P.length)) (by show some (Value.int (z1 17)) = _; rw [hPl.1]) dX5_read_277 ?_
                                          refine lv_iconst (v := 1) C0.1 C0.2.1 dX5_read_280 (by decide) ?_
                                          refine lv_iadd C0.1 C0.2.1 dX5_read_281 ?_
                                          refine me_topi (y := nI (P.length + 1)) (nI_add P.length 1) ?_
                                          refine md_put C0 hP hS hM hMF 17 (by decide) kw_494 rfl rfl rfl dX5_read_282 (fun w66 z66 H locs hz66 hM hMF hP hS => ?_)
                                          have hz66_15 : z66 15 = nI Hd.length := by rw [hz66, upd_ne (by decide)]; exact h15
                                          have hz66_17 : z66 17 = nI (P.length + 1) := by rw [hz66, upd_eq]
                                          refine lv_iload_n C0.1 C0.2.1 dX5_read_285 rfl (lv_at hl 5 rfl) ?_
                                          refine lv_iload_n C0.1 C0.2.1 dX5_read_286 rfl (lv_at hl 3 rfl) ?_
                                          refine lv_iconst (v := 1) C0.1 C0.2.1 dX5_read_287 (by decide) ?_
                                          refine lv_iadd C0.1 C0.2.1 dX5_read_288 ?_
                                          refine me_topi (y := nI (3 + 1)) (nI_add 3 1) ?_
                                          refine lv_iadd C0.1 C0.2.1 dX5_read_289 ?_
                                          refine me_topi (y := nI (b + (3 + 1))) (nI_add b (3 + 1)) ?_
                                          refine lv_istore_n (lv' := [(1, .int (nI (b + (3 + 1)))), (5, .int 65536), (4, .int ((((((((nI xb) &&& 7) <<< (6 &&& 31)) ||| ((Hd.getD (b + 1) 0) &&& 63)) <<< (6 &&& 31)) ||| ((Hd.getD (b + 2) 0) &&& 63)) <<< (6 &&& 31)) ||| ((Hd.getD (b + 3) 0) &&& 63))), (6, .int (Hd.getD (b + 3) 0)), (3, .int 3), (2, .int (nI xb)), (0, .ref o)]) C0.1 C0.2.1 dX5_read_290 rfl hl (by decide) rfl (fun ls hl => ?_)
                                          refine lv_goto (tgt := 7) C0.1 C0.2.1 dX5_read_291 (by decide) ?_
                                          exact ih7 (b + (3 + 1)) (P ++ [(((((((nI xb) &&& 7) <<< (6 &&& 31)) ||| ((Hd.getD (b + 1) 0) &&& 63)) <<< (6 &&& 31)) ||| ((Hd.getD (b + 2) 0) &&& 63)) <<< (6 &&& 31)) ||| ((Hd.getD (b + 3) 0) &&& 63)]) _ _ _ (by omega) hM hMF (hsF.wr hF65 (by decide)) (hsZ.wr hz66 (by decide)) (hPl.put hF65 hz66_17 (by omega)) (by simp; omega) (by rw [hwr]; exact wr_go (by omega) hp3 (hp1 ▸ hp2) (by omega)) (by rw [hpt, pts_go (by omega) hp3 (hp1 ▸ hp2) (by omega), hp1, List.append_assoc]; rfl) (by omega) _ _ _ hP hS (lv_sub hl [0, 6] rfl)
                                        · refine lv_iload_n C0.1 C0.2.1 dX5_read_262 rfl (lv_at hl 5 rfl) ?_
                                          exact me_wiret _ C0.1 C0.2.1 B.returns B.notSynchronized hP hS (Nat.le_of_ble_eq_true rfl) (Nat.le_of_ble_eq_true rfl) (⟨_, _, hM, hMF, by rw [hwr]; exact (wr_bad (by omega) ((ref_pt ho rfl (by omega) hk (by omega) (fun h => absurd h (by decide)) (by omega) (v := (((((((nI xb) &&& 7) <<< (6 &&& 31)) ||| ((Hd.getD (b + 1) 0) &&& 63)) <<< (6 &&& 31)) ||| ((Hd.getD (b + 2) 0) &&& 63)) <<< (6 &&& 31)) ||| ((Hd.getD (b + 3) 0) &&& 63)) (by rw [hv0, conts_s (by omega), if_neg c47, if_pos c48, conts_s (by omega), if_neg c50, if_pos c51, conts_s (by omega), if_neg c53, if_pos c54, conts_0])).1 (Or.inr (Or.inr ⟨c61, c64⟩)))).symm, hsF, hsZ, fun h => absurd h (by rw [hwr, wr_bad (by omega) ((ref_pt ho rfl (by omega) hk (by omega) (fun h => absurd h (by decide)) (by omega) (v := (((((((nI xb) &&& 7) <<< (6 &&& 31)) ||| ((Hd.getD (b + 1) 0) &&& 63)) <<< (6 &&& 31)) ||| ((Hd.getD (b + 2) 0) &&& 63)) <<< (6 &&& 31)) ||| ((Hd.getD (b + 3) 0) &&& 63)) (by rw [hv0, conts_s (by omega), if_neg c47, if_pos c48, conts_s (by omega), if_neg c50, if_pos c51, conts_s (by omega), if_neg c53, if_pos c54, conts_0])).1 (Or.inr (Or.inr ⟨c61, c64⟩)))]; exact nI_m1 (by omega))⟩) dX5_read_263
                                · refine lv_iload_n C0.1 C0.2.1 dX5_read_179 rfl (lv_at hl 5 rfl) ?_
                                  exact me_wiret _ C0.1 C0.2.1 B.returns B.notSynchronized hP hS (Nat.le_of_ble_eq_true rfl) (Nat.le_of_ble_eq_true rfl) (⟨_, _, hM, hMF, by rw [hwr]; exact (wr_bad (by omega) (ref_no hk (by omega) (Or.inr (by rw [hv0, conts_s (by omega), if_neg c47, if_pos c48, conts_s (by omega), if_neg c50, if_pos c51, conts_s (by omega), if_neg c53, if_neg c54])))).symm, hsF, hsZ, fun h => absurd h (by rw [hwr, wr_bad (by omega) (ref_no hk (by omega) (Or.inr (by rw [hv0, conts_s (by omega), if_neg c47, if_pos c48, conts_s (by omega), if_neg c50, if_pos c51, conts_s (by omega), if_neg c53, if_neg c54])))]; exact nI_m1 (by omega))⟩) dX5_read_180
                            · refine lv_iload_n C0.1 C0.2.1 dX5_read_179 rfl (lv_at hl 5 rfl) ?_
                              exact me_wiret _ C0.1 C0.2.1 B.returns B.notSynchronized hP hS (Nat.le_of_ble_eq_true rfl) (Nat.le_of_ble_eq_true rfl) (⟨_, _, hM, hMF, by rw [hwr]; exact (wr_bad (by omega) (ref_no hk (by omega) (Or.inr (by rw [hv0, conts_s (by omega), if_neg c47, if_pos c48, conts_s (by omega), if_neg c50, if_neg c51])))).symm, hsF, hsZ, fun h => absurd h (by rw [hwr, wr_bad (by omega) (ref_no hk (by omega) (Or.inr (by rw [hv0, conts_s (by omega), if_neg c47, if_pos c48, conts_s (by omega), if_neg c50, if_neg c51])))]; exact nI_m1 (by omega))⟩) dX5_read_180
                        · refine lv_iload_n C0.1 C0.2.1 dX5_read_179 rfl (lv_at hl 5 rfl) ?_
                          exact me_wiret _ C0.1 C0.2.1 B.returns B.notSynchronized hP hS (Nat.le_of_ble_eq_true rfl) (Nat.le_of_ble_eq_true rfl) (⟨_, _, hM, hMF, by rw [hwr]; exact (wr_bad (by omega) (ref_no hk (by omega) (Or.inr (by rw [hv0, conts_s (by omega), if_neg c47, if_neg c48])))).symm, hsF, hsZ, fun h => absurd h (by rw [hwr, wr_bad (by omega) (ref_no hk (by omega) (Or.inr (by rw [hv0, conts_s (by omega), if_neg c47, if_neg c48])))]; exact nI_m1 (by omega))⟩) dX5_read_180
                    · have d42 : Hd.length ≤ (b + 3) := Nat.not_lt.mp (fun h => c42 (nI_lt (a := (b + 3)) (b := Hd.length) h (by omega)))
                      refine lv_iload_n C0.1 C0.2.1 dX5_read_103 rfl (lv_at hl 2 rfl) ?_
                      exact me_wiret _ C0.1 C0.2.1 B.returns B.notSynchronized hP hS (Nat.le_of_ble_eq_true rfl) (Nat.le_of_ble_eq_true rfl) (⟨_, _, hM, hMF, by rw [hwr]; exact (wr_bad (by omega) (ref_no hk (by omega) (Or.inl (by omega)))).symm, hsF, hsZ, fun h => absurd h (by rw [hwr, wr_bad (by omega) (ref_no hk (by omega) (Or.inl (by omega)))]; exact nI_m1 (by omega))⟩) dX5_read_104
              · have d36 : xb ≤ 239 := Nat.not_lt.mp (fun h => c36 (nI_lt (a := 239) (b := xb) h (by omega)))
                refine lv_iconst (v := 2) C0.1 C0.2.1 dX5_read_65 (by decide) ?_
                refine lv_goto (tgt := 88) C0.1 C0.2.1 dX5_read_66 (by decide) ?_
                have hk : octMore (Hd.getD b 0) = nI 2 := by rw [hxb]; exact om_2 xb hx256 (by omega)
                refine lv_istore_n (lv' := [(3, .int 2), (2, .int (nI xb)), (1, .int (nI b)), (0, .ref o)]) C0.1 C0.2.1 dX5_read_88 rfl hl (by decide) rfl (fun ls hl => ?_)
                refine lv_iload_n C0.1 C0.2.1 dX5_read_89 rfl (lv_at hl 0 rfl) ?_
                refine lv_if_lt (tgt := 103) C0.1 C0.2.1 dX5_read_90 (by decide) (fun c => absurd c (by decide)) (fun c => ?_)
                refine lv_iload_n C0.1 C0.2.1 dX5_read_93 rfl (lv_at hl 2 rfl) ?_
                refine lv_iload_n C0.1 C0.2.1 dX5_read_94 rfl (lv_at hl 0 rfl) ?_
                refine lv_iadd C0.1 C0.2.1 dX5_read_95 ?_
                refine me_topi (y := nI (b + 2)) (nI_add b 2) ?_
                refine lv_aload_n C0.1 C0.2.1 dX5_read_96 rfl (lv_at hl 3 rfl) ?_
                refine md_get C0 hP hM 15 (by decide) kw_492 (v := .int (nI Hd.length)) (by show some (Value.int (z1 15)) = _; rw [h15]) dX5_read_97 ?_
                refine lv_icmp_lt (tgt := 105) C0.1 C0.2.1 dX5_read_100 (by decide) (fun c68 => ?_) (fun c68 => ?_)
                · have d68 : (b + 2) < Hd.length := (nI_ltI (a := (b + 2)) (b := Hd.length) (by omega) (by omega)).mp c68
                  refine lv_iload_n C0.1 C0.2.1 dX5_read_105 rfl (lv_at hl 0 rfl) ?_
                  refine lv_if_ne (tgt := 113) C0.1 C0.2.1 dX5_read_106 (by decide) (fun c => ?_) (fun c => absurd c (by decide))
                  refine lv_iload_n C0.1 C0.2.1 dX5_read_113 rfl (lv_at hl 0 rfl) ?_
                  refine lv_iconst (v := 1) C0.1 C0.2.1 dX5_read_114 (by decide) ?_
                  refine lv_icmp_ne (tgt := 125) C0.1 C0.2.1 dX5_read_115 (by decide) (fun c => ?_) (fun c => absurd c (by decide))
                  refine lv_iload_n C0.1 C0.2.1 dX5_read_125 rfl (lv_at hl 0 rfl) ?_
                  refine lv_iconst (v := 2) C0.1 C0.2.1 dX5_read_126 (by decide) ?_
                  refine lv_icmp_ne (tgt := 137) C0.1 C0.2.1 dX5_read_127 (by decide) (fun c => absurd c (by decide)) (fun c => ?_)
                  refine lv_iload_n C0.1 C0.2.1 dX5_read_130 rfl (lv_at hl 1 rfl) ?_
                  refine lv_bipush (v := 15) C0.1 C0.2.1 dX5_read_131 (by decide) ?_
                  refine lv_iand C0.1 C0.2.1 dX5_read_133 ?_
                  refine lv_goto (tgt := 141) C0.1 C0.2.1 dX5_read_134 (by decide) ?_
                  have hv0 : hd (Hd.getD b 0) 2 = (nI xb) &&& 15 := by rw [hxb]; unfold hd; rw [if_neg (by decide), show (63 : Int32) >>> (nI 2 &&& 31) = 15 by decide]
                  refine lv_istore (lv' := [(4, .int ((nI xb) &&& 15)), (3, .int 2), (2, .int (nI xb)), (1, .int (nI b)), (0, .ref o)]) C0.1 C0.2.1 dX5_read_141 hl (by decide) rfl (fun ls hl => ?_)
                  refine lv_iconst (v := 1) C0.1 C0.2.1 dX5_read_143 (by decide) ?_
                  refine lv_istore (lv' := [(5, .int 1), (4, .int ((nI xb) &&& 15)), (3, .int 2), (2, .int (nI xb)), (1, .int (nI b)), (0, .ref o)]) C0.1 C0.2.1 dX5_read_144 hl (by decide) rfl (fun ls hl => ?_)
                  refine lv_iload C0.1 C0.2.1 dX5_read_146 (lv_at hl 0 rfl) ?_
                  refine lv_iload_n C0.1 C0.2.1 dX5_read_148 rfl (lv_at hl 2 rfl) ?_
                  refine lv_icmp_gt (tgt := 200) C0.1 C0.2.1 dX5_read_149 (by decide) (fun c => absurd c (by decide)) (fun c => ?_)
                  refine lv_aload_n C0.1 C0.2.1 dX5_read_152 rfl (lv_at hl 5 rfl) ?_
                  refine md_get C0 hP hM 14 (by decide) kw_491 (v := .ref ((a 14))) rfl dX5_read_153 ?_
                  refine lv_iload_n C0.1 C0.2.1 dX5_read_156 rfl (lv_at hl 4 rfl) ?_
                  refine lv_iload C0.1 C0.2.1 dX5_read_157 (lv_at hl 0 rfl) ?_
                  refine lv_iadd C0.1 C0.2.1 dX5_read_159 ?_
                  refine me_topi (y := nI (b + 1)) (nI_add b 1) ?_
                  refine md_iald C0 hP hM 14 (by decide) (i := (b + 1)) (by show (b + 1) < 200; omega) dX5_read_160 ?_
                  refine me_topi (y := Hd.getD (b + 1) 0) (h14 (b + 1) (by omega)) ?_
                  refine lv_istore (lv' := [(6, .int (Hd.getD (b + 1) 0)), (5, .int 1), (4, .int ((nI xb) &&& 15)), (3, .int 2), (2, .int (nI xb)), (1, .int (nI b)), (0, .ref o)]) C0.1 C0.2.1 dX5_read_161 hl (by decide) rfl (fun ls hl => ?_)
                  refine lv_iload C0.1 C0.2.1 dX5_read_163 (lv_at hl 0 rfl) ?_
                  refine lv_sipush (v := 128) C0.1 C0.2.1 dX5_read_165 (by decide) ?_
                  refine lv_icmp_lt (tgt := 179) C0.1 C0.2.1 dX5_read_168 (by decide) (fun c73 => ?_) (fun c73 => ?_)
                  · refine lv_iload_n C0.1 C0.2.1 dX5_read_179 rfl (lv_at hl 5 rfl) ?_
                    exact me_wiret _ C0.1 C0.2.1 B.returns B.notSynchronized hP hS (Nat.le_of_ble_eq_true rfl) (Nat.le_of_ble_eq_true rfl) (⟨_, _, hM, hMF, by rw [hwr]; exact (wr_bad (by omega) (ref_no hk (by omega) (Or.inr (by rw [hv0, conts_s (by omega), if_pos c73])))).symm, hsF, hsZ, fun h => absurd h (by rw [hwr, wr_bad (by omega) (ref_no hk (by omega) (Or.inr (by rw [hv0, conts_s (by omega), if_pos c73])))]; exact nI_m1 (by omega))⟩) dX5_read_180
                  · refine lv_iload C0.1 C0.2.1 dX5_read_171 (lv_at hl 0 rfl) ?_
                    refine lv_sipush (v := 191) C0.1 C0.2.1 dX5_read_173 (by decide) ?_
                    refine lv_icmp_le (tgt := 181) C0.1 C0.2.1 dX5_read_176 (by decide) (fun c74 => ?_) (fun c74 => ?_)
                    · refine lv_iload C0.1 C0.2.1 dX5_read_181 (lv_at hl 2 rfl) ?_
                      refine lv_bipush (v := 6) C0.1 C0.2.1 dX5_read_183 (by decide) ?_
                      refine lv_ishl C0.1 C0.2.1 dX5_read_185 ?_
                      refine lv_iload C0.1 C0.2.1 dX5_read_186 (lv_at hl 0 rfl) ?_
                      refine lv_bipush (v := 63) C0.1 C0.2.1 dX5_read_188 (by decide) ?_
                      refine lv_iand C0.1 C0.2.1 dX5_read_190 ?_
                      refine lv_ior C0.1 C0.2.1 dX5_read_191 ?_
                      refine lv_istore (lv' := [(4, .int ((((nI xb) &&& 15) <<< (6 &&& 31)) ||| ((Hd.getD (b + 1) 0) &&& 63))), (6, .int (Hd.getD (b + 1) 0)), (5, .int 1), (3, .int 2), (2, .int (nI xb)), (1, .int (nI b)), (0, .ref o)]) C0.1 C0.2.1 dX5_read_192 hl (by decide) rfl (fun ls hl => ?_)
                      refine lv_iinc (v := 2) (lv' := [(5, .int 2), (4, .int ((((nI xb) &&& 15) <<< (6 &&& 31)) ||| ((Hd.getD (b + 1) 0) &&& 63))), (6, .int (Hd.getD (b + 1) 0)), (3, .int 2), (2, .int (nI xb)), (1, .int (nI b)), (0, .ref o)]) C0.1 C0.2.1 dX5_read_194 hl (k := 2) rfl rfl (by decide) rfl (fun ls hl => ?_)
                      refine lv_goto (tgt := 146) C0.1 C0.2.1 dX5_read_197 (by decide) ?_
                      refine lv_iload C0.1 C0.2.1 dX5_read_146 (lv_at hl 0 rfl) ?_
                      refine lv_iload_n C0.1 C0.2.1 dX5_read_148 rfl (lv_at hl 3 rfl) ?_
                      refine lv_icmp_gt (tgt := 200) C0.1 C0.2.1 dX5_read_149 (by decide) (fun c => absurd c (by decide)) (fun c => ?_)
                      refine lv_aload_n C0.1 C0.2.1 dX5_read_152 rfl (lv_at hl 6 rfl) ?_
                      refine md_get C0 hP hM 14 (by decide) kw_491 (v := .ref ((a 14))) rfl dX5_read_153 ?_
                      refine lv_iload_n C0.1 C0.2.1 dX5_read_156 rfl (lv_at hl 5 rfl) ?_
                      refine lv_iload C0.1 C0.2.1 dX5_read_157 (lv_at hl 0 rfl) ?_
                      refine lv_iadd C0.1 C0.2.1 dX5_read_159 ?_
                      refine me_topi (y := nI (b + 2)) (nI_add b 2) ?_
                      refine md_iald C0 hP hM 14 (by decide) (i := (b + 2)) (by show (b + 2) < 200; omega) dX5_read_160 ?_
                      refine me_topi (y := Hd.getD (b + 2) 0) (h14 (b + 2) (by omega)) ?_
                      refine lv_istore (lv' := [(6, .int (Hd.getD (b + 2) 0)), (5, .int 2), (4, .int ((((nI xb) &&& 15) <<< (6 &&& 31)) ||| ((Hd.getD (b + 1) 0) &&& 63))), (3, .int 2), (2, .int (nI xb)), (1, .int (nI b)), (0, .ref o)]) C0.1 C0.2.1 dX5_read_161 hl (by decide) rfl (fun ls hl => ?_)
                      refine lv_iload C0.1 C0.2.1 dX5_read_163 (lv_at hl 0 rfl) ?_
                      refine lv_sipush (v := 128) C0.1 C0.2.1 dX5_read_165 (by decide) ?_
                      refine lv_icmp_lt (tgt := 179) C0.1 C0.2.1 dX5_read_168 (by decide) (fun c76 => ?_) (fun c76 => ?_)
                      · refine lv_iload_n C0.1 C0.2.1 dX5_read_179 rfl (lv_at hl 5 rfl) ?_
                        exact me_wiret _ C0.1 C0.2.1 B.returns B.notSynchronized hP hS (Nat.le_of_ble_eq_true rfl) (Nat.le_of_ble_eq_true rfl) (⟨_, _, hM, hMF, by rw [hwr]; exact (wr_bad (by omega) (ref_no hk (by omega) (Or.inr (by rw [hv0, conts_s (by omega), if_neg c73, if_pos c74, conts_s (by omega), if_pos c76])))).symm, hsF, hsZ, fun h => absurd h (by rw [hwr, wr_bad (by omega) (ref_no hk (by omega) (Or.inr (by rw [hv0, conts_s (by omega), if_neg c73, if_pos c74, conts_s (by omega), if_pos c76])))]; exact nI_m1 (by omega))⟩) dX5_read_180
                      · refine lv_iload C0.1 C0.2.1 dX5_read_171 (lv_at hl 0 rfl) ?_
                        refine lv_sipush (v := 191) C0.1 C0.2.1 dX5_read_173 (by decide) ?_
                        refine lv_icmp_le (tgt := 181) C0.1 C0.2.1 dX5_read_176 (by decide) (fun c77 => ?_) (fun c77 => ?_)
                        · refine lv_iload C0.1 C0.2.1 dX5_read_181 (lv_at hl 2 rfl) ?_
                          refine lv_bipush (v := 6) C0.1 C0.2.1 dX5_read_183 (by decide) ?_
                          refine lv_ishl C0.1 C0.2.1 dX5_read_185 ?_
                          refine lv_iload C0.1 C0.2.1 dX5_read_186 (lv_at hl 0 rfl) ?_
                          refine lv_bipush (v := 63) C0.1 C0.2.1 dX5_read_188 (by decide) ?_
                          refine lv_iand C0.1 C0.2.1 dX5_read_190 ?_
                          refine lv_ior C0.1 C0.2.1 dX5_read_191 ?_
                          refine lv_istore (lv' := [(4, .int ((((((nI xb) &&& 15) <<< (6 &&& 31)) ||| ((Hd.getD (b + 1) 0) &&& 63)) <<< (6 &&& 31)) ||| ((Hd.getD (b + 2) 0) &&& 63))), (6, .int (Hd.getD (b + 2) 0)), (5, .int 2), (3, .int 2), (2, .int (nI xb)), (1, .int (nI b)), (0, .ref o)]) C0.1 C0.2.1 dX5_read_192 hl (by decide) rfl (fun ls hl => ?_)
                          refine lv_iinc (v := 3) (lv' := [(5, .int 3), (4, .int ((((((nI xb) &&& 15) <<< (6 &&& 31)) ||| ((Hd.getD (b + 1) 0) &&& 63)) <<< (6 &&& 31)) ||| ((Hd.getD (b + 2) 0) &&& 63))), (6, .int (Hd.getD (b + 2) 0)), (3, .int 2), (2, .int (nI xb)), (1, .int (nI b)), (0, .ref o)]) C0.1 C0.2.1 dX5_read_194 hl (k := 2) rfl rfl (by decide) rfl (fun ls hl => ?_)
                          refine lv_goto (tgt := 146) C0.1 C0.2.1 dX5_read_197 (by decide) ?_
                          refine lv_iload C0.1 C0.2.1 dX5_read_146 (lv_at hl 0 rfl) ?_
                          refine lv_iload_n C0.1 C0.2.1 dX5_read_148 rfl (lv_at hl 3 rfl) ?_
                          refine lv_icmp_gt (tgt := 200) C0.1 C0.2.1 dX5_read_149 (by decide) (fun c => ?_) (fun c => absurd c (by decide))
                          refine lv_iload_n C0.1 C0.2.1 dX5_read_200 rfl (lv_at hl 3 rfl) ?_
                          refine lv_if_ne (tgt := 208) C0.1 C0.2.1 dX5_read_201 (by decide) (fun c => ?_) (fun c => absurd c (by decide))
                          refine lv_iload_n C0.1 C0.2.1 dX5_read_208 rfl (lv_at hl 3 rfl) ?_
                          refine lv_iconst (v := 1) C0.1 C0.2.1 dX5_read_209 (by decide) ?_
                          refine lv_icmp_ne (tgt := 219) C0.1 C0.2.1 dX5_read_210 (by decide) (fun c => ?_) (fun c => absurd c (by decide))
                          refine lv_iload_n C0.1 C0.2.1 dX5_read_219 rfl (lv_at hl 3 rfl) ?_
                          refine lv_iconst (v := 2) C0.1 C0.2.1 dX5_read_220 (by decide) ?_
                          refine lv_icmp_ne (tgt := 230) C0.1 C0.2.1 dX5_read_221 (by decide) (fun c => absurd c (by decide)) (fun c => ?_)
                          refine lv_sipush (v := 2048) C0.1 C0.2.1 dX5_read_224 (by decide) ?_
                          refine lv_goto (tgt := 232) C0.1 C0.2.1 dX5_read_227 (by decide) ?_
                          refine lv_istore (lv' := [(5, .int 2048), (4, .int ((((((nI xb) &&& 15) <<< (6 &&& 31)) ||| ((Hd.getD (b + 1) 0) &&& 63)) <<< (6 &&& 31)) ||| ((Hd.getD (b + 2) 0) &&& 63))), (6, .int (Hd.getD (b + 2) 0)), (3, .int 2), (2, .int (nI xb)), (1, .int (nI b)), (0, .ref o)]) C0.1 C0.2.1 dX5_read_232 hl (by decide) rfl (fun ls hl => ?_)
                          refine lv_iload C0.1 C0.2.1 dX5_read_234 (lv_at hl 1 rfl) ?_
                          refine lv_iload C0.1 C0.2.1 dX5_read_236 (lv_at hl 0 rfl) ?_
                          refine lv_icmp_lt (tgt := 262) C0.1 C0.2.1 dX5_read_238 (by decide) (fun c82 => ?_) (fun c82 => ?_)
                          · refine lv_iload_n C0.1 C0.2.1 dX5_read_262 rfl (lv_at hl 5 rfl) ?_
                            exact me_wiret _ C0.1 C0.2.1 B.returns B.notSynchronized hP hS (Nat.le_of_ble_eq_true rfl) (Nat.le_of_ble_eq_true rfl) (⟨_, _, hM, hMF, by rw [hwr]; exact (wr_bad (by omega) ((ref_pt ho rfl (by omega) hk (by omega) (fun h => absurd h (by decide)) (by omega) (v := (((((nI xb) &&& 15) <<< (6 &&& 31)) ||| ((Hd.getD (b + 1) 0) &&& 63)) <<< (6 &&& 31)) ||| ((Hd.getD (b + 2) 0) &&& 63)) (by rw [hv0, conts_s (by omega), if_neg c73, if_pos c74, conts_s (by omega), if_neg c76, if_pos c77, conts_0])).1 (Or.inl c82))).symm, hsF, hsZ, fun h => absurd h (by rw [hwr, wr_bad (by omega) ((ref_pt ho rfl (by omega) hk (by omega) (fun h => absurd h (by decide)) (by omega) (v := (((((nI xb) &&& 15) <<< (6 &&& 31)) ||| ((Hd.getD (b + 1) 0) &&& 63)) <<< (6 &&& 31)) ||| ((Hd.getD (b + 2) 0) &&& 63)) (by rw [hv0, conts_s (by omega), if_neg c73, if_pos c74, conts_s (by omega), if_neg c76, if_pos c77, conts_0])).1 (Or.inl c82))]; exact nI_m1 (by omega))⟩) dX5_read_263
                          · refine lv_iload C0.1 C0.2.1 dX5_read_241 (lv_at hl 1 rfl) ?_
                            refine lv_ldc (v := 1114111) C0.1 C0.2.1 C0.2.2.1 (C0.2.2.2.1 _ kw_564) dX5_read_243 ?_
                            refine lv_icmp_gt (tgt := 262) C0.1 C0.2.1 dX5_read_245 (by decide) (fun c83 => ?_) (fun c83 => ?_)
                            · refine lv_iload_n C0.1 C0.2.1 dX5_read_262 rfl (lv_at hl 5 rfl) ?_
                              exact me_wiret _ C0.1 C0.2.1 B.returns B.notSynchronized hP hS (Nat.le_of_ble_eq_true rfl) (Nat.le_of_ble_eq_true rfl) (⟨_, _, hM, hMF, by rw [hwr]; exact (wr_bad (by omega) ((ref_pt ho rfl (by omega) hk (by omega) (fun h => absurd h (by decide)) (by omega) (v := (((((nI xb) &&& 15) <<< (6 &&& 31)) ||| ((Hd.getD (b + 1) 0) &&& 63)) <<< (6 &&& 31)) ||| ((Hd.getD (b + 2) 0) &&& 63)) (by rw [hv0, conts_s (by omega), if_neg c73, if_pos c74, conts_s (by omega), if_neg c76, if_pos c77, conts_0])).1 (Or.inr (Or.inl c83)))).symm, hsF, hsZ, fun h => absurd h (by rw [hwr, wr_bad (by omega) ((ref_pt ho rfl (by omega) hk (by omega) (fun h => absurd h (by decide)) (by omega) (v := (((((nI xb) &&& 15) <<< (6 &&& 31)) ||| ((Hd.getD (b + 1) 0) &&& 63)) <<< (6 &&& 31)) ||| ((Hd.getD (b + 2) 0) &&& 63)) (by rw [hv0, conts_s (by omega), if_neg c73, if_pos c74, conts_s (by omega), if_neg c76, if_pos c77, conts_0])).1 (Or.inr (Or.inl c83)))]; exact nI_m1 (by omega))⟩) dX5_read_263
                            · refine lv_iload C0.1 C0.2.1 dX5_read_248 (lv_at hl 1 rfl) ?_
                              refine lv_ldc (v := 55296) C0.1 C0.2.1 C0.2.2.1 (C0.2.2.2.1 _ kw_565) dX5_read_250 ?_
                              refine lv_icmp_lt (tgt := 264) C0.1 C0.2.1 dX5_read_252 (by decide) (fun c84 => ?_) (fun c84 => ?_)
                              · obtain ⟨hp1, hp2, hp3⟩ := (ref_pt ho rfl (by omega) hk (by omega) (fun h => absurd h (by decide)) (by omega) (v := (((((nI xb) &&& 15) <<< (6 &&& 31)) ||| ((Hd.getD (b + 1) 0) &&& 63)) <<< (6 &&& 31)) ||| ((Hd.getD (b + 2) 0) &&& 63)) (by rw [hv0, conts_s (by omega), if_neg c73, if_pos c74, conts_s (by omega), if_neg c76, if_pos c77, conts_0])).2 (fun h => h.elim (fun h => c82 h) (fun h => h.elim (fun h => c83 h) (fun h => h.1 c84)))
                                have hp3 : ¬ ptC Hd b Hd.length = -1 := hp1 ▸ hp3
                                refine lv_aload_n C0.1 C0.2.1 dX5_read_264 rfl (lv_at hl 6 rfl) ?_
                                refine md_get C0 hP hM 16 (by decide) kw_493 (v := .ref ((a 16))) rfl dX5_read_265 ?_
                                refine lv_aload_n C0.1 C0.2.1 dX5_read_268 rfl (lv_at hl 6 rfl) ?_
                                refine md_get C0 hP hM 17 (by decide) kw_494 (v := .int (nI P.length)) (by show some (Value.int (z1 17)) = _; rw [hPl.1]) dX5_read_269 ?_
                                refine lv_iload C0.1 C0.2.1 dX5_read_272 (lv_at hl 1 rfl) ?_
                                refine md_iast C0 hP hS hM hMF 16 (by decide) (i := P.length) (by show P.length < 200; omega) dX5_read_274 (fun w85 F85 H locs hF85 hM hMF hP hS => ?_)
                                refine lv_aload_n C0.1 C0.2.1 dX5_read_275 rfl (lv_at hl 6 rfl) ?_
                                refine lv_dup C0.1 C0.2.1 dX5_read_276 rfl ?_
                                refine md_get C0 hP hM 17 (by decide) kw_494 (v := .int (nI P.length)) (by show some (Value.int (z1 17)) = _; rw [hPl.1]) dX5_read_277 ?_
                                refine lv_iconst (v := 1) C0.1 C0.2.1 dX5_read_280 (by decide) ?_
                                refine lv_iadd C0.1 C0.2.1 dX5_read_281 ?_
                                refine me_topi (y := nI (P.length + 1)) (nI_add P.length 1) ?_
                                refine md_put C0 hP hS hM hMF 17 (by decide) kw_494 rfl rfl rfl dX5_read_282 (fun w86 z86 H locs hz86 hM hMF hP hS => ?_)
                                have hz86_15 : z86 15 = nI Hd.length := by rw [hz86, upd_ne (by decide)]; exact h15
                                have hz86_17 : z86 17 = nI (P.length + 1) := by rw [hz86, upd_eq]
                                refine lv_iload_n C0.1 C0.2.1 dX5_read_285 rfl (lv_at hl 5 rfl) ?_
                                refine lv_iload_n C0.1 C0.2.1 dX5_read_286 rfl (lv_at hl 3 rfl) ?_
                                refine lv_iconst (v := 1) C0.1 C0.2.1 dX5_read_287 (by decide) ?_
                                refine lv_iadd C0.1 C0.2.1 dX5_read_288 ?_
                                refine me_topi (y := nI (2 + 1)) (nI_add 2 1) ?_
                                refine lv_iadd C0.1 C0.2.1 dX5_read_289 ?_
                                refine me_topi (y := nI (b + (2 + 1))) (nI_add b (2 + 1)) ?_
                                refine lv_istore_n (lv' := [(1, .int (nI (b + (2 + 1)))), (5, .int 2048), (4, .int ((((((nI xb) &&& 15) <<< (6 &&& 31)) ||| ((Hd.getD (b + 1) 0) &&& 63)) <<< (6 &&& 31)) ||| ((Hd.getD (b + 2) 0) &&& 63))), (6, .int (Hd.getD (b + 2) 0)), (3, .int 2), (2, .int (nI xb)), (0, .ref o)]) C0.1 C0.2.1 dX5_read_290 rfl hl (by decide) rfl (fun ls hl => ?_)
                                refine lv_goto (tgt := 7) C0.1 C0.2.1 dX5_read_291 (by decide) ?_
                                exact ih7 (b + (2 + 1)) (P ++ [(((((nI xb) &&& 15) <<< (6 &&& 31)) ||| ((Hd.getD (b + 1) 0) &&& 63)) <<< (6 &&& 31)) ||| ((Hd.getD (b + 2) 0) &&& 63)]) _ _ _ (by omega) hM hMF (hsF.wr hF85 (by decide)) (hsZ.wr hz86 (by decide)) (hPl.put hF85 hz86_17 (by omega)) (by simp; omega) (by rw [hwr]; exact wr_go (by omega) hp3 (hp1 ▸ hp2) (by omega)) (by rw [hpt, pts_go (by omega) hp3 (hp1 ▸ hp2) (by omega), hp1, List.append_assoc]; rfl) (by omega) _ _ _ hP hS (lv_sub hl [0, 6] rfl)
                              · refine lv_iload C0.1 C0.2.1 dX5_read_255 (lv_at hl 1 rfl) ?_
                                refine lv_ldc (v := 57343) C0.1 C0.2.1 C0.2.2.1 (C0.2.2.2.1 _ kw_566) dX5_read_257 ?_
                                refine lv_icmp_gt (tgt := 264) C0.1 C0.2.1 dX5_read_259 (by decide) (fun c87 => ?_) (fun c87 => ?_)
                                · obtain ⟨hp1, hp2, hp3⟩ := (ref_pt ho rfl (by omega) hk (by omega) (fun h => absurd h (by decide)) (by omega) (v := (((((nI xb) &&& 15) <<< (6 &&& 31)) ||| ((Hd.getD (b + 1) 0) &&& 63)) <<< (6 &&& 31)) ||| ((Hd.getD (b + 2) 0) &&& 63)) (by rw [hv0, conts_s (by omega), if_neg c73, if_pos c74, conts_s (by omega), if_neg c76, if_pos c77, conts_0])).2 (fun h => h.elim (fun h => c82 h) (fun h => h.elim (fun h => c83 h) (fun h => h.2 c87)))
                                  have hp3 : ¬ ptC Hd b Hd.length = -1 := hp1 ▸ hp3
                                  refine lv_aload_n C0.1 C0.2.1 dX5_read_264 rfl (lv_at hl 6 rfl) ?_
                                  refine md_get C0 hP hM 16 (by decide) kw_493 (v := .ref ((a 16))) rfl dX5_read_265 ?_
                                  refine lv_aload_n C0.1 C0.2.1 dX5_read_268 rfl (lv_at hl 6 rfl) ?_
                                  refine md_get C0 hP hM 17 (by decide) kw_494 (v := .int (nI P.length)) (by show some (Value.int (z1 17)) = _; rw [hPl.1]) dX5_read_269 ?_
                                  refine lv_iload C0.1 C0.2.1 dX5_read_272 (lv_at hl 1 rfl) ?_
                                  refine md_iast C0 hP hS hM hMF 16 (by decide) (i := P.length) (by show P.length < 200; omega) dX5_read_274 (fun w88 F88 H locs hF88 hM hMF hP hS => ?_)
                                  refine lv_aload_n C0.1 C0.2.1 dX5_read_275 rfl (lv_at hl 6 rfl) ?_
                                  refine lv_dup C0.1 C0.2.1 dX5_read_276 rfl ?_
                                  refine md_get C0 hP hM 17 (by decide) kw_494 (v := .int (nI P.length)) (by show some (Value.int (z1 17)) = _; rw [hPl.1]) dX5_read_277 ?_
                                  refine lv_iconst (v := 1) C0.1 C0.2.1 dX5_read_280 (by decide) ?_
                                  refine lv_iadd C0.1 C0.2.1 dX5_read_281 ?_
                                  refine me_topi (y := nI (P.length + 1)) (nI_add P.length 1) ?_
                                  refine md_put C0 hP hS hM hMF 17 (by decide) kw_494 rfl rfl rfl dX5_read_282 (fun w89 z89 H locs hz89 hM hMF hP hS => ?_)
                                  have hz89_15 : z89 15 = nI Hd.length := by rw [hz89, upd_ne (by decide)]; exact h15
                                  have hz89_17 : z89 17 = nI (P.length + 1) := by rw [hz89, upd_eq]
                                  refine lv_iload_n C0.1 C0.2.1 dX5_read_285 rfl (lv_at hl 5 rfl) ?_
                                  refine lv_iload_n C0.1 C0.2.1 dX5_read_286 rfl (lv_at hl 3 rfl) ?_
                                  refine lv_iconst (v := 1) C0.1 C0.2.1 dX5_read_287 (by decide) ?_
                                  refine lv_iadd C0.1 C0.2.1 dX5_read_288 ?_
                                  refine me_topi (y := nI (2 + 1)) (nI_add 2 1) ?_
                                  refine lv_iadd C0.1 C0.2.1 dX5_read_289 ?_
                                  refine me_topi (y := nI (b + (2 + 1))) (nI_add b (2 + 1)) ?_
                                  refine lv_istore_n (lv' := [(1, .int (nI (b + (2 + 1)))), (5, .int 2048), (4, .int ((((((nI xb) &&& 15) <<< (6 &&& 31)) ||| ((Hd.getD (b + 1) 0) &&& 63)) <<< (6 &&& 31)) ||| ((Hd.getD (b + 2) 0) &&& 63))), (6, .int (Hd.getD (b + 2) 0)), (3, .int 2), (2, .int (nI xb)), (0, .ref o)]) C0.1 C0.2.1 dX5_read_290 rfl hl (by decide) rfl (fun ls hl => ?_)
                                  refine lv_goto (tgt := 7) C0.1 C0.2.1 dX5_read_291 (by decide) ?_
                                  exact ih7 (b + (2 + 1)) (P ++ [(((((nI xb) &&& 15) <<< (6 &&& 31)) ||| ((Hd.getD (b + 1) 0) &&& 63)) <<< (6 &&& 31)) ||| ((Hd.getD (b + 2) 0) &&& 63)]) _ _ _ (by omega) hM hMF (hsF.wr hF88 (by decide)) (hsZ.wr hz89 (by decide)) (hPl.put hF88 hz89_17 (by omega)) (by simp; omega) (by rw [hwr]; exact wr_go (by omega) hp3 (hp1 ▸ hp2) (by omega)) (by rw [hpt, pts_go (by omega) hp3 (hp1 ▸ hp2) (by omega), hp1, List.append_assoc]; rfl) (by omega) _ _ _ hP hS (lv_sub hl [0, 6] rfl)
                                · refine lv_iload_n C0.1 C0.2.1 dX5_read_262 rfl (lv_at hl 5 rfl) ?_
                                  exact me_wiret _ C0.1 C0.2.1 B.returns B.notSynchronized hP hS (Nat.le_of_ble_eq_true rfl) (Nat.le_of_ble_eq_true rfl) (⟨_, _, hM, hMF, by rw [hwr]; exact (wr_bad (by omega) ((ref_pt ho rfl (by omega) hk (by omega) (fun h => absurd h (by decide)) (by omega) (v := (((((nI xb) &&& 15) <<< (6 &&& 31)) ||| ((Hd.getD (b + 1) 0) &&& 63)) <<< (6 &&& 31)) ||| ((Hd.getD (b + 2) 0) &&& 63)) (by rw [hv0, conts_s (by omega), if_neg c73, if_pos c74, conts_s (by omega), if_neg c76, if_pos c77, conts_0])).1 (Or.inr (Or.inr ⟨c84, c87⟩)))).symm, hsF, hsZ, fun h => absurd h (by rw [hwr, wr_bad (by omega) ((ref_pt ho rfl (by omega) hk (by omega) (fun h => absurd h (by decide)) (by omega) (v := (((((nI xb) &&& 15) <<< (6 &&& 31)) ||| ((Hd.getD (b + 1) 0) &&& 63)) <<< (6 &&& 31)) ||| ((Hd.getD (b + 2) 0) &&& 63)) (by rw [hv0, conts_s (by omega), if_neg c73, if_pos c74, conts_s (by omega), if_neg c76, if_pos c77, conts_0])).1 (Or.inr (Or.inr ⟨c84, c87⟩)))]; exact nI_m1 (by omega))⟩) dX5_read_263
                        · refine lv_iload_n C0.1 C0.2.1 dX5_read_179 rfl (lv_at hl 5 rfl) ?_
                          exact me_wiret _ C0.1 C0.2.1 B.returns B.notSynchronized hP hS (Nat.le_of_ble_eq_true rfl) (Nat.le_of_ble_eq_true rfl) (⟨_, _, hM, hMF, by rw [hwr]; exact (wr_bad (by omega) (ref_no hk (by omega) (Or.inr (by rw [hv0, conts_s (by omega), if_neg c73, if_pos c74, conts_s (by omega), if_neg c76, if_neg c77])))).symm, hsF, hsZ, fun h => absurd h (by rw [hwr, wr_bad (by omega) (ref_no hk (by omega) (Or.inr (by rw [hv0, conts_s (by omega), if_neg c73, if_pos c74, conts_s (by omega), if_neg c76, if_neg c77])))]; exact nI_m1 (by omega))⟩) dX5_read_180
                    · refine lv_iload_n C0.1 C0.2.1 dX5_read_179 rfl (lv_at hl 5 rfl) ?_
                      exact me_wiret _ C0.1 C0.2.1 B.returns B.notSynchronized hP hS (Nat.le_of_ble_eq_true rfl) (Nat.le_of_ble_eq_true rfl) (⟨_, _, hM, hMF, by rw [hwr]; exact (wr_bad (by omega) (ref_no hk (by omega) (Or.inr (by rw [hv0, conts_s (by omega), if_neg c73, if_neg c74])))).symm, hsF, hsZ, fun h => absurd h (by rw [hwr, wr_bad (by omega) (ref_no hk (by omega) (Or.inr (by rw [hv0, conts_s (by omega), if_neg c73, if_neg c74])))]; exact nI_m1 (by omega))⟩) dX5_read_180
                · have d68 : Hd.length ≤ (b + 2) := Nat.not_lt.mp (fun h => c68 (nI_lt (a := (b + 2)) (b := Hd.length) h (by omega)))
                  refine lv_iload_n C0.1 C0.2.1 dX5_read_103 rfl (lv_at hl 2 rfl) ?_
                  exact me_wiret _ C0.1 C0.2.1 B.returns B.notSynchronized hP hS (Nat.le_of_ble_eq_true rfl) (Nat.le_of_ble_eq_true rfl) (⟨_, _, hM, hMF, by rw [hwr]; exact (wr_bad (by omega) (ref_no hk (by omega) (Or.inl (by omega)))).symm, hsF, hsZ, fun h => absurd h (by rw [hwr, wr_bad (by omega) (ref_no hk (by omega) (Or.inl (by omega)))]; exact nI_m1 (by omega))⟩) dX5_read_104
          · have d4 : 194 ≤ xb := Nat.not_lt.mp (fun h => c4 (nI_lt (a := xb) (b := 194) h (by omega)))
            refine lv_iload_n C0.1 C0.2.1 dX5_read_40 rfl (lv_at hl 0 rfl) ?_
            refine lv_sipush (v := 223) C0.1 C0.2.1 dX5_read_41 (by decide) ?_
            refine lv_icmp_gt (tgt := 51) C0.1 C0.2.1 dX5_read_44 (by decide) (fun c90 => ?_) (fun c90 => ?_)
            · have d90 : 223 < xb := (nI_ltI (a := 223) (b := xb) (by omega) (by omega)).mp c90
              refine lv_iload_n C0.1 C0.2.1 dX5_read_51 rfl (lv_at hl 0 rfl) ?_
              refine lv_sipush (v := 224) C0.1 C0.2.1 dX5_read_52 (by decide) ?_
              refine lv_icmp_lt (tgt := 69) C0.1 C0.2.1 dX5_read_55 (by decide) (fun c91 => ?_) (fun c91 => ?_)
              · have d91 : xb < 224 := (nI_ltI (a := xb) (b := 224) (by omega) (by omega)).mp c91
                refine lv_iload_n C0.1 C0.2.1 dX5_read_69 rfl (lv_at hl 0 rfl) ?_
                refine lv_sipush (v := 240) C0.1 C0.2.1 dX5_read_70 (by decide) ?_
                refine lv_icmp_lt (tgt := 87) C0.1 C0.2.1 dX5_read_73 (by decide) (fun c92 => ?_) (fun c92 => ?_)
                · have d92 : xb < 240 := (nI_ltI (a := xb) (b := 240) (by omega) (by omega)).mp c92
                  refine lv_iconst (v := (-1)) C0.1 C0.2.1 dX5_read_87 (by decide) ?_
                  have hk : octMore (Hd.getD b 0) = -1 := by rw [hxb]; exact om_m xb hx256 (by omega)
                  refine lv_istore_n (lv' := [(3, .int ((-1))), (2, .int (nI xb)), (1, .int (nI b)), (0, .ref o)]) C0.1 C0.2.1 dX5_read_88 rfl hl (by decide) rfl (fun ls hl => ?_)
                  refine lv_iload_n C0.1 C0.2.1 dX5_read_89 rfl (lv_at hl 0 rfl) ?_
                  refine lv_if_lt (tgt := 103) C0.1 C0.2.1 dX5_read_90 (by decide) (fun c => ?_) (fun c => absurd c (by decide))
                  refine lv_iload_n C0.1 C0.2.1 dX5_read_103 rfl (lv_at hl 2 rfl) ?_
                  exact me_wiret _ C0.1 C0.2.1 B.returns B.notSynchronized hP hS (Nat.le_of_ble_eq_true rfl) (Nat.le_of_ble_eq_true rfl) (⟨_, _, hM, hMF, by rw [hwr]; exact (wr_bad (by omega) (ref_m1 hk)).symm, hsF, hsZ, fun h => absurd h (by rw [hwr, wr_bad (by omega) (ref_m1 hk)]; exact nI_m1 (by omega))⟩) dX5_read_104
                · have d92 : 240 ≤ xb := Nat.not_lt.mp (fun h => c92 (nI_lt (a := xb) (b := 240) h (by omega)))
                  refine lv_iload_n C0.1 C0.2.1 dX5_read_76 rfl (lv_at hl 0 rfl) ?_
                  refine lv_sipush (v := 244) C0.1 C0.2.1 dX5_read_77 (by decide) ?_
                  refine lv_icmp_gt (tgt := 87) C0.1 C0.2.1 dX5_read_80 (by decide) (fun c94 => ?_) (fun c94 => ?_)
                  · have d94 : 244 < xb := (nI_ltI (a := 244) (b := xb) (by omega) (by omega)).mp c94
                    refine lv_iconst (v := (-1)) C0.1 C0.2.1 dX5_read_87 (by decide) ?_
                    have hk : octMore (Hd.getD b 0) = -1 := by rw [hxb]; exact om_m xb hx256 (by omega)
                    refine lv_istore_n (lv' := [(3, .int ((-1))), (2, .int (nI xb)), (1, .int (nI b)), (0, .ref o)]) C0.1 C0.2.1 dX5_read_88 rfl hl (by decide) rfl (fun ls hl => ?_)
                    refine lv_iload_n C0.1 C0.2.1 dX5_read_89 rfl (lv_at hl 0 rfl) ?_
                    refine lv_if_lt (tgt := 103) C0.1 C0.2.1 dX5_read_90 (by decide) (fun c => ?_) (fun c => absurd c (by decide))
                    refine lv_iload_n C0.1 C0.2.1 dX5_read_103 rfl (lv_at hl 2 rfl) ?_
                    exact me_wiret _ C0.1 C0.2.1 B.returns B.notSynchronized hP hS (Nat.le_of_ble_eq_true rfl) (Nat.le_of_ble_eq_true rfl) (⟨_, _, hM, hMF, by rw [hwr]; exact (wr_bad (by omega) (ref_m1 hk)).symm, hsF, hsZ, fun h => absurd h (by rw [hwr, wr_bad (by omega) (ref_m1 hk)]; exact nI_m1 (by omega))⟩) dX5_read_104
                  · have d94 : xb ≤ 244 := Nat.not_lt.mp (fun h => c94 (nI_lt (a := 244) (b := xb) h (by omega)))
                    refine lv_iconst (v := 3) C0.1 C0.2.1 dX5_read_83 (by decide) ?_
                    refine lv_goto (tgt := 88) C0.1 C0.2.1 dX5_read_84 (by decide) ?_
                    have hk : octMore (Hd.getD b 0) = nI 3 := by rw [hxb]; exact om_3 xb hx256 (by omega)
                    refine lv_istore_n (lv' := [(3, .int 3), (2, .int (nI xb)), (1, .int (nI b)), (0, .ref o)]) C0.1 C0.2.1 dX5_read_88 rfl hl (by decide) rfl (fun ls hl => ?_)
                    refine lv_iload_n C0.1 C0.2.1 dX5_read_89 rfl (lv_at hl 0 rfl) ?_
                    refine lv_if_lt (tgt := 103) C0.1 C0.2.1 dX5_read_90 (by decide) (fun c => absurd c (by decide)) (fun c => ?_)
                    refine lv_iload_n C0.1 C0.2.1 dX5_read_93 rfl (lv_at hl 2 rfl) ?_
                    refine lv_iload_n C0.1 C0.2.1 dX5_read_94 rfl (lv_at hl 0 rfl) ?_
                    refine lv_iadd C0.1 C0.2.1 dX5_read_95 ?_
                    refine me_topi (y := nI (b + 3)) (nI_add b 3) ?_
                    refine lv_aload_n C0.1 C0.2.1 dX5_read_96 rfl (lv_at hl 3 rfl) ?_
                    refine md_get C0 hP hM 15 (by decide) kw_492 (v := .int (nI Hd.length)) (by show some (Value.int (z1 15)) = _; rw [h15]) dX5_read_97 ?_
                    refine lv_icmp_lt (tgt := 105) C0.1 C0.2.1 dX5_read_100 (by decide) (fun c97 => ?_) (fun c97 => ?_)
                    · have d97 : (b + 3) < Hd.length := (nI_ltI (a := (b + 3)) (b := Hd.length) (by omega) (by omega)).mp c97
                      refine lv_iload_n C0.1 C0.2.1 dX5_read_105 rfl (lv_at hl 0 rfl) ?_
                      refine lv_if_ne (tgt := 113) C0.1 C0.2.1 dX5_read_106 (by decide) (fun c => ?_) (fun c => absurd c (by decide))
                      refine lv_iload_n C0.1 C0.2.1 dX5_read_113 rfl (lv_at hl 0 rfl) ?_
                      refine lv_iconst (v := 1) C0.1 C0.2.1 dX5_read_114 (by decide) ?_
                      refine lv_icmp_ne (tgt := 125) C0.1 C0.2.1 dX5_read_115 (by decide) (fun c => ?_) (fun c => absurd c (by decide))
                      refine lv_iload_n C0.1 C0.2.1 dX5_read_125 rfl (lv_at hl 0 rfl) ?_
                      refine lv_iconst (v := 2) C0.1 C0.2.1 dX5_read_126 (by decide) ?_
                      refine lv_icmp_ne (tgt := 137) C0.1 C0.2.1 dX5_read_127 (by decide) (fun c => ?_) (fun c => absurd c (by decide))
                      refine lv_iload_n C0.1 C0.2.1 dX5_read_137 rfl (lv_at hl 1 rfl) ?_
                      refine lv_bipush (v := 7) C0.1 C0.2.1 dX5_read_138 (by decide) ?_
                      refine lv_iand C0.1 C0.2.1 dX5_read_140 ?_
                      have hv0 : hd (Hd.getD b 0) 3 = (nI xb) &&& 7 := by rw [hxb]; unfold hd; rw [if_neg (by decide), show (63 : Int32) >>> (nI 3 &&& 31) = 7 by decide]
                      refine lv_istore (lv' := [(4, .int ((nI xb) &&& 7)), (3, .int 3), (2, .int (nI xb)), (1, .int (nI b)), (0, .ref o)]) C0.1 C0.2.1 dX5_read_141 hl (by decide) rfl (fun ls hl => ?_)
                      refine lv_iconst (v := 1) C0.1 C0.2.1 dX5_read_143 (by decide) ?_
                      refine lv_istore (lv' := [(5, .int 1), (4, .int ((nI xb) &&& 7)), (3, .int 3), (2, .int (nI xb)), (1, .int (nI b)), (0, .ref o)]) C0.1 C0.2.1 dX5_read_144 hl (by decide) rfl (fun ls hl => ?_)
                      refine lv_iload C0.1 C0.2.1 dX5_read_146 (lv_at hl 0 rfl) ?_
                      refine lv_iload_n C0.1 C0.2.1 dX5_read_148 rfl (lv_at hl 2 rfl) ?_
                      refine lv_icmp_gt (tgt := 200) C0.1 C0.2.1 dX5_read_149 (by decide) (fun c => absurd c (by decide)) (fun c => ?_)
                      refine lv_aload_n C0.1 C0.2.1 dX5_read_152 rfl (lv_at hl 5 rfl) ?_
                      refine md_get C0 hP hM 14 (by decide) kw_491 (v := .ref ((a 14))) rfl dX5_read_153 ?_
                      refine lv_iload_n C0.1 C0.2.1 dX5_read_156 rfl (lv_at hl 4 rfl) ?_
                      refine lv_iload C0.1 C0.2.1 dX5_read_157 (lv_at hl 0 rfl) ?_
                      refine lv_iadd C0.1 C0.2.1 dX5_read_159 ?_
                      refine me_topi (y := nI (b + 1)) (nI_add b 1) ?_
                      refine md_iald C0 hP hM 14 (by decide) (i := (b + 1)) (by show (b + 1) < 200; omega) dX5_read_160 ?_
                      refine me_topi (y := Hd.getD (b + 1) 0) (h14 (b + 1) (by omega)) ?_
                      refine lv_istore (lv' := [(6, .int (Hd.getD (b + 1) 0)), (5, .int 1), (4, .int ((nI xb) &&& 7)), (3, .int 3), (2, .int (nI xb)), (1, .int (nI b)), (0, .ref o)]) C0.1 C0.2.1 dX5_read_161 hl (by decide) rfl (fun ls hl => ?_)
                      refine lv_iload C0.1 C0.2.1 dX5_read_163 (lv_at hl 0 rfl) ?_
                      refine lv_sipush (v := 128) C0.1 C0.2.1 dX5_read_165 (by decide) ?_
                      refine lv_icmp_lt (tgt := 179) C0.1 C0.2.1 dX5_read_168 (by decide) (fun c102 => ?_) (fun c102 => ?_)
                      · refine lv_iload_n C0.1 C0.2.1 dX5_read_179 rfl (lv_at hl 5 rfl) ?_
                        exact me_wiret _ C0.1 C0.2.1 B.returns B.notSynchronized hP hS (Nat.le_of_ble_eq_true rfl) (Nat.le_of_ble_eq_true rfl) (⟨_, _, hM, hMF, by rw [hwr]; exact (wr_bad (by omega) (ref_no hk (by omega) (Or.inr (by rw [hv0, conts_s (by omega), if_pos c102])))).symm, hsF, hsZ, fun h => absurd h (by rw [hwr, wr_bad (by omega) (ref_no hk (by omega) (Or.inr (by rw [hv0, conts_s (by omega), if_pos c102])))]; exact nI_m1 (by omega))⟩) dX5_read_180
                      · refine lv_iload C0.1 C0.2.1 dX5_read_171 (lv_at hl 0 rfl) ?_
                        refine lv_sipush (v := 191) C0.1 C0.2.1 dX5_read_173 (by decide) ?_
                        refine lv_icmp_le (tgt := 181) C0.1 C0.2.1 dX5_read_176 (by decide) (fun c103 => ?_) (fun c103 => ?_)
                        · refine lv_iload C0.1 C0.2.1 dX5_read_181 (lv_at hl 2 rfl) ?_
                          refine lv_bipush (v := 6) C0.1 C0.2.1 dX5_read_183 (by decide) ?_
                          refine lv_ishl C0.1 C0.2.1 dX5_read_185 ?_
                          refine lv_iload C0.1 C0.2.1 dX5_read_186 (lv_at hl 0 rfl) ?_
                          refine lv_bipush (v := 63) C0.1 C0.2.1 dX5_read_188 (by decide) ?_
                          refine lv_iand C0.1 C0.2.1 dX5_read_190 ?_
                          refine lv_ior C0.1 C0.2.1 dX5_read_191 ?_
                          refine lv_istore (lv' := [(4, .int ((((nI xb) &&& 7) <<< (6 &&& 31)) ||| ((Hd.getD (b + 1) 0) &&& 63))), (6, .int (Hd.getD (b + 1) 0)), (5, .int 1), (3, .int 3), (2, .int (nI xb)), (1, .int (nI b)), (0, .ref o)]) C0.1 C0.2.1 dX5_read_192 hl (by decide) rfl (fun ls hl => ?_)
                          refine lv_iinc (v := 2) (lv' := [(5, .int 2), (4, .int ((((nI xb) &&& 7) <<< (6 &&& 31)) ||| ((Hd.getD (b + 1) 0) &&& 63))), (6, .int (Hd.getD (b + 1) 0)), (3, .int 3), (2, .int (nI xb)), (1, .int (nI b)), (0, .ref o)]) C0.1 C0.2.1 dX5_read_194 hl (k := 2) rfl rfl (by decide) rfl (fun ls hl => ?_)
                          refine lv_goto (tgt := 146) C0.1 C0.2.1 dX5_read_197 (by decide) ?_
                          refine lv_iload C0.1 C0.2.1 dX5_read_146 (lv_at hl 0 rfl) ?_
                          refine lv_iload_n C0.1 C0.2.1 dX5_read_148 rfl (lv_at hl 3 rfl) ?_
                          refine lv_icmp_gt (tgt := 200) C0.1 C0.2.1 dX5_read_149 (by decide) (fun c => absurd c (by decide)) (fun c => ?_)
                          refine lv_aload_n C0.1 C0.2.1 dX5_read_152 rfl (lv_at hl 6 rfl) ?_
                          refine md_get C0 hP hM 14 (by decide) kw_491 (v := .ref ((a 14))) rfl dX5_read_153 ?_
                          refine lv_iload_n C0.1 C0.2.1 dX5_read_156 rfl (lv_at hl 5 rfl) ?_
                          refine lv_iload C0.1 C0.2.1 dX5_read_157 (lv_at hl 0 rfl) ?_
                          refine lv_iadd C0.1 C0.2.1 dX5_read_159 ?_
                          refine me_topi (y := nI (b + 2)) (nI_add b 2) ?_
                          refine md_iald C0 hP hM 14 (by decide) (i := (b + 2)) (by show (b + 2) < 200; omega) dX5_read_160 ?_
                          refine me_topi (y := Hd.getD (b + 2) 0) (h14 (b + 2) (by omega)) ?_
                          refine lv_istore (lv' := [(6, .int (Hd.getD (b + 2) 0)), (5, .int 2), (4, .int ((((nI xb) &&& 7) <<< (6 &&& 31)) ||| ((Hd.getD (b + 1) 0) &&& 63))), (3, .int 3), (2, .int (nI xb)), (1, .int (nI b)), (0, .ref o)]) C0.1 C0.2.1 dX5_read_161 hl (by decide) rfl (fun ls hl => ?_)
                          refine lv_iload C0.1 C0.2.1 dX5_read_163 (lv_at hl 0 rfl) ?_
                          refine lv_sipush (v := 128) C0.1 C0.2.1 dX5_read_165 (by decide) ?_
                          refine lv_icmp_lt (tgt := 179) C0.1 C0.2.1 dX5_read_168 (by decide) (fun c105 => ?_) (fun c105 => ?_)
                          · refine lv_iload_n C0.1 C0.2.1 dX5_read_179 rfl (lv_at hl 5 rfl) ?_
                            exact me_wiret _ C0.1 C0.2.1 B.returns B.notSynchronized hP hS (Nat.le_of_ble_eq_true rfl) (Nat.le_of_ble_eq_true rfl) (⟨_, _, hM, hMF, by rw [hwr]; exact (wr_bad (by omega) (ref_no hk (by omega) (Or.inr (by rw [hv0, conts_s (by omega), if_neg c102, if_pos c103, conts_s (by omega), if_pos c105])))).symm, hsF, hsZ, fun h => absurd h (by rw [hwr, wr_bad (by omega) (ref_no hk (by omega) (Or.inr (by rw [hv0, conts_s (by omega), if_neg c102, if_pos c103, conts_s (by omega), if_pos c105])))]; exact nI_m1 (by omega))⟩) dX5_read_180
                          · refine lv_iload C0.1 C0.2.1 dX5_read_171 (lv_at hl 0 rfl) ?_
                            refine lv_sipush (v := 191) C0.1 C0.2.1 dX5_read_173 (by decide) ?_
                            refine lv_icmp_le (tgt := 181) C0.1 C0.2.1 dX5_read_176 (by decide) (fun c106 => ?_) (fun c106 => ?_)
                            · refine lv_iload C0.1 C0.2.1 dX5_read_181 (lv_at hl 2 rfl) ?_
                              refine lv_bipush (v := 6) C0.1 C0.2.1 dX5_read_183 (by decide) ?_
                              refine lv_ishl C0.1 C0.2.1 dX5_read_185 ?_
                              refine lv_iload C0.1 C0.2.1 dX5_read_186 (lv_at hl 0 rfl) ?_
                              refine lv_bipush (v := 63) C0.1 C0.2.1 dX5_read_188 (by decide) ?_
                              refine lv_iand C0.1 C0.2.1 dX5_read_190 ?_
                              refine lv_ior C0.1 C0.2.1 dX5_read_191 ?_
                              refine lv_istore (lv' := [(4, .int ((((((nI xb) &&& 7) <<< (6 &&& 31)) ||| ((Hd.getD (b + 1) 0) &&& 63)) <<< (6 &&& 31)) ||| ((Hd.getD (b + 2) 0) &&& 63))), (6, .int (Hd.getD (b + 2) 0)), (5, .int 2), (3, .int 3), (2, .int (nI xb)), (1, .int (nI b)), (0, .ref o)]) C0.1 C0.2.1 dX5_read_192 hl (by decide) rfl (fun ls hl => ?_)
                              refine lv_iinc (v := 3) (lv' := [(5, .int 3), (4, .int ((((((nI xb) &&& 7) <<< (6 &&& 31)) ||| ((Hd.getD (b + 1) 0) &&& 63)) <<< (6 &&& 31)) ||| ((Hd.getD (b + 2) 0) &&& 63))), (6, .int (Hd.getD (b + 2) 0)), (3, .int 3), (2, .int (nI xb)), (1, .int (nI b)), (0, .ref o)]) C0.1 C0.2.1 dX5_read_194 hl (k := 2) rfl rfl (by decide) rfl (fun ls hl => ?_)
                              refine lv_goto (tgt := 146) C0.1 C0.2.1 dX5_read_197 (by decide) ?_
                              refine lv_iload C0.1 C0.2.1 dX5_read_146 (lv_at hl 0 rfl) ?_
                              refine lv_iload_n C0.1 C0.2.1 dX5_read_148 rfl (lv_at hl 3 rfl) ?_
                              refine lv_icmp_gt (tgt := 200) C0.1 C0.2.1 dX5_read_149 (by decide) (fun c => absurd c (by decide)) (fun c => ?_)
                              refine lv_aload_n C0.1 C0.2.1 dX5_read_152 rfl (lv_at hl 6 rfl) ?_
                              refine md_get C0 hP hM 14 (by decide) kw_491 (v := .ref ((a 14))) rfl dX5_read_153 ?_
                              refine lv_iload_n C0.1 C0.2.1 dX5_read_156 rfl (lv_at hl 5 rfl) ?_
                              refine lv_iload C0.1 C0.2.1 dX5_read_157 (lv_at hl 0 rfl) ?_
                              refine lv_iadd C0.1 C0.2.1 dX5_read_159 ?_
                              refine me_topi (y := nI (b + 3)) (nI_add b 3) ?_
                              refine md_iald C0 hP hM 14 (by decide) (i := (b + 3)) (by show (b + 3) < 200; omega) dX5_read_160 ?_
                              refine me_topi (y := Hd.getD (b + 3) 0) (h14 (b + 3) (by omega)) ?_
                              refine lv_istore (lv' := [(6, .int (Hd.getD (b + 3) 0)), (5, .int 3), (4, .int ((((((nI xb) &&& 7) <<< (6 &&& 31)) ||| ((Hd.getD (b + 1) 0) &&& 63)) <<< (6 &&& 31)) ||| ((Hd.getD (b + 2) 0) &&& 63))), (3, .int 3), (2, .int (nI xb)), (1, .int (nI b)), (0, .ref o)]) C0.1 C0.2.1 dX5_read_161 hl (by decide) rfl (fun ls hl => ?_)
                              refine lv_iload C0.1 C0.2.1 dX5_read_163 (lv_at hl 0 rfl) ?_
                              refine lv_sipush (v := 128) C0.1 C0.2.1 dX5_read_165 (by decide) ?_
                              refine lv_icmp_lt (tgt := 179) C0.1 C0.2.1 dX5_read_168 (by decide) (fun c108 => ?_) (fun c108 => ?_)
                              · refine lv_iload_n C0.1 C0.2.1 dX5_read_179 rfl (lv_at hl 5 rfl) ?_
                                exact me_wiret _ C0.1 C0.2.1 B.returns B.notSynchronized hP hS (Nat.le_of_ble_eq_true rfl) (Nat.le_of_ble_eq_true rfl) (⟨_, _, hM, hMF, by rw [hwr]; exact (wr_bad (by omega) (ref_no hk (by omega) (Or.inr (by rw [hv0, conts_s (by omega), if_neg c102, if_pos c103, conts_s (by omega), if_neg c105, if_pos c106, conts_s (by omega), if_pos c108])))).symm, hsF, hsZ, fun h => absurd h (by rw [hwr, wr_bad (by omega) (ref_no hk (by omega) (Or.inr (by rw [hv0, conts_s (by omega), if_neg c102, if_pos c103, conts_s (by omega), if_neg c105, if_pos c106, conts_s (by omega), if_pos c108])))]; exact nI_m1 (by omega))⟩) dX5_read_180
                              · refine lv_iload C0.1 C0.2.1 dX5_read_171 (lv_at hl 0 rfl) ?_
                                refine lv_sipush (v := 191) C0.1 C0.2.1 dX5_read_173 (by decide) ?_
                                refine lv_icmp_le (tgt := 181) C0.1 C0.2.1 dX5_read_176 (by decide) (fun c109 => ?_) (fun c109 => ?_)
                                · refine lv_iload C0.1 C0.2.1 dX5_read_181 (lv_at hl 2 rfl) ?_
                                  refine lv_bipush (v := 6) C0.1 C0.2.1 dX5_read_183 (by decide) ?_
                                  refine lv_ishl C0.1 C0.2.1 dX5_read_185 ?_
                                  refine lv_iload C0.1 C0.2.1 dX5_read_186 (lv_at hl 0 rfl) ?_
                                  refine lv_bipush (v := 63) C0.1 C0.2.1 dX5_read_188 (by decide) ?_
                                  refine lv_iand C0.1 C0.2.1 dX5_read_190 ?_
                                  refine lv_ior C0.1 C0.2.1 dX5_read_191 ?_
                                  refine lv_istore (lv' := [(4, .int ((((((((nI xb) &&& 7) <<< (6 &&& 31)) ||| ((Hd.getD (b + 1) 0) &&& 63)) <<< (6 &&& 31)) ||| ((Hd.getD (b + 2) 0) &&& 63)) <<< (6 &&& 31)) ||| ((Hd.getD (b + 3) 0) &&& 63))), (6, .int (Hd.getD (b + 3) 0)), (5, .int 3), (3, .int 3), (2, .int (nI xb)), (1, .int (nI b)), (0, .ref o)]) C0.1 C0.2.1 dX5_read_192 hl (by decide) rfl (fun ls hl => ?_)
                                  refine lv_iinc (v := 4) (lv' := [(5, .int 4), (4, .int ((((((((nI xb) &&& 7) <<< (6 &&& 31)) ||| ((Hd.getD (b + 1) 0) &&& 63)) <<< (6 &&& 31)) ||| ((Hd.getD (b + 2) 0) &&& 63)) <<< (6 &&& 31)) ||| ((Hd.getD (b + 3) 0) &&& 63))), (6, .int (Hd.getD (b + 3) 0)), (3, .int 3), (2, .int (nI xb)), (1, .int (nI b)), (0, .ref o)]) C0.1 C0.2.1 dX5_read_194 hl (k := 2) rfl rfl (by decide) rfl (fun ls hl => ?_)
                                  refine lv_goto (tgt := 146) C0.1 C0.2.1 dX5_read_197 (by decide) ?_
                                  refine lv_iload C0.1 C0.2.1 dX5_read_146 (lv_at hl 0 rfl) ?_
                                  refine lv_iload_n C0.1 C0.2.1 dX5_read_148 rfl (lv_at hl 3 rfl) ?_
                                  refine lv_icmp_gt (tgt := 200) C0.1 C0.2.1 dX5_read_149 (by decide) (fun c => ?_) (fun c => absurd c (by decide))
                                  refine lv_iload_n C0.1 C0.2.1 dX5_read_200 rfl (lv_at hl 3 rfl) ?_
                                  refine lv_if_ne (tgt := 208) C0.1 C0.2.1 dX5_read_201 (by decide) (fun c => ?_) (fun c => absurd c (by decide))
                                  refine lv_iload_n C0.1 C0.2.1 dX5_read_208 rfl (lv_at hl 3 rfl) ?_
                                  refine lv_iconst (v := 1) C0.1 C0.2.1 dX5_read_209 (by decide) ?_
                                  refine lv_icmp_ne (tgt := 219) C0.1 C0.2.1 dX5_read_210 (by decide) (fun c => ?_) (fun c => absurd c (by decide))
                                  refine lv_iload_n C0.1 C0.2.1 dX5_read_219 rfl (lv_at hl 3 rfl) ?_
                                  refine lv_iconst (v := 2) C0.1 C0.2.1 dX5_read_220 (by decide) ?_
                                  refine lv_icmp_ne (tgt := 230) C0.1 C0.2.1 dX5_read_221 (by decide) (fun c => ?_) (fun c => absurd c (by decide))
                                  refine lv_ldc (v := 65536) C0.1 C0.2.1 C0.2.2.1 (C0.2.2.2.1 _ kw_563) dX5_read_230 ?_
                                  refine lv_istore (lv' := [(5, .int 65536), (4, .int ((((((((nI xb) &&& 7) <<< (6 &&& 31)) ||| ((Hd.getD (b + 1) 0) &&& 63)) <<< (6 &&& 31)) ||| ((Hd.getD (b + 2) 0) &&& 63)) <<< (6 &&& 31)) ||| ((Hd.getD (b + 3) 0) &&& 63))), (6, .int (Hd.getD (b + 3) 0)), (3, .int 3), (2, .int (nI xb)), (1, .int (nI b)), (0, .ref o)]) C0.1 C0.2.1 dX5_read_232 hl (by decide) rfl (fun ls hl => ?_)
                                  refine lv_iload C0.1 C0.2.1 dX5_read_234 (lv_at hl 1 rfl) ?_
                                  refine lv_iload C0.1 C0.2.1 dX5_read_236 (lv_at hl 0 rfl) ?_
                                  refine lv_icmp_lt (tgt := 262) C0.1 C0.2.1 dX5_read_238 (by decide) (fun c114 => ?_) (fun c114 => ?_)
                                  · refine lv_iload_n C0.1 C0.2.1 dX5_read_262 rfl (lv_at hl 5 rfl) ?_
                                    exact me_wiret _ C0.1 C0.2.1 B.returns B.notSynchronized hP hS (Nat.le_of_ble_eq_true rfl) (Nat.le_of_ble_eq_true rfl) (⟨_, _, hM, hMF, by rw [hwr]; exact (wr_bad (by omega) ((ref_pt ho rfl (by omega) hk (by omega) (fun h => absurd h (by decide)) (by omega) (v := (((((((nI xb) &&& 7) <<< (6 &&& 31)) ||| ((Hd.getD (b + 1) 0) &&& 63)) <<< (6 &&& 31)) ||| ((Hd.getD (b + 2) 0) &&& 63)) <<< (6 &&& 31)) ||| ((Hd.getD (b + 3) 0) &&& 63)) (by rw [hv0, conts_s (by omega), if_neg c102, if_pos c103, conts_s (by omega), if_neg c105, if_pos c106, conts_s (by omega), if_neg c108, if_pos c109, conts_0])).1 (Or.inl c114))).symm, hsF, hsZ, fun h => absurd h (by rw [hwr, wr_bad (by omega) ((ref_pt ho rfl (by omega) hk (by omega) (fun h => absurd h (by decide)) (by omega) (v := (((((((nI xb) &&& 7) <<< (6 &&& 31)) ||| ((Hd.getD (b + 1) 0) &&& 63)) <<< (6 &&& 31)) ||| ((Hd.getD (b + 2) 0) &&& 63)) <<< (6 &&& 31)) ||| ((Hd.getD (b + 3) 0) &&& 63)) (by rw [hv0, conts_s (by omega), if_neg c102, if_pos c103, conts_s (by omega), if_neg c105, if_pos c106, conts_s (by omega), if_neg c108, if_pos c109, conts_0])).1 (Or.inl c114))]; exact nI_m1 (by omega))⟩) dX5_read_263
                                  · refine lv_iload C0.1 C0.2.1 dX5_read_241 (lv_at hl 1 rfl) ?_
                                    refine lv_ldc (v := 1114111) C0.1 C0.2.1 C0.2.2.1 (C0.2.2.2.1 _ kw_564) dX5_read_243 ?_
                                    refine lv_icmp_gt (tgt := 262) C0.1 C0.2.1 dX5_read_245 (by decide) (fun c115 => ?_) (fun c115 => ?_)
                                    · refine lv_iload_n C0.1 C0.2.1 dX5_read_262 rfl (lv_at hl 5 rfl) ?_
                                      exact me_wiret _ C0.1 C0.2.1 B.returns B.notSynchronized hP hS (Nat.le_of_ble_eq_true rfl) (Nat.le_of_ble_eq_true rfl) (⟨_, _, hM, hMF, by rw [hwr]; exact (wr_bad (by omega) ((ref_pt ho rfl (by omega) hk (by omega) (fun h => absurd h (by decide)) (by omega) (v := (((((((nI xb) &&& 7) <<< (6 &&& 31)) ||| ((Hd.getD (b + 1) 0) &&& 63)) <<< (6 &&& 31)) ||| ((Hd.getD (b + 2) 0) &&& 63)) <<< (6 &&& 31)) ||| ((Hd.getD (b + 3) 0) &&& 63)) (by rw [hv0, conts_s (by omega), if_neg c102, if_pos c103, conts_s (by omega), if_neg c105, if_pos c106, conts_s (by omega), if_neg c108, if_pos c109, conts_0])).1 (Or.inr (Or.inl c115)))).symm, hsF, hsZ, fun h => absurd h (by rw [hwr, wr_bad (by omega) ((ref_pt ho rfl (by omega) hk (by omega) (fun h => absurd h (by decide)) (by omega) (v := (((((((nI xb) &&& 7) <<< (6 &&& 31)) ||| ((Hd.getD (b + 1) 0) &&& 63)) <<< (6 &&& 31)) ||| ((Hd.getD (b + 2) 0) &&& 63)) <<< (6 &&& 31)) ||| ((Hd.getD (b + 3) 0) &&& 63)) (by rw [hv0, conts_s (by omega), if_neg c102, if_pos c103, conts_s (by omega), if_neg c105, if_pos c106, conts_s (by omega), if_neg c108, if_pos c109, conts_0])).1 (Or.inr (Or.inl c115)))]; exact nI_m1 (by omega))⟩) dX5_read_263
                                    · refine lv_iload C0.1 C0.2.1 dX5_read_248 (lv_at hl 1 rfl) ?_
                                      refine lv_ldc (v := 55296) C0.1 C0.2.1 C0.2.2.1 (C0.2.2.2.1 _ kw_565) dX5_read_250 ?_
                                      refine lv_icmp_lt (tgt := 264) C0.1 C0.2.1 dX5_read_252 (by decide) (fun c116 => ?_) (fun c116 => ?_)
                                      · obtain ⟨hp1, hp2, hp3⟩ := (ref_pt ho rfl (by omega) hk (by omega) (fun h => absurd h (by decide)) (by omega) (v := (((((((nI xb) &&& 7) <<< (6 &&& 31)) ||| ((Hd.getD (b + 1) 0) &&& 63)) <<< (6 &&& 31)) ||| ((Hd.getD (b + 2) 0) &&& 63)) <<< (6 &&& 31)) ||| ((Hd.getD (b + 3) 0) &&& 63)) (by rw [hv0, conts_s (by omega), if_neg c102, if_pos c103, conts_s (by omega), if_neg c105, if_pos c106, conts_s (by omega), if_neg c108, if_pos c109, conts_0])).2 (fun h => h.elim (fun h => c114 h) (fun h => h.elim (fun h => c115 h) (fun h => h.1 c116)))
                                        have hp3 : ¬ ptC Hd b Hd.length = -1 := hp1 ▸ hp3
                                        refine lv_aload_n C0.1 C0.2.1 dX5_read_264 rfl (lv_at hl 6 rfl) ?_
                                        refine md_get C0 hP hM 16 (by decide) kw_493 (v := .ref ((a 16))) rfl dX5_read_265 ?_
                                        refine lv_aload_n C0.1 C0.2.1 dX5_read_268 rfl (lv_at hl 6 rfl) ?_
                                        refine md_get C0 hP hM 17 (by decide) kw_494 (v := .int (nI P.length)) (by show some (Value.int (z1 17)) = _; rw [hPl.1]) dX5_read_269 ?_
                                        refine lv_iload C0.1 C0.2.1 dX5_read_272 (lv_at hl 1 rfl) ?_
                                        refine md_iast C0 hP hS hM hMF 16 (by decide) (i := P.length) (by show P.length < 200; omega) dX5_read_274 (fun w117 F117 H locs hF117 hM hMF hP hS => ?_)
                                        refine lv_aload_n C0.1 C0.2.1 dX5_read_275 rfl (lv_at hl 6 rfl) ?_
                                        refine lv_dup C0.1 C0.2.1 dX5_read_276 rfl ?_
                                        refine md_get C0 hP hM 17 (by decide) kw_494 (v := .int (nI P.length)) (by show some (Value.int (z1 17)) = _; rw [hPl.1]) dX5_read_277 ?_
                                        refine lv_iconst (v := 1) C0.1 C0.2.1 dX5_read_280 (by decide) ?_
                                        refine lv_iadd C0.1 C0.2.1 dX5_read_281 ?_
                                        refine me_topi (y := nI (P.length + 1)) (nI_add P.length 1) ?_
                                        refine md_put C0 hP hS hM hMF 17 (by decide) kw_494 rfl rfl rfl dX5_read_282 (fun w118 z118 H locs hz118 hM hMF hP hS => ?_)
                                        have hz118_15 : z118 15 = nI Hd.length := by rw [hz118, upd_ne (by decide)]; exact h15
                                        have hz118_17 : z118 17 = nI (P.length + 1) := by rw [hz118, upd_eq]
                                        refine lv_iload_n C0.1 C0.2.1 dX5_read_285 rfl (lv_at hl 5 rfl) ?_
                                        refine lv_iload_n C0.1 C0.2.1 dX5_read_286 rfl (lv_at hl 3 rfl) ?_
                                        refine lv_iconst (v := 1) C0.1 C0.2.1 dX5_read_287 (by decide) ?_
                                        refine lv_iadd C0.1 C0.2.1 dX5_read_288 ?_
                                        refine me_topi (y := nI (3 + 1)) (nI_add 3 1) ?_
                                        refine lv_iadd C0.1 C0.2.1 dX5_read_289 ?_
                                        refine me_topi (y := nI (b + (3 + 1))) (nI_add b (3 + 1)) ?_
                                        refine lv_istore_n (lv' := [(1, .int (nI (b + (3 + 1)))), (5, .int 65536), (4, .int ((((((((nI xb) &&& 7) <<< (6 &&& 31)) ||| ((Hd.getD (b + 1) 0) &&& 63)) <<< (6 &&& 31)) ||| ((Hd.getD (b + 2) 0) &&& 63)) <<< (6 &&& 31)) ||| ((Hd.getD (b + 3) 0) &&& 63))), (6, .int (Hd.getD (b + 3) 0)), (3, .int 3), (2, .int (nI xb)), (0, .ref o)]) C0.1 C0.2.1 dX5_read_290 rfl hl (by decide) rfl (fun ls hl => ?_)
                                        refine lv_goto (tgt := 7) C0.1 C0.2.1 dX5_read_291 (by decide) ?_
                                        exact ih7 (b + (3 + 1)) (P ++ [(((((((nI xb) &&& 7) <<< (6 &&& 31)) ||| ((Hd.getD (b + 1) 0) &&& 63)) <<< (6 &&& 31)) ||| ((Hd.getD (b + 2) 0) &&& 63)) <<< (6 &&& 31)) ||| ((Hd.getD (b + 3) 0) &&& 63)]) _ _ _ (by omega) hM hMF (hsF.wr hF117 (by decide)) (hsZ.wr hz118 (by decide)) (hPl.put hF117 hz118_17 (by omega)) (by simp; omega) (by rw [hwr]; exact wr_go (by omega) hp3 (hp1 ▸ hp2) (by omega)) (by rw [hpt, pts_go (by omega) hp3 (hp1 ▸ hp2) (by omega), hp1, List.append_assoc]; rfl) (by omega) _ _ _ hP hS (lv_sub hl [0, 6] rfl)
                                      · refine lv_iload C0.1 C0.2.1 dX5_read_255 (lv_at hl 1 rfl) ?_
                                        refine lv_ldc (v := 57343) C0.1 C0.2.1 C0.2.2.1 (C0.2.2.2.1 _ kw_566) dX5_read_257 ?_
                                        refine lv_icmp_gt (tgt := 264) C0.1 C0.2.1 dX5_read_259 (by decide) (fun c119 => ?_) (fun c119 => ?_)
                                        · obtain ⟨hp1, hp2, hp3⟩ := (ref_pt ho rfl (by omega) hk (by omega) (fun h => absurd h (by decide)) (by omega) (v := (((((((nI xb) &&& 7) <<< (6 &&& 31)) ||| ((Hd.getD (b + 1) 0) &&& 63)) <<< (6 &&& 31)) ||| ((Hd.getD (b + 2) 0) &&& 63)) <<< (6 &&& 31)) ||| ((Hd.getD (b + 3) 0) &&& 63)) (by rw [hv0, conts_s (by omega), if_neg c102, if_pos c103, conts_s (by omega), if_neg c105, if_pos c106, conts_s (by omega), if_neg c108, if_pos c109, conts_0])).2 (fun h => h.elim (fun h => c114 h) (fun h => h.elim (fun h => c115 h) (fun h => h.2 c119)))
                                          have hp3 : ¬ ptC Hd b Hd.length = -1 := hp1 ▸ hp3
                                          refine lv_aload_n C0.1 C0.2.1 dX5_read_264 rfl (lv_at hl 6 rfl) ?_
                                          refine md_get C0 hP hM 16 (by decide) kw_493 (v := .ref ((a 16))) rfl dX5_read_265 ?_
                                          refine lv_aload_n C0.1 C0.2.1 dX5_read_268 rfl (lv_at hl 6 rfl) ?_
                                          refine md_get C0 hP hM 17 (by decide) kw_494 (v := .int (nI P.length)) (by show some (Value.int (z1 17)) = _; rw [hPl.1]) dX5_read_269 ?_
                                          refine lv_iload C0.1 C0.2.1 dX5_read_272 (lv_at hl 1 rfl) ?_
                                          refine md_iast C0 hP hS hM hMF 16 (by decide) (i := P.length) (by show P.length < 200; omega) dX5_read_274 (fun w120 F120 H locs hF120 hM hMF hP hS => ?_)
                                          refine lv_aload_n C0.1 C0.2.1 dX5_read_275 rfl (lv_at hl 6 rfl) ?_
                                          refine lv_dup C0.1 C0.2.1 dX5_read_276 rfl ?_
                                          refine md_get C0 hP hM 17 (by decide) kw_494 (v := .int (nI P.length)) (by show some (Value.int (z1 17)) = _; rw [hPl.1]) dX5_read_277 ?_
                                          refine lv_iconst (v := 1) C0.1 C0.2.1 dX5_read_280 (by decide) ?_
                                          refine lv_iadd C0.1 C0.2.1 dX5_read_281 ?_
                                          refine me_topi (y := nI (P.length + 1)) (nI_add P.length 1) ?_
                                          refine md_put C0 hP hS hM hMF 17 (by decide) kw_494 rfl rfl rfl dX5_read_282 (fun w121 z121 H locs hz121 hM hMF hP hS => ?_)
                                          have hz121_15 : z121 15 = nI Hd.length := by rw [hz121, upd_ne (by decide)]; exact h15
                                          have hz121_17 : z121 17 = nI (P.length + 1) := by rw [hz121, upd_eq]
                                          refine lv_iload_n C0.1 C0.2.1 dX5_read_285 rfl (lv_at hl 5 rfl) ?_
                                          refine lv_iload_n C0.1 C0.2.1 dX5_read_286 rfl (lv_at hl 3 rfl) ?_
                                          refine lv_iconst (v := 1) C0.1 C0.2.1 dX5_read_287 (by decide) ?_
                                          refine lv_iadd C0.1 C0.2.1 dX5_read_288 ?_
                                          refine me_topi (y := nI (3 + 1)) (nI_add 3 1) ?_
                                          refine lv_iadd C0.1 C0.2.1 dX5_read_289 ?_
                                          refine me_topi (y := nI (b + (3 + 1))) (nI_add b (3 + 1)) ?_
                                          refine lv_istore_n (lv' := [(1, .int (nI (b + (3 + 1)))), (5, .int 65536), (4, .int ((((((((nI xb) &&& 7) <<< (6 &&& 31)) ||| ((Hd.getD (b + 1) 0) &&& 63)) <<< (6 &&& 31)) ||| ((Hd.getD (b + 2) 0) &&& 63)) <<< (6 &&& 31)) ||| ((Hd.getD (b + 3) 0) &&& 63))), (6, .int (Hd.getD (b + 3) 0)), (3, .int 3), (2, .int (nI xb)), (0, .ref o)]) C0.1 C0.2.1 dX5_read_290 rfl hl (by decide) rfl (fun ls hl => ?_)
                                          refine lv_goto (tgt := 7) C0.1 C0.2.1 dX5_read_291 (by decide) ?_
                                          exact ih7 (b + (3 + 1)) (P ++ [(((((((nI xb) &&& 7) <<< (6 &&& 31)) ||| ((Hd.getD (b + 1) 0) &&& 63)) <<< (6 &&& 31)) ||| ((Hd.getD (b + 2) 0) &&& 63)) <<< (6 &&& 31)) ||| ((Hd.getD (b + 3) 0) &&& 63)]) _ _ _ (by omega) hM hMF (hsF.wr hF120 (by decide)) (hsZ.wr hz121 (by decide)) (hPl.put hF120 hz121_17 (by omega)) (by simp; omega) (by rw [hwr]; exact wr_go (by omega) hp3 (hp1 ▸ hp2) (by omega)) (by rw [hpt, pts_go (by omega) hp3 (hp1 ▸ hp2) (by omega), hp1, List.append_assoc]; rfl) (by omega) _ _ _ hP hS (lv_sub hl [0, 6] rfl)
                                        · refine lv_iload_n C0.1 C0.2.1 dX5_read_262 rfl (lv_at hl 5 rfl) ?_
                                          exact me_wiret _ C0.1 C0.2.1 B.returns B.notSynchronized hP hS (Nat.le_of_ble_eq_true rfl) (Nat.le_of_ble_eq_true rfl) (⟨_, _, hM, hMF, by rw [hwr]; exact (wr_bad (by omega) ((ref_pt ho rfl (by omega) hk (by omega) (fun h => absurd h (by decide)) (by omega) (v := (((((((nI xb) &&& 7) <<< (6 &&& 31)) ||| ((Hd.getD (b + 1) 0) &&& 63)) <<< (6 &&& 31)) ||| ((Hd.getD (b + 2) 0) &&& 63)) <<< (6 &&& 31)) ||| ((Hd.getD (b + 3) 0) &&& 63)) (by rw [hv0, conts_s (by omega), if_neg c102, if_pos c103, conts_s (by omega), if_neg c105, if_pos c106, conts_s (by omega), if_neg c108, if_pos c109, conts_0])).1 (Or.inr (Or.inr ⟨c116, c119⟩)))).symm, hsF, hsZ, fun h => absurd h (by rw [hwr, wr_bad (by omega) ((ref_pt ho rfl (by omega) hk (by omega) (fun h => absurd h (by decide)) (by omega) (v := (((((((nI xb) &&& 7) <<< (6 &&& 31)) ||| ((Hd.getD (b + 1) 0) &&& 63)) <<< (6 &&& 31)) ||| ((Hd.getD (b + 2) 0) &&& 63)) <<< (6 &&& 31)) ||| ((Hd.getD (b + 3) 0) &&& 63)) (by rw [hv0, conts_s (by omega), if_neg c102, if_pos c103, conts_s (by omega), if_neg c105, if_pos c106, conts_s (by omega), if_neg c108, if_pos c109, conts_0])).1 (Or.inr (Or.inr ⟨c116, c119⟩)))]; exact nI_m1 (by omega))⟩) dX5_read_263
                                · refine lv_iload_n C0.1 C0.2.1 dX5_read_179 rfl (lv_at hl 5 rfl) ?_
                                  exact me_wiret _ C0.1 C0.2.1 B.returns B.notSynchronized hP hS (Nat.le_of_ble_eq_true rfl) (Nat.le_of_ble_eq_true rfl) (⟨_, _, hM, hMF, by rw [hwr]; exact (wr_bad (by omega) (ref_no hk (by omega) (Or.inr (by rw [hv0, conts_s (by omega), if_neg c102, if_pos c103, conts_s (by omega), if_neg c105, if_pos c106, conts_s (by omega), if_neg c108, if_neg c109])))).symm, hsF, hsZ, fun h => absurd h (by rw [hwr, wr_bad (by omega) (ref_no hk (by omega) (Or.inr (by rw [hv0, conts_s (by omega), if_neg c102, if_pos c103, conts_s (by omega), if_neg c105, if_pos c106, conts_s (by omega), if_neg c108, if_neg c109])))]; exact nI_m1 (by omega))⟩) dX5_read_180
                            · refine lv_iload_n C0.1 C0.2.1 dX5_read_179 rfl (lv_at hl 5 rfl) ?_
                              exact me_wiret _ C0.1 C0.2.1 B.returns B.notSynchronized hP hS (Nat.le_of_ble_eq_true rfl) (Nat.le_of_ble_eq_true rfl) (⟨_, _, hM, hMF, by rw [hwr]; exact (wr_bad (by omega) (ref_no hk (by omega) (Or.inr (by rw [hv0, conts_s (by omega), if_neg c102, if_pos c103, conts_s (by omega), if_neg c105, if_neg c106])))).symm, hsF, hsZ, fun h => absurd h (by rw [hwr, wr_bad (by omega) (ref_no hk (by omega) (Or.inr (by rw [hv0, conts_s (by omega), if_neg c102, if_pos c103, conts_s (by omega), if_neg c105, if_neg c106])))]; exact nI_m1 (by omega))⟩) dX5_read_180
                        · refine lv_iload_n C0.1 C0.2.1 dX5_read_179 rfl (lv_at hl 5 rfl) ?_
                          exact me_wiret _ C0.1 C0.2.1 B.returns B.notSynchronized hP hS (Nat.le_of_ble_eq_true rfl) (Nat.le_of_ble_eq_true rfl) (⟨_, _, hM, hMF, by rw [hwr]; exact (wr_bad (by omega) (ref_no hk (by omega) (Or.inr (by rw [hv0, conts_s (by omega), if_neg c102, if_neg c103])))).symm, hsF, hsZ, fun h => absurd h (by rw [hwr, wr_bad (by omega) (ref_no hk (by omega) (Or.inr (by rw [hv0, conts_s (by omega), if_neg c102, if_neg c103])))]; exact nI_m1 (by omega))⟩) dX5_read_180
                    · have d97 : Hd.length ≤ (b + 3) := Nat.not_lt.mp (fun h => c97 (nI_lt (a := (b + 3)) (b := Hd.length) h (by omega)))
                      refine lv_iload_n C0.1 C0.2.1 dX5_read_103 rfl (lv_at hl 2 rfl) ?_
                      exact me_wiret _ C0.1 C0.2.1 B.returns B.notSynchronized hP hS (Nat.le_of_ble_eq_true rfl) (Nat.le_of_ble_eq_true rfl) (⟨_, _, hM, hMF, by rw [hwr]; exact (wr_bad (by omega) (ref_no hk (by omega) (Or.inl (by omega)))).symm, hsF, hsZ, fun h => absurd h (by rw [hwr, wr_bad (by omega) (ref_no hk (by omega) (Or.inl (by omega)))]; exact nI_m1 (by omega))⟩) dX5_read_104
              · have d91 : 224 ≤ xb := Nat.not_lt.mp (fun h => c91 (nI_lt (a := xb) (b := 224) h (by omega)))
                refine lv_iload_n C0.1 C0.2.1 dX5_read_58 rfl (lv_at hl 0 rfl) ?_
                refine lv_sipush (v := 239) C0.1 C0.2.1 dX5_read_59 (by decide) ?_
                refine lv_icmp_gt (tgt := 69) C0.1 C0.2.1 dX5_read_62 (by decide) (fun c122 => ?_) (fun c122 => ?_)
                · have d122 : 239 < xb := (nI_ltI (a := 239) (b := xb) (by omega) (by omega)).mp c122
                  refine lv_iload_n C0.1 C0.2.1 dX5_read_69 rfl (lv_at hl 0 rfl) ?_
                  refine lv_sipush (v := 240) C0.1 C0.2.1 dX5_read_70 (by decide) ?_
                  refine lv_icmp_lt (tgt := 87) C0.1 C0.2.1 dX5_read_73 (by decide) (fun c123 => ?_) (fun c123 => ?_)
                  · have d123 : xb < 240 := (nI_ltI (a := xb) (b := 240) (by omega) (by omega)).mp c123
                    refine lv_iconst (v := (-1)) C0.1 C0.2.1 dX5_read_87 (by decide) ?_
                    have hk : octMore (Hd.getD b 0) = -1 := by rw [hxb]; exact om_m xb hx256 (by omega)
                    refine lv_istore_n (lv' := [(3, .int ((-1))), (2, .int (nI xb)), (1, .int (nI b)), (0, .ref o)]) C0.1 C0.2.1 dX5_read_88 rfl hl (by decide) rfl (fun ls hl => ?_)
                    refine lv_iload_n C0.1 C0.2.1 dX5_read_89 rfl (lv_at hl 0 rfl) ?_
                    refine lv_if_lt (tgt := 103) C0.1 C0.2.1 dX5_read_90 (by decide) (fun c => ?_) (fun c => absurd c (by decide))
                    refine lv_iload_n C0.1 C0.2.1 dX5_read_103 rfl (lv_at hl 2 rfl) ?_
                    exact me_wiret _ C0.1 C0.2.1 B.returns B.notSynchronized hP hS (Nat.le_of_ble_eq_true rfl) (Nat.le_of_ble_eq_true rfl) (⟨_, _, hM, hMF, by rw [hwr]; exact (wr_bad (by omega) (ref_m1 hk)).symm, hsF, hsZ, fun h => absurd h (by rw [hwr, wr_bad (by omega) (ref_m1 hk)]; exact nI_m1 (by omega))⟩) dX5_read_104
                  · have d123 : 240 ≤ xb := Nat.not_lt.mp (fun h => c123 (nI_lt (a := xb) (b := 240) h (by omega)))
                    refine lv_iload_n C0.1 C0.2.1 dX5_read_76 rfl (lv_at hl 0 rfl) ?_
                    refine lv_sipush (v := 244) C0.1 C0.2.1 dX5_read_77 (by decide) ?_
                    refine lv_icmp_gt (tgt := 87) C0.1 C0.2.1 dX5_read_80 (by decide) (fun c125 => ?_) (fun c125 => ?_)
                    · have d125 : 244 < xb := (nI_ltI (a := 244) (b := xb) (by omega) (by omega)).mp c125
                      refine lv_iconst (v := (-1)) C0.1 C0.2.1 dX5_read_87 (by decide) ?_
                      have hk : octMore (Hd.getD b 0) = -1 := by rw [hxb]; exact om_m xb hx256 (by omega)
                      refine lv_istore_n (lv' := [(3, .int ((-1))), (2, .int (nI xb)), (1, .int (nI b)), (0, .ref o)]) C0.1 C0.2.1 dX5_read_88 rfl hl (by decide) rfl (fun ls hl => ?_)
                      refine lv_iload_n C0.1 C0.2.1 dX5_read_89 rfl (lv_at hl 0 rfl) ?_
                      refine lv_if_lt (tgt := 103) C0.1 C0.2.1 dX5_read_90 (by decide) (fun c => ?_) (fun c => absurd c (by decide))
                      refine lv_iload_n C0.1 C0.2.1 dX5_read_103 rfl (lv_at hl 2 rfl) ?_
                      exact me_wiret _ C0.1 C0.2.1 B.returns B.notSynchronized hP hS (Nat.le_of_ble_eq_true rfl) (Nat.le_of_ble_eq_true rfl) (⟨_, _, hM, hMF, by rw [hwr]; exact (wr_bad (by omega) (ref_m1 hk)).symm, hsF, hsZ, fun h => absurd h (by rw [hwr, wr_bad (by omega) (ref_m1 hk)]; exact nI_m1 (by omega))⟩) dX5_read_104
                    · have d125 : xb ≤ 244 := Nat.not_lt.mp (fun h => c125 (nI_lt (a := 244) (b := xb) h (by omega)))
                      refine lv_iconst (v := 3) C0.1 C0.2.1 dX5_read_83 (by decide) ?_
                      refine lv_goto (tgt := 88) C0.1 C0.2.1 dX5_read_84 (by decide) ?_
                      have hk : octMore (Hd.getD b 0) = nI 3 := by rw [hxb]; exact om_3 xb hx256 (by omega)
                      refine lv_istore_n (lv' := [(3, .int 3), (2, .int (nI xb)), (1, .int (nI b)), (0, .ref o)]) C0.1 C0.2.1 dX5_read_88 rfl hl (by decide) rfl (fun ls hl => ?_)
                      refine lv_iload_n C0.1 C0.2.1 dX5_read_89 rfl (lv_at hl 0 rfl) ?_
                      refine lv_if_lt (tgt := 103) C0.1 C0.2.1 dX5_read_90 (by decide) (fun c => absurd c (by decide)) (fun c => ?_)
                      refine lv_iload_n C0.1 C0.2.1 dX5_read_93 rfl (lv_at hl 2 rfl) ?_
                      refine lv_iload_n C0.1 C0.2.1 dX5_read_94 rfl (lv_at hl 0 rfl) ?_
                      refine lv_iadd C0.1 C0.2.1 dX5_read_95 ?_
                      refine me_topi (y := nI (b + 3)) (nI_add b 3) ?_
                      refine lv_aload_n C0.1 C0.2.1 dX5_read_96 rfl (lv_at hl 3 rfl) ?_
                      refine md_get C0 hP hM 15 (by decide) kw_492 (v := .int (nI Hd.length)) (by show some (Value.int (z1 15)) = _; rw [h15]) dX5_read_97 ?_
                      refine lv_icmp_lt (tgt := 105) C0.1 C0.2.1 dX5_read_100 (by decide) (fun c128 => ?_) (fun c128 => ?_)
                      · have d128 : (b + 3) < Hd.length := (nI_ltI (a := (b + 3)) (b := Hd.length) (by omega) (by omega)).mp c128
                        refine lv_iload_n C0.1 C0.2.1 dX5_read_105 rfl (lv_at hl 0 rfl) ?_
                        refine lv_if_ne (tgt := 113) C0.1 C0.2.1 dX5_read_106 (by decide) (fun c => ?_) (fun c => absurd c (by decide))
                        refine lv_iload_n C0.1 C0.2.1 dX5_read_113 rfl (lv_at hl 0 rfl) ?_
                        refine lv_iconst (v := 1) C0.1 C0.2.1 dX5_read_114 (by decide) ?_
                        refine lv_icmp_ne (tgt := 125) C0.1 C0.2.1 dX5_read_115 (by decide) (fun c => ?_) (fun c => absurd c (by decide))
                        refine lv_iload_n C0.1 C0.2.1 dX5_read_125 rfl (lv_at hl 0 rfl) ?_
                        refine lv_iconst (v := 2) C0.1 C0.2.1 dX5_read_126 (by decide) ?_
                        refine lv_icmp_ne (tgt := 137) C0.1 C0.2.1 dX5_read_127 (by decide) (fun c => ?_) (fun c => absurd c (by decide))
                        refine lv_iload_n C0.1 C0.2.1 dX5_read_137 rfl (lv_at hl 1 rfl) ?_
                        refine lv_bipush (v := 7) C0.1 C0.2.1 dX5_read_138 (by decide) ?_
                        refine lv_iand C0.1 C0.2.1 dX5_read_140 ?_
                        have hv0 : hd (Hd.getD b 0) 3 = (nI xb) &&& 7 := by rw [hxb]; unfold hd; rw [if_neg (by decide), show (63 : Int32) >>> (nI 3 &&& 31) = 7 by decide]
                        refine lv_istore (lv' := [(4, .int ((nI xb) &&& 7)), (3, .int 3), (2, .int (nI xb)), (1, .int (nI b)), (0, .ref o)]) C0.1 C0.2.1 dX5_read_141 hl (by decide) rfl (fun ls hl => ?_)
                        refine lv_iconst (v := 1) C0.1 C0.2.1 dX5_read_143 (by decide) ?_
                        refine lv_istore (lv' := [(5, .int 1), (4, .int ((nI xb) &&& 7)), (3, .int 3), (2, .int (nI xb)), (1, .int (nI b)), (0, .ref o)]) C0.1 C0.2.1 dX5_read_144 hl (by decide) rfl (fun ls hl => ?_)
                        refine lv_iload C0.1 C0.2.1 dX5_read_146 (lv_at hl 0 rfl) ?_
                        refine lv_iload_n C0.1 C0.2.1 dX5_read_148 rfl (lv_at hl 2 rfl) ?_
                        refine lv_icmp_gt (tgt := 200) C0.1 C0.2.1 dX5_read_149 (by decide) (fun c => absurd c (by decide)) (fun c => ?_)
                        refine lv_aload_n C0.1 C0.2.1 dX5_read_152 rfl (lv_at hl 5 rfl) ?_
                        refine md_get C0 hP hM 14 (by decide) kw_491 (v := .ref ((a 14))) rfl dX5_read_153 ?_
                        refine lv_iload_n C0.1 C0.2.1 dX5_read_156 rfl (lv_at hl 4 rfl) ?_
                        refine lv_iload C0.1 C0.2.1 dX5_read_157 (lv_at hl 0 rfl) ?_
                        refine lv_iadd C0.1 C0.2.1 dX5_read_159 ?_
                        refine me_topi (y := nI (b + 1)) (nI_add b 1) ?_
                        refine md_iald C0 hP hM 14 (by decide) (i := (b + 1)) (by show (b + 1) < 200; omega) dX5_read_160 ?_
                        refine me_topi (y := Hd.getD (b + 1) 0) (h14 (b + 1) (by omega)) ?_
                        refine lv_istore (lv' := [(6, .int (Hd.getD (b + 1) 0)), (5, .int 1), (4, .int ((nI xb) &&& 7)), (3, .int 3), (2, .int (nI xb)), (1, .int (nI b)), (0, .ref o)]) C0.1 C0.2.1 dX5_read_161 hl (by decide) rfl (fun ls hl => ?_)
                        refine lv_iload C0.1 C0.2.1 dX5_read_163 (lv_at hl 0 rfl) ?_
                        refine lv_sipush (v := 128) C0.1 C0.2.1 dX5_read_165 (by decide) ?_
                        refine lv_icmp_lt (tgt := 179) C0.1 C0.2.1 dX5_read_168 (by decide) (fun c133 => ?_) (fun c133 => ?_)
                        · refine lv_iload_n C0.1 C0.2.1 dX5_read_179 rfl (lv_at hl 5 rfl) ?_
                          exact me_wiret _ C0.1 C0.2.1 B.returns B.notSynchronized hP hS (Nat.le_of_ble_eq_true rfl) (Nat.le_of_ble_eq_true rfl) (⟨_, _, hM, hMF, by rw [hwr]; exact (wr_bad (by omega) (ref_no hk (by omega) (Or.inr (by rw [hv0, conts_s (by omega), if_pos c133])))).symm, hsF, hsZ, fun h => absurd h (by rw [hwr, wr_bad (by omega) (ref_no hk (by omega) (Or.inr (by rw [hv0, conts_s (by omega), if_pos c133])))]; exact nI_m1 (by omega))⟩) dX5_read_180
                        · refine lv_iload C0.1 C0.2.1 dX5_read_171 (lv_at hl 0 rfl) ?_
                          refine lv_sipush (v := 191) C0.1 C0.2.1 dX5_read_173 (by decide) ?_
                          refine lv_icmp_le (tgt := 181) C0.1 C0.2.1 dX5_read_176 (by decide) (fun c134 => ?_) (fun c134 => ?_)
                          · refine lv_iload C0.1 C0.2.1 dX5_read_181 (lv_at hl 2 rfl) ?_
                            refine lv_bipush (v := 6) C0.1 C0.2.1 dX5_read_183 (by decide) ?_
                            refine lv_ishl C0.1 C0.2.1 dX5_read_185 ?_
                            refine lv_iload C0.1 C0.2.1 dX5_read_186 (lv_at hl 0 rfl) ?_
                            refine lv_bipush (v := 63) C0.1 C0.2.1 dX5_read_188 (by decide) ?_
                            refine lv_iand C0.1 C0.2.1 dX5_read_190 ?_
                            refine lv_ior C0.1 C0.2.1 dX5_read_191 ?_
                            refine lv_istore (lv' := [(4, .int ((((nI xb) &&& 7) <<< (6 &&& 31)) ||| ((Hd.getD (b + 1) 0) &&& 63))), (6, .int (Hd.getD (b + 1) 0)), (5, .int 1), (3, .int 3), (2, .int (nI xb)), (1, .int (nI b)), (0, .ref o)]) C0.1 C0.2.1 dX5_read_192 hl (by decide) rfl (fun ls hl => ?_)
                            refine lv_iinc (v := 2) (lv' := [(5, .int 2), (4, .int ((((nI xb) &&& 7) <<< (6 &&& 31)) ||| ((Hd.getD (b + 1) 0) &&& 63))), (6, .int (Hd.getD (b + 1) 0)), (3, .int 3), (2, .int (nI xb)), (1, .int (nI b)), (0, .ref o)]) C0.1 C0.2.1 dX5_read_194 hl (k := 2) rfl rfl (by decide) rfl (fun ls hl => ?_)
                            refine lv_goto (tgt := 146) C0.1 C0.2.1 dX5_read_197 (by decide) ?_
                            refine lv_iload C0.1 C0.2.1 dX5_read_146 (lv_at hl 0 rfl) ?_
                            refine lv_iload_n C0.1 C0.2.1 dX5_read_148 rfl (lv_at hl 3 rfl) ?_
                            refine lv_icmp_gt (tgt := 200) C0.1 C0.2.1 dX5_read_149 (by decide) (fun c => absurd c (by decide)) (fun c => ?_)
                            refine lv_aload_n C0.1 C0.2.1 dX5_read_152 rfl (lv_at hl 6 rfl) ?_
                            refine md_get C0 hP hM 14 (by decide) kw_491 (v := .ref ((a 14))) rfl dX5_read_153 ?_
                            refine lv_iload_n C0.1 C0.2.1 dX5_read_156 rfl (lv_at hl 5 rfl) ?_
                            refine lv_iload C0.1 C0.2.1 dX5_read_157 (lv_at hl 0 rfl) ?_
                            refine lv_iadd C0.1 C0.2.1 dX5_read_159 ?_
                            refine me_topi (y := nI (b + 2)) (nI_add b 2) ?_
                            refine md_iald C0 hP hM 14 (by decide) (i := (b + 2)) (by show (b + 2) < 200; omega) dX5_read_160 ?_
                            refine me_topi (y := Hd.getD (b + 2) 0) (h14 (b + 2) (by omega)) ?_
                            refine lv_istore (lv' := [(6, .int (Hd.getD (b + 2) 0)), (5, .int 2), (4, .int ((((nI xb) &&& 7) <<< (6 &&& 31)) ||| ((Hd.getD (b + 1) 0) &&& 63))), (3, .int 3), (2, .int (nI xb)), (1, .int (nI b)), (0, .ref o)]) C0.1 C0.2.1 dX5_read_161 hl (by decide) rfl (fun ls hl => ?_)
                            refine lv_iload C0.1 C0.2.1 dX5_read_163 (lv_at hl 0 rfl) ?_
                            refine lv_sipush (v := 128) C0.1 C0.2.1 dX5_read_165 (by decide) ?_
                            refine lv_icmp_lt (tgt := 179) C0.1 C0.2.1 dX5_read_168 (by decide) (fun c136 => ?_) (fun c136 => ?_)
                            · refine lv_iload_n C0.1 C0.2.1 dX5_read_179 rfl (lv_at hl 5 rfl) ?_
                              exact me_wiret _ C0.1 C0.2.1 B.returns B.notSynchronized hP hS (Nat.le_of_ble_eq_true rfl) (Nat.le_of_ble_eq_true rfl) (⟨_, _, hM, hMF, by rw [hwr]; exact (wr_bad (by omega) (ref_no hk (by omega) (Or.inr (by rw [hv0, conts_s (by omega), if_neg c133, if_pos c134, conts_s (by omega), if_pos c136])))).symm, hsF, hsZ, fun h => absurd h (by rw [hwr, wr_bad (by omega) (ref_no hk (by omega) (Or.inr (by rw [hv0, conts_s (by omega), if_neg c133, if_pos c134, conts_s (by omega), if_pos c136])))]; exact nI_m1 (by omega))⟩) dX5_read_180
                            · refine lv_iload C0.1 C0.2.1 dX5_read_171 (lv_at hl 0 rfl) ?_
                              refine lv_sipush (v := 191) C0.1 C0.2.1 dX5_read_173 (by decide) ?_
                              refine lv_icmp_le (tgt := 181) C0.1 C0.2.1 dX5_read_176 (by decide) (fun c137 => ?_) (fun c137 => ?_)
                              · refine lv_iload C0.1 C0.2.1 dX5_read_181 (lv_at hl 2 rfl) ?_
                                refine lv_bipush (v := 6) C0.1 C0.2.1 dX5_read_183 (by decide) ?_
                                refine lv_ishl C0.1 C0.2.1 dX5_read_185 ?_
                                refine lv_iload C0.1 C0.2.1 dX5_read_186 (lv_at hl 0 rfl) ?_
                                refine lv_bipush (v := 63) C0.1 C0.2.1 dX5_read_188 (by decide) ?_
                                refine lv_iand C0.1 C0.2.1 dX5_read_190 ?_
                                refine lv_ior C0.1 C0.2.1 dX5_read_191 ?_
                                refine lv_istore (lv' := [(4, .int ((((((nI xb) &&& 7) <<< (6 &&& 31)) ||| ((Hd.getD (b + 1) 0) &&& 63)) <<< (6 &&& 31)) ||| ((Hd.getD (b + 2) 0) &&& 63))), (6, .int (Hd.getD (b + 2) 0)), (5, .int 2), (3, .int 3), (2, .int (nI xb)), (1, .int (nI b)), (0, .ref o)]) C0.1 C0.2.1 dX5_read_192 hl (by decide) rfl (fun ls hl => ?_)
                                refine lv_iinc (v := 3) (lv' := [(5, .int 3), (4, .int ((((((nI xb) &&& 7) <<< (6 &&& 31)) ||| ((Hd.getD (b + 1) 0) &&& 63)) <<< (6 &&& 31)) ||| ((Hd.getD (b + 2) 0) &&& 63))), (6, .int (Hd.getD (b + 2) 0)), (3, .int 3), (2, .int (nI xb)), (1, .int (nI b)), (0, .ref o)]) C0.1 C0.2.1 dX5_read_194 hl (k := 2) rfl rfl (by decide) rfl (fun ls hl => ?_)
                                refine lv_goto (tgt := 146) C0.1 C0.2.1 dX5_read_197 (by decide) ?_
                                refine lv_iload C0.1 C0.2.1 dX5_read_146 (lv_at hl 0 rfl) ?_
                                refine lv_iload_n C0.1 C0.2.1 dX5_read_148 rfl (lv_at hl 3 rfl) ?_
                                refine lv_icmp_gt (tgt := 200) C0.1 C0.2.1 dX5_read_149 (by decide) (fun c => absurd c (by decide)) (fun c => ?_)
                                refine lv_aload_n C0.1 C0.2.1 dX5_read_152 rfl (lv_at hl 6 rfl) ?_
                                refine md_get C0 hP hM 14 (by decide) kw_491 (v := .ref ((a 14))) rfl dX5_read_153 ?_
                                refine lv_iload_n C0.1 C0.2.1 dX5_read_156 rfl (lv_at hl 5 rfl) ?_
                                refine lv_iload C0.1 C0.2.1 dX5_read_157 (lv_at hl 0 rfl) ?_
                                refine lv_iadd C0.1 C0.2.1 dX5_read_159 ?_
                                refine me_topi (y := nI (b + 3)) (nI_add b 3) ?_
                                refine md_iald C0 hP hM 14 (by decide) (i := (b + 3)) (by show (b + 3) < 200; omega) dX5_read_160 ?_
                                refine me_topi (y := Hd.getD (b + 3) 0) (h14 (b + 3) (by omega)) ?_
                                refine lv_istore (lv' := [(6, .int (Hd.getD (b + 3) 0)), (5, .int 3), (4, .int ((((((nI xb) &&& 7) <<< (6 &&& 31)) ||| ((Hd.getD (b + 1) 0) &&& 63)) <<< (6 &&& 31)) ||| ((Hd.getD (b + 2) 0) &&& 63))), (3, .int 3), (2, .int (nI xb)), (1, .int (nI b)), (0, .ref o)]) C0.1 C0.2.1 dX5_read_161 hl (by decide) rfl (fun ls hl => ?_)
                                refine lv_iload C0.1 C0.2.1 dX5_read_163 (lv_at hl 0 rfl) ?_
                                refine lv_sipush (v := 128) C0.1 C0.2.1 dX5_read_165 (by decide) ?_
                                refine lv_icmp_lt (tgt := 179) C0.1 C0.2.1 dX5_read_168 (by decide) (fun c139 => ?_) (fun c139 => ?_)
                                · refine lv_iload_n C0.1 C0.2.1 dX5_read_179 rfl (lv_at hl 5 rfl) ?_
                                  exact me_wiret _ C0.1 C0.2.1 B.returns B.notSynchronized hP hS (Nat.le_of_ble_eq_true rfl) (Nat.le_of_ble_eq_true rfl) (⟨_, _, hM, hMF, by rw [hwr]; exact (wr_bad (by omega) (ref_no hk (by omega) (Or.inr (by rw [hv0, conts_s (by omega), if_neg c133, if_pos c134, conts_s (by omega), if_neg c136, if_pos c137, conts_s (by omega), if_pos c139])))).symm, hsF, hsZ, fun h => absurd h (by rw [hwr, wr_bad (by omega) (ref_no hk (by omega) (Or.inr (by rw [hv0, conts_s (by omega), if_neg c133, if_pos c134, conts_s (by omega), if_neg c136, if_pos c137, conts_s (by omega), if_pos c139])))]; exact nI_m1 (by omega))⟩) dX5_read_180
                                · refine lv_iload C0.1 C0.2.1 dX5_read_171 (lv_at hl 0 rfl) ?_
                                  refine lv_sipush (v := 191) C0.1 C0.2.1 dX5_read_173 (by decide) ?_
                                  refine lv_icmp_le (tgt := 181) C0.1 C0.2.1 dX5_read_176 (by decide) (fun c140 => ?_) (fun c140 => ?_)
                                  · refine lv_iload C0.1 C0.2.1 dX5_read_181 (lv_at hl 2 rfl) ?_
                                    refine lv_bipush (v := 6) C0.1 C0.2.1 dX5_read_183 (by decide) ?_
                                    refine lv_ishl C0.1 C0.2.1 dX5_read_185 ?_
                                    refine lv_iload C0.1 C0.2.1 dX5_read_186 (lv_at hl 0 rfl) ?_
                                    refine lv_bipush (v := 63) C0.1 C0.2.1 dX5_read_188 (by decide) ?_
                                    refine lv_iand C0.1 C0.2.1 dX5_read_190 ?_
                                    refine lv_ior C0.1 C0.2.1 dX5_read_191 ?_
                                    refine lv_istore (lv' := [(4, .int ((((((((nI xb) &&& 7) <<< (6 &&& 31)) ||| ((Hd.getD (b + 1) 0) &&& 63)) <<< (6 &&& 31)) ||| ((Hd.getD (b + 2) 0) &&& 63)) <<< (6 &&& 31)) ||| ((Hd.getD (b + 3) 0) &&& 63))), (6, .int (Hd.getD (b + 3) 0)), (5, .int 3), (3, .int 3), (2, .int (nI xb)), (1, .int (nI b)), (0, .ref o)]) C0.1 C0.2.1 dX5_read_192 hl (by decide) rfl (fun ls hl => ?_)
                                    refine lv_iinc (v := 4) (lv' := [(5, .int 4), (4, .int ((((((((nI xb) &&& 7) <<< (6 &&& 31)) ||| ((Hd.getD (b + 1) 0) &&& 63)) <<< (6 &&& 31)) ||| ((Hd.getD (b + 2) 0) &&& 63)) <<< (6 &&& 31)) ||| ((Hd.getD (b + 3) 0) &&& 63))), (6, .int (Hd.getD (b + 3) 0)), (3, .int 3), (2, .int (nI xb)), (1, .int (nI b)), (0, .ref o)]) C0.1 C0.2.1 dX5_read_194 hl (k := 2) rfl rfl (by decide) rfl (fun ls hl => ?_)
                                    refine lv_goto (tgt := 146) C0.1 C0.2.1 dX5_read_197 (by decide) ?_
                                    refine lv_iload C0.1 C0.2.1 dX5_read_146 (lv_at hl 0 rfl) ?_
                                    refine lv_iload_n C0.1 C0.2.1 dX5_read_148 rfl (lv_at hl 3 rfl) ?_
                                    refine lv_icmp_gt (tgt := 200) C0.1 C0.2.1 dX5_read_149 (by decide) (fun c => ?_) (fun c => absurd c (by decide))
                                    refine lv_iload_n C0.1 C0.2.1 dX5_read_200 rfl (lv_at hl 3 rfl) ?_
                                    refine lv_if_ne (tgt := 208) C0.1 C0.2.1 dX5_read_201 (by decide) (fun c => ?_) (fun c => absurd c (by decide))
                                    refine lv_iload_n C0.1 C0.2.1 dX5_read_208 rfl (lv_at hl 3 rfl) ?_
                                    refine lv_iconst (v := 1) C0.1 C0.2.1 dX5_read_209 (by decide) ?_
                                    refine lv_icmp_ne (tgt := 219) C0.1 C0.2.1 dX5_read_210 (by decide) (fun c => ?_) (fun c => absurd c (by decide))
                                    refine lv_iload_n C0.1 C0.2.1 dX5_read_219 rfl (lv_at hl 3 rfl) ?_
                                    refine lv_iconst (v := 2) C0.1 C0.2.1 dX5_read_220 (by decide) ?_
                                    refine lv_icmp_ne (tgt := 230) C0.1 C0.2.1 dX5_read_221 (by decide) (fun c => ?_) (fun c => absurd c (by decide))
                                    refine lv_ldc (v := 65536) C0.1 C0.2.1 C0.2.2.1 (C0.2.2.2.1 _ kw_563) dX5_read_230 ?_
                                    refine lv_istore (lv' := [(5, .int 65536), (4, .int ((((((((nI xb) &&& 7) <<< (6 &&& 31)) ||| ((Hd.getD (b + 1) 0) &&& 63)) <<< (6 &&& 31)) ||| ((Hd.getD (b + 2) 0) &&& 63)) <<< (6 &&& 31)) ||| ((Hd.getD (b + 3) 0) &&& 63))), (6, .int (Hd.getD (b + 3) 0)), (3, .int 3), (2, .int (nI xb)), (1, .int (nI b)), (0, .ref o)]) C0.1 C0.2.1 dX5_read_232 hl (by decide) rfl (fun ls hl => ?_)
                                    refine lv_iload C0.1 C0.2.1 dX5_read_234 (lv_at hl 1 rfl) ?_
                                    refine lv_iload C0.1 C0.2.1 dX5_read_236 (lv_at hl 0 rfl) ?_
                                    refine lv_icmp_lt (tgt := 262) C0.1 C0.2.1 dX5_read_238 (by decide) (fun c145 => ?_) (fun c145 => ?_)
                                    · refine lv_iload_n C0.1 C0.2.1 dX5_read_262 rfl (lv_at hl 5 rfl) ?_
                                      exact me_wiret _ C0.1 C0.2.1 B.returns B.notSynchronized hP hS (Nat.le_of_ble_eq_true rfl) (Nat.le_of_ble_eq_true rfl) (⟨_, _, hM, hMF, by rw [hwr]; exact (wr_bad (by omega) ((ref_pt ho rfl (by omega) hk (by omega) (fun h => absurd h (by decide)) (by omega) (v := (((((((nI xb) &&& 7) <<< (6 &&& 31)) ||| ((Hd.getD (b + 1) 0) &&& 63)) <<< (6 &&& 31)) ||| ((Hd.getD (b + 2) 0) &&& 63)) <<< (6 &&& 31)) ||| ((Hd.getD (b + 3) 0) &&& 63)) (by rw [hv0, conts_s (by omega), if_neg c133, if_pos c134, conts_s (by omega), if_neg c136, if_pos c137, conts_s (by omega), if_neg c139, if_pos c140, conts_0])).1 (Or.inl c145))).symm, hsF, hsZ, fun h => absurd h (by rw [hwr, wr_bad (by omega) ((ref_pt ho rfl (by omega) hk (by omega) (fun h => absurd h (by decide)) (by omega) (v := (((((((nI xb) &&& 7) <<< (6 &&& 31)) ||| ((Hd.getD (b + 1) 0) &&& 63)) <<< (6 &&& 31)) ||| ((Hd.getD (b + 2) 0) &&& 63)) <<< (6 &&& 31)) ||| ((Hd.getD (b + 3) 0) &&& 63)) (by rw [hv0, conts_s (by omega), if_neg c133, if_pos c134, conts_s (by omega), if_neg c136, if_pos c137, conts_s (by omega), if_neg c139, if_pos c140, conts_0])).1 (Or.inl c145))]; exact nI_m1 (by omega))⟩) dX5_read_263
                                    · refine lv_iload C0.1 C0.2.1 dX5_read_241 (lv_at hl 1 rfl) ?_
                                      refine lv_ldc (v := 1114111) C0.1 C0.2.1 C0.2.2.1 (C0.2.2.2.1 _ kw_564) dX5_read_243 ?_
                                      refine lv_icmp_gt (tgt := 262) C0.1 C0.2.1 dX5_read_245 (by decide) (fun c146 => ?_) (fun c146 => ?_)
                                      · refine lv_iload_n C0.1 C0.2.1 dX5_read_262 rfl (lv_at hl 5 rfl) ?_
                                        exact me_wiret _ C0.1 C0.2.1 B.returns B.notSynchronized hP hS (Nat.le_of_ble_eq_true rfl) (Nat.le_of_ble_eq_true rfl) (⟨_, _, hM, hMF, by rw [hwr]; exact (wr_bad (by omega) ((ref_pt ho rfl (by omega) hk (by omega) (fun h => absurd h (by decide)) (by omega) (v := (((((((nI xb) &&& 7) <<< (6 &&& 31)) ||| ((Hd.getD (b + 1) 0) &&& 63)) <<< (6 &&& 31)) ||| ((Hd.getD (b + 2) 0) &&& 63)) <<< (6 &&& 31)) ||| ((Hd.getD (b + 3) 0) &&& 63)) (by rw [hv0, conts_s (by omega), if_neg c133, if_pos c134, conts_s (by omega), if_neg c136, if_pos c137, conts_s (by omega), if_neg c139, if_pos c140, conts_0])).1 (Or.inr (Or.inl c146)))).symm, hsF, hsZ, fun h => absurd h (by rw [hwr, wr_bad (by omega) ((ref_pt ho rfl (by omega) hk (by omega) (fun h => absurd h (by decide)) (by omega) (v := (((((((nI xb) &&& 7) <<< (6 &&& 31)) ||| ((Hd.getD (b + 1) 0) &&& 63)) <<< (6 &&& 31)) ||| ((Hd.getD (b + 2) 0) &&& 63)) <<< (6 &&& 31)) ||| ((Hd.getD (b + 3) 0) &&& 63)) (by rw [hv0, conts_s (by omega), if_neg c133, if_pos c134, conts_s (by omega), if_neg c136, if_pos c137, conts_s (by omega), if_neg c139, if_pos c140, conts_0])).1 (Or.inr (Or.inl c146)))]; exact nI_m1 (by omega))⟩) dX5_read_263
                                      · refine lv_iload C0.1 C0.2.1 dX5_read_248 (lv_at hl 1 rfl) ?_
                                        refine lv_ldc (v := 55296) C0.1 C0.2.1 C0.2.2.1 (C0.2.2.2.1 _ kw_565) dX5_read_250 ?_
                                        refine lv_icmp_lt (tgt := 264) C0.1 C0.2.1 dX5_read_252 (by decide) (fun c147 => ?_) (fun c147 => ?_)
                                        · obtain ⟨hp1, hp2, hp3⟩ := (ref_pt ho rfl (by omega) hk (by omega) (fun h => absurd h (by decide)) (by omega) (v := (((((((nI xb) &&& 7) <<< (6 &&& 31)) ||| ((Hd.getD (b + 1) 0) &&& 63)) <<< (6 &&& 31)) ||| ((Hd.getD (b + 2) 0) &&& 63)) <<< (6 &&& 31)) ||| ((Hd.getD (b + 3) 0) &&& 63)) (by rw [hv0, conts_s (by omega), if_neg c133, if_pos c134, conts_s (by omega), if_neg c136, if_pos c137, conts_s (by omega), if_neg c139, if_pos c140, conts_0])).2 (fun h => h.elim (fun h => c145 h) (fun h => h.elim (fun h => c146 h) (fun h => h.1 c147)))
                                          have hp3 : ¬ ptC Hd b Hd.length = -1 := hp1 ▸ hp3
                                          refine lv_aload_n C0.1 C0.2.1 dX5_read_264 rfl (lv_at hl 6 rfl) ?_
                                          refine md_get C0 hP hM 16 (by decide) kw_493 (v := .ref ((a 16))) rfl dX5_read_265 ?_
                                          refine lv_aload_n C0.1 C0.2.1 dX5_read_268 rfl (lv_at hl 6 rfl) ?_
                                          refine md_get C0 hP hM 17 (by decide) kw_494 (v := .int (nI P.length)) (by show some (Value.int (z1 17)) = _; rw [hPl.1]) dX5_read_269 ?_
                                          refine lv_iload C0.1 C0.2.1 dX5_read_272 (lv_at hl 1 rfl) ?_
                                          refine md_iast C0 hP hS hM hMF 16 (by decide) (i := P.length) (by show P.length < 200; omega) dX5_read_274 (fun w148 F148 H locs hF148 hM hMF hP hS => ?_)
                                          refine lv_aload_n C0.1 C0.2.1 dX5_read_275 rfl (lv_at hl 6 rfl) ?_
                                          refine lv_dup C0.1 C0.2.1 dX5_read_276 rfl ?_
                                          refine md_get C0 hP hM 17 (by decide) kw_494 (v := .int (nI P.length)) (by show some (Value.int (z1 17)) = _; rw [hPl.1]) dX5_read_277 ?_
                                          refine lv_iconst (v := 1) C0.1 C0.2.1 dX5_read_280 (by decide) ?_
                                          refine lv_iadd C0.1 C0.2.1 dX5_read_281 ?_
                                          refine me_topi (y := nI (P.length + 1)) (nI_add P.length 1) ?_
                                          refine md_put C0 hP hS hM hMF 17 (by decide) kw_494 rfl rfl rfl dX5_read_282 (fun w149 z149 H locs hz149 hM hMF hP hS => ?_)
                                          have hz149_15 : z149 15 = nI Hd.length := by rw [hz149, upd_ne (by decide)]; exact h15
                                          have hz149_17 : z149 17 = nI (P.length + 1) := by rw [hz149, upd_eq]
                                          refine lv_iload_n C0.1 C0.2.1 dX5_read_285 rfl (lv_at hl 5 rfl) ?_
                                          refine lv_iload_n C0.1 C0.2.1 dX5_read_286 rfl (lv_at hl 3 rfl) ?_
                                          refine lv_iconst (v := 1) C0.1 C0.2.1 dX5_read_287 (by decide) ?_
                                          refine lv_iadd C0.1 C0.2.1 dX5_read_288 ?_
                                          refine me_topi (y := nI (3 + 1)) (nI_add 3 1) ?_
                                          refine lv_iadd C0.1 C0.2.1 dX5_read_289 ?_
                                          refine me_topi (y := nI (b + (3 + 1))) (nI_add b (3 + 1)) ?_
                                          refine lv_istore_n (lv' := [(1, .int (nI (b + (3 + 1)))), (5, .int 65536), (4, .int ((((((((nI xb) &&& 7) <<< (6 &&& 31)) ||| ((Hd.getD (b + 1) 0) &&& 63)) <<< (6 &&& 31)) ||| ((Hd.getD (b + 2) 0) &&& 63)) <<< (6 &&& 31)) ||| ((Hd.getD (b + 3) 0) &&& 63))), (6, .int (Hd.getD (b + 3) 0)), (3, .int 3), (2, .int (nI xb)), (0, .ref o)]) C0.1 C0.2.1 dX5_read_290 rfl hl (by decide) rfl (fun ls hl => ?_)
                                          refine lv_goto (tgt := 7) C0.1 C0.2.1 dX5_read_291 (by decide) ?_
                                          exact ih7 (b + (3 + 1)) (P ++ [(((((((nI xb) &&& 7) <<< (6 &&& 31)) ||| ((Hd.getD (b + 1) 0) &&& 63)) <<< (6 &&& 31)) ||| ((Hd.getD (b + 2) 0) &&& 63)) <<< (6 &&& 31)) ||| ((Hd.getD (b + 3) 0) &&& 63)]) _ _ _ (by omega) hM hMF (hsF.wr hF148 (by decide)) (hsZ.wr hz149 (by decide)) (hPl.put hF148 hz149_17 (by omega)) (by simp; omega) (by rw [hwr]; exact wr_go (by omega) hp3 (hp1 ▸ hp2) (by omega)) (by rw [hpt, pts_go (by omega) hp3 (hp1 ▸ hp2) (by omega), hp1, List.append_assoc]; rfl) (by omega) _ _ _ hP hS (lv_sub hl [0, 6] rfl)
                                        · refine lv_iload C0.1 C0.2.1 dX5_read_255 (lv_at hl 1 rfl) ?_
                                          refine lv_ldc (v := 57343) C0.1 C0.2.1 C0.2.2.1 (C0.2.2.2.1 _ kw_566) dX5_read_257 ?_
                                          refine lv_icmp_gt (tgt := 264) C0.1 C0.2.1 dX5_read_259 (by decide) (fun c150 => ?_) (fun c150 => ?_)
                                          · obtain ⟨hp1, hp2, hp3⟩ := (ref_pt ho rfl (by omega) hk (by omega) (fun h => absurd h (by decide)) (by omega) (v := (((((((nI xb) &&& 7) <<< (6 &&& 31)) ||| ((Hd.getD (b + 1) 0) &&& 63)) <<< (6 &&& 31)) ||| ((Hd.getD (b + 2) 0) &&& 63)) <<< (6 &&& 31)) ||| ((Hd.getD (b + 3) 0) &&& 63)) (by rw [hv0, conts_s (by omega), if_neg c133, if_pos c134, conts_s (by omega), if_neg c136, if_pos c137, conts_s (by omega), if_neg c139, if_pos c140, conts_0])).2 (fun h => h.elim (fun h => c145 h) (fun h => h.elim (fun h => c146 h) (fun h => h.2 c150)))
                                            have hp3 : ¬ ptC Hd b Hd.length = -1 := hp1 ▸ hp3
                                            refine lv_aload_n C0.1 C0.2.1 dX5_read_264 rfl (lv_at hl 6 rfl) ?_
                                            refine md_get C0 hP hM 16 (by decide) kw_493 (v := .ref ((a 16))) rfl dX5_read_265 ?_
                                            refine lv_aload_n C0.1 C0.2.1 dX5_read_268 rfl (lv_at hl 6 rfl) ?_
                                            refine md_get C0 hP hM 17 (by decide) kw_494 (v := .int (nI P.length)) (by show some (Value.int (z1 17)) = _; rw [hPl.1]) dX5_read_269 ?_
                                            refine lv_iload C0.1 C0.2.1 dX5_read_272 (lv_at hl 1 rfl) ?_
                                            refine md_iast C0 hP hS hM hMF 16 (by decide) (i := P.length) (by show P.length < 200; omega) dX5_read_274 (fun w151 F151 H locs hF151 hM hMF hP hS => ?_)
                                            refine lv_aload_n C0.1 C0.2.1 dX5_read_275 rfl (lv_at hl 6 rfl) ?_
                                            refine lv_dup C0.1 C0.2.1 dX5_read_276 rfl ?_
                                            refine md_get C0 hP hM 17 (by decide) kw_494 (v := .int (nI P.length)) (by show some (Value.int (z1 17)) = _; rw [hPl.1]) dX5_read_277 ?_
                                            refine lv_iconst (v := 1) C0.1 C0.2.1 dX5_read_280 (by decide) ?_
                                            refine lv_iadd C0.1 C0.2.1 dX5_read_281 ?_
                                            refine me_topi (y := nI (P.length + 1)) (nI_add P.length 1) ?_
                                            refine md_put C0 hP hS hM hMF 17 (by decide) kw_494 rfl rfl rfl dX5_read_282 (fun w152 z152 H locs hz152 hM hMF hP hS => ?_)
                                            have hz152_15 : z152 15 = nI Hd.length := by rw [hz152, upd_ne (by decide)]; exact h15
                                            have hz152_17 : z152 17 = nI (P.length + 1) := by rw [hz152, upd_eq]
                                            refine lv_iload_n C0.1 C0.2.1 dX5_read_285 rfl (lv_at hl 5 rfl) ?_
                                            refine lv_iload_n C0.1 C0.2.1 dX5_read_286 rfl (lv_at hl 3 rfl) ?_
                                            refine lv_iconst (v := 1) C0.1 C0.2.1 dX5_read_287 (by decide) ?_
                                            refine lv_iadd C0.1 C0.2.1 dX5_read_288 ?_
                                            refine me_topi (y := nI (3 + 1)) (nI_add 3 1) ?_
                                            refine lv_iadd C0.1 C0.2.1 dX5_read_289 ?_
                                            refine me_topi (y := nI (b + (3 + 1))) (nI_add b (3 + 1)) ?_
                                            refine lv_istore_n (lv' := [(1, .int (nI (b + (3 + 1)))), (5, .int 65536), (4, .int ((((((((nI xb) &&& 7) <<< (6 &&& 31)) ||| ((Hd.getD (b + 1) 0) &&& 63)) <<< (6 &&& 31)) ||| ((Hd.getD (b + 2) 0) &&& 63)) <<< (6 &&& 31)) ||| ((Hd.getD (b + 3) 0) &&& 63))), (6, .int (Hd.getD (b + 3) 0)), (3, .int 3), (2, .int (nI xb)), (0, .ref o)]) C0.1 C0.2.1 dX5_read_290 rfl hl (by decide) rfl (fun ls hl => ?_)
                                            refine lv_goto (tgt := 7) C0.1 C0.2.1 dX5_read_291 (by decide) ?_
                                            exact ih7 (b + (3 + 1)) (P ++ [(((((((nI xb) &&& 7) <<< (6 &&& 31)) ||| ((Hd.getD (b + 1) 0) &&& 63)) <<< (6 &&& 31)) ||| ((Hd.getD (b + 2) 0) &&& 63)) <<< (6 &&& 31)) ||| ((Hd.getD (b + 3) 0) &&& 63)]) _ _ _ (by omega) hM hMF (hsF.wr hF151 (by decide)) (hsZ.wr hz152 (by decide)) (hPl.put hF151 hz152_17 (by omega)) (by simp; omega) (by rw [hwr]; exact wr_go (by omega) hp3 (hp1 ▸ hp2) (by omega)) (by rw [hpt, pts_go (by omega) hp3 (hp1 ▸ hp2) (by omega), hp1, List.append_assoc]; rfl) (by omega) _ _ _ hP hS (lv_sub hl [0, 6] rfl)
                                          · refine lv_iload_n C0.1 C0.2.1 dX5_read_262 rfl (lv_at hl 5 rfl) ?_
                                            exact me_wiret _ C0.1 C0.2.1 B.returns B.notSynchronized hP hS (Nat.le_of_ble_eq_true rfl) (Nat.le_of_ble_eq_true rfl) (⟨_, _, hM, hMF, by rw [hwr]; exact (wr_bad (by omega) ((ref_pt ho rfl (by omega) hk (by omega) (fun h => absurd h (by decide)) (by omega) (v := (((((((nI xb) &&& 7) <<< (6 &&& 31)) ||| ((Hd.getD (b + 1) 0) &&& 63)) <<< (6 &&& 31)) ||| ((Hd.getD (b + 2) 0) &&& 63)) <<< (6 &&& 31)) ||| ((Hd.getD (b + 3) 0) &&& 63)) (by rw [hv0, conts_s (by omega), if_neg c133, if_pos c134, conts_s (by omega), if_neg c136, if_pos c137, conts_s (by omega), if_neg c139, if_pos c140, conts_0])).1 (Or.inr (Or.inr ⟨c147, c150⟩)))).symm, hsF, hsZ, fun h => absurd h (by rw [hwr, wr_bad (by omega) ((ref_pt ho rfl (by omega) hk (by omega) (fun h => absurd h (by decide)) (by omega) (v := (((((((nI xb) &&& 7) <<< (6 &&& 31)) ||| ((Hd.getD (b + 1) 0) &&& 63)) <<< (6 &&& 31)) ||| ((Hd.getD (b + 2) 0) &&& 63)) <<< (6 &&& 31)) ||| ((Hd.getD (b + 3) 0) &&& 63)) (by rw [hv0, conts_s (by omega), if_neg c133, if_pos c134, conts_s (by omega), if_neg c136, if_pos c137, conts_s (by omega), if_neg c139, if_pos c140, conts_0])).1 (Or.inr (Or.inr ⟨c147, c150⟩)))]; exact nI_m1 (by omega))⟩) dX5_read_263
                                  · refine lv_iload_n C0.1 C0.2.1 dX5_read_179 rfl (lv_at hl 5 rfl) ?_
                                    exact me_wiret _ C0.1 C0.2.1 B.returns B.notSynchronized hP hS (Nat.le_of_ble_eq_true rfl) (Nat.le_of_ble_eq_true rfl) (⟨_, _, hM, hMF, by rw [hwr]; exact (wr_bad (by omega) (ref_no hk (by omega) (Or.inr (by rw [hv0, conts_s (by omega), if_neg c133, if_pos c134, conts_s (by omega), if_neg c136, if_pos c137, conts_s (by omega), if_neg c139, if_neg c140])))).symm, hsF, hsZ, fun h => absurd h (by rw [hwr, wr_bad (by omega) (ref_no hk (by omega) (Or.inr (by rw [hv0, conts_s (by omega), if_neg c133, if_pos c134, conts_s (by omega), if_neg c136, if_pos c137, conts_s (by omega), if_neg c139, if_neg c140])))]; exact nI_m1 (by omega))⟩) dX5_read_180
                              · refine lv_iload_n C0.1 C0.2.1 dX5_read_179 rfl (lv_at hl 5 rfl) ?_
                                exact me_wiret _ C0.1 C0.2.1 B.returns B.notSynchronized hP hS (Nat.le_of_ble_eq_true rfl) (Nat.le_of_ble_eq_true rfl) (⟨_, _, hM, hMF, by rw [hwr]; exact (wr_bad (by omega) (ref_no hk (by omega) (Or.inr (by rw [hv0, conts_s (by omega), if_neg c133, if_pos c134, conts_s (by omega), if_neg c136, if_neg c137])))).symm, hsF, hsZ, fun h => absurd h (by rw [hwr, wr_bad (by omega) (ref_no hk (by omega) (Or.inr (by rw [hv0, conts_s (by omega), if_neg c133, if_pos c134, conts_s (by omega), if_neg c136, if_neg c137])))]; exact nI_m1 (by omega))⟩) dX5_read_180
                          · refine lv_iload_n C0.1 C0.2.1 dX5_read_179 rfl (lv_at hl 5 rfl) ?_
                            exact me_wiret _ C0.1 C0.2.1 B.returns B.notSynchronized hP hS (Nat.le_of_ble_eq_true rfl) (Nat.le_of_ble_eq_true rfl) (⟨_, _, hM, hMF, by rw [hwr]; exact (wr_bad (by omega) (ref_no hk (by omega) (Or.inr (by rw [hv0, conts_s (by omega), if_neg c133, if_neg c134])))).symm, hsF, hsZ, fun h => absurd h (by rw [hwr, wr_bad (by omega) (ref_no hk (by omega) (Or.inr (by rw [hv0, conts_s (by omega), if_neg c133, if_neg c134])))]; exact nI_m1 (by omega))⟩) dX5_read_180
                      · have d128 : Hd.length ≤ (b + 3) := Nat.not_lt.mp (fun h => c128 (nI_lt (a := (b + 3)) (b := Hd.length) h (by omega)))
                        refine lv_iload_n C0.1 C0.2.1 dX5_read_103 rfl (lv_at hl 2 rfl) ?_
                        exact me_wiret _ C0.1 C0.2.1 B.returns B.notSynchronized hP hS (Nat.le_of_ble_eq_true rfl) (Nat.le_of_ble_eq_true rfl) (⟨_, _, hM, hMF, by rw [hwr]; exact (wr_bad (by omega) (ref_no hk (by omega) (Or.inl (by omega)))).symm, hsF, hsZ, fun h => absurd h (by rw [hwr, wr_bad (by omega) (ref_no hk (by omega) (Or.inl (by omega)))]; exact nI_m1 (by omega))⟩) dX5_read_104
                · have d122 : xb ≤ 239 := Nat.not_lt.mp (fun h => c122 (nI_lt (a := 239) (b := xb) h (by omega)))
                  refine lv_iconst (v := 2) C0.1 C0.2.1 dX5_read_65 (by decide) ?_
                  refine lv_goto (tgt := 88) C0.1 C0.2.1 dX5_read_66 (by decide) ?_
                  have hk : octMore (Hd.getD b 0) = nI 2 := by rw [hxb]; exact om_2 xb hx256 (by omega)
                  refine lv_istore_n (lv' := [(3, .int 2), (2, .int (nI xb)), (1, .int (nI b)), (0, .ref o)]) C0.1 C0.2.1 dX5_read_88 rfl hl (by decide) rfl (fun ls hl => ?_)
                  refine lv_iload_n C0.1 C0.2.1 dX5_read_89 rfl (lv_at hl 0 rfl) ?_
                  refine lv_if_lt (tgt := 103) C0.1 C0.2.1 dX5_read_90 (by decide) (fun c => absurd c (by decide)) (fun c => ?_)
                  refine lv_iload_n C0.1 C0.2.1 dX5_read_93 rfl (lv_at hl 2 rfl) ?_
                  refine lv_iload_n C0.1 C0.2.1 dX5_read_94 rfl (lv_at hl 0 rfl) ?_
                  refine lv_iadd C0.1 C0.2.1 dX5_read_95 ?_
                  refine me_topi (y := nI (b + 2)) (nI_add b 2) ?_
                  refine lv_aload_n C0.1 C0.2.1 dX5_read_96 rfl (lv_at hl 3 rfl) ?_
                  refine md_get C0 hP hM 15 (by decide) kw_492 (v := .int (nI Hd.length)) (by show some (Value.int (z1 15)) = _; rw [h15]) dX5_read_97 ?_
                  refine lv_icmp_lt (tgt := 105) C0.1 C0.2.1 dX5_read_100 (by decide) (fun c154 => ?_) (fun c154 => ?_)
                  · have d154 : (b + 2) < Hd.length := (nI_ltI (a := (b + 2)) (b := Hd.length) (by omega) (by omega)).mp c154
                    refine lv_iload_n C0.1 C0.2.1 dX5_read_105 rfl (lv_at hl 0 rfl) ?_
                    refine lv_if_ne (tgt := 113) C0.1 C0.2.1 dX5_read_106 (by decide) (fun c => ?_) (fun c => absurd c (by decide))
                    refine lv_iload_n C0.1 C0.2.1 dX5_read_113 rfl (lv_at hl 0 rfl) ?_
                    refine lv_iconst (v := 1) C0.1 C0.2.1 dX5_read_114 (by decide) ?_
                    refine lv_icmp_ne (tgt := 125) C0.1 C0.2.1 dX5_read_115 (by decide) (fun c => ?_) (fun c => absurd c (by decide))
                    refine lv_iload_n C0.1 C0.2.1 dX5_read_125 rfl (lv_at hl 0 rfl) ?_
                    refine lv_iconst (v := 2) C0.1 C0.2.1 dX5_read_126 (by decide) ?_
                    refine lv_icmp_ne (tgt := 137) C0.1 C0.2.1 dX5_read_127 (by decide) (fun c => absurd c (by decide)) (fun c => ?_)
                    refine lv_iload_n C0.1 C0.2.1 dX5_read_130 rfl (lv_at hl 1 rfl) ?_
                    refine lv_bipush (v := 15) C0.1 C0.2.1 dX5_read_131 (by decide) ?_
                    refine lv_iand C0.1 C0.2.1 dX5_read_133 ?_
                    refine lv_goto (tgt := 141) C0.1 C0.2.1 dX5_read_134 (by decide) ?_
                    have hv0 : hd (Hd.getD b 0) 2 = (nI xb) &&& 15 := by rw [hxb]; unfold hd; rw [if_neg (by decide), show (63 : Int32) >>> (nI 2 &&& 31) = 15 by decide]
                    refine lv_istore (lv' := [(4, .int ((nI xb) &&& 15)), (3, .int 2), (2, .int (nI xb)), (1, .int (nI b)), (0, .ref o)]) C0.1 C0.2.1 dX5_read_141 hl (by decide) rfl (fun ls hl => ?_)
                    refine lv_iconst (v := 1) C0.1 C0.2.1 dX5_read_143 (by decide) ?_
                    refine lv_istore (lv' := [(5, .int 1), (4, .int ((nI xb) &&& 15)), (3, .int 2), (2, .int (nI xb)), (1, .int (nI b)), (0, .ref o)]) C0.1 C0.2.1 dX5_read_144 hl (by decide) rfl (fun ls hl => ?_)
                    refine lv_iload C0.1 C0.2.1 dX5_read_146 (lv_at hl 0 rfl) ?_
                    refine lv_iload_n C0.1 C0.2.1 dX5_read_148 rfl (lv_at hl 2 rfl) ?_
                    refine lv_icmp_gt (tgt := 200) C0.1 C0.2.1 dX5_read_149 (by decide) (fun c => absurd c (by decide)) (fun c => ?_)
                    refine lv_aload_n C0.1 C0.2.1 dX5_read_152 rfl (lv_at hl 5 rfl) ?_
                    refine md_get C0 hP hM 14 (by decide) kw_491 (v := .ref ((a 14))) rfl dX5_read_153 ?_
                    refine lv_iload_n C0.1 C0.2.1 dX5_read_156 rfl (lv_at hl 4 rfl) ?_
                    refine lv_iload C0.1 C0.2.1 dX5_read_157 (lv_at hl 0 rfl) ?_
                    refine lv_iadd C0.1 C0.2.1 dX5_read_159 ?_
                    refine me_topi (y := nI (b + 1)) (nI_add b 1) ?_
                    refine md_iald C0 hP hM 14 (by decide) (i := (b + 1)) (by show (b + 1) < 200; omega) dX5_read_160 ?_
                    refine me_topi (y := Hd.getD (b + 1) 0) (h14 (b + 1) (by omega)) ?_
                    refine lv_istore (lv' := [(6, .int (Hd.getD (b + 1) 0)), (5, .int 1), (4, .int ((nI xb) &&& 15)), (3, .int 2), (2, .int (nI xb)), (1, .int (nI b)), (0, .ref o)]) C0.1 C0.2.1 dX5_read_161 hl (by decide) rfl (fun ls hl => ?_)
                    refine lv_iload C0.1 C0.2.1 dX5_read_163 (lv_at hl 0 rfl) ?_
                    refine lv_sipush (v := 128) C0.1 C0.2.1 dX5_read_165 (by decide) ?_
                    refine lv_icmp_lt (tgt := 179) C0.1 C0.2.1 dX5_read_168 (by decide) (fun c159 => ?_) (fun c159 => ?_)
                    · refine lv_iload_n C0.1 C0.2.1 dX5_read_179 rfl (lv_at hl 5 rfl) ?_
                      exact me_wiret _ C0.1 C0.2.1 B.returns B.notSynchronized hP hS (Nat.le_of_ble_eq_true rfl) (Nat.le_of_ble_eq_true rfl) (⟨_, _, hM, hMF, by rw [hwr]; exact (wr_bad (by omega) (ref_no hk (by omega) (Or.inr (by rw [hv0, conts_s (by omega), if_pos c159])))).symm, hsF, hsZ, fun h => absurd h (by rw [hwr, wr_bad (by omega) (ref_no hk (by omega) (Or.inr (by rw [hv0, conts_s (by omega), if_pos c159])))]; exact nI_m1 (by omega))⟩) dX5_read_180
                    · refine lv_iload C0.1 C0.2.1 dX5_read_171 (lv_at hl 0 rfl) ?_
                      refine lv_sipush (v := 191) C0.1 C0.2.1 dX5_read_173 (by decide) ?_
                      refine lv_icmp_le (tgt := 181) C0.1 C0.2.1 dX5_read_176 (by decide) (fun c160 => ?_) (fun c160 => ?_)
                      · refine lv_iload C0.1 C0.2.1 dX5_read_181 (lv_at hl 2 rfl) ?_
                        refine lv_bipush (v := 6) C0.1 C0.2.1 dX5_read_183 (by decide) ?_
                        refine lv_ishl C0.1 C0.2.1 dX5_read_185 ?_
                        refine lv_iload C0.1 C0.2.1 dX5_read_186 (lv_at hl 0 rfl) ?_
                        refine lv_bipush (v := 63) C0.1 C0.2.1 dX5_read_188 (by decide) ?_
                        refine lv_iand C0.1 C0.2.1 dX5_read_190 ?_
                        refine lv_ior C0.1 C0.2.1 dX5_read_191 ?_
                        refine lv_istore (lv' := [(4, .int ((((nI xb) &&& 15) <<< (6 &&& 31)) ||| ((Hd.getD (b + 1) 0) &&& 63))), (6, .int (Hd.getD (b + 1) 0)), (5, .int 1), (3, .int 2), (2, .int (nI xb)), (1, .int (nI b)), (0, .ref o)]) C0.1 C0.2.1 dX5_read_192 hl (by decide) rfl (fun ls hl => ?_)
                        refine lv_iinc (v := 2) (lv' := [(5, .int 2), (4, .int ((((nI xb) &&& 15) <<< (6 &&& 31)) ||| ((Hd.getD (b + 1) 0) &&& 63))), (6, .int (Hd.getD (b + 1) 0)), (3, .int 2), (2, .int (nI xb)), (1, .int (nI b)), (0, .ref o)]) C0.1 C0.2.1 dX5_read_194 hl (k := 2) rfl rfl (by decide) rfl (fun ls hl => ?_)
                        refine lv_goto (tgt := 146) C0.1 C0.2.1 dX5_read_197 (by decide) ?_
                        refine lv_iload C0.1 C0.2.1 dX5_read_146 (lv_at hl 0 rfl) ?_
                        refine lv_iload_n C0.1 C0.2.1 dX5_read_148 rfl (lv_at hl 3 rfl) ?_
                        refine lv_icmp_gt (tgt := 200) C0.1 C0.2.1 dX5_read_149 (by decide) (fun c => absurd c (by decide)) (fun c => ?_)
                        refine lv_aload_n C0.1 C0.2.1 dX5_read_152 rfl (lv_at hl 6 rfl) ?_
                        refine md_get C0 hP hM 14 (by decide) kw_491 (v := .ref ((a 14))) rfl dX5_read_153 ?_
                        refine lv_iload_n C0.1 C0.2.1 dX5_read_156 rfl (lv_at hl 5 rfl) ?_
                        refine lv_iload C0.1 C0.2.1 dX5_read_157 (lv_at hl 0 rfl) ?_
                        refine lv_iadd C0.1 C0.2.1 dX5_read_159 ?_
                        refine me_topi (y := nI (b + 2)) (nI_add b 2) ?_
                        refine md_iald C0 hP hM 14 (by decide) (i := (b + 2)) (by show (b + 2) < 200; omega) dX5_read_160 ?_
                        refine me_topi (y := Hd.getD (b + 2) 0) (h14 (b + 2) (by omega)) ?_
                        refine lv_istore (lv' := [(6, .int (Hd.getD (b + 2) 0)), (5, .int 2), (4, .int ((((nI xb) &&& 15) <<< (6 &&& 31)) ||| ((Hd.getD (b + 1) 0) &&& 63))), (3, .int 2), (2, .int (nI xb)), (1, .int (nI b)), (0, .ref o)]) C0.1 C0.2.1 dX5_read_161 hl (by decide) rfl (fun ls hl => ?_)
                        refine lv_iload C0.1 C0.2.1 dX5_read_163 (lv_at hl 0 rfl) ?_
                        refine lv_sipush (v := 128) C0.1 C0.2.1 dX5_read_165 (by decide) ?_
                        refine lv_icmp_lt (tgt := 179) C0.1 C0.2.1 dX5_read_168 (by decide) (fun c162 => ?_) (fun c162 => ?_)
                        · refine lv_iload_n C0.1 C0.2.1 dX5_read_179 rfl (lv_at hl 5 rfl) ?_
                          exact me_wiret _ C0.1 C0.2.1 B.returns B.notSynchronized hP hS (Nat.le_of_ble_eq_true rfl) (Nat.le_of_ble_eq_true rfl) (⟨_, _, hM, hMF, by rw [hwr]; exact (wr_bad (by omega) (ref_no hk (by omega) (Or.inr (by rw [hv0, conts_s (by omega), if_neg c159, if_pos c160, conts_s (by omega), if_pos c162])))).symm, hsF, hsZ, fun h => absurd h (by rw [hwr, wr_bad (by omega) (ref_no hk (by omega) (Or.inr (by rw [hv0, conts_s (by omega), if_neg c159, if_pos c160, conts_s (by omega), if_pos c162])))]; exact nI_m1 (by omega))⟩) dX5_read_180
                        · refine lv_iload C0.1 C0.2.1 dX5_read_171 (lv_at hl 0 rfl) ?_
                          refine lv_sipush (v := 191) C0.1 C0.2.1 dX5_read_173 (by decide) ?_
                          refine lv_icmp_le (tgt := 181) C0.1 C0.2.1 dX5_read_176 (by decide) (fun c163 => ?_) (fun c163 => ?_)
                          · refine lv_iload C0.1 C0.2.1 dX5_read_181 (lv_at hl 2 rfl) ?_
                            refine lv_bipush (v := 6) C0.1 C0.2.1 dX5_read_183 (by decide) ?_
                            refine lv_ishl C0.1 C0.2.1 dX5_read_185 ?_
                            refine lv_iload C0.1 C0.2.1 dX5_read_186 (lv_at hl 0 rfl) ?_
                            refine lv_bipush (v := 63) C0.1 C0.2.1 dX5_read_188 (by decide) ?_
                            refine lv_iand C0.1 C0.2.1 dX5_read_190 ?_
                            refine lv_ior C0.1 C0.2.1 dX5_read_191 ?_
                            refine lv_istore (lv' := [(4, .int ((((((nI xb) &&& 15) <<< (6 &&& 31)) ||| ((Hd.getD (b + 1) 0) &&& 63)) <<< (6 &&& 31)) ||| ((Hd.getD (b + 2) 0) &&& 63))), (6, .int (Hd.getD (b + 2) 0)), (5, .int 2), (3, .int 2), (2, .int (nI xb)), (1, .int (nI b)), (0, .ref o)]) C0.1 C0.2.1 dX5_read_192 hl (by decide) rfl (fun ls hl => ?_)
                            refine lv_iinc (v := 3) (lv' := [(5, .int 3), (4, .int ((((((nI xb) &&& 15) <<< (6 &&& 31)) ||| ((Hd.getD (b + 1) 0) &&& 63)) <<< (6 &&& 31)) ||| ((Hd.getD (b + 2) 0) &&& 63))), (6, .int (Hd.getD (b + 2) 0)), (3, .int 2), (2, .int (nI xb)), (1, .int (nI b)), (0, .ref o)]) C0.1 C0.2.1 dX5_read_194 hl (k := 2) rfl rfl (by decide) rfl (fun ls hl => ?_)
                            refine lv_goto (tgt := 146) C0.1 C0.2.1 dX5_read_197 (by decide) ?_
                            refine lv_iload C0.1 C0.2.1 dX5_read_146 (lv_at hl 0 rfl) ?_
                            refine lv_iload_n C0.1 C0.2.1 dX5_read_148 rfl (lv_at hl 3 rfl) ?_
                            refine lv_icmp_gt (tgt := 200) C0.1 C0.2.1 dX5_read_149 (by decide) (fun c => ?_) (fun c => absurd c (by decide))
                            refine lv_iload_n C0.1 C0.2.1 dX5_read_200 rfl (lv_at hl 3 rfl) ?_
                            refine lv_if_ne (tgt := 208) C0.1 C0.2.1 dX5_read_201 (by decide) (fun c => ?_) (fun c => absurd c (by decide))
                            refine lv_iload_n C0.1 C0.2.1 dX5_read_208 rfl (lv_at hl 3 rfl) ?_
                            refine lv_iconst (v := 1) C0.1 C0.2.1 dX5_read_209 (by decide) ?_
                            refine lv_icmp_ne (tgt := 219) C0.1 C0.2.1 dX5_read_210 (by decide) (fun c => ?_) (fun c => absurd c (by decide))
                            refine lv_iload_n C0.1 C0.2.1 dX5_read_219 rfl (lv_at hl 3 rfl) ?_
                            refine lv_iconst (v := 2) C0.1 C0.2.1 dX5_read_220 (by decide) ?_
                            refine lv_icmp_ne (tgt := 230) C0.1 C0.2.1 dX5_read_221 (by decide) (fun c => absurd c (by decide)) (fun c => ?_)
                            refine lv_sipush (v := 2048) C0.1 C0.2.1 dX5_read_224 (by decide) ?_
                            refine lv_goto (tgt := 232) C0.1 C0.2.1 dX5_read_227 (by decide) ?_
                            refine lv_istore (lv' := [(5, .int 2048), (4, .int ((((((nI xb) &&& 15) <<< (6 &&& 31)) ||| ((Hd.getD (b + 1) 0) &&& 63)) <<< (6 &&& 31)) ||| ((Hd.getD (b + 2) 0) &&& 63))), (6, .int (Hd.getD (b + 2) 0)), (3, .int 2), (2, .int (nI xb)), (1, .int (nI b)), (0, .ref o)]) C0.1 C0.2.1 dX5_read_232 hl (by decide) rfl (fun ls hl => ?_)
                            refine lv_iload C0.1 C0.2.1 dX5_read_234 (lv_at hl 1 rfl) ?_
                            refine lv_iload C0.1 C0.2.1 dX5_read_236 (lv_at hl 0 rfl) ?_
                            refine lv_icmp_lt (tgt := 262) C0.1 C0.2.1 dX5_read_238 (by decide) (fun c168 => ?_) (fun c168 => ?_)
                            · refine lv_iload_n C0.1 C0.2.1 dX5_read_262 rfl (lv_at hl 5 rfl) ?_
                              exact me_wiret _ C0.1 C0.2.1 B.returns B.notSynchronized hP hS (Nat.le_of_ble_eq_true rfl) (Nat.le_of_ble_eq_true rfl) (⟨_, _, hM, hMF, by rw [hwr]; exact (wr_bad (by omega) ((ref_pt ho rfl (by omega) hk (by omega) (fun h => absurd h (by decide)) (by omega) (v := (((((nI xb) &&& 15) <<< (6 &&& 31)) ||| ((Hd.getD (b + 1) 0) &&& 63)) <<< (6 &&& 31)) ||| ((Hd.getD (b + 2) 0) &&& 63)) (by rw [hv0, conts_s (by omega), if_neg c159, if_pos c160, conts_s (by omega), if_neg c162, if_pos c163, conts_0])).1 (Or.inl c168))).symm, hsF, hsZ, fun h => absurd h (by rw [hwr, wr_bad (by omega) ((ref_pt ho rfl (by omega) hk (by omega) (fun h => absurd h (by decide)) (by omega) (v := (((((nI xb) &&& 15) <<< (6 &&& 31)) ||| ((Hd.getD (b + 1) 0) &&& 63)) <<< (6 &&& 31)) ||| ((Hd.getD (b + 2) 0) &&& 63)) (by rw [hv0, conts_s (by omega), if_neg c159, if_pos c160, conts_s (by omega), if_neg c162, if_pos c163, conts_0])).1 (Or.inl c168))]; exact nI_m1 (by omega))⟩) dX5_read_263
                            · refine lv_iload C0.1 C0.2.1 dX5_read_241 (lv_at hl 1 rfl) ?_
                              refine lv_ldc (v := 1114111) C0.1 C0.2.1 C0.2.2.1 (C0.2.2.2.1 _ kw_564) dX5_read_243 ?_
                              refine lv_icmp_gt (tgt := 262) C0.1 C0.2.1 dX5_read_245 (by decide) (fun c169 => ?_) (fun c169 => ?_)
                              · refine lv_iload_n C0.1 C0.2.1 dX5_read_262 rfl (lv_at hl 5 rfl) ?_
                                exact me_wiret _ C0.1 C0.2.1 B.returns B.notSynchronized hP hS (Nat.le_of_ble_eq_true rfl) (Nat.le_of_ble_eq_true rfl) (⟨_, _, hM, hMF, by rw [hwr]; exact (wr_bad (by omega) ((ref_pt ho rfl (by omega) hk (by omega) (fun h => absurd h (by decide)) (by omega) (v := (((((nI xb) &&& 15) <<< (6 &&& 31)) ||| ((Hd.getD (b + 1) 0) &&& 63)) <<< (6 &&& 31)) ||| ((Hd.getD (b + 2) 0) &&& 63)) (by rw [hv0, conts_s (by omega), if_neg c159, if_pos c160, conts_s (by omega), if_neg c162, if_pos c163, conts_0])).1 (Or.inr (Or.inl c169)))).symm, hsF, hsZ, fun h => absurd h (by rw [hwr, wr_bad (by omega) ((ref_pt ho rfl (by omega) hk (by omega) (fun h => absurd h (by decide)) (by omega) (v := (((((nI xb) &&& 15) <<< (6 &&& 31)) ||| ((Hd.getD (b + 1) 0) &&& 63)) <<< (6 &&& 31)) ||| ((Hd.getD (b + 2) 0) &&& 63)) (by rw [hv0, conts_s (by omega), if_neg c159, if_pos c160, conts_s (by omega), if_neg c162, if_pos c163, conts_0])).1 (Or.inr (Or.inl c169)))]; exact nI_m1 (by omega))⟩) dX5_read_263
                              · refine lv_iload C0.1 C0.2.1 dX5_read_248 (lv_at hl 1 rfl) ?_
                                refine lv_ldc (v := 55296) C0.1 C0.2.1 C0.2.2.1 (C0.2.2.2.1 _ kw_565) dX5_read_250 ?_
                                refine lv_icmp_lt (tgt := 264) C0.1 C0.2.1 dX5_read_252 (by decide) (fun c170 => ?_) (fun c170 => ?_)
                                · obtain ⟨hp1, hp2, hp3⟩ := (ref_pt ho rfl (by omega) hk (by omega) (fun h => absurd h (by decide)) (by omega) (v := (((((nI xb) &&& 15) <<< (6 &&& 31)) ||| ((Hd.getD (b + 1) 0) &&& 63)) <<< (6 &&& 31)) ||| ((Hd.getD (b + 2) 0) &&& 63)) (by rw [hv0, conts_s (by omega), if_neg c159, if_pos c160, conts_s (by omega), if_neg c162, if_pos c163, conts_0])).2 (fun h => h.elim (fun h => c168 h) (fun h => h.elim (fun h => c169 h) (fun h => h.1 c170)))
                                  have hp3 : ¬ ptC Hd b Hd.length = -1 := hp1 ▸ hp3
                                  refine lv_aload_n C0.1 C0.2.1 dX5_read_264 rfl (lv_at hl 6 rfl) ?_
                                  refine md_get C0 hP hM 16 (by decide) kw_493 (v := .ref ((a 16))) rfl dX5_read_265 ?_
                                  refine lv_aload_n C0.1 C0.2.1 dX5_read_268 rfl (lv_at hl 6 rfl) ?_
                                  refine md_get C0 hP hM 17 (by decide) kw_494 (v := .int (nI P.length)) (by show some (Value.int (z1 17)) = _; rw [hPl.1]) dX5_read_269 ?_
                                  refine lv_iload C0.1 C0.2.1 dX5_read_272 (lv_at hl 1 rfl) ?_
                                  refine md_iast C0 hP hS hM hMF 16 (by decide) (i := P.length) (by show P.length < 200; omega) dX5_read_274 (fun w171 F171 H locs hF171 hM hMF hP hS => ?_)
                                  refine lv_aload_n C0.1 C0.2.1 dX5_read_275 rfl (lv_at hl 6 rfl) ?_
                                  refine lv_dup C0.1 C0.2.1 dX5_read_276 rfl ?_
                                  refine md_get C0 hP hM 17 (by decide) kw_494 (v := .int (nI P.length)) (by show some (Value.int (z1 17)) = _; rw [hPl.1]) dX5_read_277 ?_
                                  refine lv_iconst (v := 1) C0.1 C0.2.1 dX5_read_280 (by decide) ?_
                                  refine lv_iadd C0.1 C0.2.1 dX5_read_281 ?_
                                  refine me_topi (y := nI (P.length + 1)) (nI_add P.length 1) ?_
                                  refine md_put C0 hP hS hM hMF 17 (by decide) kw_494 rfl rfl rfl dX5_read_282 (fun w172 z172 H locs hz172 hM hMF hP hS => ?_)
                                  have hz172_15 : z172 15 = nI Hd.length := by rw [hz172, upd_ne (by decide)]; exact h15
                                  have hz172_17 : z172 17 = nI (P.length + 1) := by rw [hz172, upd_eq]
                                  refine lv_iload_n C0.1 C0.2.1 dX5_read_285 rfl (lv_at hl 5 rfl) ?_
                                  refine lv_iload_n C0.1 C0.2.1 dX5_read_286 rfl (lv_at hl 3 rfl) ?_
                                  refine lv_iconst (v := 1) C0.1 C0.2.1 dX5_read_287 (by decide) ?_
                                  refine lv_iadd C0.1 C0.2.1 dX5_read_288 ?_
                                  refine me_topi (y := nI (2 + 1)) (nI_add 2 1) ?_
                                  refine lv_iadd C0.1 C0.2.1 dX5_read_289 ?_
                                  refine me_topi (y := nI (b + (2 + 1))) (nI_add b (2 + 1)) ?_
                                  refine lv_istore_n (lv' := [(1, .int (nI (b + (2 + 1)))), (5, .int 2048), (4, .int ((((((nI xb) &&& 15) <<< (6 &&& 31)) ||| ((Hd.getD (b + 1) 0) &&& 63)) <<< (6 &&& 31)) ||| ((Hd.getD (b + 2) 0) &&& 63))), (6, .int (Hd.getD (b + 2) 0)), (3, .int 2), (2, .int (nI xb)), (0, .ref o)]) C0.1 C0.2.1 dX5_read_290 rfl hl (by decide) rfl (fun ls hl => ?_)
                                  refine lv_goto (tgt := 7) C0.1 C0.2.1 dX5_read_291 (by decide) ?_
                                  exact ih7 (b + (2 + 1)) (P ++ [(((((nI xb) &&& 15) <<< (6 &&& 31)) ||| ((Hd.getD (b + 1) 0) &&& 63)) <<< (6 &&& 31)) ||| ((Hd.getD (b + 2) 0) &&& 63)]) _ _ _ (by omega) hM hMF (hsF.wr hF171 (by decide)) (hsZ.wr hz172 (by decide)) (hPl.put hF171 hz172_17 (by omega)) (by simp; omega) (by rw [hwr]; exact wr_go (by omega) hp3 (hp1 ▸ hp2) (by omega)) (by rw [hpt, pts_go (by omega) hp3 (hp1 ▸ hp2) (by omega), hp1, List.append_assoc]; rfl) (by omega) _ _ _ hP hS (lv_sub hl [0, 6] rfl)
                                · refine lv_iload C0.1 C0.2.1 dX5_read_255 (lv_at hl 1 rfl) ?_
                                  refine lv_ldc (v := 57343) C0.1 C0.2.1 C0.2.2.1 (C0.2.2.2.1 _ kw_566) dX5_read_257 ?_
                                  refine lv_icmp_gt (tgt := 264) C0.1 C0.2.1 dX5_read_259 (by decide) (fun c173 => ?_) (fun c173 => ?_)
                                  · obtain ⟨hp1, hp2, hp3⟩ := (ref_pt ho rfl (by omega) hk (by omega) (fun h => absurd h (by decide)) (by omega) (v := (((((nI xb) &&& 15) <<< (6 &&& 31)) ||| ((Hd.getD (b + 1) 0) &&& 63)) <<< (6 &&& 31)) ||| ((Hd.getD (b + 2) 0) &&& 63)) (by rw [hv0, conts_s (by omega), if_neg c159, if_pos c160, conts_s (by omega), if_neg c162, if_pos c163, conts_0])).2 (fun h => h.elim (fun h => c168 h) (fun h => h.elim (fun h => c169 h) (fun h => h.2 c173)))
                                    have hp3 : ¬ ptC Hd b Hd.length = -1 := hp1 ▸ hp3
                                    refine lv_aload_n C0.1 C0.2.1 dX5_read_264 rfl (lv_at hl 6 rfl) ?_
                                    refine md_get C0 hP hM 16 (by decide) kw_493 (v := .ref ((a 16))) rfl dX5_read_265 ?_
                                    refine lv_aload_n C0.1 C0.2.1 dX5_read_268 rfl (lv_at hl 6 rfl) ?_
                                    refine md_get C0 hP hM 17 (by decide) kw_494 (v := .int (nI P.length)) (by show some (Value.int (z1 17)) = _; rw [hPl.1]) dX5_read_269 ?_
                                    refine lv_iload C0.1 C0.2.1 dX5_read_272 (lv_at hl 1 rfl) ?_
                                    refine md_iast C0 hP hS hM hMF 16 (by decide) (i := P.length) (by show P.length < 200; omega) dX5_read_274 (fun w174 F174 H locs hF174 hM hMF hP hS => ?_)
                                    refine lv_aload_n C0.1 C0.2.1 dX5_read_275 rfl (lv_at hl 6 rfl) ?_
                                    refine lv_dup C0.1 C0.2.1 dX5_read_276 rfl ?_
                                    refine md_get C0 hP hM 17 (by decide) kw_494 (v := .int (nI P.length)) (by show some (Value.int (z1 17)) = _; rw [hPl.1]) dX5_read_277 ?_
                                    refine lv_iconst (v := 1) C0.1 C0.2.1 dX5_read_280 (by decide) ?_
                                    refine lv_iadd C0.1 C0.2.1 dX5_read_281 ?_
                                    refine me_topi (y := nI (P.length + 1)) (nI_add P.length 1) ?_
                                    refine md_put C0 hP hS hM hMF 17 (by decide) kw_494 rfl rfl rfl dX5_read_282 (fun w175 z175 H locs hz175 hM hMF hP hS => ?_)
                                    have hz175_15 : z175 15 = nI Hd.length := by rw [hz175, upd_ne (by decide)]; exact h15
                                    have hz175_17 : z175 17 = nI (P.length + 1) := by rw [hz175, upd_eq]
                                    refine lv_iload_n C0.1 C0.2.1 dX5_read_285 rfl (lv_at hl 5 rfl) ?_
                                    refine lv_iload_n C0.1 C0.2.1 dX5_read_286 rfl (lv_at hl 3 rfl) ?_
                                    refine lv_iconst (v := 1) C0.1 C0.2.1 dX5_read_287 (by decide) ?_
                                    refine lv_iadd C0.1 C0.2.1 dX5_read_288 ?_
                                    refine me_topi (y := nI (2 + 1)) (nI_add 2 1) ?_
                                    refine lv_iadd C0.1 C0.2.1 dX5_read_289 ?_
                                    refine me_topi (y := nI (b + (2 + 1))) (nI_add b (2 + 1)) ?_
                                    refine lv_istore_n (lv' := [(1, .int (nI (b + (2 + 1)))), (5, .int 2048), (4, .int ((((((nI xb) &&& 15) <<< (6 &&& 31)) ||| ((Hd.getD (b + 1) 0) &&& 63)) <<< (6 &&& 31)) ||| ((Hd.getD (b + 2) 0) &&& 63))), (6, .int (Hd.getD (b + 2) 0)), (3, .int 2), (2, .int (nI xb)), (0, .ref o)]) C0.1 C0.2.1 dX5_read_290 rfl hl (by decide) rfl (fun ls hl => ?_)
                                    refine lv_goto (tgt := 7) C0.1 C0.2.1 dX5_read_291 (by decide) ?_
                                    exact ih7 (b + (2 + 1)) (P ++ [(((((nI xb) &&& 15) <<< (6 &&& 31)) ||| ((Hd.getD (b + 1) 0) &&& 63)) <<< (6 &&& 31)) ||| ((Hd.getD (b + 2) 0) &&& 63)]) _ _ _ (by omega) hM hMF (hsF.wr hF174 (by decide)) (hsZ.wr hz175 (by decide)) (hPl.put hF174 hz175_17 (by omega)) (by simp; omega) (by rw [hwr]; exact wr_go (by omega) hp3 (hp1 ▸ hp2) (by omega)) (by rw [hpt, pts_go (by omega) hp3 (hp1 ▸ hp2) (by omega), hp1, List.append_assoc]; rfl) (by omega) _ _ _ hP hS (lv_sub hl [0, 6] rfl)
                                  · refine lv_iload_n C0.1 C0.2.1 dX5_read_262 rfl (lv_at hl 5 rfl) ?_
                                    exact me_wiret _ C0.1 C0.2.1 B.returns B.notSynchronized hP hS (Nat.le_of_ble_eq_true rfl) (Nat.le_of_ble_eq_true rfl) (⟨_, _, hM, hMF, by rw [hwr]; exact (wr_bad (by omega) ((ref_pt ho rfl (by omega) hk (by omega) (fun h => absurd h (by decide)) (by omega) (v := (((((nI xb) &&& 15) <<< (6 &&& 31)) ||| ((Hd.getD (b + 1) 0) &&& 63)) <<< (6 &&& 31)) ||| ((Hd.getD (b + 2) 0) &&& 63)) (by rw [hv0, conts_s (by omega), if_neg c159, if_pos c160, conts_s (by omega), if_neg c162, if_pos c163, conts_0])).1 (Or.inr (Or.inr ⟨c170, c173⟩)))).symm, hsF, hsZ, fun h => absurd h (by rw [hwr, wr_bad (by omega) ((ref_pt ho rfl (by omega) hk (by omega) (fun h => absurd h (by decide)) (by omega) (v := (((((nI xb) &&& 15) <<< (6 &&& 31)) ||| ((Hd.getD (b + 1) 0) &&& 63)) <<< (6 &&& 31)) ||| ((Hd.getD (b + 2) 0) &&& 63)) (by rw [hv0, conts_s (by omega), if_neg c159, if_pos c160, conts_s (by omega), if_neg c162, if_pos c163, conts_0])).1 (Or.inr (Or.inr ⟨c170, c173⟩)))]; exact nI_m1 (by omega))⟩) dX5_read_263
                          · refine lv_iload_n C0.1 C0.2.1 dX5_read_179 rfl (lv_at hl 5 rfl) ?_
                            exact me_wiret _ C0.1 C0.2.1 B.returns B.notSynchronized hP hS (Nat.le_of_ble_eq_true rfl) (Nat.le_of_ble_eq_true rfl) (⟨_, _, hM, hMF, by rw [hwr]; exact (wr_bad (by omega) (ref_no hk (by omega) (Or.inr (by rw [hv0, conts_s (by omega), if_neg c159, if_pos c160, conts_s (by omega), if_neg c162, if_neg c163])))).symm, hsF, hsZ, fun h => absurd h (by rw [hwr, wr_bad (by omega) (ref_no hk (by omega) (Or.inr (by rw [hv0, conts_s (by omega), if_neg c159, if_pos c160, conts_s (by omega), if_neg c162, if_neg c163])))]; exact nI_m1 (by omega))⟩) dX5_read_180
                      · refine lv_iload_n C0.1 C0.2.1 dX5_read_179 rfl (lv_at hl 5 rfl) ?_
                        exact me_wiret _ C0.1 C0.2.1 B.returns B.notSynchronized hP hS (Nat.le_of_ble_eq_true rfl) (Nat.le_of_ble_eq_true rfl) (⟨_, _, hM, hMF, by rw [hwr]; exact (wr_bad (by omega) (ref_no hk (by omega) (Or.inr (by rw [hv0, conts_s (by omega), if_neg c159, if_neg c160])))).symm, hsF, hsZ, fun h => absurd h (by rw [hwr, wr_bad (by omega) (ref_no hk (by omega) (Or.inr (by rw [hv0, conts_s (by omega), if_neg c159, if_neg c160])))]; exact nI_m1 (by omega))⟩) dX5_read_180
                  · have d154 : Hd.length ≤ (b + 2) := Nat.not_lt.mp (fun h => c154 (nI_lt (a := (b + 2)) (b := Hd.length) h (by omega)))
                    refine lv_iload_n C0.1 C0.2.1 dX5_read_103 rfl (lv_at hl 2 rfl) ?_
                    exact me_wiret _ C0.1 C0.2.1 B.returns B.notSynchronized hP hS (Nat.le_of_ble_eq_true rfl) (Nat.le_of_ble_eq_true rfl) (⟨_, _, hM, hMF, by rw [hwr]; exact (wr_bad (by omega) (ref_no hk (by omega) (Or.inl (by omega)))).symm, hsF, hsZ, fun h => absurd h (by rw [hwr, wr_bad (by omega) (ref_no hk (by omega) (Or.inl (by omega)))]; exact nI_m1 (by omega))⟩) dX5_read_104
            · have d90 : xb ≤ 223 := Nat.not_lt.mp (fun h => c90 (nI_lt (a := 223) (b := xb) h (by omega)))
              refine lv_iconst (v := 1) C0.1 C0.2.1 dX5_read_47 (by decide) ?_
              refine lv_goto (tgt := 88) C0.1 C0.2.1 dX5_read_48 (by decide) ?_
              have hk : octMore (Hd.getD b 0) = nI 1 := by rw [hxb]; exact om_1 xb hx256 (by omega)
              refine lv_istore_n (lv' := [(3, .int 1), (2, .int (nI xb)), (1, .int (nI b)), (0, .ref o)]) C0.1 C0.2.1 dX5_read_88 rfl hl (by decide) rfl (fun ls hl => ?_)
              refine lv_iload_n C0.1 C0.2.1 dX5_read_89 rfl (lv_at hl 0 rfl) ?_
              refine lv_if_lt (tgt := 103) C0.1 C0.2.1 dX5_read_90 (by decide) (fun c => absurd c (by decide)) (fun c => ?_)
              refine lv_iload_n C0.1 C0.2.1 dX5_read_93 rfl (lv_at hl 2 rfl) ?_
              refine lv_iload_n C0.1 C0.2.1 dX5_read_94 rfl (lv_at hl 0 rfl) ?_
              refine lv_iadd C0.1 C0.2.1 dX5_read_95 ?_
              refine me_topi (y := nI (b + 1)) (nI_add b 1) ?_
              refine lv_aload_n C0.1 C0.2.1 dX5_read_96 rfl (lv_at hl 3 rfl) ?_
              refine md_get C0 hP hM 15 (by decide) kw_492 (v := .int (nI Hd.length)) (by show some (Value.int (z1 15)) = _; rw [h15]) dX5_read_97 ?_
              refine lv_icmp_lt (tgt := 105) C0.1 C0.2.1 dX5_read_100 (by decide) (fun c177 => ?_) (fun c177 => ?_)
              · have d177 : (b + 1) < Hd.length := (nI_ltI (a := (b + 1)) (b := Hd.length) (by omega) (by omega)).mp c177
                refine lv_iload_n C0.1 C0.2.1 dX5_read_105 rfl (lv_at hl 0 rfl) ?_
                refine lv_if_ne (tgt := 113) C0.1 C0.2.1 dX5_read_106 (by decide) (fun c => ?_) (fun c => absurd c (by decide))
                refine lv_iload_n C0.1 C0.2.1 dX5_read_113 rfl (lv_at hl 0 rfl) ?_
                refine lv_iconst (v := 1) C0.1 C0.2.1 dX5_read_114 (by decide) ?_
                refine lv_icmp_ne (tgt := 125) C0.1 C0.2.1 dX5_read_115 (by decide) (fun c => absurd c (by decide)) (fun c => ?_)
                refine lv_iload_n C0.1 C0.2.1 dX5_read_118 rfl (lv_at hl 1 rfl) ?_
                refine lv_bipush (v := 31) C0.1 C0.2.1 dX5_read_119 (by decide) ?_
                refine lv_iand C0.1 C0.2.1 dX5_read_121 ?_
                refine lv_goto (tgt := 141) C0.1 C0.2.1 dX5_read_122 (by decide) ?_
                have hv0 : hd (Hd.getD b 0) 1 = (nI xb) &&& 31 := by rw [hxb]; unfold hd; rw [if_neg (by decide), show (63 : Int32) >>> (nI 1 &&& 31) = 31 by decide]
                refine lv_istore (lv' := [(4, .int ((nI xb) &&& 31)), (3, .int 1), (2, .int (nI xb)), (1, .int (nI b)), (0, .ref o)]) C0.1 C0.2.1 dX5_read_141 hl (by decide) rfl (fun ls hl => ?_)
                refine lv_iconst (v := 1) C0.1 C0.2.1 dX5_read_143 (by decide) ?_
                refine lv_istore (lv' := [(5, .int 1), (4, .int ((nI xb) &&& 31)), (3, .int 1), (2, .int (nI xb)), (1, .int (nI b)), (0, .ref o)]) C0.1 C0.2.1 dX5_read_144 hl (by decide) rfl (fun ls hl => ?_)
                refine lv_iload C0.1 C0.2.1 dX5_read_146 (lv_at hl 0 rfl) ?_
                refine lv_iload_n C0.1 C0.2.1 dX5_read_148 rfl (lv_at hl 2 rfl) ?_
                refine lv_icmp_gt (tgt := 200) C0.1 C0.2.1 dX5_read_149 (by decide) (fun c => absurd c (by decide)) (fun c => ?_)
                refine lv_aload_n C0.1 C0.2.1 dX5_read_152 rfl (lv_at hl 5 rfl) ?_
                refine md_get C0 hP hM 14 (by decide) kw_491 (v := .ref ((a 14))) rfl dX5_read_153 ?_
                refine lv_iload_n C0.1 C0.2.1 dX5_read_156 rfl (lv_at hl 4 rfl) ?_
                refine lv_iload C0.1 C0.2.1 dX5_read_157 (lv_at hl 0 rfl) ?_
                refine lv_iadd C0.1 C0.2.1 dX5_read_159 ?_
                refine me_topi (y := nI (b + 1)) (nI_add b 1) ?_
                refine md_iald C0 hP hM 14 (by decide) (i := (b + 1)) (by show (b + 1) < 200; omega) dX5_read_160 ?_
                refine me_topi (y := Hd.getD (b + 1) 0) (h14 (b + 1) (by omega)) ?_
                refine lv_istore (lv' := [(6, .int (Hd.getD (b + 1) 0)), (5, .int 1), (4, .int ((nI xb) &&& 31)), (3, .int 1), (2, .int (nI xb)), (1, .int (nI b)), (0, .ref o)]) C0.1 C0.2.1 dX5_read_161 hl (by decide) rfl (fun ls hl => ?_)
                refine lv_iload C0.1 C0.2.1 dX5_read_163 (lv_at hl 0 rfl) ?_
                refine lv_sipush (v := 128) C0.1 C0.2.1 dX5_read_165 (by decide) ?_
                refine lv_icmp_lt (tgt := 179) C0.1 C0.2.1 dX5_read_168 (by decide) (fun c181 => ?_) (fun c181 => ?_)
                · refine lv_iload_n C0.1 C0.2.1 dX5_read_179 rfl (lv_at hl 5 rfl) ?_
                  exact me_wiret _ C0.1 C0.2.1 B.returns B.notSynchronized hP hS (Nat.le_of_ble_eq_true rfl) (Nat.le_of_ble_eq_true rfl) (⟨_, _, hM, hMF, by rw [hwr]; exact (wr_bad (by omega) (ref_no hk (by omega) (Or.inr (by rw [hv0, conts_s (by omega), if_pos c181])))).symm, hsF, hsZ, fun h => absurd h (by rw [hwr, wr_bad (by omega) (ref_no hk (by omega) (Or.inr (by rw [hv0, conts_s (by omega), if_pos c181])))]; exact nI_m1 (by omega))⟩) dX5_read_180
                · refine lv_iload C0.1 C0.2.1 dX5_read_171 (lv_at hl 0 rfl) ?_
                  refine lv_sipush (v := 191) C0.1 C0.2.1 dX5_read_173 (by decide) ?_
                  refine lv_icmp_le (tgt := 181) C0.1 C0.2.1 dX5_read_176 (by decide) (fun c182 => ?_) (fun c182 => ?_)
                  · refine lv_iload C0.1 C0.2.1 dX5_read_181 (lv_at hl 2 rfl) ?_
                    refine lv_bipush (v := 6) C0.1 C0.2.1 dX5_read_183 (by decide) ?_
                    refine lv_ishl C0.1 C0.2.1 dX5_read_185 ?_
                    refine lv_iload C0.1 C0.2.1 dX5_read_186 (lv_at hl 0 rfl) ?_
                    refine lv_bipush (v := 63) C0.1 C0.2.1 dX5_read_188 (by decide) ?_
                    refine lv_iand C0.1 C0.2.1 dX5_read_190 ?_
                    refine lv_ior C0.1 C0.2.1 dX5_read_191 ?_
                    refine lv_istore (lv' := [(4, .int ((((nI xb) &&& 31) <<< (6 &&& 31)) ||| ((Hd.getD (b + 1) 0) &&& 63))), (6, .int (Hd.getD (b + 1) 0)), (5, .int 1), (3, .int 1), (2, .int (nI xb)), (1, .int (nI b)), (0, .ref o)]) C0.1 C0.2.1 dX5_read_192 hl (by decide) rfl (fun ls hl => ?_)
                    refine lv_iinc (v := 2) (lv' := [(5, .int 2), (4, .int ((((nI xb) &&& 31) <<< (6 &&& 31)) ||| ((Hd.getD (b + 1) 0) &&& 63))), (6, .int (Hd.getD (b + 1) 0)), (3, .int 1), (2, .int (nI xb)), (1, .int (nI b)), (0, .ref o)]) C0.1 C0.2.1 dX5_read_194 hl (k := 2) rfl rfl (by decide) rfl (fun ls hl => ?_)
                    refine lv_goto (tgt := 146) C0.1 C0.2.1 dX5_read_197 (by decide) ?_
                    refine lv_iload C0.1 C0.2.1 dX5_read_146 (lv_at hl 0 rfl) ?_
                    refine lv_iload_n C0.1 C0.2.1 dX5_read_148 rfl (lv_at hl 3 rfl) ?_
                    refine lv_icmp_gt (tgt := 200) C0.1 C0.2.1 dX5_read_149 (by decide) (fun c => ?_) (fun c => absurd c (by decide))
                    refine lv_iload_n C0.1 C0.2.1 dX5_read_200 rfl (lv_at hl 3 rfl) ?_
                    refine lv_if_ne (tgt := 208) C0.1 C0.2.1 dX5_read_201 (by decide) (fun c => ?_) (fun c => absurd c (by decide))
                    refine lv_iload_n C0.1 C0.2.1 dX5_read_208 rfl (lv_at hl 3 rfl) ?_
                    refine lv_iconst (v := 1) C0.1 C0.2.1 dX5_read_209 (by decide) ?_
                    refine lv_icmp_ne (tgt := 219) C0.1 C0.2.1 dX5_read_210 (by decide) (fun c => absurd c (by decide)) (fun c => ?_)
                    refine lv_sipush (v := 128) C0.1 C0.2.1 dX5_read_213 (by decide) ?_
                    refine lv_goto (tgt := 232) C0.1 C0.2.1 dX5_read_216 (by decide) ?_
                    refine lv_istore (lv' := [(5, .int 128), (4, .int ((((nI xb) &&& 31) <<< (6 &&& 31)) ||| ((Hd.getD (b + 1) 0) &&& 63))), (6, .int (Hd.getD (b + 1) 0)), (3, .int 1), (2, .int (nI xb)), (1, .int (nI b)), (0, .ref o)]) C0.1 C0.2.1 dX5_read_232 hl (by decide) rfl (fun ls hl => ?_)
                    refine lv_iload C0.1 C0.2.1 dX5_read_234 (lv_at hl 1 rfl) ?_
                    refine lv_iload C0.1 C0.2.1 dX5_read_236 (lv_at hl 0 rfl) ?_
                    refine lv_icmp_lt (tgt := 262) C0.1 C0.2.1 dX5_read_238 (by decide) (fun c186 => ?_) (fun c186 => ?_)
                    · refine lv_iload_n C0.1 C0.2.1 dX5_read_262 rfl (lv_at hl 5 rfl) ?_
                      exact me_wiret _ C0.1 C0.2.1 B.returns B.notSynchronized hP hS (Nat.le_of_ble_eq_true rfl) (Nat.le_of_ble_eq_true rfl) (⟨_, _, hM, hMF, by rw [hwr]; exact (wr_bad (by omega) ((ref_pt ho rfl (by omega) hk (by omega) (fun h => absurd h (by decide)) (by omega) (v := (((nI xb) &&& 31) <<< (6 &&& 31)) ||| ((Hd.getD (b + 1) 0) &&& 63)) (by rw [hv0, conts_s (by omega), if_neg c181, if_pos c182, conts_0])).1 (Or.inl c186))).symm, hsF, hsZ, fun h => absurd h (by rw [hwr, wr_bad (by omega) ((ref_pt ho rfl (by omega) hk (by omega) (fun h => absurd h (by decide)) (by omega) (v := (((nI xb) &&& 31) <<< (6 &&& 31)) ||| ((Hd.getD (b + 1) 0) &&& 63)) (by rw [hv0, conts_s (by omega), if_neg c181, if_pos c182, conts_0])).1 (Or.inl c186))]; exact nI_m1 (by omega))⟩) dX5_read_263
                    · refine lv_iload C0.1 C0.2.1 dX5_read_241 (lv_at hl 1 rfl) ?_
                      refine lv_ldc (v := 1114111) C0.1 C0.2.1 C0.2.2.1 (C0.2.2.2.1 _ kw_564) dX5_read_243 ?_
                      refine lv_icmp_gt (tgt := 262) C0.1 C0.2.1 dX5_read_245 (by decide) (fun c187 => ?_) (fun c187 => ?_)
                      · refine lv_iload_n C0.1 C0.2.1 dX5_read_262 rfl (lv_at hl 5 rfl) ?_
                        exact me_wiret _ C0.1 C0.2.1 B.returns B.notSynchronized hP hS (Nat.le_of_ble_eq_true rfl) (Nat.le_of_ble_eq_true rfl) (⟨_, _, hM, hMF, by rw [hwr]; exact (wr_bad (by omega) ((ref_pt ho rfl (by omega) hk (by omega) (fun h => absurd h (by decide)) (by omega) (v := (((nI xb) &&& 31) <<< (6 &&& 31)) ||| ((Hd.getD (b + 1) 0) &&& 63)) (by rw [hv0, conts_s (by omega), if_neg c181, if_pos c182, conts_0])).1 (Or.inr (Or.inl c187)))).symm, hsF, hsZ, fun h => absurd h (by rw [hwr, wr_bad (by omega) ((ref_pt ho rfl (by omega) hk (by omega) (fun h => absurd h (by decide)) (by omega) (v := (((nI xb) &&& 31) <<< (6 &&& 31)) ||| ((Hd.getD (b + 1) 0) &&& 63)) (by rw [hv0, conts_s (by omega), if_neg c181, if_pos c182, conts_0])).1 (Or.inr (Or.inl c187)))]; exact nI_m1 (by omega))⟩) dX5_read_263
                      · refine lv_iload C0.1 C0.2.1 dX5_read_248 (lv_at hl 1 rfl) ?_
                        refine lv_ldc (v := 55296) C0.1 C0.2.1 C0.2.2.1 (C0.2.2.2.1 _ kw_565) dX5_read_250 ?_
                        refine lv_icmp_lt (tgt := 264) C0.1 C0.2.1 dX5_read_252 (by decide) (fun c188 => ?_) (fun c188 => ?_)
                        · obtain ⟨hp1, hp2, hp3⟩ := (ref_pt ho rfl (by omega) hk (by omega) (fun h => absurd h (by decide)) (by omega) (v := (((nI xb) &&& 31) <<< (6 &&& 31)) ||| ((Hd.getD (b + 1) 0) &&& 63)) (by rw [hv0, conts_s (by omega), if_neg c181, if_pos c182, conts_0])).2 (fun h => h.elim (fun h => c186 h) (fun h => h.elim (fun h => c187 h) (fun h => h.1 c188)))
                          have hp3 : ¬ ptC Hd b Hd.length = -1 := hp1 ▸ hp3
                          refine lv_aload_n C0.1 C0.2.1 dX5_read_264 rfl (lv_at hl 6 rfl) ?_
                          refine md_get C0 hP hM 16 (by decide) kw_493 (v := .ref ((a 16))) rfl dX5_read_265 ?_
                          refine lv_aload_n C0.1 C0.2.1 dX5_read_268 rfl (lv_at hl 6 rfl) ?_
                          refine md_get C0 hP hM 17 (by decide) kw_494 (v := .int (nI P.length)) (by show some (Value.int (z1 17)) = _; rw [hPl.1]) dX5_read_269 ?_
                          refine lv_iload C0.1 C0.2.1 dX5_read_272 (lv_at hl 1 rfl) ?_
                          refine md_iast C0 hP hS hM hMF 16 (by decide) (i := P.length) (by show P.length < 200; omega) dX5_read_274 (fun w189 F189 H locs hF189 hM hMF hP hS => ?_)
                          refine lv_aload_n C0.1 C0.2.1 dX5_read_275 rfl (lv_at hl 6 rfl) ?_
                          refine lv_dup C0.1 C0.2.1 dX5_read_276 rfl ?_
                          refine md_get C0 hP hM 17 (by decide) kw_494 (v := .int (nI P.length)) (by show some (Value.int (z1 17)) = _; rw [hPl.1]) dX5_read_277 ?_
                          refine lv_iconst (v := 1) C0.1 C0.2.1 dX5_read_280 (by decide) ?_
                          refine lv_iadd C0.1 C0.2.1 dX5_read_281 ?_
                          refine me_topi (y := nI (P.length + 1)) (nI_add P.length 1) ?_
                          refine md_put C0 hP hS hM hMF 17 (by decide) kw_494 rfl rfl rfl dX5_read_282 (fun w190 z190 H locs hz190 hM hMF hP hS => ?_)
                          have hz190_15 : z190 15 = nI Hd.length := by rw [hz190, upd_ne (by decide)]; exact h15
                          have hz190_17 : z190 17 = nI (P.length + 1) := by rw [hz190, upd_eq]
                          refine lv_iload_n C0.1 C0.2.1 dX5_read_285 rfl (lv_at hl 5 rfl) ?_
                          refine lv_iload_n C0.1 C0.2.1 dX5_read_286 rfl (lv_at hl 3 rfl) ?_
                          refine lv_iconst (v := 1) C0.1 C0.2.1 dX5_read_287 (by decide) ?_
                          refine lv_iadd C0.1 C0.2.1 dX5_read_288 ?_
                          refine me_topi (y := nI (1 + 1)) (nI_add 1 1) ?_
                          refine lv_iadd C0.1 C0.2.1 dX5_read_289 ?_
                          refine me_topi (y := nI (b + (1 + 1))) (nI_add b (1 + 1)) ?_
                          refine lv_istore_n (lv' := [(1, .int (nI (b + (1 + 1)))), (5, .int 128), (4, .int ((((nI xb) &&& 31) <<< (6 &&& 31)) ||| ((Hd.getD (b + 1) 0) &&& 63))), (6, .int (Hd.getD (b + 1) 0)), (3, .int 1), (2, .int (nI xb)), (0, .ref o)]) C0.1 C0.2.1 dX5_read_290 rfl hl (by decide) rfl (fun ls hl => ?_)
                          refine lv_goto (tgt := 7) C0.1 C0.2.1 dX5_read_291 (by decide) ?_
                          exact ih7 (b + (1 + 1)) (P ++ [(((nI xb) &&& 31) <<< (6 &&& 31)) ||| ((Hd.getD (b + 1) 0) &&& 63)]) _ _ _ (by omega) hM hMF (hsF.wr hF189 (by decide)) (hsZ.wr hz190 (by decide)) (hPl.put hF189 hz190_17 (by omega)) (by simp; omega) (by rw [hwr]; exact wr_go (by omega) hp3 (hp1 ▸ hp2) (by omega)) (by rw [hpt, pts_go (by omega) hp3 (hp1 ▸ hp2) (by omega), hp1, List.append_assoc]; rfl) (by omega) _ _ _ hP hS (lv_sub hl [0, 6] rfl)
                        · refine lv_iload C0.1 C0.2.1 dX5_read_255 (lv_at hl 1 rfl) ?_
                          refine lv_ldc (v := 57343) C0.1 C0.2.1 C0.2.2.1 (C0.2.2.2.1 _ kw_566) dX5_read_257 ?_
                          refine lv_icmp_gt (tgt := 264) C0.1 C0.2.1 dX5_read_259 (by decide) (fun c191 => ?_) (fun c191 => ?_)
                          · obtain ⟨hp1, hp2, hp3⟩ := (ref_pt ho rfl (by omega) hk (by omega) (fun h => absurd h (by decide)) (by omega) (v := (((nI xb) &&& 31) <<< (6 &&& 31)) ||| ((Hd.getD (b + 1) 0) &&& 63)) (by rw [hv0, conts_s (by omega), if_neg c181, if_pos c182, conts_0])).2 (fun h => h.elim (fun h => c186 h) (fun h => h.elim (fun h => c187 h) (fun h => h.2 c191)))
                            have hp3 : ¬ ptC Hd b Hd.length = -1 := hp1 ▸ hp3
                            refine lv_aload_n C0.1 C0.2.1 dX5_read_264 rfl (lv_at hl 6 rfl) ?_
                            refine md_get C0 hP hM 16 (by decide) kw_493 (v := .ref ((a 16))) rfl dX5_read_265 ?_
                            refine lv_aload_n C0.1 C0.2.1 dX5_read_268 rfl (lv_at hl 6 rfl) ?_
                            refine md_get C0 hP hM 17 (by decide) kw_494 (v := .int (nI P.length)) (by show some (Value.int (z1 17)) = _; rw [hPl.1]) dX5_read_269 ?_
                            refine lv_iload C0.1 C0.2.1 dX5_read_272 (lv_at hl 1 rfl) ?_
                            refine md_iast C0 hP hS hM hMF 16 (by decide) (i := P.length) (by show P.length < 200; omega) dX5_read_274 (fun w192 F192 H locs hF192 hM hMF hP hS => ?_)
                            refine lv_aload_n C0.1 C0.2.1 dX5_read_275 rfl (lv_at hl 6 rfl) ?_
                            refine lv_dup C0.1 C0.2.1 dX5_read_276 rfl ?_
                            refine md_get C0 hP hM 17 (by decide) kw_494 (v := .int (nI P.length)) (by show some (Value.int (z1 17)) = _; rw [hPl.1]) dX5_read_277 ?_
                            refine lv_iconst (v := 1) C0.1 C0.2.1 dX5_read_280 (by decide) ?_
                            refine lv_iadd C0.1 C0.2.1 dX5_read_281 ?_
                            refine me_topi (y := nI (P.length + 1)) (nI_add P.length 1) ?_
                            refine md_put C0 hP hS hM hMF 17 (by decide) kw_494 rfl rfl rfl dX5_read_282 (fun w193 z193 H locs hz193 hM hMF hP hS => ?_)
                            have hz193_15 : z193 15 = nI Hd.length := by rw [hz193, upd_ne (by decide)]; exact h15
                            have hz193_17 : z193 17 = nI (P.length + 1) := by rw [hz193, upd_eq]
                            refine lv_iload_n C0.1 C0.2.1 dX5_read_285 rfl (lv_at hl 5 rfl) ?_
                            refine lv_iload_n C0.1 C0.2.1 dX5_read_286 rfl (lv_at hl 3 rfl) ?_
                            refine lv_iconst (v := 1) C0.1 C0.2.1 dX5_read_287 (by decide) ?_
                            refine lv_iadd C0.1 C0.2.1 dX5_read_288 ?_
                            refine me_topi (y := nI (1 + 1)) (nI_add 1 1) ?_
                            refine lv_iadd C0.1 C0.2.1 dX5_read_289 ?_
                            refine me_topi (y := nI (b + (1 + 1))) (nI_add b (1 + 1)) ?_
                            refine lv_istore_n (lv' := [(1, .int (nI (b + (1 + 1)))), (5, .int 128), (4, .int ((((nI xb) &&& 31) <<< (6 &&& 31)) ||| ((Hd.getD (b + 1) 0) &&& 63))), (6, .int (Hd.getD (b + 1) 0)), (3, .int 1), (2, .int (nI xb)), (0, .ref o)]) C0.1 C0.2.1 dX5_read_290 rfl hl (by decide) rfl (fun ls hl => ?_)
                            refine lv_goto (tgt := 7) C0.1 C0.2.1 dX5_read_291 (by decide) ?_
                            exact ih7 (b + (1 + 1)) (P ++ [(((nI xb) &&& 31) <<< (6 &&& 31)) ||| ((Hd.getD (b + 1) 0) &&& 63)]) _ _ _ (by omega) hM hMF (hsF.wr hF192 (by decide)) (hsZ.wr hz193 (by decide)) (hPl.put hF192 hz193_17 (by omega)) (by simp; omega) (by rw [hwr]; exact wr_go (by omega) hp3 (hp1 ▸ hp2) (by omega)) (by rw [hpt, pts_go (by omega) hp3 (hp1 ▸ hp2) (by omega), hp1, List.append_assoc]; rfl) (by omega) _ _ _ hP hS (lv_sub hl [0, 6] rfl)
                          · refine lv_iload_n C0.1 C0.2.1 dX5_read_262 rfl (lv_at hl 5 rfl) ?_
                            exact me_wiret _ C0.1 C0.2.1 B.returns B.notSynchronized hP hS (Nat.le_of_ble_eq_true rfl) (Nat.le_of_ble_eq_true rfl) (⟨_, _, hM, hMF, by rw [hwr]; exact (wr_bad (by omega) ((ref_pt ho rfl (by omega) hk (by omega) (fun h => absurd h (by decide)) (by omega) (v := (((nI xb) &&& 31) <<< (6 &&& 31)) ||| ((Hd.getD (b + 1) 0) &&& 63)) (by rw [hv0, conts_s (by omega), if_neg c181, if_pos c182, conts_0])).1 (Or.inr (Or.inr ⟨c188, c191⟩)))).symm, hsF, hsZ, fun h => absurd h (by rw [hwr, wr_bad (by omega) ((ref_pt ho rfl (by omega) hk (by omega) (fun h => absurd h (by decide)) (by omega) (v := (((nI xb) &&& 31) <<< (6 &&& 31)) ||| ((Hd.getD (b + 1) 0) &&& 63)) (by rw [hv0, conts_s (by omega), if_neg c181, if_pos c182, conts_0])).1 (Or.inr (Or.inr ⟨c188, c191⟩)))]; exact nI_m1 (by omega))⟩) dX5_read_263
                  · refine lv_iload_n C0.1 C0.2.1 dX5_read_179 rfl (lv_at hl 5 rfl) ?_
                    exact me_wiret _ C0.1 C0.2.1 B.returns B.notSynchronized hP hS (Nat.le_of_ble_eq_true rfl) (Nat.le_of_ble_eq_true rfl) (⟨_, _, hM, hMF, by rw [hwr]; exact (wr_bad (by omega) (ref_no hk (by omega) (Or.inr (by rw [hv0, conts_s (by omega), if_neg c181, if_neg c182])))).symm, hsF, hsZ, fun h => absurd h (by rw [hwr, wr_bad (by omega) (ref_no hk (by omega) (Or.inr (by rw [hv0, conts_s (by omega), if_neg c181, if_neg c182])))]; exact nI_m1 (by omega))⟩) dX5_read_180
              · have d177 : Hd.length ≤ (b + 1) := Nat.not_lt.mp (fun h => c177 (nI_lt (a := (b + 1)) (b := Hd.length) h (by omega)))
                refine lv_iload_n C0.1 C0.2.1 dX5_read_103 rfl (lv_at hl 2 rfl) ?_
                exact me_wiret _ C0.1 C0.2.1 B.returns B.notSynchronized hP hS (Nat.le_of_ble_eq_true rfl) (Nat.le_of_ble_eq_true rfl) (⟨_, _, hM, hMF, by rw [hwr]; exact (wr_bad (by omega) (ref_no hk (by omega) (Or.inl (by omega)))).symm, hsF, hsZ, fun h => absurd h (by rw [hwr, wr_bad (by omega) (ref_no hk (by omega) (Or.inl (by omega)))]; exact nI_m1 (by omega))⟩) dX5_read_104
        · have d3 : xb < 128 := Nat.not_le.mp (fun h => c3 (nI_le (a := 128) (b := xb) h (by omega)))
          refine lv_iconst (v := 0) C0.1 C0.2.1 dX5_read_29 (by decide) ?_
          refine lv_goto (tgt := 88) C0.1 C0.2.1 dX5_read_30 (by decide) ?_
          have hk : octMore (Hd.getD b 0) = nI 0 := by rw [hxb]; exact om_0 xb hx256 (by omega)
          refine lv_istore_n (lv' := [(3, .int 0), (2, .int (nI xb)), (1, .int (nI b)), (0, .ref o)]) C0.1 C0.2.1 dX5_read_88 rfl hl (by decide) rfl (fun ls hl => ?_)
          refine lv_iload_n C0.1 C0.2.1 dX5_read_89 rfl (lv_at hl 0 rfl) ?_
          refine lv_if_lt (tgt := 103) C0.1 C0.2.1 dX5_read_90 (by decide) (fun c => absurd c (by decide)) (fun c => ?_)
          refine lv_iload_n C0.1 C0.2.1 dX5_read_93 rfl (lv_at hl 2 rfl) ?_
          refine lv_iload_n C0.1 C0.2.1 dX5_read_94 rfl (lv_at hl 0 rfl) ?_
          refine lv_iadd C0.1 C0.2.1 dX5_read_95 ?_
          refine me_topi (y := nI (b + 0)) (nI_add b 0) ?_
          refine lv_aload_n C0.1 C0.2.1 dX5_read_96 rfl (lv_at hl 3 rfl) ?_
          refine md_get C0 hP hM 15 (by decide) kw_492 (v := .int (nI Hd.length)) (by show some (Value.int (z1 15)) = _; rw [h15]) dX5_read_97 ?_
          refine lv_icmp_lt (tgt := 105) C0.1 C0.2.1 dX5_read_100 (by decide) (fun c195 => ?_) (fun c195 => ?_)
          · have d195 : (b + 0) < Hd.length := (nI_ltI (a := (b + 0)) (b := Hd.length) (by omega) (by omega)).mp c195
            refine lv_iload_n C0.1 C0.2.1 dX5_read_105 rfl (lv_at hl 0 rfl) ?_
            refine lv_if_ne (tgt := 113) C0.1 C0.2.1 dX5_read_106 (by decide) (fun c => absurd c (by decide)) (fun c => ?_)
            refine lv_iload_n C0.1 C0.2.1 dX5_read_109 rfl (lv_at hl 1 rfl) ?_
            refine lv_goto (tgt := 141) C0.1 C0.2.1 dX5_read_110 (by decide) ?_
            have hv0 : hd (Hd.getD b 0) 0 = nI xb := by rw [hxb]; rfl
            refine lv_istore (lv' := [(4, .int (nI xb)), (3, .int 0), (2, .int (nI xb)), (1, .int (nI b)), (0, .ref o)]) C0.1 C0.2.1 dX5_read_141 hl (by decide) rfl (fun ls hl => ?_)
            refine lv_iconst (v := 1) C0.1 C0.2.1 dX5_read_143 (by decide) ?_
            refine lv_istore (lv' := [(5, .int 1), (4, .int (nI xb)), (3, .int 0), (2, .int (nI xb)), (1, .int (nI b)), (0, .ref o)]) C0.1 C0.2.1 dX5_read_144 hl (by decide) rfl (fun ls hl => ?_)
            refine lv_iload C0.1 C0.2.1 dX5_read_146 (lv_at hl 0 rfl) ?_
            refine lv_iload_n C0.1 C0.2.1 dX5_read_148 rfl (lv_at hl 2 rfl) ?_
            refine lv_icmp_gt (tgt := 200) C0.1 C0.2.1 dX5_read_149 (by decide) (fun c => ?_) (fun c => absurd c (by decide))
            refine lv_iload_n C0.1 C0.2.1 dX5_read_200 rfl (lv_at hl 2 rfl) ?_
            refine lv_if_ne (tgt := 208) C0.1 C0.2.1 dX5_read_201 (by decide) (fun c => absurd c (by decide)) (fun c => ?_)
            refine lv_iconst (v := 0) C0.1 C0.2.1 dX5_read_204 (by decide) ?_
            refine lv_goto (tgt := 232) C0.1 C0.2.1 dX5_read_205 (by decide) ?_
            refine lv_istore (lv' := [(5, .int 0), (4, .int (nI xb)), (3, .int 0), (2, .int (nI xb)), (1, .int (nI b)), (0, .ref o)]) C0.1 C0.2.1 dX5_read_232 hl (by decide) rfl (fun ls hl => ?_)
            refine lv_iload C0.1 C0.2.1 dX5_read_234 (lv_at hl 1 rfl) ?_
            refine lv_iload C0.1 C0.2.1 dX5_read_236 (lv_at hl 0 rfl) ?_
            refine lv_icmp_lt (tgt := 262) C0.1 C0.2.1 dX5_read_238 (by decide) (fun c199 => ?_) (fun c199 => ?_)
            · have d199 : xb < 0 := (nI_ltI (a := xb) (b := 0) (by omega) (by omega)).mp c199
              refine lv_iload_n C0.1 C0.2.1 dX5_read_262 rfl (lv_at hl 4 rfl) ?_
              exact me_wiret _ C0.1 C0.2.1 B.returns B.notSynchronized hP hS (Nat.le_of_ble_eq_true rfl) (Nat.le_of_ble_eq_true rfl) (⟨_, _, hM, hMF, by rw [hwr]; exact (wr_bad (by omega) ((ref_pt ho rfl (by omega) hk (by omega) (fun _ => by rw [hxb]; exact nI_lt (b := 128) (by omega) (by omega)) (by omega) (v := nI xb) (by rw [hv0, conts_0])).1 (Or.inl c199))).symm, hsF, hsZ, fun h => absurd h (by rw [hwr, wr_bad (by omega) ((ref_pt ho rfl (by omega) hk (by omega) (fun _ => by rw [hxb]; exact nI_lt (b := 128) (by omega) (by omega)) (by omega) (v := nI xb) (by rw [hv0, conts_0])).1 (Or.inl c199))]; exact nI_m1 (by omega))⟩) dX5_read_263
            · have d199 : 0 ≤ xb := Nat.not_lt.mp (fun h => c199 (nI_lt (a := xb) (b := 0) h (by omega)))
              refine lv_iload C0.1 C0.2.1 dX5_read_241 (lv_at hl 1 rfl) ?_
              refine lv_ldc (v := 1114111) C0.1 C0.2.1 C0.2.2.1 (C0.2.2.2.1 _ kw_564) dX5_read_243 ?_
              refine lv_icmp_gt (tgt := 262) C0.1 C0.2.1 dX5_read_245 (by decide) (fun c200 => ?_) (fun c200 => ?_)
              · have d200 : 1114111 < xb := (nI_ltI (a := 1114111) (b := xb) (by omega) (by omega)).mp c200
                refine lv_iload_n C0.1 C0.2.1 dX5_read_262 rfl (lv_at hl 4 rfl) ?_
                exact me_wiret _ C0.1 C0.2.1 B.returns B.notSynchronized hP hS (Nat.le_of_ble_eq_true rfl) (Nat.le_of_ble_eq_true rfl) (⟨_, _, hM, hMF, by rw [hwr]; exact (wr_bad (by omega) ((ref_pt ho rfl (by omega) hk (by omega) (fun _ => by rw [hxb]; exact nI_lt (b := 128) (by omega) (by omega)) (by omega) (v := nI xb) (by rw [hv0, conts_0])).1 (Or.inr (Or.inl c200)))).symm, hsF, hsZ, fun h => absurd h (by rw [hwr, wr_bad (by omega) ((ref_pt ho rfl (by omega) hk (by omega) (fun _ => by rw [hxb]; exact nI_lt (b := 128) (by omega) (by omega)) (by omega) (v := nI xb) (by rw [hv0, conts_0])).1 (Or.inr (Or.inl c200)))]; exact nI_m1 (by omega))⟩) dX5_read_263
              · have d200 : xb ≤ 1114111 := Nat.not_lt.mp (fun h => c200 (nI_lt (a := 1114111) (b := xb) h (by omega)))
                refine lv_iload C0.1 C0.2.1 dX5_read_248 (lv_at hl 1 rfl) ?_
                refine lv_ldc (v := 55296) C0.1 C0.2.1 C0.2.2.1 (C0.2.2.2.1 _ kw_565) dX5_read_250 ?_
                refine lv_icmp_lt (tgt := 264) C0.1 C0.2.1 dX5_read_252 (by decide) (fun c201 => ?_) (fun c201 => ?_)
                · have d201 : xb < 55296 := (nI_ltI (a := xb) (b := 55296) (by omega) (by omega)).mp c201
                  obtain ⟨hp1, hp2, hp3⟩ := (ref_pt ho rfl (by omega) hk (by omega) (fun _ => by rw [hxb]; exact nI_lt (b := 128) (by omega) (by omega)) (by omega) (v := nI xb) (by rw [hv0, conts_0])).2 (fun h => h.elim (fun h => c199 h) (fun h => h.elim (fun h => c200 h) (fun h => h.1 c201)))
                  have hp3 : ¬ ptC Hd b Hd.length = -1 := hp1 ▸ hp3
                  refine lv_aload_n C0.1 C0.2.1 dX5_read_264 rfl (lv_at hl 5 rfl) ?_
                  refine md_get C0 hP hM 16 (by decide) kw_493 (v := .ref ((a 16))) rfl dX5_read_265 ?_
                  refine lv_aload_n C0.1 C0.2.1 dX5_read_268 rfl (lv_at hl 5 rfl) ?_
                  refine md_get C0 hP hM 17 (by decide) kw_494 (v := .int (nI P.length)) (by show some (Value.int (z1 17)) = _; rw [hPl.1]) dX5_read_269 ?_
                  refine lv_iload C0.1 C0.2.1 dX5_read_272 (lv_at hl 1 rfl) ?_
                  refine md_iast C0 hP hS hM hMF 16 (by decide) (i := P.length) (by show P.length < 200; omega) dX5_read_274 (fun w202 F202 H locs hF202 hM hMF hP hS => ?_)
                  refine lv_aload_n C0.1 C0.2.1 dX5_read_275 rfl (lv_at hl 5 rfl) ?_
                  refine lv_dup C0.1 C0.2.1 dX5_read_276 rfl ?_
                  refine md_get C0 hP hM 17 (by decide) kw_494 (v := .int (nI P.length)) (by show some (Value.int (z1 17)) = _; rw [hPl.1]) dX5_read_277 ?_
                  refine lv_iconst (v := 1) C0.1 C0.2.1 dX5_read_280 (by decide) ?_
                  refine lv_iadd C0.1 C0.2.1 dX5_read_281 ?_
                  refine me_topi (y := nI (P.length + 1)) (nI_add P.length 1) ?_
                  refine md_put C0 hP hS hM hMF 17 (by decide) kw_494 rfl rfl rfl dX5_read_282 (fun w203 z203 H locs hz203 hM hMF hP hS => ?_)
                  have hz203_15 : z203 15 = nI Hd.length := by rw [hz203, upd_ne (by decide)]; exact h15
                  have hz203_17 : z203 17 = nI (P.length + 1) := by rw [hz203, upd_eq]
                  refine lv_iload_n C0.1 C0.2.1 dX5_read_285 rfl (lv_at hl 4 rfl) ?_
                  refine lv_iload_n C0.1 C0.2.1 dX5_read_286 rfl (lv_at hl 2 rfl) ?_
                  refine lv_iconst (v := 1) C0.1 C0.2.1 dX5_read_287 (by decide) ?_
                  refine lv_iadd C0.1 C0.2.1 dX5_read_288 ?_
                  refine me_topi (y := nI (0 + 1)) (nI_add 0 1) ?_
                  refine lv_iadd C0.1 C0.2.1 dX5_read_289 ?_
                  refine me_topi (y := nI (b + (0 + 1))) (nI_add b (0 + 1)) ?_
                  refine lv_istore_n (lv' := [(1, .int (nI (b + (0 + 1)))), (5, .int 0), (4, .int (nI xb)), (3, .int 0), (2, .int (nI xb)), (0, .ref o)]) C0.1 C0.2.1 dX5_read_290 rfl hl (by decide) rfl (fun ls hl => ?_)
                  refine lv_goto (tgt := 7) C0.1 C0.2.1 dX5_read_291 (by decide) ?_
                  exact ih7 (b + (0 + 1)) (P ++ [nI xb]) _ _ _ (by omega) hM hMF (hsF.wr hF202 (by decide)) (hsZ.wr hz203 (by decide)) (hPl.put hF202 hz203_17 (by omega)) (by simp; omega) (by rw [hwr]; exact wr_go (by omega) hp3 (hp1 ▸ hp2) (by omega)) (by rw [hpt, pts_go (by omega) hp3 (hp1 ▸ hp2) (by omega), hp1, List.append_assoc]; rfl) (by omega) _ _ _ hP hS (lv_sub hl [0, 5] rfl)
                · have d201 : 55296 ≤ xb := Nat.not_lt.mp (fun h => c201 (nI_lt (a := xb) (b := 55296) h (by omega)))
                  refine lv_iload C0.1 C0.2.1 dX5_read_255 (lv_at hl 1 rfl) ?_
                  refine lv_ldc (v := 57343) C0.1 C0.2.1 C0.2.2.1 (C0.2.2.2.1 _ kw_566) dX5_read_257 ?_
                  refine lv_icmp_gt (tgt := 264) C0.1 C0.2.1 dX5_read_259 (by decide) (fun c204 => ?_) (fun c204 => ?_)
                  · have d204 : 57343 < xb := (nI_ltI (a := 57343) (b := xb) (by omega) (by omega)).mp c204
                    obtain ⟨hp1, hp2, hp3⟩ := (ref_pt ho rfl (by omega) hk (by omega) (fun _ => by rw [hxb]; exact nI_lt (b := 128) (by omega) (by omega)) (by omega) (v := nI xb) (by rw [hv0, conts_0])).2 (fun h => h.elim (fun h => c199 h) (fun h => h.elim (fun h => c200 h) (fun h => h.2 c204)))
                    have hp3 : ¬ ptC Hd b Hd.length = -1 := hp1 ▸ hp3
                    refine lv_aload_n C0.1 C0.2.1 dX5_read_264 rfl (lv_at hl 5 rfl) ?_
                    refine md_get C0 hP hM 16 (by decide) kw_493 (v := .ref ((a 16))) rfl dX5_read_265 ?_
                    refine lv_aload_n C0.1 C0.2.1 dX5_read_268 rfl (lv_at hl 5 rfl) ?_
                    refine md_get C0 hP hM 17 (by decide) kw_494 (v := .int (nI P.length)) (by show some (Value.int (z1 17)) = _; rw [hPl.1]) dX5_read_269 ?_
                    refine lv_iload C0.1 C0.2.1 dX5_read_272 (lv_at hl 1 rfl) ?_
                    refine md_iast C0 hP hS hM hMF 16 (by decide) (i := P.length) (by show P.length < 200; omega) dX5_read_274 (fun w205 F205 H locs hF205 hM hMF hP hS => ?_)
                    refine lv_aload_n C0.1 C0.2.1 dX5_read_275 rfl (lv_at hl 5 rfl) ?_
                    refine lv_dup C0.1 C0.2.1 dX5_read_276 rfl ?_
                    refine md_get C0 hP hM 17 (by decide) kw_494 (v := .int (nI P.length)) (by show some (Value.int (z1 17)) = _; rw [hPl.1]) dX5_read_277 ?_
                    refine lv_iconst (v := 1) C0.1 C0.2.1 dX5_read_280 (by decide) ?_
                    refine lv_iadd C0.1 C0.2.1 dX5_read_281 ?_
                    refine me_topi (y := nI (P.length + 1)) (nI_add P.length 1) ?_
                    refine md_put C0 hP hS hM hMF 17 (by decide) kw_494 rfl rfl rfl dX5_read_282 (fun w206 z206 H locs hz206 hM hMF hP hS => ?_)
                    have hz206_15 : z206 15 = nI Hd.length := by rw [hz206, upd_ne (by decide)]; exact h15
                    have hz206_17 : z206 17 = nI (P.length + 1) := by rw [hz206, upd_eq]
                    refine lv_iload_n C0.1 C0.2.1 dX5_read_285 rfl (lv_at hl 4 rfl) ?_
                    refine lv_iload_n C0.1 C0.2.1 dX5_read_286 rfl (lv_at hl 2 rfl) ?_
                    refine lv_iconst (v := 1) C0.1 C0.2.1 dX5_read_287 (by decide) ?_
                    refine lv_iadd C0.1 C0.2.1 dX5_read_288 ?_
                    refine me_topi (y := nI (0 + 1)) (nI_add 0 1) ?_
                    refine lv_iadd C0.1 C0.2.1 dX5_read_289 ?_
                    refine me_topi (y := nI (b + (0 + 1))) (nI_add b (0 + 1)) ?_
                    refine lv_istore_n (lv' := [(1, .int (nI (b + (0 + 1)))), (5, .int 0), (4, .int (nI xb)), (3, .int 0), (2, .int (nI xb)), (0, .ref o)]) C0.1 C0.2.1 dX5_read_290 rfl hl (by decide) rfl (fun ls hl => ?_)
                    refine lv_goto (tgt := 7) C0.1 C0.2.1 dX5_read_291 (by decide) ?_
                    exact ih7 (b + (0 + 1)) (P ++ [nI xb]) _ _ _ (by omega) hM hMF (hsF.wr hF205 (by decide)) (hsZ.wr hz206 (by decide)) (hPl.put hF205 hz206_17 (by omega)) (by simp; omega) (by rw [hwr]; exact wr_go (by omega) hp3 (hp1 ▸ hp2) (by omega)) (by rw [hpt, pts_go (by omega) hp3 (hp1 ▸ hp2) (by omega), hp1, List.append_assoc]; rfl) (by omega) _ _ _ hP hS (lv_sub hl [0, 5] rfl)
                  · have d204 : xb ≤ 57343 := Nat.not_lt.mp (fun h => c204 (nI_lt (a := 57343) (b := xb) h (by omega)))
                    refine lv_iload_n C0.1 C0.2.1 dX5_read_262 rfl (lv_at hl 4 rfl) ?_
                    exact me_wiret _ C0.1 C0.2.1 B.returns B.notSynchronized hP hS (Nat.le_of_ble_eq_true rfl) (Nat.le_of_ble_eq_true rfl) (⟨_, _, hM, hMF, by rw [hwr]; exact (wr_bad (by omega) ((ref_pt ho rfl (by omega) hk (by omega) (fun _ => by rw [hxb]; exact nI_lt (b := 128) (by omega) (by omega)) (by omega) (v := nI xb) (by rw [hv0, conts_0])).1 (Or.inr (Or.inr ⟨c201, c204⟩)))).symm, hsF, hsZ, fun h => absurd h (by rw [hwr, wr_bad (by omega) ((ref_pt ho rfl (by omega) hk (by omega) (fun _ => by rw [hxb]; exact nI_lt (b := 128) (by omega) (by omega)) (by omega) (v := nI xb) (by rw [hv0, conts_0])).1 (Or.inr (Or.inr ⟨c201, c204⟩)))]; exact nI_m1 (by omega))⟩) dX5_read_263
          · have d195 : Hd.length ≤ (b + 0) := Nat.not_lt.mp (fun h => c195 (nI_lt (a := (b + 0)) (b := Hd.length) h (by omega)))
            refine lv_iload_n C0.1 C0.2.1 dX5_read_103 rfl (lv_at hl 2 rfl) ?_
            exact me_wiret _ C0.1 C0.2.1 B.returns B.notSynchronized hP hS (Nat.le_of_ble_eq_true rfl) (Nat.le_of_ble_eq_true rfl) (⟨_, _, hM, hMF, by rw [hwr]; exact (wr_bad (by omega) (ref_no hk (by omega) (Or.inl (by omega)))).symm, hsF, hsZ, fun h => absurd h (by rw [hwr, wr_bad (by omega) (ref_no hk (by omega) (Or.inl (by omega)))]; exact nI_m1 (by omega))⟩) dX5_read_104
  exact loop7 (Hd.length - 0 + 1) 0 [] _ F _ (Nat.zero_le _) hM hMF SameF.rf (SameZ.rf.wr hz1 (by decide)) (Ls.nil hz1_17) (Nat.zero_le _) rfl (by simp) (Nat.lt_succ_self _) _ _ _ hP hS (lv_sub hl [0, 1] rfl)
