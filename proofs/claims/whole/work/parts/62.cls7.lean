set_option maxHeartbeats 4000000 in
set_option maxRecDepth 100000 in
/-- putFromTape(directory, isDirectory) -/
theorem c_X4_putFromTape (l : Launch) (G : me_G) (B0 : Nat) (w : Me) (D : Nat → Prop) (ad : Nat → Nat → Nat) (ex : Nat → Bool) (R : Nat → Nat → List Int32) (N : Nat → Nat → Int32) (T : Tre) (hFN : FN G B0 D w ad ex R N (nI (cntF T 200))) (Bn : Nat → List Int32) (hCT : CT ex R N T Bn) (hI : TI T) (hSB : SB T Bn) (tp : List Int32) (htp : R 0 1 = tp) (ho : Oct tp) (hDn : ∀ q, ¬ D q → w q ≠ none) (d dr : Int32) (hnb : narrow .boolean (.int dr) = .int dr) (hfit : fits .boolean (.int dr) = true) : CtWI l yX4_putFromTape (Cond.code yX4_putFromTape cX4_putFromTape 6 (some .int)) ({ frames := 8, cells := 9, slots := 215, locals := 179 }) G B0 w [.ref (ad 0 0), .int d, .int dr] (fun r w' => ∃ (ad' : Nat → Nat → Nat) (ex' : Nat → Bool) (R' : Nat → Nat → List Int32) (N' : Nat → Nat → Int32), FN G B0 D w' ad' ex' R' N' (nI (cntF (sPutT T tp d dr) 200)) ∧ FDr D w w' ∧ ad' 0 0 = ad 0 0 ∧ R' 0 1 = tp ∧ R' 0 3 = R 0 3 ∧ r = sPutR T tp d ∧ CT ex' R' N' (sPutT T tp d dr) (sPutB T Bn tp d dr)) 9 215 := by
  refine Met.ofW (cc := cX4_putFromTape) (maxL := 6) (ret := (some .int)) (by decide) rfl ?_
  intro p e s m args below meth c s₁ B hml hv
  obtain ⟨rfl, hK, hP, hKq, hBs⟩ := hv
  have hts := fun w h => atoms_spec (ws := Cond.code yX4_putFromTape cX4_putFromTape 6 (some .int) :: tbG) B.pre w (List.mem_cons_of_mem _ h)
  have hown : s.vm.findClass RX4 = some m.cls := findClass_of_methodNamed B.named
  have C0 : Cx G B0 p s m _ c cX4_putFromTape RX4 := ⟨B.exec, B.bytes, hown, hts, hK, hKq, hBs⟩
  have hS : va_S (me_A B0) s.heap s.heap [] := va_S.rf
  have hl := lv_entry ([.ref (ad 0 0), .int d, .int dr]) (n := 6) (Nat.le_of_ble_eq_true rfl)
  rw [lg_entry_eq]
  generalize (lg_sl ([.ref (ad 0 0), .int d, .int dr]) ++ List.replicate (6 - (lg_sl ([.ref (ad 0 0), .int d, .int dr])).length) Slot.unset).toArray = ls at hl ⊢
  have hl : lv_has ls 6 [(0, .ref (ad 0 0)), (1, .int d), (2, .int dr)] := hl
  have hFD : FDr D w w := FDr.rf
  have htl : tp.length ≤ 200 := (hFN.rw0 0 1 hFN.2.2.2.2.1 (Or.inl rfl) htp).2.1
  refine lv_aload_n C0.1 C0.2.1 dX4_putFromTape_0 rfl (lv_at hl 0 rfl) ?_
  refine lv_iload_n C0.1 C0.2.1 dX4_putFromTape_1 rfl (lv_at hl 1 rfl) ?_
  refine me_cVq (n := 1) C0 hml hP hS (c_X4_directoryAt l G B0 w D ad ex R N (nI (cntF T 200)) hFN T Bn hCT d) ⟨kw_268, kw_31, kw_265, ⟨by decide, by decide, by decide +kernel⟩, ⟨rfl, rfl⟩, ⟨Nat.le_of_ble_eq_true rfl, Nat.le_of_ble_eq_true rfl⟩⟩ kw_267 kw_1 hFN.1 rfl rfl hl.1 rfl (Nat.le_of_ble_eq_true rfl) ⟨Nat.le_of_ble_eq_true rfl, Nat.le_of_ble_eq_true rfl⟩ dX4_putFromTape_2 (fun r1 hr1 => ?_)
  rcases hr1 with ⟨hnok, rfl⟩ | ⟨k, n, hk, rfl, hTk, hdirk, hnk, rfl⟩
  · refine W.eq (g2 := F0 m 5 ls [.null]) rfl ?_
    refine lv_astore_nN (lv' := [(3, .null), (0, .ref (ad 0 0)), (1, .int d), (2, .int dr)]) C0.1 C0.2.1 dX4_putFromTape_5 rfl hl (by decide) rfl (fun ls hl => ?_)
    refine lv_aload_nN C0.1 C0.2.1 dX4_putFromTape_6 rfl (lv_at hl 0 rfl) ?_
    refine lv_ifnonnullN C0.1 C0.2.1 dX4_putFromTape_7 ?_
    refine lv_bipush (v := (-5)) C0.1 C0.2.1 dX4_putFromTape_10 (by decide) ?_
    exact me_wiret _ C0.1 C0.2.1 B.returns B.notSynchronized hP hS (Nat.le_of_ble_eq_true rfl) (Nat.le_of_ble_eq_true rfl) (have hR : sPutR T tp d = (-5) := (by unfold sPutR; rw [if_pos hnok]); ⟨ad, ex, _, _, by rw [sPutT_f hR (by decide)]; exact hFN, hFD, rfl, htp, (Eq.refl (R 0 3)), hR.symm, by rw [sPutT_f hR (by decide), sPutB_f hR (by decide)]; exact hCT⟩) dX4_putFromTape_12
  · obtain ⟨hk200, hxk, hnk0, hnk1, hnk2, hrk1, hrk3, hrk5, hrk7⟩ := hCT.2 k n hTk
    refine W.eq (g2 := F0 m 5 ls [.ref (ad (k + 1) 0)]) rfl ?_
    refine lv_astore_n (lv' := [(3, .ref (ad (k + 1) 0)), (0, .ref (ad 0 0)), (1, .int (nI k)), (2, .int dr)]) C0.1 C0.2.1 dX4_putFromTape_5 rfl hl (by decide) rfl (fun ls hl => ?_)
    refine lv_aload_n C0.1 C0.2.1 dX4_putFromTape_6 rfl (lv_at hl 0 rfl) ?_
    refine lv_ifnonnull (tgt := 13) C0.1 C0.2.1 dX4_putFromTape_7 (by decide) ?_
    refine lv_aload_n C0.1 C0.2.1 dX4_putFromTape_13 rfl (lv_at hl 1 rfl) ?_
    refine lv_iconst (v := 0) C0.1 C0.2.1 dX4_putFromTape_14 (by decide) ?_
    refine lv_aload_n C0.1 C0.2.1 dX4_putFromTape_15 rfl (lv_at hl 1 rfl) ?_
    refine me_get C0 hP hFN.1 rfl inX4 0 (by decide) kw_118 rfl dX4_putFromTape_16 ?_
    refine me_cVi (n := 0) C0 hml hP hS (c_X2_size l G B0 w (ad 0 1) (ad 0 (1 + 1)) (capR 0 1) tp (hFN.rw0 0 1 hFN.2.2.2.2.1 (Or.inl rfl) htp)) ⟨kw_141, kw_32, kw_138, ⟨by decide, by decide, by decide +kernel⟩, ⟨rfl, rfl⟩, ⟨Nat.le_of_ble_eq_true rfl, Nat.le_of_ble_eq_true rfl⟩⟩ kw_139 kw_140 (hFN.2.2.2.1 0 1 hFN.2.2.2.2.1 (Or.inl rfl)).1 rfl rfl hl.1 rfl (Nat.le_of_ble_eq_true rfl) ⟨Nat.le_of_ble_eq_true rfl, Nat.le_of_ble_eq_true rfl⟩ dX4_putFromTape_19 (fun r2 hr2 => ?_)
    subst hr2
    have hlcr2 : tp.length ≤ 200 := (hFN.rw0 0 1 hFN.2.2.2.2.1 (Or.inl rfl) htp).2.1
    refine me_cVwi (n := 2) C0 hml hP hS (c_X4_askForName l G B0 w D ad ex R N (nI (cntF T 200)) hFN tp htp ho 0 tp.length (by omega) (by omega)) ⟨kw_276, kw_31, kw_273, ⟨by decide, by decide, by decide +kernel⟩, ⟨rfl, rfl⟩, ⟨Nat.le_of_ble_eq_true rfl, Nat.le_of_ble_eq_true rfl⟩⟩ kw_275 kw_3 hFN.1 rfl rfl hl.1 rfl (Nat.le_of_ble_eq_true rfl) ⟨Nat.le_of_ble_eq_true rfl, Nat.le_of_ble_eq_true rfl⟩ dX4_putFromTape_22 (fun r3 w3 H locs hw3 hP hS => ?_)
    obtain ⟨R3, hFN, hFD3, hSR3, hres3⟩ := hw3
    have hFD := hFD.tr hFD3
    have hCT3 := hCT.sr hSR3 (by simp)
    rw [piece_all] at hres3
    rcases hres3 with ⟨hok, rfl, hX⟩ | ⟨hno, rfl⟩
    · have hnm : nmI tp = 1 := nmI_1 hok
      refine lv_if_ne (tgt := 31) C0.1 C0.2.1 dX4_putFromTape_25 (by decide) (fun cx => ?_) (fun cx => absurd cx (by decide))
      refine lv_aload_n C0.1 C0.2.1 dX4_putFromTape_31 rfl (lv_at hl 1 rfl) ?_
      refine lv_aload_n C0.1 C0.2.1 dX4_putFromTape_32 rfl (lv_at hl 0 rfl) ?_
      refine me_cVi (n := 1) C0 hml hP hS (c_X4_entryAsked l G B0 w3 D ad ex R3 N (nI (cntF T 200)) hFN T Bn hCT3 k n hTk (folds tp) n.2.2.2.2 hX rfl (hI.ent k n hTk)) ⟨kw_283, kw_31, kw_280, ⟨by decide, by decide, by decide +kernel⟩, ⟨rfl, rfl⟩, ⟨Nat.le_of_ble_eq_true rfl, Nat.le_of_ble_eq_true rfl⟩⟩ kw_282 kw_4 hFN.1 rfl rfl hl.1 rfl (Nat.le_of_ble_eq_true rfl) ⟨Nat.le_of_ble_eq_true rfl, Nat.le_of_ble_eq_true rfl⟩ dX4_putFromTape_33 (fun r5 hr5 => ?_)
      rcases hI.elk hTk hr5 with ⟨hel, hel0⟩ | ⟨e1, me1, e11, e12, hel, e14, e15, e16, e17⟩
      · subst hel
        refine lv_iconst (v := (-1)) C0.1 C0.2.1 dX4_putFromTape_36 (by decide) ?_
        refine lv_icmp_eq (tgt := 43) C0.1 C0.2.1 dX4_putFromTape_37 (by decide) (fun cx => ?_) (fun cx => absurd cx (by decide))
        refine lv_aload_n C0.1 C0.2.1 dX4_putFromTape_43 rfl (lv_at hl 1 rfl) ?_
        refine me_cVi (n := 0) C0 hml hP hS (c_X4_freeNumber l G B0 w3 D ad ex R3 N (nI (cntF T 200)) hFN T Bn hCT3) ⟨kw_297, kw_31, kw_294, ⟨by decide, by decide, by decide +kernel⟩, ⟨rfl, rfl⟩, ⟨Nat.le_of_ble_eq_true rfl, Nat.le_of_ble_eq_true rfl⟩⟩ kw_296 kw_5 hFN.1 rfl rfl hl.1 rfl (Nat.le_of_ble_eq_true rfl) ⟨Nat.le_of_ble_eq_true rfl, Nat.le_of_ble_eq_true rfl⟩ dX4_putFromTape_44 (fun r7 hr7 => ?_)
        rcases frF_r T 200 0 with hfr | ⟨u, -, hu, hfr, hTu⟩
        · rw [hfr] at hr7
          subst hr7
          refine lv_istore (lv' := [(4, .int ((-1))), (3, .ref (ad (k + 1) 0)), (0, .ref (ad 0 0)), (1, .int (nI k)), (2, .int dr)]) C0.1 C0.2.1 dX4_putFromTape_47 hl (by decide) rfl (fun ls hl => ?_)
          refine lv_iload C0.1 C0.2.1 dX4_putFromTape_49 (lv_at hl 0 rfl) ?_
          refine lv_iconst (v := (-1)) C0.1 C0.2.1 dX4_putFromTape_51 (by decide) ?_
          refine lv_icmp_eq (tgt := 67) C0.1 C0.2.1 dX4_putFromTape_52 (by decide) (fun cx => ?_) (fun cx => absurd cx (by decide))
          refine lv_bipush (v := (-4)) C0.1 C0.2.1 dX4_putFromTape_67 (by decide) ?_
          exact me_wiret _ C0.1 C0.2.1 B.returns B.notSynchronized hP hS (Nat.le_of_ble_eq_true rfl) (Nat.le_of_ble_eq_true rfl) (have hR : sPutR T tp (nI k) = (-4) := (by unfold sPutR; rw [hnk, if_neg (by decide), if_neg (by rw [hnm]; decide), entsOf_n hk hTk, ← hr5, if_neg (by decide), hfr, if_pos (by decide)]); ⟨ad, ex, _, _, by rw [sPutT_f hR (by decide)]; exact hFN, hFD, rfl, ((hSR3 0 1 (by simp)).trans htp), ((hSR3 0 3 (by simp)).trans (Eq.refl (R 0 3))), hR.symm, by rw [sPutT_f hR (by decide), sPutB_f hR (by decide)]; exact hCT3⟩) dX4_putFromTape_69
        · rw [hfr] at hr7
          subst hr7
          refine lv_istore (lv' := [(4, .int (nI u)), (3, .ref (ad (k + 1) 0)), (0, .ref (ad 0 0)), (1, .int (nI k)), (2, .int dr)]) C0.1 C0.2.1 dX4_putFromTape_47 hl (by decide) rfl (fun ls hl => ?_)
          refine lv_iload C0.1 C0.2.1 dX4_putFromTape_49 (lv_at hl 0 rfl) ?_
          refine lv_iconst (v := (-1)) C0.1 C0.2.1 dX4_putFromTape_51 (by decide) ?_
          refine lv_icmp_eq (tgt := 67) C0.1 C0.2.1 dX4_putFromTape_52 (by decide) (fun c9 => ?_) (fun c9 => ?_)
          · exact absurd c9 (nI_nm1 (by omega))
          · refine lv_aload_n C0.1 C0.2.1 dX4_putFromTape_55 rfl (lv_at hl 1 rfl) ?_
            refine me_get C0 hP (hFN.2.2.1 k hxk) rfl inX1 2 (by decide) kw_86 rfl dX4_putFromTape_56 ?_
            refine me_cVi (n := 0) C0 hml hP hS (c_X2_size l G B0 w3 (ad (k + 1) 5) (ad (k + 1) (5 + 1)) (capR (k + 1) 5) n.2.2.2.2 (hFN.rw0 (k + 1) 5 hxk (Or.inr (Or.inr (Or.inl rfl))) ((hSR3 (k + 1) 5 (by simp)).trans hrk5))) ⟨kw_141, kw_32, kw_138, ⟨by decide, by decide, by decide +kernel⟩, ⟨rfl, rfl⟩, ⟨Nat.le_of_ble_eq_true rfl, Nat.le_of_ble_eq_true rfl⟩⟩ kw_139 kw_140 (hFN.2.2.2.1 (k + 1) 5 hxk (Or.inr (Or.inr (Or.inl rfl)))).1 rfl rfl hl.1 rfl (Nat.le_of_ble_eq_true rfl) ⟨Nat.le_of_ble_eq_true rfl, Nat.le_of_ble_eq_true rfl⟩ dX4_putFromTape_59 (fun r10 hr10 => ?_)
            subst hr10
            have hlcr10 : n.2.2.2.2.length ≤ 40 := (hFN.rw0 (k + 1) 5 hxk (Or.inr (Or.inr (Or.inl rfl))) ((hSR3 (k + 1) 5 (by simp)).trans hrk5)).2.1
            refine lv_bipush (v := 40) C0.1 C0.2.1 dX4_putFromTape_62 (by decide) ?_
            refine lv_icmp_lt (tgt := 70) C0.1 C0.2.1 dX4_putFromTape_64 (by decide) (fun c11 => ?_) (fun c11 => ?_)
            · have d11 : n.2.2.2.2.length < 40 := (nI_ltI (a := n.2.2.2.2.length) (b := 40) (by omega) (by omega)).mp c11
              obtain ⟨fsl, hsl, hslf⟩ := hFN.2.1
              have huk : u ≠ k := fun q => by rw [q, hTk] at hTu; cases hTu
              have hu2 : u < 200 := by omega
              refine lv_aload_n C0.1 C0.2.1 dX4_putFromTape_70 rfl (lv_at hl 2 rfl) ?_
              refine me_get C0 hP hFN.1 rfl inX4 3 (by decide) kw_121 rfl dX4_putFromTape_71 ?_
              refine lv_iload C0.1 C0.2.1 dX4_putFromTape_74 (lv_at hl 0 rfl) ?_
              refine me_aaldN C0 hP hsl (i := u) (by omega) (by omega) dX4_putFromTape_76 ?_
              cases hxu : ex (u + 1)
              · rw [hslf u hu2, hxu]
                refine W.eq (g2 := F0 m 77 ls [.null]) rfl ?_
                refine lv_astoreN (lv' := [(5, .null), (4, .int (nI u)), (3, .ref (ad (k + 1) 0)), (0, .ref (ad 0 0)), (1, .int (nI k)), (2, .int dr)]) C0.1 C0.2.1 dX4_putFromTape_77 hl (by decide) rfl (fun ls hl => ?_)
                refine lv_aloadN C0.1 C0.2.1 dX4_putFromTape_79 (lv_at hl 0 rfl) ?_
                refine lv_ifnonnullN C0.1 C0.2.1 dX4_putFromTape_81 ?_
                refine me_new C0 hP hS (ci := 0) (fs := [.null, .null, .null, .null, .int 0, .int 0, .int 0]) rfl inX1 tyX1 tyX1_ok kw_72 kw_74 kw_34 (by decide) (Nat.le_of_ble_eq_true rfl) (Nat.le_of_ble_eq_true rfl) dX4_putFromTape_84 (fun q12 H hq12 hBq12 hP hS => ?_)
                obtain ⟨w13, hw13⟩ : ∃ x : Me, x = (me_u w3 q12 (eO 0 [.null, .null, .null, .null, .int 0, .int 0, .int 0])) := ⟨_, rfl⟩
                have hP : me_P G.1 w13 H := by rw [hw13]; exact hP
                have hqq : w13 q12 = some (eO 0 [.null, .null, .null, .null, .int 0, .int 0, .int 0]) := by rw [hw13]; exact me_us _ _ _
                have hfr1 : ∀ a, w3 a ≠ none → w13 a = w3 a := fun a ha => by rw [hw13]; exact me_un (fun e => ha (by rw [e]; exact hq12))
                refine lv_dup C0.1 C0.2.1 dX4_putFromTape_87 rfl ?_
                refine me_cIwv (n := 0) C0 hml hP hS (c_X1_init l G B0 w13 q12 hBq12 hqq) ⟨kw_77, kw_34, kw_75, ⟨by decide, by decide, by decide +kernel⟩, ⟨rfl, rfl⟩, ⟨Nat.le_of_ble_eq_true rfl, Nat.le_of_ble_eq_true rfl⟩⟩ kw_76 rfl rfl hl.1 rfl (Nat.le_of_ble_eq_true rfl) ⟨Nat.le_of_ble_eq_true rfl, Nat.le_of_ble_eq_true rfl⟩ dX4_putFromTape_88 (fun w14 H locs hw14 hP hS => ?_)
                obtain ⟨b, hb0, hND, hbn, hFrq⟩ := hw14
                have hNq : w14 q12 = _ := (congrArg w14 hb0.symm).trans hND.1
                have hfr2 : ∀ a, w3 a ≠ none → w14 a = w3 a := fun a ha => (hFrq a (by rw [hfr1 a ha]; exact ha) (fun e => ha (by rw [e]; exact hq12))).trans (hfr1 a ha)
                have hsl2 := (hfr2 _ (by rw [hsl]; simp)).trans hsl
                have hob := (hfr2 _ (by rw [hFN.1]; simp)).trans hFN.1
                have hbb : ∀ j, j < 9 → w3 (b j) = none := fun j hj => by by_cases e : j = 0; rw [e, hb0]; exact hq12; cases h : w3 (b j) with | none => rfl | some x => exact absurd (hbn j (by omega) hj) (by rw [hfr1 (b j) (by rw [h]; simp), h]; simp)
                refine lv_astore (lv' := [(5, .ref q12), (4, .int (nI u)), (3, .ref (ad (k + 1) 0)), (0, .ref (ad 0 0)), (1, .int (nI k)), (2, .int dr)]) C0.1 C0.2.1 dX4_putFromTape_91 hl (by decide) rfl (fun ls hl => ?_)
                refine lv_aload_n C0.1 C0.2.1 dX4_putFromTape_93 rfl (lv_at hl 3 rfl) ?_
                refine me_get C0 hP hob rfl inX4 3 (by decide) kw_121 rfl dX4_putFromTape_94 ?_
                refine lv_iload C0.1 C0.2.1 dX4_putFromTape_97 (lv_at hl 1 rfl) ?_
                refine lv_aload C0.1 C0.2.1 dX4_putFromTape_99 (lv_at hl 0 rfl) ?_
                refine me_aastN C0 hP hS (hFN.bb hFN.2.2.2.2.1 ⟨by omega, by omega⟩) hsl2 hNq (i := u) (by omega) (by omega) dX4_putFromTape_101 (fun H locs hP hS => ?_)
                obtain ⟨w15, hw15⟩ : ∃ x : Me, x = me_u w14 (ad 0 7) (eN G 200 (va_up fsl u (some q12))) := ⟨_, rfl⟩
                have hP : me_P G.1 w15 H := by rw [hw15]; exact hP
                have hDb : ∀ j, j < 9 → D (b j) := fun j hj => Classical.byContradiction (fun hn => hDn (b j) hn (by rw [← hFD (b j) hn]; exact hbb j hj))
                have hFD : FDr D w w15 := fun q hq => by rw [hw15, me_un (fun e => hq (by rw [e]; exact hFN.dd hFN.2.2.2.2.1 ⟨by omega, by omega⟩)), hfr2 q (by rw [hFD q hq]; exact hDn q hq)]; exact hFD q hq
                have hFN2 := hFN.new hu2 hxu hND hbb hDb hfr2 hsl2 hslf
                rw [hb0, ← hw15] at hFN2
                obtain ⟨ad2, hdad2⟩ : ∃ x : Nat → Nat → Nat, x = fun a => if a = u + 1 then b else ad a := ⟨_, rfl⟩
                obtain ⟨ex2, hdex2⟩ : ∃ x : Nat → Bool, x = fun a => if a = u + 1 then true else ex a := ⟨_, rfl⟩
                obtain ⟨R15, hdR15⟩ : ∃ x : Nat → Nat → List Int32, x = fun a j => if a = u + 1 then (fun _ => []) j else R3 a j := ⟨_, rfl⟩
                obtain ⟨N15, hdN15⟩ : ∃ x : Nat → Nat → Int32, x = fun a j => if a = u + 1 then (fun _ => 0) j else N a j := ⟨_, rfl⟩
                have hFN : FN G B0 D w15 ad2 ex2 R15 N15 (nI (cntF T 200)) := by rw [hdad2, hdex2, hdR15, hdN15]; exact hFN2
                have ha0 : ad2 0 = ad 0 := by rw [hdad2]; exact if_neg (by omega)
                have hak : ad2 (k + 1) = ad (k + 1) := by rw [hdad2]; exact if_neg (by omega)
                have hau : ad2 (u + 1) = b := by rw [hdad2]; exact if_pos rfl
                have hxo : ∀ a, a ≠ u + 1 → ex2 a = ex a := fun a ha => by rw [hdex2]; exact if_neg ha
                have hxu2 : ex2 (u + 1) = true := by rw [hdex2]; exact if_pos rfl
                have hxk2 : ex2 (k + 1) = true := (hxo (k + 1) (by omega)).trans hxk
                have hRz : ∀ a j, a ≠ u + 1 → R15 a j = R3 a j := fun a j ha => by rw [hdR15]; exact if_neg ha
                have hNz : ∀ a j, a ≠ u + 1 → N15 a j = N a j := fun a j ha => by rw [hdN15]; exact if_neg ha
                have hadq : ad2 0 0 = ad 0 0 := by rw [ha0]
                have hl : lv_has ls 6 [(5, .ref (ad2 (u + 1) 0)), (4, .int (nI u)), (3, .ref (ad2 (k + 1) 0)), (0, .ref (ad2 0 0)), (1, .int (nI k)), (2, .int dr)] := by rw [ha0, hak, hau, hb0]; exact hl
                refine lv_aload C0.1 C0.2.1 dX4_putFromTape_102 (lv_at hl 0 rfl) ?_
                refine lv_iload_n C0.1 C0.2.1 dX4_putFromTape_104 rfl (lv_at hl 5 rfl) ?_
                refine me_cVwv (n := 1) C0 hml hP hS (c_X1_begin l G B0 w15 (ad2 (u + 1)) (R15 (u + 1)) (N15 (u + 1)) (hFN.nd hxu2) dr hnb hfit) ⟨kw_113, kw_34, kw_110, ⟨by decide, by decide, by decide +kernel⟩, ⟨rfl, rfl⟩, ⟨Nat.le_of_ble_eq_true rfl, Nat.le_of_ble_eq_true rfl⟩⟩ kw_111 kw_112 (hFN.2.2.1 u hxu2) rfl rfl hl.1 rfl (Nat.le_of_ble_eq_true rfl) ⟨Nat.le_of_ble_eq_true rfl, Nat.le_of_ble_eq_true rfl⟩ dX4_putFromTape_105 (fun w16 H locs hw16 hP hS => ?_)
                obtain ⟨hND16, hFB16⟩ := hw16
                have hFD := hFN.dr hxu2 hFD hFB16
                obtain ⟨R16, N16, hFN, hRo16, hNo16, hRk16, hNk16⟩ := ND.end hFN hxu2 hND16 hFB16
                refine lv_aload C0.1 C0.2.1 dX4_putFromTape_108 (lv_at hl 0 rfl) ?_
                refine lv_aload_n C0.1 C0.2.1 dX4_putFromTape_110 rfl (lv_at hl 3 rfl) ?_
                refine me_get C0 hP hFN.1 rfl inX4 0 (by decide) kw_118 rfl dX4_putFromTape_111 ?_
                refine lv_aload_n C0.1 C0.2.1 dX4_putFromTape_114 rfl (lv_at hl 3 rfl) ?_
                refine me_get C0 hP hFN.1 rfl inX4 2 (by decide) kw_120 rfl dX4_putFromTape_115 ?_
                refine me_cVwv (n := 2) C0 hml hP hS (c_X1_takeName l G B0 w16 (ad2 (u + 1)) (R16 (u + 1)) (N16 (u + 1)) (hFN.nd hxu2) (ad2 0 1) (ad2 0 (1 + 1)) (capR 0 1) tp (hFN.rw0 0 1 hFN.2.2.2.2.1 (Or.inl rfl) ((hRo16 0 1 (by omega)).trans ((hRz 0 1 (by omega)).trans ((hSR3 0 1 (by simp)).trans htp)))) (fun j hj => ⟨hFN.ne hFN.2.2.2.2.1 hxu2 (rowJ_us (show rowJ 0 1 from (Or.inl rfl))).1 ⟨hj, by omega⟩ (by omega), hFN.ne hFN.2.2.2.2.1 hxu2 (rowJ_us (show rowJ 0 1 from (Or.inl rfl))).2.1 ⟨hj, by omega⟩ (by omega)⟩) (ad2 0 5) (ad2 0 (5 + 1)) (capR 0 5) (folds tp) (hFN.rw0 0 5 hFN.2.2.2.2.1 (Or.inr (Or.inr rfl)) ((hRo16 0 5 (by omega)).trans ((hRz 0 5 (by omega)).trans hX))) (fun j hj => ⟨hFN.ne hFN.2.2.2.2.1 hxu2 (rowJ_us (show rowJ 0 5 from (Or.inr (Or.inr rfl)))).1 ⟨hj, by omega⟩ (by omega), hFN.ne hFN.2.2.2.2.1 hxu2 (rowJ_us (show rowJ 0 5 from (Or.inr (Or.inr rfl)))).2.1 ⟨hj, by omega⟩ (by omega)⟩)) ⟨kw_301, kw_34, kw_298, ⟨by decide, by decide, by decide +kernel⟩, ⟨rfl, rfl⟩, ⟨Nat.le_of_ble_eq_true rfl, Nat.le_of_ble_eq_true rfl⟩⟩ kw_299 kw_300 (hFN.2.2.1 u hxu2) rfl rfl hl.1 rfl (Nat.le_of_ble_eq_true rfl) ⟨Nat.le_of_ble_eq_true rfl, Nat.le_of_ble_eq_true rfl⟩ dX4_putFromTape_118 (fun w17 H locs hw17 hP hS => ?_)
                obtain ⟨hND17, hFB17⟩ := hw17
                have hFD := hFN.dr hxu2 hFD hFB17
                obtain ⟨R17, N17, hFN, hRo17, hNo17, hRk17, hNk17⟩ := ND.end hFN hxu2 hND17 hFB17
                have ht60 : tp.take 60 = tp := List.take_of_length_le hok.1.2
                have hf60 : (folds tp).take 60 = folds tp := List.take_of_length_le (nmOK_fl hok)
                have hCT2 : CT ex2 R17 N17 (setT T u (some (dr, -1, tp, folds tp, []))) (upB Bn u []) := hCT3.set hu2 (fun kk hkk => ⟨hxo (kk + 1) (by omega), fun i _ => ((hNo17 (kk + 1) i (by omega)).trans (hNo16 (kk + 1) i (by omega))).trans (hNz (kk + 1) i (by omega)), fun jj _ => ((hRo17 (kk + 1) jj (by omega)).trans (hRo16 (kk + 1) jj (by omega))).trans (hRz (kk + 1) jj (by omega))⟩) (fun q => by cases q) (fun n q => by cases q; exact ⟨hxu2, (hNk17 0).trans (hNk16 0), (hNk17 1).trans (hNk16 1), (hNk17 2).trans (hNk16 2), (hRk17 1).trans ht60, (hRk17 3).trans hf60, (hRk17 5).trans (hRk16 5), (hRk17 7).trans (hRk16 7)⟩)
                have hTk2 : setT T u (some (dr, -1, tp, folds tp, [])) k = some n := (setT_n (Ne.symm huk)).trans hTk
                have hE2 : ∀ i, i < (upB Bn u [] k).length → ∃ (j : Nat) (m : Nod), j < 200 ∧ (upB Bn u [] k).getD i 0 = nI j ∧ setT T u (some (dr, -1, tp, folds tp, [])) j = some m := by rw [upB_n (Ne.symm huk)]; intro i hi; obtain ⟨j, m, a1, a2, a3⟩ := hSB.ent hI hTk i hi; exact ⟨j, m, a1, a2, (setT_n (fun q => by rw [q, hTu] at a3; cases a3)).trans a3⟩
                have hbl : (upB Bn u [] k).length < 40 := by rw [upB_n (Ne.symm huk), hSB.len hTk]; omega
                refine lv_aload_n C0.1 C0.2.1 dX4_putFromTape_121 rfl (lv_at hl 3 rfl) ?_
                refine lv_iload C0.1 C0.2.1 dX4_putFromTape_122 (lv_at hl 1 rfl) ?_
                refine lv_aload C0.1 C0.2.1 dX4_putFromTape_124 (lv_at hl 0 rfl) ?_
                refine lv_iload_n C0.1 C0.2.1 dX4_putFromTape_126 rfl (lv_at hl 4 rfl) ?_
                refine lv_aload_n C0.1 C0.2.1 dX4_putFromTape_127 rfl (lv_at hl 2 rfl) ?_
                refine me_cVwv (n := 4) C0 hml hP hS (c_X4_attach l G B0 w17 D ad2 ex2 R17 N17 (nI (cntF T 200)) hFN (setT T u (some (dr, -1, tp, folds tp, []))) (upB Bn u []) hCT2 u k _ n setT_s hTk2 huk (by omega) hbl (folds tp) ((hRo17 0 5 (by omega)).trans ((hRo16 0 5 (by omega)).trans ((hRz 0 5 (by omega)).trans hX))) hE2) ⟨kw_309, kw_31, kw_306, ⟨by decide, by decide, by decide +kernel⟩, ⟨rfl, rfl⟩, ⟨Nat.le_of_ble_eq_true rfl, Nat.le_of_ble_eq_true rfl⟩⟩ kw_308 kw_6 hFN.1 rfl rfl hl.1 rfl (Nat.le_of_ble_eq_true rfl) ⟨Nat.le_of_ble_eq_true rfl, Nat.le_of_ble_eq_true rfl⟩ dX4_putFromTape_128 (fun w18 H locs hw18 hP hS => ?_)
                obtain ⟨R18, N18, hFN, hFD18, hOw18, hCT18⟩ := hw18
                have hFD := hFD.tr hFD18
                rw [putT_g] at hCT18
                refine lv_aload_n C0.1 C0.2.1 dX4_putFromTape_131 rfl (lv_at hl 3 rfl) ?_
                refine lv_dup C0.1 C0.2.1 dX4_putFromTape_132 rfl ?_
                refine me_get C0 hP hFN.1 rfl inX4 4 (by decide) kw_122 rfl dX4_putFromTape_133 ?_
                refine lv_iconst (v := 1) C0.1 C0.2.1 dX4_putFromTape_136 (by decide) ?_
                refine lv_iadd C0.1 C0.2.1 dX4_putFromTape_137 ?_
                refine me_topi (y := nI ((cntF T 200) + 1)) (nI_add (cntF T 200) 1) ?_
                refine me_put C0 hP hS (hFN.bb hFN.2.2.2.2.1 ⟨by omega, by omega⟩) hFN.1 rfl inX4 tyX4 tyX4_ok nmX4 4 (by decide) kw_122 rfl rfl rfl (Nat.le_of_ble_eq_true rfl) dX4_putFromTape_138 (fun H locs hP hS => ?_)
                obtain ⟨w19, hw19⟩ : ∃ x : Me, x = me_u w18 (ad2 0 0) (eO 2 [.ref (ad2 0 1), .ref (ad2 0 3), .ref (ad2 0 5), .ref (ad2 0 7), .int (nI ((cntF T 200) + 1))]) := ⟨_, rfl⟩
                have hFN : FN G B0 D w19 ad2 ex2 R18 N18 (nI ((cntF T 200) + 1)) := by rw [hw19]; exact hFN.scnt
                have hFD : FDr D w w19 := by rw [hw19]; exact hFD.at (hFN.dd hFN.2.2.2.2.1 ⟨by omega, by omega⟩)
                have hP : me_P G.1 w19 H := by rw [hw19]; exact hP
                refine lv_iload C0.1 C0.2.1 dX4_putFromTape_141 (lv_at hl 1 rfl) ?_
                exact me_wiret _ C0.1 C0.2.1 B.returns B.notSynchronized hP hS (Nat.le_of_ble_eq_true rfl) (Nat.le_of_ble_eq_true rfl) (have hEL : elk T (folds tp) (-1) n.2.2.2.2 = -1 := (hr5).symm; have hR : sPutR T tp (nI k) = nI u := (by unfold sPutR; rw [hnk, if_neg (by decide), if_neg (by rw [hnm]; decide), entsOf_n hk hTk, hEL, if_neg (by decide), hfr, if_neg (nI_pos (by omega)), if_neg (by omega)]); ⟨ad2, ex2, _, _, by rw [sPutT_s hR hk hu2, cntF_put hTu hu2]; exact hFN, hFD, hadq, ((hOw18 1).trans ((hRo17 0 1 (by omega)).trans ((hRo16 0 1 (by omega)).trans ((hRz 0 1 (by omega)).trans ((hSR3 0 1 (by simp)).trans htp))))), ((hOw18 3).trans ((hRo17 0 3 (by omega)).trans ((hRo16 0 3 (by omega)).trans ((hRz 0 3 (by omega)).trans ((hSR3 0 3 (by simp)).trans (Eq.refl (R 0 3))))))), hR.symm, by rw [sPutT_s hR hk hu2, sPutB_s hR hk hu2]; exact hCT18⟩) dX4_putFromTape_143
              · rw [hslf u hu2, hxu]
                refine W.eq (g2 := F0 m 77 ls [.ref (ad (u + 1) 0)]) rfl ?_
                refine lv_astore (lv' := [(5, .ref (ad (u + 1) 0)), (4, .int (nI u)), (3, .ref (ad (k + 1) 0)), (0, .ref (ad 0 0)), (1, .int (nI k)), (2, .int dr)]) C0.1 C0.2.1 dX4_putFromTape_77 hl (by decide) rfl (fun ls hl => ?_)
                refine lv_aload C0.1 C0.2.1 dX4_putFromTape_79 (lv_at hl 0 rfl) ?_
                refine lv_ifnonnull (tgt := 102) C0.1 C0.2.1 dX4_putFromTape_81 (by decide) ?_
                have hadq : ad 0 0 = ad 0 0 := rfl
                have hRz : ∀ a j, a ≠ u + 1 → R3 a j = R3 a j := fun a j _ => rfl
                have hNz : ∀ a j, a ≠ u + 1 → N a j = N a j := fun a j _ => rfl
                have hxo : ∀ a, a ≠ u + 1 → ex a = ex a := fun a _ => rfl
                refine lv_aload C0.1 C0.2.1 dX4_putFromTape_102 (lv_at hl 0 rfl) ?_
                refine lv_iload_n C0.1 C0.2.1 dX4_putFromTape_104 rfl (lv_at hl 5 rfl) ?_
                refine me_cVwv (n := 1) C0 hml hP hS (c_X1_begin l G B0 w3 (ad (u + 1)) (R3 (u + 1)) (N (u + 1)) (hFN.nd hxu) dr hnb hfit) ⟨kw_113, kw_34, kw_110, ⟨by decide, by decide, by decide +kernel⟩, ⟨rfl, rfl⟩, ⟨Nat.le_of_ble_eq_true rfl, Nat.le_of_ble_eq_true rfl⟩⟩ kw_111 kw_112 (hFN.2.2.1 u hxu) rfl rfl hl.1 rfl (Nat.le_of_ble_eq_true rfl) ⟨Nat.le_of_ble_eq_true rfl, Nat.le_of_ble_eq_true rfl⟩ dX4_putFromTape_105 (fun w20 H locs hw20 hP hS => ?_)
                obtain ⟨hND20, hFB20⟩ := hw20
                have hFD := hFN.dr hxu hFD hFB20
                obtain ⟨R20, N20, hFN, hRo20, hNo20, hRk20, hNk20⟩ := ND.end hFN hxu hND20 hFB20
                refine lv_aload C0.1 C0.2.1 dX4_putFromTape_108 (lv_at hl 0 rfl) ?_
                refine lv_aload_n C0.1 C0.2.1 dX4_putFromTape_110 rfl (lv_at hl 3 rfl) ?_
                refine me_get C0 hP hFN.1 rfl inX4 0 (by decide) kw_118 rfl dX4_putFromTape_111 ?_
                refine lv_aload_n C0.1 C0.2.1 dX4_putFromTape_114 rfl (lv_at hl 3 rfl) ?_
                refine me_get C0 hP hFN.1 rfl inX4 2 (by decide) kw_120 rfl dX4_putFromTape_115 ?_
                refine me_cVwv (n := 2) C0 hml hP hS (c_X1_takeName l G B0 w20 (ad (u + 1)) (R20 (u + 1)) (N20 (u + 1)) (hFN.nd hxu) (ad 0 1) (ad 0 (1 + 1)) (capR 0 1) tp (hFN.rw0 0 1 hFN.2.2.2.2.1 (Or.inl rfl) ((hRo20 0 1 (by omega)).trans ((hSR3 0 1 (by simp)).trans htp))) (fun j hj => ⟨hFN.ne hFN.2.2.2.2.1 hxu (rowJ_us (show rowJ 0 1 from (Or.inl rfl))).1 ⟨hj, by omega⟩ (by omega), hFN.ne hFN.2.2.2.2.1 hxu (rowJ_us (show rowJ 0 1 from (Or.inl rfl))).2.1 ⟨hj, by omega⟩ (by omega)⟩) (ad 0 5) (ad 0 (5 + 1)) (capR 0 5) (folds tp) (hFN.rw0 0 5 hFN.2.2.2.2.1 (Or.inr (Or.inr rfl)) ((hRo20 0 5 (by omega)).trans hX)) (fun j hj => ⟨hFN.ne hFN.2.2.2.2.1 hxu (rowJ_us (show rowJ 0 5 from (Or.inr (Or.inr rfl)))).1 ⟨hj, by omega⟩ (by omega), hFN.ne hFN.2.2.2.2.1 hxu (rowJ_us (show rowJ 0 5 from (Or.inr (Or.inr rfl)))).2.1 ⟨hj, by omega⟩ (by omega)⟩)) ⟨kw_301, kw_34, kw_298, ⟨by decide, by decide, by decide +kernel⟩, ⟨rfl, rfl⟩, ⟨Nat.le_of_ble_eq_true rfl, Nat.le_of_ble_eq_true rfl⟩⟩ kw_299 kw_300 (hFN.2.2.1 u hxu) rfl rfl hl.1 rfl (Nat.le_of_ble_eq_true rfl) ⟨Nat.le_of_ble_eq_true rfl, Nat.le_of_ble_eq_true rfl⟩ dX4_putFromTape_118 (fun w21 H locs hw21 hP hS => ?_)
                obtain ⟨hND21, hFB21⟩ := hw21
                have hFD := hFN.dr hxu hFD hFB21
                obtain ⟨R21, N21, hFN, hRo21, hNo21, hRk21, hNk21⟩ := ND.end hFN hxu hND21 hFB21
                have ht60 : tp.take 60 = tp := List.take_of_length_le hok.1.2
                have hf60 : (folds tp).take 60 = folds tp := List.take_of_length_le (nmOK_fl hok)
                have hCT2 : CT ex R21 N21 (setT T u (some (dr, -1, tp, folds tp, []))) (upB Bn u []) := hCT3.set hu2 (fun kk hkk => ⟨hxo (kk + 1) (by omega), fun i _ => ((hNo21 (kk + 1) i (by omega)).trans (hNo20 (kk + 1) i (by omega))).trans (hNz (kk + 1) i (by omega)), fun jj _ => ((hRo21 (kk + 1) jj (by omega)).trans (hRo20 (kk + 1) jj (by omega))).trans (hRz (kk + 1) jj (by omega))⟩) (fun q => by cases q) (fun n q => by cases q; exact ⟨hxu, (hNk21 0).trans (hNk20 0), (hNk21 1).trans (hNk20 1), (hNk21 2).trans (hNk20 2), (hRk21 1).trans ht60, (hRk21 3).trans hf60, (hRk21 5).trans (hRk20 5), (hRk21 7).trans (hRk20 7)⟩)
                have hTk2 : setT T u (some (dr, -1, tp, folds tp, [])) k = some n := (setT_n (Ne.symm huk)).trans hTk
                have hE2 : ∀ i, i < (upB Bn u [] k).length → ∃ (j : Nat) (m : Nod), j < 200 ∧ (upB Bn u [] k).getD i 0 = nI j ∧ setT T u (some (dr, -1, tp, folds tp, [])) j = some m := by rw [upB_n (Ne.symm huk)]; intro i hi; obtain ⟨j, m, a1, a2, a3⟩ := hSB.ent hI hTk i hi; exact ⟨j, m, a1, a2, (setT_n (fun q => by rw [q, hTu] at a3; cases a3)).trans a3⟩
                have hbl : (upB Bn u [] k).length < 40 := by rw [upB_n (Ne.symm huk), hSB.len hTk]; omega
                refine lv_aload_n C0.1 C0.2.1 dX4_putFromTape_121 rfl (lv_at hl 3 rfl) ?_
                refine lv_iload C0.1 C0.2.1 dX4_putFromTape_122 (lv_at hl 1 rfl) ?_
                refine lv_aload C0.1 C0.2.1 dX4_putFromTape_124 (lv_at hl 0 rfl) ?_
                refine lv_iload_n C0.1 C0.2.1 dX4_putFromTape_126 rfl (lv_at hl 4 rfl) ?_
                refine lv_aload_n C0.1 C0.2.1 dX4_putFromTape_127 rfl (lv_at hl 2 rfl) ?_
                refine me_cVwv (n := 4) C0 hml hP hS (c_X4_attach l G B0 w21 D ad ex R21 N21 (nI (cntF T 200)) hFN (setT T u (some (dr, -1, tp, folds tp, []))) (upB Bn u []) hCT2 u k _ n setT_s hTk2 huk (by omega) hbl (folds tp) ((hRo21 0 5 (by omega)).trans ((hRo20 0 5 (by omega)).trans hX)) hE2) ⟨kw_309, kw_31, kw_306, ⟨by decide, by decide, by decide +kernel⟩, ⟨rfl, rfl⟩, ⟨Nat.le_of_ble_eq_true rfl, Nat.le_of_ble_eq_true rfl⟩⟩ kw_308 kw_6 hFN.1 rfl rfl hl.1 rfl (Nat.le_of_ble_eq_true rfl) ⟨Nat.le_of_ble_eq_true rfl, Nat.le_of_ble_eq_true rfl⟩ dX4_putFromTape_128 (fun w22 H locs hw22 hP hS => ?_)
                obtain ⟨R22, N22, hFN, hFD22, hOw22, hCT22⟩ := hw22
                have hFD := hFD.tr hFD22
                rw [putT_g] at hCT22
                refine lv_aload_n C0.1 C0.2.1 dX4_putFromTape_131 rfl (lv_at hl 3 rfl) ?_
                refine lv_dup C0.1 C0.2.1 dX4_putFromTape_132 rfl ?_
                refine me_get C0 hP hFN.1 rfl inX4 4 (by decide) kw_122 rfl dX4_putFromTape_133 ?_
                refine lv_iconst (v := 1) C0.1 C0.2.1 dX4_putFromTape_136 (by decide) ?_
                refine lv_iadd C0.1 C0.2.1 dX4_putFromTape_137 ?_
                refine me_topi (y := nI ((cntF T 200) + 1)) (nI_add (cntF T 200) 1) ?_
                refine me_put C0 hP hS (hFN.bb hFN.2.2.2.2.1 ⟨by omega, by omega⟩) hFN.1 rfl inX4 tyX4 tyX4_ok nmX4 4 (by decide) kw_122 rfl rfl rfl (Nat.le_of_ble_eq_true rfl) dX4_putFromTape_138 (fun H locs hP hS => ?_)
                obtain ⟨w23, hw23⟩ : ∃ x : Me, x = me_u w22 (ad 0 0) (eO 2 [.ref (ad 0 1), .ref (ad 0 3), .ref (ad 0 5), .ref (ad 0 7), .int (nI ((cntF T 200) + 1))]) := ⟨_, rfl⟩
                have hFN : FN G B0 D w23 ad ex R22 N22 (nI ((cntF T 200) + 1)) := by rw [hw23]; exact hFN.scnt
                have hFD : FDr D w w23 := by rw [hw23]; exact hFD.at (hFN.dd hFN.2.2.2.2.1 ⟨by omega, by omega⟩)
                have hP : me_P G.1 w23 H := by rw [hw23]; exact hP
                refine lv_iload C0.1 C0.2.1 dX4_putFromTape_141 (lv_at hl 1 rfl) ?_
                exact me_wiret _ C0.1 C0.2.1 B.returns B.notSynchronized hP hS (Nat.le_of_ble_eq_true rfl) (Nat.le_of_ble_eq_true rfl) (have hEL : elk T (folds tp) (-1) n.2.2.2.2 = -1 := (hr5).symm; have hR : sPutR T tp (nI k) = nI u := (by unfold sPutR; rw [hnk, if_neg (by decide), if_neg (by rw [hnm]; decide), entsOf_n hk hTk, hEL, if_neg (by decide), hfr, if_neg (nI_pos (by omega)), if_neg (by omega)]); ⟨ad, ex, _, _, by rw [sPutT_s hR hk hu2, cntF_put hTu hu2]; exact hFN, hFD, hadq, ((hOw22 1).trans ((hRo21 0 1 (by omega)).trans ((hRo20 0 1 (by omega)).trans ((hSR3 0 1 (by simp)).trans htp)))), ((hOw22 3).trans ((hRo21 0 3 (by omega)).trans ((hRo20 0 3 (by omega)).trans ((hSR3 0 3 (by simp)).trans (Eq.refl (R 0 3)))))), hR.symm, by rw [sPutT_s hR hk hu2, sPutB_s hR hk hu2]; exact hCT22⟩) dX4_putFromTape_143
            · have d11 : 40 ≤ n.2.2.2.2.length := Nat.not_lt.mp (fun h => c11 (nI_lt (a := n.2.2.2.2.length) (b := 40) h (by omega)))
              refine lv_bipush (v := (-4)) C0.1 C0.2.1 dX4_putFromTape_67 (by decide) ?_
              exact me_wiret _ C0.1 C0.2.1 B.returns B.notSynchronized hP hS (Nat.le_of_ble_eq_true rfl) (Nat.le_of_ble_eq_true rfl) (have hR : sPutR T tp (nI k) = (-4) := (by unfold sPutR; rw [hnk, if_neg (by decide), if_neg (by rw [hnm]; decide), entsOf_n hk hTk, ← hr5, if_neg (by decide), hfr, if_neg (nI_pos (by omega)), if_pos (by omega)]); ⟨ad, ex, _, _, by rw [sPutT_f hR (by decide)]; exact hFN, hFD, rfl, ((hSR3 0 1 (by simp)).trans htp), ((hSR3 0 3 (by simp)).trans (Eq.refl (R 0 3))), hR.symm, by rw [sPutT_f hR (by decide), sPutB_f hR (by decide)]; exact hCT3⟩) dX4_putFromTape_69
      · subst hel
        refine lv_iconst (v := (-1)) C0.1 C0.2.1 dX4_putFromTape_36 (by decide) ?_
        refine lv_icmp_eq (tgt := 43) C0.1 C0.2.1 dX4_putFromTape_37 (by decide) (fun c24 => ?_) (fun c24 => ?_)
        · exact absurd c24 (nI_nm1 (by omega))
        · refine lv_bipush (v := (-3)) C0.1 C0.2.1 dX4_putFromTape_40 (by decide) ?_
          exact me_wiret _ C0.1 C0.2.1 B.returns B.notSynchronized hP hS (Nat.le_of_ble_eq_true rfl) (Nat.le_of_ble_eq_true rfl) (have hR : sPutR T tp (nI k) = (-3) := (by unfold sPutR; rw [hnk, if_neg (by decide), if_neg (by rw [hnm]; decide), entsOf_n hk hTk, ← hr5, if_pos (nI_pos (by omega))]); ⟨ad, ex, _, _, by rw [sPutT_f hR (by decide)]; exact hFN, hFD, rfl, ((hSR3 0 1 (by simp)).trans htp), ((hSR3 0 3 (by simp)).trans (Eq.refl (R 0 3))), hR.symm, by rw [sPutT_f hR (by decide), sPutB_f hR (by decide)]; exact hCT3⟩) dX4_putFromTape_42
    · have hnm : nmI tp = 0 := nmI_0 hno
      refine lv_if_ne (tgt := 31) C0.1 C0.2.1 dX4_putFromTape_25 (by decide) (fun cx => absurd cx (by decide)) (fun cx => ?_)
      refine lv_bipush (v := (-2)) C0.1 C0.2.1 dX4_putFromTape_28 (by decide) ?_
      exact me_wiret _ C0.1 C0.2.1 B.returns B.notSynchronized hP hS (Nat.le_of_ble_eq_true rfl) (Nat.le_of_ble_eq_true rfl) (have hR : sPutR T tp (nI k) = (-2) := (by unfold sPutR; rw [hnk, if_neg (by decide), if_pos hnm]); ⟨ad, ex, _, _, by rw [sPutT_f hR (by decide)]; exact hFN, hFD, rfl, ((hSR3 0 1 (by simp)).trans htp), ((hSR3 0 3 (by simp)).trans (Eq.refl (R 0 3))), hR.symm, by rw [sPutT_f hR (by decide), sPutB_f hR (by decide)]; exact hCT3⟩) dX4_putFromTape_30

set_option maxHeartbeats 4000000 in
set_option maxRecDepth 100000 in
/-- put(directory, isDirectory) -/
theorem c_X4_put (l : Launch) (G : me_G) (B0 : Nat) (w : Me) (D : Nat → Prop) (ad : Nat → Nat → Nat) (ex : Nat → Bool) (R : Nat → Nat → List Int32) (N : Nat → Nat → Int32) (T : Tre) (hFN : FN G B0 D w ad ex R N (nI (cntF T 200))) (Bn : Nat → List Int32) (hCT : CT ex R N T Bn) (hI : TI T) (hSB : SB T Bn) (tp : List Int32) (htp : R 0 1 = tp) (ho : Oct tp) (hDn : ∀ q, ¬ D q → w q ≠ none) (d dr : Int32) (hnb : narrow .boolean (.int dr) = .int dr) (hfit : fits .boolean (.int dr) = true) : CtWI l yX4_put (Cond.code yX4_put cX4_put 4 (some .int)) ({ frames := 9, cells := 9, slots := 215, locals := 204 }) G B0 w [.ref (ad 0 0), .int d, .int dr] (fun r w' => ∃ (ad' : Nat → Nat → Nat) (ex' : Nat → Bool) (R' : Nat → Nat → List Int32) (N' : Nat → Nat → Int32), FN G B0 D w' ad' ex' R' N' (nI (cntF (sPutT T tp d dr) 200)) ∧ FDr D w w' ∧ ad' 0 0 = ad 0 0 ∧ R' 0 1 = [] ∧ R' 0 3 = R 0 3 ∧ r = sPutR T tp d ∧ CT ex' R' N' (sPutT T tp d dr) (sPutB T Bn tp d dr)) 9 215 := by
  refine Met.ofW (cc := cX4_put) (maxL := 4) (ret := (some .int)) (by decide) rfl ?_
  intro p e s m args below meth c s₁ B hml hv
  obtain ⟨rfl, hK, hP, hKq, hBs⟩ := hv
  have hts := fun w h => atoms_spec (ws := Cond.code yX4_put cX4_put 4 (some .int) :: tbG) B.pre w (List.mem_cons_of_mem _ h)
  have hown : s.vm.findClass RX4 = some m.cls := findClass_of_methodNamed B.named
  have C0 : Cx G B0 p s m _ c cX4_put RX4 := ⟨B.exec, B.bytes, hown, hts, hK, hKq, hBs⟩
  have hS : va_S (me_A B0) s.heap s.heap [] := va_S.rf
  have hl := lv_entry ([.ref (ad 0 0), .int d, .int dr]) (n := 4) (Nat.le_of_ble_eq_true rfl)
  rw [lg_entry_eq]
  generalize (lg_sl ([.ref (ad 0 0), .int d, .int dr]) ++ List.replicate (4 - (lg_sl ([.ref (ad 0 0), .int d, .int dr])).length) Slot.unset).toArray = ls at hl ⊢
  have hl : lv_has ls 4 [(0, .ref (ad 0 0)), (1, .int d), (2, .int dr)] := hl
  have hFD : FDr D w w := FDr.rf
  have htl : tp.length ≤ 200 := (hFN.rw0 0 1 hFN.2.2.2.2.1 (Or.inl rfl) htp).2.1
  refine lv_aload_n C0.1 C0.2.1 dX4_put_0 rfl (lv_at hl 0 rfl) ?_
  refine lv_iload_n C0.1 C0.2.1 dX4_put_1 rfl (lv_at hl 1 rfl) ?_
  refine lv_iload_n C0.1 C0.2.1 dX4_put_2 rfl (lv_at hl 2 rfl) ?_
  refine me_cVwi (n := 2) C0 hml hP hS (c_X4_putFromTape l G B0 w D ad ex R N T hFN Bn hCT hI hSB tp htp ho hDn d dr hnb hfit) ⟨kw_264, kw_31, kw_261, ⟨by decide, by decide, by decide +kernel⟩, ⟨rfl, rfl⟩, ⟨Nat.le_of_ble_eq_true rfl, Nat.le_of_ble_eq_true rfl⟩⟩ kw_263 kw_0 hFN.1 rfl rfl hl.1 rfl (Nat.le_of_ble_eq_true rfl) ⟨Nat.le_of_ble_eq_true rfl, Nat.le_of_ble_eq_true rfl⟩ dX4_put_3 (fun r1 w1 H locs hw1 hP hS => ?_)
  obtain ⟨ad2, ex2, R1, N1, hFN, hFD, hadq, htp2, hfo2, hres, hCT2⟩ := hw1
  have hl : lv_has ls 4 [(0, .ref (ad2 0 0)), (1, .int d), (2, .int dr)] := by rw [hadq]; exact hl
  refine W.eq (g2 := F0 m 6 ls [.int r1]) rfl ?_
  refine lv_istore_n (lv' := [(3, .int r1), (0, .ref (ad2 0 0)), (1, .int d), (2, .int dr)]) C0.1 C0.2.1 dX4_put_6 rfl hl (by decide) rfl (fun ls hl => ?_)
  refine lv_aload_n C0.1 C0.2.1 dX4_put_7 rfl (lv_at hl 1 rfl) ?_
  refine me_get C0 hP hFN.1 rfl inX4 0 (by decide) kw_118 rfl dX4_put_8 ?_
  refine me_cVwv (n := 0) C0 hml hP hS (c_X2_clear l G B0 w1 (ad2 0 1) (ad2 0 (1 + 1)) (capR 0 1) tp (hFN.rw0 0 1 hFN.2.2.2.2.1 (Or.inl rfl) htp2) (hFN.bb hFN.2.2.2.2.1 (rowJ_us (show rowJ 0 1 from (Or.inl rfl))).1) (hFN.bb hFN.2.2.2.2.1 (rowJ_us (show rowJ 0 1 from (Or.inl rfl))).2.1)) ⟨kw_117, kw_32, kw_162, ⟨by decide, by decide, by decide +kernel⟩, ⟨rfl, rfl⟩, ⟨Nat.le_of_ble_eq_true rfl, Nat.le_of_ble_eq_true rfl⟩⟩ kw_115 kw_116 (hFN.2.2.2.1 0 1 hFN.2.2.2.2.1 (Or.inl rfl)).1 rfl rfl hl.1 rfl (Nat.le_of_ble_eq_true rfl) ⟨Nat.le_of_ble_eq_true rfl, Nat.le_of_ble_eq_true rfl⟩ dX4_put_11 (fun w2 H locs hw2 hP hS => ?_)
  obtain ⟨hRw2, hCh2⟩ := hw2
  have hFD := hFD.ch (hFN.dd hFN.2.2.2.2.1 (rowJ_us (show rowJ 0 1 from (Or.inl rfl))).1) (hFN.dd hFN.2.2.2.2.1 (rowJ_us (show rowJ 0 1 from (Or.inl rfl))).2.1) hCh2
  have hFN := hFN.row (a := 0) (j := 1) hFN.2.2.2.2.1 (Or.inl rfl) hRw2 hCh2
  obtain ⟨R2, hR2⟩ : ∃ x, x = updR R1 0 1 ([]) := ⟨_, rfl⟩
  have hFN : FN G B0 D w2 ad2 ex2 R2 N1 (nI (cntF (sPutT T tp d dr) 200)) := by rw [hR2]; exact hFN
  have hv2_0_3 : R2 0 3 = R 0 3 := (show R2 0 3 = R1 0 3 by rw [hR2, updR_n (by omega)]).trans hfo2
  have hv2_0_1 : R2 0 1 = [] := by rw [hR2, updR_s]
  have hCT2 := hCT2.sr ((SR.rf : SR _ _ [(0, 1)]).wr hR2 (by simp)) (by simp)
  refine lv_iload_n C0.1 C0.2.1 dX4_put_14 rfl (lv_at hl 0 rfl) ?_
  exact me_wiret _ C0.1 C0.2.1 B.returns B.notSynchronized hP hS (Nat.le_of_ble_eq_true rfl) (Nat.le_of_ble_eq_true rfl) (⟨ad2, ex2, _, _, hFN, hFD, hadq, hv2_0_1, hv2_0_3, hres, hCT2⟩) dX4_put_15
