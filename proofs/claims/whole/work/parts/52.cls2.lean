set_option maxHeartbeats 4000000 in
set_option maxRecDepth 100000 in
/-- isWithin(number, outer) -/
theorem c_X4_isWithin (l : Launch) (G : me_G) (B0 : Nat) (w : Me) (D : Nat → Prop) (ad : Nat → Nat → Nat) (ex : Nat → Bool) (R : Nat → Nat → List Int32) (N : Nat → Nat → Int32) (cnt : Int32) (hFN : FN G B0 D w ad ex R N cnt) (T : Tre) (Bn : Nat → List Int32) (hCT : CT ex R N T Bn) (hI : TI T) (dp : Nat → Nat) (hdp : NoRing T dp) (hd200 : ∀ u, dp u < 200) (d v : Nat) (nd : Nod) (hd : d < 200) (hv : v < 200) (hTd : T d = some nd) : CtI l yX4_isWithin (Cond.code yX4_isWithin cX4_isWithin 6 (some .boolean)) ({ frames := 1, cells := 0, slots := 0, locals := 22 }) G B0 w [.ref (ad 0 0), .int (nI d), .int (nI v)] (fun r => r = wF T v 200 d) := by
  refine Met.ofW (cc := cX4_isWithin) (maxL := 6) (ret := (some .boolean)) (by decide) rfl ?_
  intro p e s m args below meth c s₁ B hml hv
  obtain ⟨rfl, hK, hP, hKq, hBs⟩ := hv
  have hts := fun w h => atoms_spec (ws := Cond.code yX4_isWithin cX4_isWithin 6 (some .boolean) :: tbG) B.pre w (List.mem_cons_of_mem _ h)
  have hown : s.vm.findClass RX4 = some m.cls := findClass_of_methodNamed B.named
  have C0 : Cx G B0 p s m _ c cX4_isWithin RX4 := ⟨B.exec, B.bytes, hown, hts, hK, hKq, hBs⟩
  have hS : va_S (me_A B0) s.heap s.heap [] := va_S.rf
  have hl := lv_entry ([.ref (ad 0 0), .int (nI d), .int (nI v)]) (n := 6) (Nat.le_of_ble_eq_true rfl)
  rw [lg_entry_eq]
  generalize (lg_sl ([.ref (ad 0 0), .int (nI d), .int (nI v)]) ++ List.replicate (6 - (lg_sl ([.ref (ad 0 0), .int (nI d), .int (nI v)])).length) Slot.unset).toArray = ls at hl ⊢
  have hl : lv_has ls 6 [(0, .ref (ad 0 0)), (1, .int (nI d)), (2, .int (nI v))] := hl
  refine lv_iload_n C0.1 C0.2.1 dX4_isWithin_0 rfl (lv_at hl 1 rfl) ?_
  refine lv_istore_n (lv' := [(3, .int (nI d)), (0, .ref (ad 0 0)), (1, .int (nI d)), (2, .int (nI v))]) C0.1 C0.2.1 dX4_isWithin_1 rfl hl (by decide) rfl (fun ls hl => ?_)
  refine lv_iconst (v := 0) C0.1 C0.2.1 dX4_isWithin_2 (by decide) ?_
  refine lv_istore (lv' := [(4, .int 0), (3, .int (nI d)), (0, .ref (ad 0 0)), (1, .int (nI d)), (2, .int (nI v))]) C0.1 C0.2.1 dX4_isWithin_3 hl (by decide) rfl (fun ls hl => ?_)
  have loop5 : ∀ (n : Nat) (i : Nat) (here : Int32), (i ≤ 200) → ((∃ (u : Nat) (x : Nod), here = nI u ∧ u < 200 ∧ T u = some x ∧ dp u < 200 - i ∧ wF T v 200 d = wF T v (200 - i) u) ∨ (here = -1 ∧ wF T v 200 d = 0)) → (200 - i) < n → ∀ (ls : Array Slot), lv_has ls 6 [(4, .int (nI i)), (3, .int here), (0, .ref (ad 0 0)), (1, .int (nI d)), (2, .int (nI v))] → W p l e ({ frames := 1, cells := 0, slots := 0, locals := 22 }) s m ([.ref (ad 0 0), .int (nI d), .int (nI v)] : List Value).toArray below meth c s.heap [] 0 0 (MQ below (vp_Si (fun r => r = wF T v 200 d)) ([.ref (ad 0 0), .int (nI d), .int (nI v)] : List Value).toArray s 0 0 (fun _ => False)) (F0 m 5 ls []) := by
    intro n
    induction n with
    | zero => intro i here _ _ hz; exact absurd hz (Nat.not_lt_zero _)
    | succ n ih5 =>
      intro i here hil hh hn5  ls  hl
      refine lv_iload C0.1 C0.2.1 dX4_isWithin_5 (lv_at hl 0 rfl) ?_
      refine lv_sipush (v := 200) C0.1 C0.2.1 dX4_isWithin_7 (by decide) ?_
      refine lv_icmp_ge (tgt := 46) C0.1 C0.2.1 dX4_isWithin_10 (by decide) (fun c1 => ?_) (fun c1 => ?_)
      · have d1 : 200 ≤ i := (nI_leI (a := 200) (b := i) (by omega) (by omega)).mp c1
        refine lv_iconst (v := 0) C0.1 C0.2.1 dX4_isWithin_46 (by decide) ?_
        exact me_zret C0.1 C0.2.1 B.returns B.notSynchronized narrow_b0 rfl rfl (by rcases hh with ⟨u, x, -, -, -, hdu, -⟩ | ⟨-, hw0⟩; exact absurd hdu (by omega); exact hw0.symm) dX4_isWithin_47
      · have d1 : i < 200 := Nat.not_le.mp (fun h => c1 (nI_le (a := 200) (b := i) h (by omega)))
        rcases hh with ⟨u, x, rfl, hu, hTu, hdu, hwu⟩ | ⟨rfl, hw0⟩
        · refine lv_iload_n C0.1 C0.2.1 dX4_isWithin_13 rfl (lv_at hl 1 rfl) ?_
          refine lv_iload_n C0.1 C0.2.1 dX4_isWithin_14 rfl (lv_at hl 4 rfl) ?_
          refine lv_icmp_ne (tgt := 20) C0.1 C0.2.1 dX4_isWithin_15 (by decide) (fun c2 => ?_) (fun c2 => ?_)
          · have d2 : u ≠ v := fun h => c2 (congrArg nI h)
            refine lv_aload_n C0.1 C0.2.1 dX4_isWithin_20 rfl (lv_at hl 2 rfl) ?_
            refine lv_iload_n C0.1 C0.2.1 dX4_isWithin_21 rfl (lv_at hl 1 rfl) ?_
            refine me_cVq (n := 1) C0 hml hP hS (c_X4_nodeAt l G B0 w D ad ex R N cnt hFN T Bn hCT (nI u)) ⟨kw_272, kw_31, kw_269, ⟨by decide, by decide, by decide +kernel⟩, ⟨rfl, rfl⟩, ⟨Nat.le_of_ble_eq_true rfl, Nat.le_of_ble_eq_true rfl⟩⟩ kw_271 kw_2 hFN.1 rfl rfl hl.1 rfl (Nat.le_of_ble_eq_true rfl) ⟨Nat.le_of_ble_eq_true rfl, Nat.le_of_ble_eq_true rfl⟩ dX4_isWithin_22 (fun r3 hr3 => ?_)
            have hsor3 := hr3.so (by omega) hTu
            subst hsor3
            obtain ⟨hu200, hxu, hnu0, hnu1, hnu2, hru1, hru3, hru5, hru7⟩ := hCT.2 u x hTu
            refine W.eq (g2 := F0 m 25 ls [.ref (ad (u + 1) 0)]) rfl ?_
            refine lv_astore (lv' := [(5, .ref (ad (u + 1) 0)), (4, .int (nI i)), (3, .int (nI u)), (0, .ref (ad 0 0)), (1, .int (nI d)), (2, .int (nI v))]) C0.1 C0.2.1 dX4_isWithin_25 hl (by decide) rfl (fun ls hl => ?_)
            refine lv_aload C0.1 C0.2.1 dX4_isWithin_27 (lv_at hl 0 rfl) ?_
            refine lv_ifnonnull (tgt := 34) C0.1 C0.2.1 dX4_isWithin_29 (by decide) ?_
            refine lv_aload C0.1 C0.2.1 dX4_isWithin_34 (lv_at hl 0 rfl) ?_
            refine me_get C0 hP (hFN.2.2.1 u hxu) rfl inX1 6 (by decide) kw_94 rfl dX4_isWithin_36 ?_
            refine me_topi (y := x.2.1) hnu2 ?_
            by_cases hu0 : u = 0
            · have hq : x.2.1 = -1 := by obtain ⟨rt, r1, -, r2, -⟩ := hI.1; rw [hu0, r1] at hTu; cases hTu; exact r2
              refine me_topi (y := -1) hq ?_
              refine lv_istore_n (lv' := [(3, .int ((-1))), (5, .ref (ad (u + 1) 0)), (4, .int (nI i)), (0, .ref (ad 0 0)), (1, .int (nI d)), (2, .int (nI v))]) C0.1 C0.2.1 dX4_isWithin_39 rfl hl (by decide) rfl (fun ls hl => ?_)
              refine lv_iinc (v := nI (i + 1)) (lv' := [(4, .int (nI (i + 1))), (3, .int ((-1))), (5, .ref (ad (u + 1) 0)), (0, .ref (ad 0 0)), (1, .int (nI d)), (2, .int (nI v))]) C0.1 C0.2.1 dX4_isWithin_40 hl (k := 2) rfl (nI_add i 1) (by decide) rfl (fun ls hl => ?_)
              refine lv_goto (tgt := 5) C0.1 C0.2.1 dX4_isWithin_43 (by decide) ?_
              exact ih5 (i + 1) _ (by omega) (Or.inr ⟨rfl, by rw [hwu, show 200 - i = (200 - (i + 1)) + 1 by omega, wF, if_neg (by omega), if_pos hu0]⟩) (by omega) _ (lv_sub hl [0, 1, 3, 4, 5] rfl)
            · obtain ⟨pp, y, p1, p2, p3, p4⟩ := hdp u x hTu hu0
              refine me_topi (y := nI pp) p2 ?_
              refine lv_istore_n (lv' := [(3, .int (nI pp)), (5, .ref (ad (u + 1) 0)), (4, .int (nI i)), (0, .ref (ad 0 0)), (1, .int (nI d)), (2, .int (nI v))]) C0.1 C0.2.1 dX4_isWithin_39 rfl hl (by decide) rfl (fun ls hl => ?_)
              refine lv_iinc (v := nI (i + 1)) (lv' := [(4, .int (nI (i + 1))), (3, .int (nI pp)), (5, .ref (ad (u + 1) 0)), (0, .ref (ad 0 0)), (1, .int (nI d)), (2, .int (nI v))]) C0.1 C0.2.1 dX4_isWithin_40 hl (k := 2) rfl (nI_add i 1) (by decide) rfl (fun ls hl => ?_)
              refine lv_goto (tgt := 5) C0.1 C0.2.1 dX4_isWithin_43 (by decide) ?_
              exact ih5 (i + 1) _ (by omega) (Or.inl ⟨pp, y, rfl, p1, p3, by omega, by rw [hwu, show 200 - i = (200 - (i + 1)) + 1 by omega, wF, if_neg (by omega), if_neg hu0, parN_s hTu p2 p1]⟩) (by omega) _ (lv_sub hl [0, 1, 3, 4, 5] rfl)
          · have d2 : u = v := (nI_eq (a := u) (b := v) (by omega) (by omega)).mp c2
            refine lv_iconst (v := 1) C0.1 C0.2.1 dX4_isWithin_18 (by decide) ?_
            exact me_zret C0.1 C0.2.1 B.returns B.notSynchronized narrow_b1 rfl rfl (by rw [hwu, show 200 - i = (200 - (i + 1)) + 1 by omega, wF, if_pos (by omega)]) dX4_isWithin_19
        · refine lv_iload_n C0.1 C0.2.1 dX4_isWithin_13 rfl (lv_at hl 1 rfl) ?_
          refine lv_iload_n C0.1 C0.2.1 dX4_isWithin_14 rfl (lv_at hl 4 rfl) ?_
          refine lv_icmp_ne (tgt := 20) C0.1 C0.2.1 dX4_isWithin_15 (by decide) (fun c4 => ?_) (fun c4 => ?_)
          · refine lv_aload_n C0.1 C0.2.1 dX4_isWithin_20 rfl (lv_at hl 2 rfl) ?_
            refine lv_iload_n C0.1 C0.2.1 dX4_isWithin_21 rfl (lv_at hl 1 rfl) ?_
            refine me_cVq (n := 1) C0 hml hP hS (c_X4_nodeAt l G B0 w D ad ex R N cnt hFN T Bn hCT (-1)) ⟨kw_272, kw_31, kw_269, ⟨by decide, by decide, by decide +kernel⟩, ⟨rfl, rfl⟩, ⟨Nat.le_of_ble_eq_true rfl, Nat.le_of_ble_eq_true rfl⟩⟩ kw_271 kw_2 hFN.1 rfl rfl hl.1 rfl (Nat.le_of_ble_eq_true rfl) ⟨Nat.le_of_ble_eq_true rfl, Nat.le_of_ble_eq_true rfl⟩ dX4_isWithin_22 (fun r5 hr5 => ?_)
            have hsor5 := hr5.no (at32_neg (by decide))
            subst hsor5
            refine W.eq (g2 := F0 m 25 ls [.null]) rfl ?_
            refine lv_astoreN (lv' := [(5, .null), (4, .int (nI i)), (3, .int ((-1))), (0, .ref (ad 0 0)), (1, .int (nI d)), (2, .int (nI v))]) C0.1 C0.2.1 dX4_isWithin_25 hl (by decide) rfl (fun ls hl => ?_)
            refine lv_aloadN C0.1 C0.2.1 dX4_isWithin_27 (lv_at hl 0 rfl) ?_
            refine lv_ifnonnullN C0.1 C0.2.1 dX4_isWithin_29 ?_
            refine lv_iconst (v := 0) C0.1 C0.2.1 dX4_isWithin_32 (by decide) ?_
            exact me_zret C0.1 C0.2.1 B.returns B.notSynchronized narrow_b0 rfl rfl (hw0.symm) dX4_isWithin_33
          · exact absurd c4.symm (nI_nm1 (by omega))
  exact loop5 201 0 (nI d) (Nat.zero_le _) (Or.inl ⟨d, nd, rfl, hd, hTd, hd200 d, rfl⟩) (by omega) _ (lv_sub hl [0, 1, 2, 3, 4] rfl)

set_option maxHeartbeats 4000000 in
set_option maxRecDepth 100000 in
/-- depthOf(number) -/
theorem c_X4_depthOf (l : Launch) (G : me_G) (B0 : Nat) (w : Me) (D : Nat → Prop) (ad : Nat → Nat → Nat) (ex : Nat → Bool) (R : Nat → Nat → List Int32) (N : Nat → Nat → Int32) (cnt : Int32) (hFN : FN G B0 D w ad ex R N cnt) (T : Tre) (Bn : Nat → List Int32) (hCT : CT ex R N T Bn) (hI : TI T) (dp : Nat → Nat) (hdp : NoRing T dp) (hd200 : ∀ u, dp u < 200) (k : Nat) (nk : Nod) (hk : k < 200) (hTk : T k = some nk) : CtI l yX4_depthOf (Cond.code yX4_depthOf cX4_depthOf 4 (some .int)) ({ frames := 1, cells := 0, slots := 0, locals := 22 }) G B0 w [.ref (ad 0 0), .int (nI k)] (fun r => r = nI (dF T 200 k)) := by
  refine Met.ofW (cc := cX4_depthOf) (maxL := 4) (ret := (some .int)) (by decide) rfl ?_
  intro p e s m args below meth c s₁ B hml hv
  obtain ⟨rfl, hK, hP, hKq, hBs⟩ := hv
  have hts := fun w h => atoms_spec (ws := Cond.code yX4_depthOf cX4_depthOf 4 (some .int) :: tbG) B.pre w (List.mem_cons_of_mem _ h)
  have hown : s.vm.findClass RX4 = some m.cls := findClass_of_methodNamed B.named
  have C0 : Cx G B0 p s m _ c cX4_depthOf RX4 := ⟨B.exec, B.bytes, hown, hts, hK, hKq, hBs⟩
  have hS : va_S (me_A B0) s.heap s.heap [] := va_S.rf
  have hl := lv_entry ([.ref (ad 0 0), .int (nI k)]) (n := 4) (Nat.le_of_ble_eq_true rfl)
  rw [lg_entry_eq]
  generalize (lg_sl ([.ref (ad 0 0), .int (nI k)]) ++ List.replicate (4 - (lg_sl ([.ref (ad 0 0), .int (nI k)])).length) Slot.unset).toArray = ls at hl ⊢
  have hl : lv_has ls 4 [(0, .ref (ad 0 0)), (1, .int (nI k))] := hl
  refine lv_aload_n C0.1 C0.2.1 dX4_depthOf_0 rfl (lv_at hl 0 rfl) ?_
  refine lv_iload_n C0.1 C0.2.1 dX4_depthOf_1 rfl (lv_at hl 1 rfl) ?_
  refine me_cVq (n := 1) C0 hml hP hS (c_X4_nodeAt l G B0 w D ad ex R N cnt hFN T Bn hCT (nI k)) ⟨kw_272, kw_31, kw_269, ⟨by decide, by decide, by decide +kernel⟩, ⟨rfl, rfl⟩, ⟨Nat.le_of_ble_eq_true rfl, Nat.le_of_ble_eq_true rfl⟩⟩ kw_271 kw_2 hFN.1 rfl rfl hl.1 rfl (Nat.le_of_ble_eq_true rfl) ⟨Nat.le_of_ble_eq_true rfl, Nat.le_of_ble_eq_true rfl⟩ dX4_depthOf_2 (fun r1 hr1 => ?_)
  have hsor1 := hr1.so (by omega) hTk
  subst hsor1
  obtain ⟨hk200, hxk, hnk0, hnk1, hnk2, hrk1, hrk3, hrk5, hrk7⟩ := hCT.2 k nk hTk
  refine W.eq (g2 := F0 m 5 ls [.ref (ad (k + 1) 0)]) rfl ?_
  refine lv_astore_n (lv' := [(2, .ref (ad (k + 1) 0)), (0, .ref (ad 0 0)), (1, .int (nI k))]) C0.1 C0.2.1 dX4_depthOf_5 rfl hl (by decide) rfl (fun ls hl => ?_)
  refine lv_iconst (v := 0) C0.1 C0.2.1 dX4_depthOf_6 (by decide) ?_
  refine lv_istore_n (lv' := [(3, .int 0), (2, .ref (ad (k + 1) 0)), (0, .ref (ad 0 0)), (1, .int (nI k))]) C0.1 C0.2.1 dX4_depthOf_7 rfl hl (by decide) rfl (fun ls hl => ?_)
  have loop8 : ∀ (n : Nat) (u : Nat) (x : Nod) (c0 : Nat), (u < 200) → (T u = some x) → (dp u + c0 < 200) → (dF T 200 k = c0 + dF T (200 - c0) u) → (dp u) < n → ∀ (ls : Array Slot), lv_has ls 4 [(3, .int (nI c0)), (2, .ref (ad (u + 1) 0)), (0, .ref (ad 0 0)), (1, .int (nI k))] → W p l e ({ frames := 1, cells := 0, slots := 0, locals := 22 }) s m ([.ref (ad 0 0), .int (nI k)] : List Value).toArray below meth c s.heap [] 0 0 (MQ below (vp_Si (fun r => r = nI (dF T 200 k))) ([.ref (ad 0 0), .int (nI k)] : List Value).toArray s 0 0 (fun _ => False)) (F0 m 8 ls []) := by
    intro n
    induction n with
    | zero => intro u x c0 _ _ _ _ hz; exact absurd hz (Nat.not_lt_zero _)
    | succ n ih8 =>
      intro u x c0 hu hTu hc0 hdF hn8  ls  hl
      obtain ⟨hu200, hxu, hnu0, hnu1, hnu2, hru1, hru3, hru5, hru7⟩ := hCT.2 u x hTu
      refine lv_aload_n C0.1 C0.2.1 dX4_depthOf_8 rfl (lv_at hl 1 rfl) ?_
      refine lv_ifnull C0.1 C0.2.1 dX4_depthOf_9 ?_
      refine lv_aload_n C0.1 C0.2.1 dX4_depthOf_12 rfl (lv_at hl 1 rfl) ?_
      refine me_get C0 hP (hFN.2.2.1 u hxu) rfl inX1 6 (by decide) kw_94 rfl dX4_depthOf_13 ?_
      refine me_topi (y := x.2.1) hnu2 ?_
      by_cases hu0 : u = 0
      · have hq : x.2.1 = -1 := by obtain ⟨rt, r1, -, r2, -⟩ := hI.1; rw [hu0, r1] at hTu; cases hTu; exact r2
        refine me_topi (y := -1) hq ?_
        refine lv_iconst (v := (-1)) C0.1 C0.2.1 dX4_depthOf_16 (by decide) ?_
        refine lv_icmp_eq (tgt := 42) C0.1 C0.2.1 dX4_depthOf_17 (by decide) (fun cx => ?_) (fun cx => absurd cx (by decide))
        refine lv_iload_n C0.1 C0.2.1 dX4_depthOf_42 rfl (lv_at hl 0 rfl) ?_
        exact me_iret C0.1 C0.2.1 B.returns B.notSynchronized rfl rfl (by rw [hdF, hu0, dF_0]; rfl) dX4_depthOf_43
      · obtain ⟨pp, y, p1, p2, hTpp, p4⟩ := hdp u x hTu hu0
        refine me_topi (y := nI pp) p2 ?_
        refine lv_iconst (v := (-1)) C0.1 C0.2.1 dX4_depthOf_16 (by decide) ?_
        refine lv_icmp_eq (tgt := 42) C0.1 C0.2.1 dX4_depthOf_17 (by decide) (fun c3 => ?_) (fun c3 => ?_)
        · exact absurd c3 (nI_nm1 (by omega))
        · refine lv_iload_n C0.1 C0.2.1 dX4_depthOf_20 rfl (lv_at hl 0 rfl) ?_
          refine lv_sipush (v := 200) C0.1 C0.2.1 dX4_depthOf_21 (by decide) ?_
          refine lv_icmp_ge (tgt := 42) C0.1 C0.2.1 dX4_depthOf_24 (by decide) (fun c4 => ?_) (fun c4 => ?_)
          · have d4 : 200 ≤ c0 := (nI_leI (a := 200) (b := c0) (by omega) (by omega)).mp c4
            omega
          · have d4 : c0 < 200 := Nat.not_le.mp (fun h => c4 (nI_le (a := 200) (b := c0) h (by omega)))
            refine lv_aload_n C0.1 C0.2.1 dX4_depthOf_27 rfl (lv_at hl 2 rfl) ?_
            refine lv_aload_n C0.1 C0.2.1 dX4_depthOf_28 rfl (lv_at hl 1 rfl) ?_
            refine me_get C0 hP (hFN.2.2.1 u hxu) rfl inX1 6 (by decide) kw_94 rfl dX4_depthOf_29 ?_
            refine me_topi (y := nI pp) (hnu2.trans p2) ?_
            refine me_cVq (n := 1) C0 hml hP hS (c_X4_nodeAt l G B0 w D ad ex R N cnt hFN T Bn hCT (nI pp)) ⟨kw_272, kw_31, kw_269, ⟨by decide, by decide, by decide +kernel⟩, ⟨rfl, rfl⟩, ⟨Nat.le_of_ble_eq_true rfl, Nat.le_of_ble_eq_true rfl⟩⟩ kw_271 kw_2 hFN.1 rfl rfl hl.1 rfl (Nat.le_of_ble_eq_true rfl) ⟨Nat.le_of_ble_eq_true rfl, Nat.le_of_ble_eq_true rfl⟩ dX4_depthOf_32 (fun r5 hr5 => ?_)
            have hsor5 := hr5.so (by omega) hTpp
            subst hsor5
            obtain ⟨hpp200, hxpp, hnpp0, hnpp1, hnpp2, hrpp1, hrpp3, hrpp5, hrpp7⟩ := hCT.2 pp y hTpp
            refine W.eq (g2 := F0 m 35 ls [.ref (ad (pp + 1) 0)]) rfl ?_
            refine lv_astore_n (lv' := [(2, .ref (ad (pp + 1) 0)), (3, .int (nI c0)), (0, .ref (ad 0 0)), (1, .int (nI k))]) C0.1 C0.2.1 dX4_depthOf_35 rfl hl (by decide) rfl (fun ls hl => ?_)
            refine lv_iinc (v := nI (c0 + 1)) (lv' := [(3, .int (nI (c0 + 1))), (2, .ref (ad (pp + 1) 0)), (0, .ref (ad 0 0)), (1, .int (nI k))]) C0.1 C0.2.1 dX4_depthOf_36 hl (k := 1) rfl (nI_add c0 1) (by decide) rfl (fun ls hl => ?_)
            refine lv_goto (tgt := 8) C0.1 C0.2.1 dX4_depthOf_39 (by decide) ?_
            exact ih8 pp y (c0 + 1) p1 hTpp (by omega) (by rw [hdF, show 200 - c0 = (200 - (c0 + 1)) + 1 by omega, dF_s hu0 hTu p2 p1]; omega) (by omega) _ (lv_sub hl [0, 1, 2, 3] rfl)
  exact loop8 (dp k + 1) k nk 0 hk hTk (hd200 k) (by rw [Nat.sub_zero, Nat.zero_add]) (Nat.lt_succ_self _) _ (lv_sub hl [0, 1, 2, 3] rfl)

set_option maxHeartbeats 4000000 in
set_option maxRecDepth 100000 in
/-- entry(directory, k) -/
theorem c_X4_entry (l : Launch) (G : me_G) (B0 : Nat) (w : Me) (D : Nat → Prop) (ad : Nat → Nat → Nat) (ex : Nat → Bool) (R : Nat → Nat → List Int32) (N : Nat → Nat → Int32) (cnt : Int32) (hFN : FN G B0 D w ad ex R N cnt) (T : Tre) (Bn : Nat → List Int32) (hCT : CT ex R N T Bn) (d x : Int32) : CtI l yX4_entry (Cond.code yX4_entry cX4_entry 4 (some .int)) ({ frames := 2, cells := 0, slots := 0, locals := 44 }) G B0 w [.ref (ad 0 0), .int d, .int x] (fun r => r = sEntry T d x) := by
  refine Met.ofW (cc := cX4_entry) (maxL := 4) (ret := (some .int)) (by decide) rfl ?_
  intro p e s m args below meth c s₁ B hml hv
  obtain ⟨rfl, hK, hP, hKq, hBs⟩ := hv
  have hts := fun w h => atoms_spec (ws := Cond.code yX4_entry cX4_entry 4 (some .int) :: tbG) B.pre w (List.mem_cons_of_mem _ h)
  have hown : s.vm.findClass RX4 = some m.cls := findClass_of_methodNamed B.named
  have C0 : Cx G B0 p s m _ c cX4_entry RX4 := ⟨B.exec, B.bytes, hown, hts, hK, hKq, hBs⟩
  have hS : va_S (me_A B0) s.heap s.heap [] := va_S.rf
  have hl := lv_entry ([.ref (ad 0 0), .int d, .int x]) (n := 4) (Nat.le_of_ble_eq_true rfl)
  rw [lg_entry_eq]
  generalize (lg_sl ([.ref (ad 0 0), .int d, .int x]) ++ List.replicate (4 - (lg_sl ([.ref (ad 0 0), .int d, .int x])).length) Slot.unset).toArray = ls at hl ⊢
  have hl : lv_has ls 4 [(0, .ref (ad 0 0)), (1, .int d), (2, .int x)] := hl
  refine lv_aload_n C0.1 C0.2.1 dX4_entry_0 rfl (lv_at hl 0 rfl) ?_
  refine lv_iload_n C0.1 C0.2.1 dX4_entry_1 rfl (lv_at hl 1 rfl) ?_
  refine me_cVq (n := 1) C0 hml hP hS (c_X4_directoryAt l G B0 w D ad ex R N cnt hFN T Bn hCT d) ⟨kw_268, kw_31, kw_265, ⟨by decide, by decide, by decide +kernel⟩, ⟨rfl, rfl⟩, ⟨Nat.le_of_ble_eq_true rfl, Nat.le_of_ble_eq_true rfl⟩⟩ kw_267 kw_1 hFN.1 rfl rfl hl.1 rfl (Nat.le_of_ble_eq_true rfl) ⟨Nat.le_of_ble_eq_true rfl, Nat.le_of_ble_eq_true rfl⟩ dX4_entry_2 (fun r1 hr1 => ?_)
  rcases hr1 with ⟨hnok, rfl⟩ | ⟨k, n, hk, rfl, hTk, hdirk, hnk, rfl⟩
  · refine W.eq (g2 := F0 m 5 ls [.null]) rfl ?_
    refine lv_astore_nN (lv' := [(3, .null), (0, .ref (ad 0 0)), (1, .int d), (2, .int x)]) C0.1 C0.2.1 dX4_entry_5 rfl hl (by decide) rfl (fun ls hl => ?_)
    refine lv_aload_nN C0.1 C0.2.1 dX4_entry_6 rfl (lv_at hl 0 rfl) ?_
    refine lv_ifnonnullN C0.1 C0.2.1 dX4_entry_7 ?_
    refine lv_bipush (v := (-5)) C0.1 C0.2.1 dX4_entry_10 (by decide) ?_
    refine lv_goto (tgt := 23) C0.1 C0.2.1 dX4_entry_12 (by decide) ?_
    exact me_iret C0.1 C0.2.1 B.returns B.notSynchronized rfl rfl ((sEntry_no hnok).symm) dX4_entry_23
  · obtain ⟨hk200, hxk, hnk0, hnk1, hnk2, hrk1, hrk3, hrk5, hrk7⟩ := hCT.2 k n hTk
    refine W.eq (g2 := F0 m 5 ls [.ref (ad (k + 1) 0)]) rfl ?_
    refine lv_astore_n (lv' := [(3, .ref (ad (k + 1) 0)), (0, .ref (ad 0 0)), (1, .int (nI k)), (2, .int x)]) C0.1 C0.2.1 dX4_entry_5 rfl hl (by decide) rfl (fun ls hl => ?_)
    refine lv_aload_n C0.1 C0.2.1 dX4_entry_6 rfl (lv_at hl 0 rfl) ?_
    refine lv_ifnonnull (tgt := 15) C0.1 C0.2.1 dX4_entry_7 (by decide) ?_
    refine lv_aload_n C0.1 C0.2.1 dX4_entry_15 rfl (lv_at hl 0 rfl) ?_
    refine me_get C0 hP (hFN.2.2.1 k hxk) rfl inX1 2 (by decide) kw_86 rfl dX4_entry_16 ?_
    refine lv_iload_n C0.1 C0.2.1 dX4_entry_19 rfl (lv_at hl 3 rfl) ?_
    refine me_cVi (n := 1) C0 hml hP hS (c_X2_at l G B0 w (ad (k + 1) 5) (ad (k + 1) (5 + 1)) (capR (k + 1) 5) n.2.2.2.2 (hFN.rw0 (k + 1) 5 hxk (Or.inr (Or.inr (Or.inl rfl))) hrk5) x) ⟨kw_151, kw_32, kw_256, ⟨by decide, by decide, by decide +kernel⟩, ⟨rfl, rfl⟩, ⟨Nat.le_of_ble_eq_true rfl, Nat.le_of_ble_eq_true rfl⟩⟩ kw_149 kw_150 (hFN.2.2.2.1 (k + 1) 5 hxk (Or.inr (Or.inr (Or.inl rfl)))).1 rfl rfl hl.1 rfl (Nat.le_of_ble_eq_true rfl) ⟨Nat.le_of_ble_eq_true rfl, Nat.le_of_ble_eq_true rfl⟩ dX4_entry_20 (fun r2 hr2 => ?_)
    subst hr2
    exact me_iret C0.1 C0.2.1 B.returns B.notSynchronized rfl rfl ((sEntry_n hk hTk hdirk).symm) dX4_entry_23

def cSort (T : Tre) (Bn : Nat → List Int32) (d x : Int32) : Int32 := if noD T d = 1 then -5 else ra (Bn d.toNatClampNeg) x

set_option maxHeartbeats 4000000 in
set_option maxRecDepth 100000 in
/-- sorted(directory, k) -/
theorem c_X4_sorted (l : Launch) (G : me_G) (B0 : Nat) (w : Me) (D : Nat → Prop) (ad : Nat → Nat → Nat) (ex : Nat → Bool) (R : Nat → Nat → List Int32) (N : Nat → Nat → Int32) (cnt : Int32) (hFN : FN G B0 D w ad ex R N cnt) (T : Tre) (Bn : Nat → List Int32) (hCT : CT ex R N T Bn) (d x : Int32) : CtI l yX4_sorted (Cond.code yX4_sorted cX4_sorted 4 (some .int)) ({ frames := 2, cells := 0, slots := 0, locals := 44 }) G B0 w [.ref (ad 0 0), .int d, .int x] (fun r => r = cSort T Bn d x) := by
  refine Met.ofW (cc := cX4_sorted) (maxL := 4) (ret := (some .int)) (by decide) rfl ?_
  intro p e s m args below meth c s₁ B hml hv
  obtain ⟨rfl, hK, hP, hKq, hBs⟩ := hv
  have hts := fun w h => atoms_spec (ws := Cond.code yX4_sorted cX4_sorted 4 (some .int) :: tbG) B.pre w (List.mem_cons_of_mem _ h)
  have hown : s.vm.findClass RX4 = some m.cls := findClass_of_methodNamed B.named
  have C0 : Cx G B0 p s m _ c cX4_sorted RX4 := ⟨B.exec, B.bytes, hown, hts, hK, hKq, hBs⟩
  have hS : va_S (me_A B0) s.heap s.heap [] := va_S.rf
  have hl := lv_entry ([.ref (ad 0 0), .int d, .int x]) (n := 4) (Nat.le_of_ble_eq_true rfl)
  rw [lg_entry_eq]
  generalize (lg_sl ([.ref (ad 0 0), .int d, .int x]) ++ List.replicate (4 - (lg_sl ([.ref (ad 0 0), .int d, .int x])).length) Slot.unset).toArray = ls at hl ⊢
  have hl : lv_has ls 4 [(0, .ref (ad 0 0)), (1, .int d), (2, .int x)] := hl
  refine lv_aload_n C0.1 C0.2.1 dX4_sorted_0 rfl (lv_at hl 0 rfl) ?_
  refine lv_iload_n C0.1 C0.2.1 dX4_sorted_1 rfl (lv_at hl 1 rfl) ?_
  refine me_cVq (n := 1) C0 hml hP hS (c_X4_directoryAt l G B0 w D ad ex R N cnt hFN T Bn hCT d) ⟨kw_268, kw_31, kw_265, ⟨by decide, by decide, by decide +kernel⟩, ⟨rfl, rfl⟩, ⟨Nat.le_of_ble_eq_true rfl, Nat.le_of_ble_eq_true rfl⟩⟩ kw_267 kw_1 hFN.1 rfl rfl hl.1 rfl (Nat.le_of_ble_eq_true rfl) ⟨Nat.le_of_ble_eq_true rfl, Nat.le_of_ble_eq_true rfl⟩ dX4_sorted_2 (fun r1 hr1 => ?_)
  rcases hr1 with ⟨hnok, rfl⟩ | ⟨k, n, hk, rfl, hTk, hdirk, hnk, rfl⟩
  · refine W.eq (g2 := F0 m 5 ls [.null]) rfl ?_
    refine lv_astore_nN (lv' := [(3, .null), (0, .ref (ad 0 0)), (1, .int d), (2, .int x)]) C0.1 C0.2.1 dX4_sorted_5 rfl hl (by decide) rfl (fun ls hl => ?_)
    refine lv_aload_nN C0.1 C0.2.1 dX4_sorted_6 rfl (lv_at hl 0 rfl) ?_
    refine lv_ifnonnullN C0.1 C0.2.1 dX4_sorted_7 ?_
    refine lv_bipush (v := (-5)) C0.1 C0.2.1 dX4_sorted_10 (by decide) ?_
    refine lv_goto (tgt := 23) C0.1 C0.2.1 dX4_sorted_12 (by decide) ?_
    exact me_iret C0.1 C0.2.1 B.returns B.notSynchronized rfl rfl (by unfold cSort; rw [if_pos hnok]) dX4_sorted_23
  · obtain ⟨hk200, hxk, hnk0, hnk1, hnk2, hrk1, hrk3, hrk5, hrk7⟩ := hCT.2 k n hTk
    refine W.eq (g2 := F0 m 5 ls [.ref (ad (k + 1) 0)]) rfl ?_
    refine lv_astore_n (lv' := [(3, .ref (ad (k + 1) 0)), (0, .ref (ad 0 0)), (1, .int (nI k)), (2, .int x)]) C0.1 C0.2.1 dX4_sorted_5 rfl hl (by decide) rfl (fun ls hl => ?_)
    refine lv_aload_n C0.1 C0.2.1 dX4_sorted_6 rfl (lv_at hl 0 rfl) ?_
    refine lv_ifnonnull (tgt := 15) C0.1 C0.2.1 dX4_sorted_7 (by decide) ?_
    refine lv_aload_n C0.1 C0.2.1 dX4_sorted_15 rfl (lv_at hl 0 rfl) ?_
    refine me_get C0 hP (hFN.2.2.1 k hxk) rfl inX1 3 (by decide) kw_88 rfl dX4_sorted_16 ?_
    refine lv_iload_n C0.1 C0.2.1 dX4_sorted_19 rfl (lv_at hl 3 rfl) ?_
    refine me_cVi (n := 1) C0 hml hP hS (c_X2_at l G B0 w (ad (k + 1) 7) (ad (k + 1) (7 + 1)) (capR (k + 1) 7) (Bn k) (hFN.rw0 (k + 1) 7 hxk (Or.inr (Or.inr (Or.inr rfl))) hrk7) x) ⟨kw_151, kw_32, kw_256, ⟨by decide, by decide, by decide +kernel⟩, ⟨rfl, rfl⟩, ⟨Nat.le_of_ble_eq_true rfl, Nat.le_of_ble_eq_true rfl⟩⟩ kw_149 kw_150 (hFN.2.2.2.1 (k + 1) 7 hxk (Or.inr (Or.inr (Or.inr rfl)))).1 rfl rfl hl.1 rfl (Nat.le_of_ble_eq_true rfl) ⟨Nat.le_of_ble_eq_true rfl, Nat.le_of_ble_eq_true rfl⟩ dX4_sorted_20 (fun r2 hr2 => ?_)
    subst hr2
    exact me_iret C0.1 C0.2.1 B.returns B.notSynchronized rfl rfl (by unfold cSort; rw [hnk, if_neg (by decide), nI_clamp (by omega)]) dX4_sorted_23

set_option maxHeartbeats 4000000 in
set_option maxRecDepth 100000 in
/-- nodes() -/
theorem c_X4_nodes (l : Launch) (G : me_G) (B0 : Nat) (w : Me) (D : Nat → Prop) (ad : Nat → Nat → Nat) (ex : Nat → Bool) (R : Nat → Nat → List Int32) (N : Nat → Nat → Int32) (cnt : Int32) (hFN : FN G B0 D w ad ex R N cnt) : CtI l yX4_nodes (Cond.code yX4_nodes cX4_nodes 1 (some .int)) ({ frames := 0, cells := 0, slots := 0, locals := 0 }) G B0 w [.ref (ad 0 0)] (fun r => r = cnt) := by
  refine Met.ofW (cc := cX4_nodes) (maxL := 1) (ret := (some .int)) (by decide) rfl ?_
  intro p e s m args below meth c s₁ B hml hv
  obtain ⟨rfl, hK, hP, hKq, hBs⟩ := hv
  have hts := fun w h => atoms_spec (ws := Cond.code yX4_nodes cX4_nodes 1 (some .int) :: tbG) B.pre w (List.mem_cons_of_mem _ h)
  have hown : s.vm.findClass RX4 = some m.cls := findClass_of_methodNamed B.named
  have C0 : Cx G B0 p s m _ c cX4_nodes RX4 := ⟨B.exec, B.bytes, hown, hts, hK, hKq, hBs⟩
  have hS : va_S (me_A B0) s.heap s.heap [] := va_S.rf
  have hl := lv_entry ([.ref (ad 0 0)]) (n := 1) (Nat.le_of_ble_eq_true rfl)
  rw [lg_entry_eq]
  generalize (lg_sl ([.ref (ad 0 0)]) ++ List.replicate (1 - (lg_sl ([.ref (ad 0 0)])).length) Slot.unset).toArray = ls at hl ⊢
  have hl : lv_has ls 1 [(0, .ref (ad 0 0))] := hl
  refine lv_aload_n C0.1 C0.2.1 dX4_nodes_0 rfl (lv_at hl 0 rfl) ?_
  refine me_get C0 hP hFN.1 rfl inX4 4 (by decide) kw_122 rfl dX4_nodes_1 ?_
  exact me_iret C0.1 C0.2.1 B.returns B.notSynchronized rfl rfl (rfl) dX4_nodes_4

set_option maxHeartbeats 4000000 in
set_option maxRecDepth 100000 in
/-- folded(k) -/
theorem c_X4_folded (l : Launch) (G : me_G) (B0 : Nat) (w : Me) (D : Nat → Prop) (ad : Nat → Nat → Nat) (ex : Nat → Bool) (R : Nat → Nat → List Int32) (N : Nat → Nat → Int32) (cnt : Int32) (hFN : FN G B0 D w ad ex R N cnt) (fo : List Int32) (hfo : R 0 3 = fo) (x : Int32) : CtI l yX4_folded (Cond.code yX4_folded cX4_folded 2 (some .int)) ({ frames := 1, cells := 0, slots := 0, locals := 21 }) G B0 w [.ref (ad 0 0), .int x] (fun r => r = ra fo x) := by
  refine Met.ofW (cc := cX4_folded) (maxL := 2) (ret := (some .int)) (by decide) rfl ?_
  intro p e s m args below meth c s₁ B hml hv
  obtain ⟨rfl, hK, hP, hKq, hBs⟩ := hv
  have hts := fun w h => atoms_spec (ws := Cond.code yX4_folded cX4_folded 2 (some .int) :: tbG) B.pre w (List.mem_cons_of_mem _ h)
  have hown : s.vm.findClass RX4 = some m.cls := findClass_of_methodNamed B.named
  have C0 : Cx G B0 p s m _ c cX4_folded RX4 := ⟨B.exec, B.bytes, hown, hts, hK, hKq, hBs⟩
  have hS : va_S (me_A B0) s.heap s.heap [] := va_S.rf
  have hl := lv_entry ([.ref (ad 0 0), .int x]) (n := 2) (Nat.le_of_ble_eq_true rfl)
  rw [lg_entry_eq]
  generalize (lg_sl ([.ref (ad 0 0), .int x]) ++ List.replicate (2 - (lg_sl ([.ref (ad 0 0), .int x])).length) Slot.unset).toArray = ls at hl ⊢
  have hl : lv_has ls 2 [(0, .ref (ad 0 0)), (1, .int x)] := hl
  refine lv_aload_n C0.1 C0.2.1 dX4_folded_0 rfl (lv_at hl 0 rfl) ?_
  refine me_get C0 hP hFN.1 rfl inX4 1 (by decide) kw_119 rfl dX4_folded_1 ?_
  refine lv_iload_n C0.1 C0.2.1 dX4_folded_4 rfl (lv_at hl 1 rfl) ?_
  refine me_cVi (n := 1) C0 hml hP hS (c_X2_at l G B0 w (ad 0 3) (ad 0 (3 + 1)) (capR 0 3) fo (hFN.rw0 0 3 hFN.2.2.2.2.1 (Or.inr (Or.inl rfl)) hfo) x) ⟨kw_151, kw_32, kw_256, ⟨by decide, by decide, by decide +kernel⟩, ⟨rfl, rfl⟩, ⟨Nat.le_of_ble_eq_true rfl, Nat.le_of_ble_eq_true rfl⟩⟩ kw_149 kw_150 (hFN.2.2.2.1 0 3 hFN.2.2.2.2.1 (Or.inr (Or.inl rfl))).1 rfl rfl hl.1 rfl (Nat.le_of_ble_eq_true rfl) ⟨Nat.le_of_ble_eq_true rfl, Nat.le_of_ble_eq_true rfl⟩ dX4_folded_5 (fun r1 hr1 => ?_)
  subst hr1
  exact me_iret C0.1 C0.2.1 B.returns B.notSynchronized rfl rfl (rfl) dX4_folded_8
