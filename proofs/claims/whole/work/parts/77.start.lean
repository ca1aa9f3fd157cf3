/-! THE LAW FROM ITS ENTRY -/
theorem law_init {G : me_G} {B0 x o ou : Nat} {a : Nat → Nat} {w2 w4 : Me} {e3 : va_E} {ad : Nat → Nat → Nat} {ex : Nat → Bool} {R : Nat → Nat → List Int32} {N : Nat → Nat → Int32} (hFN : FN G B0 (fun _ => True) w2 ad ex R N 1) (had : ad 0 0 = x) (hR1 : R 0 1 = []) (hR3 : R 0 3 = []) (hCT : CT ex R N T0 (fun _ => [])) (ho0 : w2 o = none) (hMD : MD G B0 w4 o a F0M (fun _ => 0)) (hna : ∀ k ∈ mdA, me_u w2 o e3 (a k) = none) (hFr2 : FrN (me_u w2 o e3) w4 o) (hou0 : w4 ou = none) (hBou : B0 ≤ ou) : LSt G B0 x o ou a (me_u w4 ou (eJ G 1 (fun _ => 0))) T0 [] [] := by
  have hw : ∀ q, w2 q ≠ none → q ≠ o ∧ w4 q = w2 q ∧ q ≠ ou ∧ ∀ k ∈ mdA, q ≠ a k := by
    intro q hq
    have h1 : q ≠ o := fun e => hq (by rw [e]; exact ho0)
    have h2 : me_u w2 o e3 q = w2 q := me_un h1
    have h3 : w4 q = w2 q := (hFr2 q (by rw [h2]; exact hq) h1).trans h2
    exact ⟨h1, h3, fun e => hq (by rw [← h3, e]; exact hou0), fun k hk e => hq (by rw [← h2, e]; exact hna k hk)⟩
  have hsm : ∀ a' j, ex a' = true → usJ a' j → w2 (ad a' j) ≠ none := fun a' j ha hu => by
    obtain ⟨e, he⟩ := hFN.sm1 ha hu
    rw [he]; simp
  have hF2 : FN G B0 (fun q => w2 q ≠ none) w2 ad ex R N 1 := hFN.reD hsm
  have hF3 : FN G B0 (fun q => w2 q ≠ none) (me_u w4 ou (eJ G 1 (fun _ => 0))) ad ex R N 1 := hF2.mv (fun q hq => (me_un (hw q hq).2.2.1).trans (hw q hq).2.1)
  have hF4 : FN G B0 (LD o ou a) (me_u w4 ou (eJ G 1 (fun _ => 0))) ad ex R N 1 := hF3.reD (fun a' j ha hu => have h := hw _ (hsm a' j ha hu); ⟨h.1, h.2.2.1, h.2.2.2⟩)
  have ho : ou ≠ o := fun e => by rw [e, hMD.1] at hou0; cases hou0
  have hoa : ∀ k ∈ mdA, ou ≠ a k := fun k hk e => by rw [e, hMD.2.1 k hk] at hou0; cases hou0
  refine ⟨⟨ad, ex, R, N, fun _ => [], had, ?_, hCT, SB0, hR1, hR3⟩, ⟨F0M, fun _ => 0, hMD.kp (me_un ho.symm) (fun k hk => me_un (hoa k hk).symm), Ls.nil rfl, Ls.nil rfl, RT0⟩, ⟨⟨_, me_us _ _ _⟩, hBou, ho, hoa⟩, TI0, Oct.nil⟩
  rw [show cntF T0 200 = 1 by decide +kernel]; exact hF4
section MCA
variable {p : Program} {l : Launch} {e : Env} {R : Room} {s : State} {m : MethodId} {args : Array Value} {below : List Frame} {meth : Method} {c : Code} {H : Heap} {locs : List Loc} {cells slots : Nat} {Q : State → Prop}
variable {cc : ByteArray} {pc : Nat} {ls : Array Slot} {rest st0 As : List Value} {G : me_G} {w : Me} {b B : Nat} {own : String}
variable {y : MethodName} {bytes : ByteArray} {maxL nL n index mc ms : Nat} {rm : Room}
theorem me_cIwA {post : Me → Prop} (C0 : Cx G B p s m args c cc own) (hAO : va_AO RX1 s) (hml : c.maxLocals = nL) (hP : me_P G.1 w H) (hS : va_S (me_A B) s.heap H locs) (hM : CtWA l y (Cond.code y bytes maxL none) rm G B w (.ref b :: As) post mc ms) (hC : Cl R own index y bytes maxL none rm mc ms n) (hi : Cond.instanceMethod y ∈ tbG) (hy : y.name = "<init>") (hn : As.length = n) (hls : ls.size = nL) (hst : st0 = As.reverse ++ .ref b :: rest) (hr : (rest.map fun v => v.category).sum ≤ 8) (hf : cells + mc ≤ R.cells ∧ slots + ms ≤ R.slots) (hdg : decode cc pc = .ok (.invokespecial index, 3))
    (kk : ∀ (w : Me) (H : Heap) (locs : List Loc), post w → me_P G.1 w H → va_S (me_A B) s.heap H locs → W p l e R s m args below meth c H locs (cells + mc) (slots + ms) Q (F0 m (pc + 3) ls rest)) : W p l e R s m args below meth c H locs cells slots Q (F0 m pc ls st0) :=
  va_callv (va_runI (g := F0 m pc ls st0) (me_fix C0 hml) hM ⟨me_callB C0 hC, hy, C0.2.2.2.1 _ hi⟩ ⟨fun a U g mk q => ⟨q.1, ⟨va_K.moved (u := U) (U := U.calling g mk a) (Vm.Alike.refl U.vm) q.2.1.1, q.2.1.2.1, q.2.1.2.2.1.blind, q.2.1.2.2.2⟩, va_AO.moved (u := U) (U := U.calling g mk a) (Vm.Alike.refl U.vm) q.2.2⟩, fun U hU hW => ⟨rfl, ⟨me_K.moved hW.alike C0.2.2.2.2.1, by rw [hU]; exact hP, C0.2.2.2.2.2.1.go hS hU hW, by rw [hU]; exact Nat.le_trans C0.2.2.2.2.2.2 hS.1⟩, va_AO.moved hW.alike hAO⟩⟩ rfl hn hls hst (lv_room (rest := st0) hr) hdg hf) hS (fun _ _ h => h) (fun _ h => h) (fun u t H1 locs1 ht _ hp hb _ _ hS1 => kk u H1 locs1 hp (by rw [← ht]; exact hb) hS1)
theorem me_newJ (C0 : Cx G B p s m args c cc own) (hP : me_P G.1 w H) (hS : va_S (me_A B) s.heap H locs) (harr : Cond.arrayClass .long ∈ tbG) {n : Int32} {N : Nat} (hn : ¬ n < 0) (hN : n.toNatClampNeg = N) (hbytes : N * 8 ≤ 536870912) (hcells : cells + 1 ≤ R.cells) (hslots : slots + N ≤ R.slots) (hdg : decode cc pc = .ok (.newarray .long, 2))
    (kk : ∀ (q : Nat) (H : Heap), w q = none → B ≤ q → me_P G.1 (me_u w q (eJ G N (fun _ => 0))) H → va_S (me_A B) s.heap H locs → W p l e R s m args below meth c H locs (cells + 1) (slots + N) Q (F0 m (pc + 2) ls (.ref q :: rest))) : W p l e R s m args below meth c H locs cells slots Q (F0 m pc ls (.int n :: rest)) := by
  obtain ⟨hexec, hb, hown, hts, hK, hKq, hB9⟩ := C0
  refine va_newaK (atype := .long) hexec hb (hts _ harr) rfl hdg rfl hn hN hbytes hcells hslots rfl fun H1 cA e1 z1 o1 hAr hNm => ?_
  have hc : cA = G.2.1.2.2.1 := Option.some.inj (hNm.symm.trans (hK.2 2 _ rfl).2)
  subst hc
  exact kk H.size H1 (me_free hP) (Nat.le_trans hB9 hS.1) (me_grow hP e1 o1) ⟨Nat.le_trans hS.1 (by omega), fun x h1 h2 => (o1 x (Nat.lt_of_lt_of_le h1 hS.1)).trans (hS.2.1 x h1 h2), hS.2.2⟩
end MCA
set_option maxHeartbeats 4000000 in
set_option maxRecDepth 100000 in
theorem whole_start {p : Program} {e : Env} {s : State} {m : MethodId} {below : List Frame} {meth : Method} {c : Code} (l : Launch) (hl0 : l.stackTraces = false) {b L : Nat} {xs : Nat → Int32} (hL : L ≤ 2048) (hA : lw_At p s m meth c b L xs) : W p l e room_1 s m #[Value.ref b] below meth c s.heap [] 0 0 (lw_Z below #[Value.ref b] s) (entryFrame m ([Value.ref b] : List Value).toArray 7) := by
  obtain ⟨G, hK, hKq, hE, hAO⟩ := law_given hA
  obtain ⟨B0, hB0⟩ : ∃ q, q = s.heap.size := ⟨_, rfl⟩
  rw [← hB0] at hKq
  have hLoop := law_loop (e := e) (below := below) l hl0 hL hA G B0 hB0 hK hKq hE
  obtain ⟨hx, hb, hret, hml, hown, hts, hX, hbl, hlocks, hgv⟩ := hA
  have C0 : Cx G B0 p s m #[Value.ref b] c cL_law RL := ⟨hx, hb, hown, fun w hw => hts w (tb_in hw), hK, hKq, Nat.le_of_eq hB0⟩
  have hS : va_S (me_A B0) s.heap s.heap [] := va_S.rf
  have hP : me_P G.1 (fun _ => none) s.heap := fun a e h => by cases h
  have hl := lv_entry ([.ref b]) (n := 7) (Nat.le_of_ble_eq_true rfl)
  rw [lg_entry_eq]
  generalize (lg_sl ([.ref b]) ++ List.replicate (7 - (lg_sl ([.ref b])).length) Slot.unset).toArray = ls at hl ⊢
  have hl : lv_has ls 7 [(0, .ref b)] := hl
  refine me_new C0 hP hS (ci := 2) (fs := [.null, .null, .null, .null, .int 0]) rfl inX4 tyX4 tyX4_ok kw_47 kw_48 kw_31 (by decide) (Nat.le_of_ble_eq_true rfl) (Nat.le_of_ble_eq_true rfl) dL_law_0 (fun x H hx0 hBx hP hS => ?_)
  refine lv_dup C0.1 C0.2.1 dL_law_3 rfl ?_
  refine me_cIwA (n := 0) C0 hAO hml hP hS (c_X4_init l G B0 _ x hBx (me_us _ _ _)) ⟨kw_51, kw_31, kw_49, ⟨by decide, by decide, by decide +kernel⟩, ⟨rfl, rfl⟩, ⟨Nat.le_of_ble_eq_true rfl, Nat.le_of_ble_eq_true rfl⟩⟩ kw_50 rfl rfl hl.1 rfl (Nat.le_of_ble_eq_true rfl) ⟨Nat.le_of_ble_eq_true rfl, Nat.le_of_ble_eq_true rfl⟩ dL_law_4 (fun w2 H locs hw2 hP hS => ?_)
  obtain ⟨ad, ex, R, N, had, hFN, hR1, hR3, hCT, hFr⟩ := hw2
  refine lv_astore_n (lv' := [(1, .ref x), (0, .ref b)]) C0.1 C0.2.1 dL_law_7 rfl hl (by decide) rfl (fun ls hl => ?_)
  refine me_new C0 hP hS (ci := 3) (fs := [.null, .int 0, .null, .null, .null, .null, .null, .null, .null, .null, .null, .null, .int 0, .int 0, .null, .int 0, .null, .int 0, .null, .int 0, .null]) rfl inX5 tyX5 tyX5_ok kw_471 kw_472 kw_35 (by decide) (Nat.le_of_ble_eq_true rfl) (Nat.le_of_ble_eq_true rfl) dL_law_8 (fun o H ho0 hBo hP hS => ?_)
  refine lv_dup C0.1 C0.2.1 dL_law_11 rfl ?_
  refine me_cIwv (n := 0) C0 hml hP hS (c_X5_init l G B0 _ o hBo (me_us _ _ _)) ⟨kw_475, kw_35, kw_473, ⟨by decide, by decide, by decide +kernel⟩, ⟨rfl, rfl⟩, ⟨Nat.le_of_ble_eq_true rfl, Nat.le_of_ble_eq_true rfl⟩⟩ kw_474 rfl rfl hl.1 rfl (Nat.le_of_ble_eq_true rfl) ⟨Nat.le_of_ble_eq_true rfl, Nat.le_of_ble_eq_true rfl⟩ dL_law_12 (fun w4 H locs hw4 hP hS => ?_)
  obtain ⟨a, hMD, hna, hFr2⟩ := hw4
  refine lv_astore_n (lv' := [(2, .ref o), (1, .ref x), (0, .ref b)]) C0.1 C0.2.1 dL_law_15 rfl hl (by decide) rfl (fun ls hl => ?_)
  refine lv_iconst (v := 1) C0.1 C0.2.1 dL_law_16 (by decide) ?_
  refine me_newJ C0 hP hS kw_692 (N := 1) (by decide) (by decide) (by omega) (Nat.le_of_ble_eq_true rfl) (Nat.le_of_ble_eq_true rfl) dL_law_17 (fun ou H hou0 hBou hP hS => ?_)
  refine lv_astore_n (lv' := [(3, .ref ou), (2, .ref o), (1, .ref x), (0, .ref b)]) C0.1 C0.2.1 dL_law_19 rfl hl (by decide) rfl (fun ls hl => ?_)
  refine lv_iconst (v := 0) C0.1 C0.2.1 dL_law_20 (by decide) ?_
  refine lv_istore (lv' := [(4, .int 0), (3, .ref ou), (2, .ref o), (1, .ref x), (0, .ref b)]) C0.1 C0.2.1 dL_law_21 hl (by decide) rfl (fun ls hl => ?_)
  exact hLoop x o ou a 2053 0 _ T0 [] [] (by omega) (by omega) (law_init hFN had hR1 hR3 hCT ho0 hMD hna hFr2 hou0 hBou) H locs ls hP hS (lv_sub hl [4, 3, 2, 1, 0] rfl)
