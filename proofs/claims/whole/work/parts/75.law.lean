/-! THE CLAIM OUT OF ONE WALK OF THE LAW'S BODY. Your part is whole_start (and what it stands on); all else here is the same for every law, but numbers. -/
def R_law : String := "FoldedNamesLaw"
def lw_P (b : Addr) (xs : List Int32) (args : Array Value) (s : State) : Prop := args = #[.ref b] ∧ s.IntsAt b xs ∧ xs.length ≤ 2048 ∧ (Jvm.Cond.and given_1 narrow_1).before args s = true
def lw_Q (_ : Array Value) (s : State) (o : Outcome) (t : State) : Prop := o = .returned (some (.int 1)) ∧ Framed s o t [] 601024 7293034
def lw_Z (below : List Frame) (a : Array Value) (s : State) : State → Prop := fun t => ∃ o, t.status = .running ∧ Ended t below o ∧ lw_Q a s o t
/-- the law's own end, with 1 on the stack, nothing written that was there before, its room as the claim has it -/
theorem lw_ret {p : Program} {l : Launch} {e : Env} {s : State} {m : MethodId} {below : List Frame} {meth : Method} {c : Code} {b : Nat} (hx : p.tables.exec = Jvm.exec) (hb : c.code = code) (hr : meth.sig.returnType = ret) (hlocks : meth.locks = false) {pc : Nat} {H : Heap} {ls : Array Slot} (hdg : decode code pc = .ok (.ireturn, 1)) : W p l e room_1 s m #[Value.ref b] below meth c H [] 601024 7293034 (lw_Z below #[Value.ref b] s) (F0 m pc ls [.int 1]) := by
  intro T hT X
  obtain ⟨fs, hret, hrun, hended, hW, hframe⟩ := X.leave (v := some (.int 1)) (hlocks := hlocks) (fun h => by rw [hr] at h; cases h)
  have hmeth' : T.vm.method? m = some meth := X.method'
  refine ⟨T.setFrames fs, ?_, .returned (some (.int 1)), hrun, hended, rfl, ⟨_, rfl⟩, hW, hframe⟩
  jvm_step X.here [X.here.top, hx, hb, hdg, hmeth', hr, ret, narrow_b1]
  (try refine ⟨rfl, ?_⟩); (try refine ⟨rfl, ?_⟩)
  first | (intro acts; rw [hret _ acts rfl rfl rfl]) | rw [hret _ _ rfl rfl rfl]
  exact Steps.refl _
/-- what holds at the law's entry: the machine, the code, the tables' words (any of lw_tbl by 'hts w (by decide +kernel)'), the script of L ints xs at the cell b, what the Statement gives of the start (any of its parts by flat_of_before) -/
def lw_At (p : Program) (s : State) (m : MethodId) (meth : Method) (c : Code) (b L : Nat) (xs : Nat → Int32) : Prop :=
  p.tables.exec = Jvm.exec ∧ c.code = code ∧ meth.sig.returnType = ret ∧ c.maxLocals = 7 ∧ s.vm.findClass R_law = some m.cls ∧ (∀ w ∈ lw_tbl, w.before #[Value.ref b] s = true) ∧ va_X b L xs s s.heap ∧ b < s.heap.size ∧ meth.locks = false ∧ (Jvm.Cond.and given_1 narrow_1).before #[Value.ref b] s = true
section LW
variable {p : Program} {l : Launch} {e : Env} {R : Room} {s : State} {m : MethodId} {args : Array Value} {below : List Frame} {meth : Method} {c : Code} {H : Heap} {locs : List Loc} {cells slots : Nat} {Q : State → Prop} {cc : ByteArray} {pc : Nat} {ls : Array Slot} {rest : List Value}
theorem me_lcmpE (hexec : p.tables.exec = Jvm.exec) (hb : c.code = cc) {x : Int64} (hdg : decode cc pc = .ok (.lcmp, 1)) (k : W p l e R s m args below meth c H locs cells slots Q (F0 m (pc + 1) ls (.int 0 :: rest))) : W p l e R s m args below meth c H locs cells slots Q (F0 m pc ls (.long x :: .long x :: rest)) := by
  intro T hT X
  obtain ⟨t, a, b⟩ := k T hT X
  refine ⟨t, ?_, b⟩
  jvm_step X.here [X.here.top, hexec, hb, hdg]
  simpa using a
end LW
set_option maxHeartbeats 4000000 in
set_option maxRecDepth 100000 in
/-- the law's loop: at every call the class answers as the reference -/
theorem law_loop {p : Program} {e : Env} {s : State} {m : MethodId} {below : List Frame} {meth : Method} {c : Code} (l : Launch) (hl0 : l.stackTraces = false) {b L : Nat} {xs : Nat → Int32} (hL : L ≤ 2048) (hA : lw_At p s m meth c b L xs) (G : me_G) (B0 : Nat) (hB0 : B0 = s.heap.size) (hK : me_K G s) (hKq : Kq G B0 s s.heap) (hE : me_E s) (x o ou : Nat) (a : Nat → Nat) :
    ∀ (n i : Nat) (w : Me) (T : Tre) (tp fo : List Int32), i ≤ 2048 → 2052 - i < n → LSt G B0 x o ou a w T tp fo → ∀ (H : Heap) (locs : List Loc) (ls : Array Slot), me_P G.1 w H → va_S (me_A B0) s.heap H locs → lv_has ls 7 [(0, .ref b), (1, .ref x), (2, .ref o), (3, .ref ou), (4, .int (nI i))] → W p l e room_1 s m #[Value.ref b] below meth c H locs (34 + 3 * i) (35708 + 54 * i) (lw_Z below #[Value.ref b] s) (F0 m 23 ls []) := by
  obtain ⟨hx, hb, hret, hml, hown, hts, hX, hbl, hlocks, hgv⟩ := hA
  have hbA : ¬ me_A B0 b := by rw [hB0]; exact Nat.not_le.mpr hbl
  have C0 : Cx G B0 p s m #[Value.ref b] c cL_law RL := ⟨hx, hb, hown, fun w hw => hts w (tb_in hw), hK, hKq, Nat.le_of_eq hB0⟩
  clear hx hb hown hts hK hKq hgv
  intro n
  induction n with
  | zero => intro i w T tp fo _ hz; exact absurd hz (Nat.not_lt_zero _)
  | succ n ih =>
    intro i w T tp fo hi2 hn hLS H locs ls hP hS hl
    obtain ⟨_, _, _, _, Bn, -, -, -, hSB, -, -⟩ := id hLS.1
    have hI := hLS.2.2.2.1
    have hoct := hLS.2.2.2.2
    obtain ⟨fs5, hx⟩ := hLS.1.x
    refine lv_iload C0.1 C0.2.1 dL_law_23 (lv_at hl 4 rfl) ?_
    refine lv_aload_n C0.1 C0.2.1 dL_law_25 rfl (lv_at hl 0 rfl) ?_
    refine va_slen C0.1 C0.2.1 hX hbl hbA hS dL_law_26 ?_
    refine me_topi (y := nI L) rfl ?_
    refine lv_iconst (v := 4) C0.1 C0.2.1 dL_law_27 (by decide) ?_
    refine lv_isub C0.1 C0.2.1 dL_law_28 ?_
    refine lv_icmp_gt (tgt := 665) C0.1 C0.2.1 dL_law_29 (by decide) (fun c1 => ?_) (fun c1 => ?_)
    · refine lv_iconst (v := 1) C0.1 C0.2.1 dL_law_665 (by decide) ?_
      exact va_forget (by rw [← hB0]; exact hS.2.2) (W.widen (k := 601024) (n := 7293034) (by omega) (by omega) (lw_ret C0.1 C0.2.1 hret hlocks dL_law_666))
    · have hi4 : i + 4 ≤ L := lt4 hL (by omega) c1
      have j659 : ∀ (w : Me) (T : Tre) (tp fo : List Int32), LSt G B0 x o ou a w T tp fo → ∀ (H : Heap) (locs : List Loc) (ls : Array Slot), me_P G.1 w H → va_S (me_A B0) s.heap H locs → lv_has ls 7 [(0, .ref b), (1, .ref x), (2, .ref o), (3, .ref ou), (4, .int (nI i))] → W p l e room_1 s m #[Value.ref b] below meth c H locs (34 + 3 * i + 12) (35708 + 54 * i + 216) (lw_Z below #[Value.ref b] s) (F0 m 659 ls []) := by
        intro w T tp fo hLS H locs ls hP hS hl
        refine lv_iinc (v := nI (i + 4)) (lv' := [(4, .int (nI (i + 4))), (0, .ref b), (1, .ref x), (2, .ref o), (3, .ref ou)]) C0.1 C0.2.1 dL_law_659 hl (k := 4) rfl (nI_add i 4) (by decide) rfl (fun ls hl => ?_)
        refine lv_goto (tgt := 23) C0.1 C0.2.1 dL_law_662 (by decide) ?_
        refine W.widen (k := 34 + 3 * (i + 4)) (n := 35708 + 54 * (i + 4)) (by omega) (by omega) ?_
        exact ih (i + 4) w T tp fo (by omega) (by omega) hLS H locs ls hP hS (lv_sub hl [1, 2, 3, 4, 0] rfl)
      refine lv_aload_n C0.1 C0.2.1 dL_law_32 rfl (lv_at hl 0 rfl) ?_
      refine lv_iload C0.1 C0.2.1 dL_law_33 (lv_at hl 4 rfl) ?_
      refine va_sld C0.1 C0.2.1 hX hbl hbA hS (vp_in_nI (by omega) (by omega)) dL_law_35 ?_
      refine me_topi (y := xs i) (by rw [nI_clamp (by omega)]) ?_
      refine lv_bipush (v := 15) C0.1 C0.2.1 dL_law_36 (by decide) ?_
      refine lv_iand C0.1 C0.2.1 dL_law_38 ?_
      obtain ⟨kk, hkk, hke⟩ := and15 (xs i)
      refine me_topi (y := nI kk) hke ?_
      rcases (show kk = 0 ∨ kk = 1 ∨ kk = 2 ∨ kk = 3 ∨ kk = 4 ∨ kk = 5 ∨ kk = 6 ∨ kk = 7 ∨ kk = 8 ∨ kk = 9 ∨ kk = 10 ∨ kk = 11 ∨ kk = 12 ∨ kk = 13 ∨ kk = 14 ∨ kk = 15 by omega) with rfl | rfl | rfl | rfl | rfl | rfl | rfl | rfl | rfl | rfl | rfl | rfl | rfl | rfl | rfl | rfl
      · refine lv_tableIn (off := 69) (tgt := 108) C0.1 C0.2.1 dL_law_39 (by decide) (by decide) (by decide) (by decide) ?_
        refine lv_aload_n C0.1 C0.2.1 dL_law_108 rfl (lv_at hl 1 rfl) ?_
        refine lv_aload_n C0.1 C0.2.1 dL_law_109 rfl (lv_at hl 0 rfl) ?_
        refine lv_iload C0.1 C0.2.1 dL_law_110 (lv_at hl 4 rfl) ?_
        refine lv_iconst (v := 1) C0.1 C0.2.1 dL_law_112 (by decide) ?_
        refine lv_iadd C0.1 C0.2.1 dL_law_113 ?_
        refine me_topi (y := nI (i + 1)) (nI_add i 1) ?_
        refine va_sld C0.1 C0.2.1 hX hbl hbA hS (vp_in_nI (by omega) (by omega)) dL_law_114 ?_
        refine me_topi (y := xs (i + 1)) (by rw [nI_clamp (by omega)]) ?_
        refine lv_aload_n C0.1 C0.2.1 dL_law_115 rfl (lv_at hl 0 rfl) ?_
        refine lv_iload C0.1 C0.2.1 dL_law_116 (lv_at hl 4 rfl) ?_
        refine lv_iconst (v := 2) C0.1 C0.2.1 dL_law_118 (by decide) ?_
        refine lv_iadd C0.1 C0.2.1 dL_law_119 ?_
        refine me_topi (y := nI (i + 2)) (nI_add i 2) ?_
        refine va_sld C0.1 C0.2.1 hX hbl hbA hS (vp_in_nI (by omega) (by omega)) dL_law_120 ?_
        refine me_topi (y := xs (i + 2)) (by rw [nI_clamp (by omega)]) ?_
        refine lv_i2l C0.1 C0.2.1 dL_law_121 rfl ?_
        refine lv_bipush (v := 32) C0.1 C0.2.1 dL_law_122 (by decide) ?_
        refine lv_lshl C0.1 C0.2.1 dL_law_124 rfl ?_
        refine lv_aload_n C0.1 C0.2.1 dL_law_125 rfl (lv_at hl 0 rfl) ?_
        refine lv_iload C0.1 C0.2.1 dL_law_126 (lv_at hl 4 rfl) ?_
        refine lv_iconst (v := 3) C0.1 C0.2.1 dL_law_128 (by decide) ?_
        refine lv_iadd C0.1 C0.2.1 dL_law_129 ?_
        refine me_topi (y := nI (i + 3)) (nI_add i 3) ?_
        refine va_sld C0.1 C0.2.1 hX hbl hbA hS (vp_in_nI (by omega) (by omega)) dL_law_130 ?_
        refine me_topi (y := xs (i + 3)) (by rw [nI_clamp (by omega)]) ?_
        refine lv_i2l C0.1 C0.2.1 dL_law_131 rfl ?_
        refine lv_ldc2 (v := 4294967295) C0.1 C0.2.1 C0.2.2.1 (C0.2.2.2.1 _ kw_691) dL_law_132 ?_
        refine lv_land C0.1 C0.2.1 dL_law_135 ?_
        refine lv_lor C0.1 C0.2.1 dL_law_136 ?_
        refine lv_aload_n C0.1 C0.2.1 dL_law_137 rfl (lv_at hl 3 rfl) ?_
        refine me_cSH (n := 4) C0 hE hml hP hS (k_L_feed l hl0 G B0 x o ou a w T tp fo hLS (xs (i + 1)) ((((xs (i + 2)).toInt64) <<< ((32 : Int32).toInt64 &&& 63)) ||| (((xs (i + 3)).toInt64) &&& 4294967295))) kw_379 kw_30 kw_377 kw_378 ⟨by decide, by decide, by decide +kernel⟩ rfl rfl ⟨Nat.le_of_ble_eq_true rfl, Nat.le_of_ble_eq_true rfl⟩ rfl hl.1 rfl (Nat.le_of_ble_eq_true rfl) ⟨by show 34 + 3 * i + 1 ≤ 601024; omega, by show 35708 + 54 * i + 6 ≤ 7293034; omega⟩ dL_law_138 (fun r2 w2 H locs hw2 hP hS => ?_)
        rcases hw2 with ⟨hok, hr2, hLC1, hLR1, hLO1⟩ | ⟨hok, hr2, ⟨hLC1, hLR1, hLO1⟩, fj, hfj, hfv⟩
        · subst hr2
          obtain ⟨fo5, ho5⟩ := hLR1.o
          refine lv_istore (lv' := [(5, .int 1), (0, .ref b), (1, .ref x), (2, .ref o), (3, .ref ou), (4, .int (nI i))]) C0.1 C0.2.1 dL_law_141 hl (by decide) rfl (fun ls hl => ?_)
          refine lv_aload_n C0.1 C0.2.1 dL_law_143 rfl (lv_at hl 3 rfl) ?_
          refine lv_aload_n C0.1 C0.2.1 dL_law_144 rfl (lv_at hl 1 rfl) ?_
          refine lv_iload C0.1 C0.2.1 dL_law_145 (lv_at hl 5 rfl) ?_
          refine lv_iconst (v := 1) C0.1 C0.2.1 dL_law_147 (by decide) ?_
          refine lv_iadd C0.1 C0.2.1 dL_law_148 ?_
          refine me_topi (y := nI (i + 1)) (nI_add i 1) ?_
          refine va_sld C0.1 C0.2.1 hX hbl hbA hS (vp_in_nI (by omega) (by omega)) dL_law_149 ?_
          refine me_topi (y := xs (i + 1)) (by rw [nI_clamp (by omega)]) ?_
          refine lv_aload_n C0.1 C0.2.1 dL_law_150 rfl (lv_at hl 1 rfl) ?_
          refine lv_iload C0.1 C0.2.1 dL_law_151 (lv_at hl 5 rfl) ?_
          refine lv_iconst (v := 2) C0.1 C0.2.1 dL_law_153 (by decide) ?_
          refine lv_iadd C0.1 C0.2.1 dL_law_154 ?_
          refine me_topi (y := nI (i + 2)) (nI_add i 2) ?_
          refine va_sld C0.1 C0.2.1 hX hbl hbA hS (vp_in_nI (by omega) (by omega)) dL_law_155 ?_
          refine me_topi (y := xs (i + 2)) (by rw [nI_clamp (by omega)]) ?_
          refine lv_i2l C0.1 C0.2.1 dL_law_156 rfl ?_
          refine lv_bipush (v := 32) C0.1 C0.2.1 dL_law_157 (by decide) ?_
          refine lv_lshl C0.1 C0.2.1 dL_law_159 rfl ?_
          refine lv_aload_n C0.1 C0.2.1 dL_law_160 rfl (lv_at hl 1 rfl) ?_
          refine lv_iload C0.1 C0.2.1 dL_law_161 (lv_at hl 5 rfl) ?_
          refine lv_iconst (v := 3) C0.1 C0.2.1 dL_law_163 (by decide) ?_
          refine lv_iadd C0.1 C0.2.1 dL_law_164 ?_
          refine me_topi (y := nI (i + 3)) (nI_add i 3) ?_
          refine va_sld C0.1 C0.2.1 hX hbl hbA hS (vp_in_nI (by omega) (by omega)) dL_law_165 ?_
          refine me_topi (y := xs (i + 3)) (by rw [nI_clamp (by omega)]) ?_
          refine lv_i2l C0.1 C0.2.1 dL_law_166 rfl ?_
          refine lv_ldc2 (v := 4294967295) C0.1 C0.2.1 C0.2.2.1 (C0.2.2.2.1 _ kw_691) dL_law_167 ?_
          refine lv_land C0.1 C0.2.1 dL_law_170 ?_
          refine lv_lor C0.1 C0.2.1 dL_law_171 ?_
          refine me_cVwi (n := 2) C0 hml hP hS (k_X5_feed l G B0 o a w2 T tp fo hLR1 hI hoct (xs (i + 1)) ((((xs (i + 2)).toInt64) <<< ((32 : Int32).toInt64 &&& 63)) ||| (((xs (i + 3)).toInt64) &&& 4294967295))) ⟨kw_549, kw_35, kw_546, ⟨by decide, by decide, by decide +kernel⟩, ⟨rfl, rfl⟩, ⟨Nat.le_of_ble_eq_true rfl, Nat.le_of_ble_eq_true rfl⟩⟩ kw_547 kw_548 ho5 rfl rfl hl.1 rfl (Nat.le_of_ble_eq_true rfl) ⟨by show 34 + 3 * i + 1 + 0 ≤ 601024; omega, by show 35708 + 54 * i + 6 + 0 ≤ 7293034; omega⟩ dL_law_172 (fun r3 w3 H locs hw3 hP hS => ?_)
          rcases hw3 with ⟨⟨hok2, hz2⟩ | ⟨hok2, hr2, hz2⟩, hMF2⟩
          · obtain ⟨fo6, ho6⟩ := hz2.r.o
            refine lv_istore (lv' := [(6, .int r3), (5, .int 1), (0, .ref b), (1, .ref x), (2, .ref o), (3, .ref ou), (4, .int (nI i))]) C0.1 C0.2.1 dL_law_175 hl (by decide) rfl (fun ls hl => ?_)
            refine lv_aload_n C0.1 C0.2.1 dL_law_177 rfl (lv_at hl 4 rfl) ?_
            refine me_cVi (n := 0) C0 hml hP hS (k_X5_thrown l G B0 o a w3 T _ fo 1 hz2) ⟨kw_545, kw_35, kw_542, ⟨by decide, by decide, by decide +kernel⟩, ⟨rfl, rfl⟩, ⟨Nat.le_of_ble_eq_true rfl, Nat.le_of_ble_eq_true rfl⟩⟩ kw_543 kw_544 ho6 rfl rfl hl.1 rfl (Nat.le_of_ble_eq_true rfl) ⟨by show 34 + 3 * i + 1 + 0 ≤ 601024; omega, by show 35708 + 54 * i + 6 + 0 ≤ 7293034; omega⟩ dL_law_178 (fun r4 hr4 => ?_)
            subst hr4
            refine lv_iload C0.1 C0.2.1 dL_law_181 (lv_at hl 1 rfl) ?_
            refine lv_icmp_eq (tgt := 188) C0.1 C0.2.1 dL_law_183 (by decide) (fun cx => ?_) (fun cx => absurd cx (by decide))
            refine lv_iload C0.1 C0.2.1 dL_law_188 (lv_at hl 1 rfl) ?_
            refine lv_if_ne (tgt := 205) C0.1 C0.2.1 dL_law_190 (by decide) (fun cx => ?_) (fun cx => absurd cx (by decide))
            refine lv_goto (tgt := 659) C0.1 C0.2.1 dL_law_205 (by decide) ?_
            exact W.widen (k := 34 + 3 * i + 12) (n := 35708 + 54 * i + 216) (by omega) (by omega) (j659 _ _ _ _ ⟨hLC1.mf hMF2, hz2.r, hLO1.mf hMF2, hI, hoct⟩ H locs ls hP hS (lv_sub hl [2, 3, 4, 5, 6] rfl))
          · exact absurd hok2 hok
        · subst hr2
          obtain ⟨fo5, ho5⟩ := hLR1.o
          refine lv_istore (lv' := [(5, .int 0), (0, .ref b), (1, .ref x), (2, .ref o), (3, .ref ou), (4, .int (nI i))]) C0.1 C0.2.1 dL_law_141 hl (by decide) rfl (fun ls hl => ?_)
          refine lv_aload_n C0.1 C0.2.1 dL_law_143 rfl (lv_at hl 3 rfl) ?_
          refine lv_aload_n C0.1 C0.2.1 dL_law_144 rfl (lv_at hl 1 rfl) ?_
          refine lv_iload C0.1 C0.2.1 dL_law_145 (lv_at hl 5 rfl) ?_
          refine lv_iconst (v := 1) C0.1 C0.2.1 dL_law_147 (by decide) ?_
          refine lv_iadd C0.1 C0.2.1 dL_law_148 ?_
          refine me_topi (y := nI (i + 1)) (nI_add i 1) ?_
          refine va_sld C0.1 C0.2.1 hX hbl hbA hS (vp_in_nI (by omega) (by omega)) dL_law_149 ?_
          refine me_topi (y := xs (i + 1)) (by rw [nI_clamp (by omega)]) ?_
          refine lv_aload_n C0.1 C0.2.1 dL_law_150 rfl (lv_at hl 1 rfl) ?_
          refine lv_iload C0.1 C0.2.1 dL_law_151 (lv_at hl 5 rfl) ?_
          refine lv_iconst (v := 2) C0.1 C0.2.1 dL_law_153 (by decide) ?_
          refine lv_iadd C0.1 C0.2.1 dL_law_154 ?_
          refine me_topi (y := nI (i + 2)) (nI_add i 2) ?_
          refine va_sld C0.1 C0.2.1 hX hbl hbA hS (vp_in_nI (by omega) (by omega)) dL_law_155 ?_
          refine me_topi (y := xs (i + 2)) (by rw [nI_clamp (by omega)]) ?_
          refine lv_i2l C0.1 C0.2.1 dL_law_156 rfl ?_
          refine lv_bipush (v := 32) C0.1 C0.2.1 dL_law_157 (by decide) ?_
          refine lv_lshl C0.1 C0.2.1 dL_law_159 rfl ?_
          refine lv_aload_n C0.1 C0.2.1 dL_law_160 rfl (lv_at hl 1 rfl) ?_
          refine lv_iload C0.1 C0.2.1 dL_law_161 (lv_at hl 5 rfl) ?_
          refine lv_iconst (v := 3) C0.1 C0.2.1 dL_law_163 (by decide) ?_
          refine lv_iadd C0.1 C0.2.1 dL_law_164 ?_
          refine me_topi (y := nI (i + 3)) (nI_add i 3) ?_
          refine va_sld C0.1 C0.2.1 hX hbl hbA hS (vp_in_nI (by omega) (by omega)) dL_law_165 ?_
          refine me_topi (y := xs (i + 3)) (by rw [nI_clamp (by omega)]) ?_
          refine lv_i2l C0.1 C0.2.1 dL_law_166 rfl ?_
          refine lv_ldc2 (v := 4294967295) C0.1 C0.2.1 C0.2.2.1 (C0.2.2.2.1 _ kw_691) dL_law_167 ?_
          refine lv_land C0.1 C0.2.1 dL_law_170 ?_
          refine lv_lor C0.1 C0.2.1 dL_law_171 ?_
          refine me_cVwi (n := 2) C0 hml hP hS (k_X5_feed l G B0 o a w2 T tp fo hLR1 hI hoct (xs (i + 1)) ((((xs (i + 2)).toInt64) <<< ((32 : Int32).toInt64 &&& 63)) ||| (((xs (i + 3)).toInt64) &&& 4294967295))) ⟨kw_549, kw_35, kw_546, ⟨by decide, by decide, by decide +kernel⟩, ⟨rfl, rfl⟩, ⟨Nat.le_of_ble_eq_true rfl, Nat.le_of_ble_eq_true rfl⟩⟩ kw_547 kw_548 ho5 rfl rfl hl.1 rfl (Nat.le_of_ble_eq_true rfl) ⟨by show 34 + 3 * i + 1 + 0 ≤ 601024; omega, by show 35708 + 54 * i + 6 + 0 ≤ 7293034; omega⟩ dL_law_172 (fun r7 w7 H locs hw7 hP hS => ?_)
          rcases hw7 with ⟨⟨hok2, hz2⟩ | ⟨hok2, hr2, hz2⟩, hMF2⟩
          · exact absurd hok hok2
          · obtain ⟨fo6, ho6⟩ := hz2.r.o
            subst hr2
            have hfj2 := (hMF2 ou hLO1.2.2.1 hLO1.2.2.2).trans hfj
            refine lv_istore (lv' := [(6, .int (fdR (xs (i + 1)) tp)), (5, .int 0), (0, .ref b), (1, .ref x), (2, .ref o), (3, .ref ou), (4, .int (nI i))]) C0.1 C0.2.1 dL_law_175 hl (by decide) rfl (fun ls hl => ?_)
            refine lv_aload_n C0.1 C0.2.1 dL_law_177 rfl (lv_at hl 4 rfl) ?_
            refine me_cVi (n := 0) C0 hml hP hS (k_X5_thrown l G B0 o a w7 T _ fo 0 hz2) ⟨kw_545, kw_35, kw_542, ⟨by decide, by decide, by decide +kernel⟩, ⟨rfl, rfl⟩, ⟨Nat.le_of_ble_eq_true rfl, Nat.le_of_ble_eq_true rfl⟩⟩ kw_543 kw_544 ho6 rfl rfl hl.1 rfl (Nat.le_of_ble_eq_true rfl) ⟨by show 34 + 3 * i + 1 + 0 ≤ 601024; omega, by show 35708 + 54 * i + 6 + 0 ≤ 7293034; omega⟩ dL_law_178 (fun r8 hr8 => ?_)
            subst hr8
            refine lv_iload C0.1 C0.2.1 dL_law_181 (lv_at hl 1 rfl) ?_
            refine lv_icmp_eq (tgt := 188) C0.1 C0.2.1 dL_law_183 (by decide) (fun cx => ?_) (fun cx => absurd cx (by decide))
            refine lv_iload C0.1 C0.2.1 dL_law_188 (lv_at hl 1 rfl) ?_
            refine lv_if_ne (tgt := 205) C0.1 C0.2.1 dL_law_190 (by decide) (fun cx => absurd cx (by decide)) (fun cx => ?_)
            refine lv_aload_n C0.1 C0.2.1 dL_law_193 rfl (lv_at hl 5 rfl) ?_
            refine lv_iconst (v := 0) C0.1 C0.2.1 dL_law_194 (by decide) ?_
            refine me_lald C0 hP hfj2 (by unfold vp_in; decide) dL_law_195 ?_
            refine me_topl hfv ?_
            refine lv_iload C0.1 C0.2.1 dL_law_196 (lv_at hl 0 rfl) ?_
            refine lv_i2l C0.1 C0.2.1 dL_law_198 rfl ?_
            refine me_lcmpE C0.1 C0.2.1 dL_law_199 ?_
            refine lv_if_eq (tgt := 205) C0.1 C0.2.1 dL_law_200 (by decide) (fun cx => ?_) (fun cx => absurd cx (by decide))
            refine lv_goto (tgt := 659) C0.1 C0.2.1 dL_law_205 (by decide) ?_
            exact W.widen (k := 34 + 3 * i + 12) (n := 35708 + 54 * i + 216) (by omega) (by omega) (j659 _ _ _ _ ⟨hLC1.mf hMF2, hz2.r, hLO1.mf hMF2, hI, fdT_oct hok hoct⟩ H locs ls hP hS (lv_sub hl [2, 3, 4, 5, 6] rfl))
      · refine lv_tableIn (off := 169) (tgt := 208) C0.1 C0.2.1 dL_law_39 (by decide) (by decide) (by decide) (by decide) ?_
        refine lv_aload_n C0.1 C0.2.1 dL_law_208 rfl (lv_at hl 1 rfl) ?_
        refine me_cVwi (n := 0) C0 hml hP hS (k_X4_check l G B0 x o ou a w T tp fo hLS ) ⟨kw_137, kw_31, kw_134, ⟨by decide, by decide, by decide +kernel⟩, ⟨rfl, rfl⟩, ⟨Nat.le_of_ble_eq_true rfl, Nat.le_of_ble_eq_true rfl⟩⟩ kw_135 kw_136 hx rfl rfl hl.1 rfl (Nat.le_of_ble_eq_true rfl) ⟨by show 34 + 3 * i + 0 ≤ 601024; omega, by show 35708 + 54 * i + 0 ≤ 7293034; omega⟩ dL_law_209 (fun r12 w12 H locs hw12 hP hS => ?_)
        obtain ⟨hr12, hLC1, hFD1⟩ := hw12
        have hLR1 := hLS.2.1.fd hFD1
        have hLO1 := hLS.2.2.1.fd hFD1
        obtain ⟨fo5, ho5⟩ := hLR1.o
        refine lv_aload_n C0.1 C0.2.1 dL_law_212 rfl (lv_at hl 2 rfl) ?_
        refine me_cVwi (n := 0) C0 hml hP hS (k_X5_check l G B0 o a w12 T tp fo hLR1 hI hoct ) ⟨kw_554, kw_35, kw_551, ⟨by decide, by decide, by decide +kernel⟩, ⟨rfl, rfl⟩, ⟨Nat.le_of_ble_eq_true rfl, Nat.le_of_ble_eq_true rfl⟩⟩ kw_552 kw_553 ho5 rfl rfl hl.1 rfl (Nat.le_of_ble_eq_true rfl) ⟨by show 34 + 3 * i + 0 ≤ 601024; omega, by show 35708 + 54 * i + 0 ≤ 7293034; omega⟩ dL_law_213 (fun r13 w13 H locs hw13 hP hS => ?_)
        obtain ⟨hs13, hLR2, hMF2⟩ := hw13
        refine lv_icmp_eq (tgt := 659) C0.1 C0.2.1 dL_law_216 (by decide) (fun cx => ?_) (fun cx => absurd (hr12.trans hs13.symm) cx)
        exact W.widen (k := 34 + 3 * i + 12) (n := 35708 + 54 * i + 216) (by omega) (by omega) (j659 _ _ _ _ ⟨hLC1.mf hMF2, hLR2, hLO1.mf hMF2, hI, Oct.nil⟩ H locs ls hP hS (lv_sub hl [0, 1, 2, 3, 4] rfl))
      · refine lv_tableIn (off := 182) (tgt := 221) C0.1 C0.2.1 dL_law_39 (by decide) (by decide) (by decide) (by decide) ?_
        refine lv_aload_n C0.1 C0.2.1 dL_law_221 rfl (lv_at hl 1 rfl) ?_
        refine me_cVwi (n := 0) C0 hml hP hS (k_X4_fold l G B0 x o ou a w T tp fo hLS ) ⟨kw_166, kw_31, kw_163, ⟨by decide, by decide, by decide +kernel⟩, ⟨rfl, rfl⟩, ⟨Nat.le_of_ble_eq_true rfl, Nat.le_of_ble_eq_true rfl⟩⟩ kw_164 kw_165 hx rfl rfl hl.1 rfl (Nat.le_of_ble_eq_true rfl) ⟨by show 34 + 3 * i + 0 ≤ 601024; omega, by show 35708 + 54 * i + 0 ≤ 7293034; omega⟩ dL_law_222 (fun r14 w14 H locs hw14 hP hS => ?_)
        obtain ⟨hr14, hLC1, hFD1⟩ := hw14
        have hLR1 := hLS.2.1.fd hFD1
        have hLO1 := hLS.2.2.1.fd hFD1
        obtain ⟨fo5, ho5⟩ := hLR1.o
        refine lv_aload_n C0.1 C0.2.1 dL_law_225 rfl (lv_at hl 2 rfl) ?_
        refine me_cVwi (n := 0) C0 hml hP hS (k_X5_fold l G B0 o a w14 T tp fo hLR1 hI hoct ) ⟨kw_570, kw_35, kw_567, ⟨by decide, by decide, by decide +kernel⟩, ⟨rfl, rfl⟩, ⟨Nat.le_of_ble_eq_true rfl, Nat.le_of_ble_eq_true rfl⟩⟩ kw_568 kw_569 ho5 rfl rfl hl.1 rfl (Nat.le_of_ble_eq_true rfl) ⟨by show 34 + 3 * i + 0 ≤ 601024; omega, by show 35708 + 54 * i + 0 ≤ 7293034; omega⟩ dL_law_226 (fun r15 w15 H locs hw15 hP hS => ?_)
        obtain ⟨hs15, hLR2, hMF2⟩ := hw15
        refine lv_icmp_eq (tgt := 659) C0.1 C0.2.1 dL_law_229 (by decide) (fun cx => ?_) (fun cx => absurd (hr14.trans hs15.symm) cx)
        exact W.widen (k := 34 + 3 * i + 12) (n := 35708 + 54 * i + 216) (by omega) (by omega) (j659 _ _ _ _ ⟨hLC1.mf hMF2, hLR2, hLO1.mf hMF2, hI, Oct.nil⟩ H locs ls hP hS (lv_sub hl [0, 1, 2, 3, 4] rfl))
      · refine lv_tableIn (off := 195) (tgt := 234) C0.1 C0.2.1 dL_law_39 (by decide) (by decide) (by decide) (by decide) ?_
        refine lv_aload_n C0.1 C0.2.1 dL_law_234 rfl (lv_at hl 1 rfl) ?_
        refine lv_aload_n C0.1 C0.2.1 dL_law_235 rfl (lv_at hl 0 rfl) ?_
        refine lv_iload C0.1 C0.2.1 dL_law_236 (lv_at hl 4 rfl) ?_
        refine lv_iconst (v := 1) C0.1 C0.2.1 dL_law_238 (by decide) ?_
        refine lv_iadd C0.1 C0.2.1 dL_law_239 ?_
        refine me_topi (y := nI (i + 1)) (nI_add i 1) ?_
        refine va_sld C0.1 C0.2.1 hX hbl hbA hS (vp_in_nI (by omega) (by omega)) dL_law_240 ?_
        refine me_topi (y := xs (i + 1)) (by rw [nI_clamp (by omega)]) ?_
        refine me_cVi (n := 1) C0 hml hP hS (k_X4_folded l G B0 x o ou a w T tp fo hLS (xs (i + 1))) ⟨kw_255, kw_31, kw_252, ⟨by decide, by decide, by decide +kernel⟩, ⟨rfl, rfl⟩, ⟨Nat.le_of_ble_eq_true rfl, Nat.le_of_ble_eq_true rfl⟩⟩ kw_253 kw_254 hx rfl rfl hl.1 rfl (Nat.le_of_ble_eq_true rfl) ⟨by show 34 + 3 * i + 0 ≤ 601024; omega, by show 35708 + 54 * i + 0 ≤ 7293034; omega⟩ dL_law_241 (fun r16 hr16 => ?_)
        obtain ⟨fo5, ho5⟩ := hLS.2.1.o
        refine lv_aload_n C0.1 C0.2.1 dL_law_244 rfl (lv_at hl 2 rfl) ?_
        refine lv_aload_n C0.1 C0.2.1 dL_law_245 rfl (lv_at hl 0 rfl) ?_
        refine lv_iload C0.1 C0.2.1 dL_law_246 (lv_at hl 4 rfl) ?_
        refine lv_iconst (v := 1) C0.1 C0.2.1 dL_law_248 (by decide) ?_
        refine lv_iadd C0.1 C0.2.1 dL_law_249 ?_
        refine me_topi (y := nI (i + 1)) (nI_add i 1) ?_
        refine va_sld C0.1 C0.2.1 hX hbl hbA hS (vp_in_nI (by omega) (by omega)) dL_law_250 ?_
        refine me_topi (y := xs (i + 1)) (by rw [nI_clamp (by omega)]) ?_
        refine me_cVwi (n := 1) C0 hml hP hS (k_X5_folded l G B0 o a w T tp fo hLS.2.1 hI hoct (xs (i + 1))) ⟨kw_610, kw_35, kw_607, ⟨by decide, by decide, by decide +kernel⟩, ⟨rfl, rfl⟩, ⟨Nat.le_of_ble_eq_true rfl, Nat.le_of_ble_eq_true rfl⟩⟩ kw_608 kw_609 ho5 rfl rfl hl.1 rfl (Nat.le_of_ble_eq_true rfl) ⟨by show 34 + 3 * i + 0 ≤ 601024; omega, by show 35708 + 54 * i + 0 ≤ 7293034; omega⟩ dL_law_251 (fun r17 w17 H locs hw17 hP hS => ?_)
        obtain ⟨hs17, hLR2, hMF2⟩ := hw17
        refine lv_icmp_eq (tgt := 659) C0.1 C0.2.1 dL_law_254 (by decide) (fun cx => ?_) (fun cx => absurd (hr16.trans hs17.symm) cx)
        exact W.widen (k := 34 + 3 * i + 12) (n := 35708 + 54 * i + 216) (by omega) (by omega) (j659 _ _ _ _ ⟨hLS.1.mf hMF2, hLR2, hLS.2.2.1.mf hMF2, hI, hoct⟩ H locs ls hP hS (lv_sub hl [0, 1, 2, 3, 4] rfl))
      · refine lv_tableIn (off := 220) (tgt := 259) C0.1 C0.2.1 dL_law_39 (by decide) (by decide) (by decide) (by decide) ?_
        refine lv_aload_n C0.1 C0.2.1 dL_law_259 rfl (lv_at hl 1 rfl) ?_
        refine lv_aload_n C0.1 C0.2.1 dL_law_260 rfl (lv_at hl 0 rfl) ?_
        refine lv_iload C0.1 C0.2.1 dL_law_261 (lv_at hl 4 rfl) ?_
        refine lv_iconst (v := 1) C0.1 C0.2.1 dL_law_263 (by decide) ?_
        refine lv_iadd C0.1 C0.2.1 dL_law_264 ?_
        refine me_topi (y := nI (i + 1)) (nI_add i 1) ?_
        refine va_sld C0.1 C0.2.1 hX hbl hbA hS (vp_in_nI (by omega) (by omega)) dL_law_265 ?_
        refine me_topi (y := xs (i + 1)) (by rw [nI_clamp (by omega)]) ?_
        refine lv_aload_n C0.1 C0.2.1 dL_law_266 rfl (lv_at hl 0 rfl) ?_
        refine lv_iload C0.1 C0.2.1 dL_law_267 (lv_at hl 4 rfl) ?_
        refine lv_iconst (v := 2) C0.1 C0.2.1 dL_law_269 (by decide) ?_
        refine lv_iadd C0.1 C0.2.1 dL_law_270 ?_
        refine me_topi (y := nI (i + 2)) (nI_add i 2) ?_
        refine va_sld C0.1 C0.2.1 hX hbl hbA hS (vp_in_nI (by omega) (by omega)) dL_law_271 ?_
        refine me_topi (y := xs (i + 2)) (by rw [nI_clamp (by omega)]) ?_
        refine lv_if_eq (tgt := 279) C0.1 C0.2.1 dL_law_272 (by decide) (fun c18 => ?_) (fun c18 => ?_)
        · refine lv_iconst (v := 0) C0.1 C0.2.1 dL_law_279 (by decide) ?_
          refine me_cVwi (n := 2) C0 hml hP hS (k_X4_put l G B0 x o ou a w T tp fo hLS (xs (i + 1)) 0 rfl rfl) ⟨kw_260, kw_31, kw_257, ⟨by decide, by decide, by decide +kernel⟩, ⟨rfl, rfl⟩, ⟨Nat.le_of_ble_eq_true rfl, Nat.le_of_ble_eq_true rfl⟩⟩ kw_258 kw_259 hx rfl rfl hl.1 rfl (Nat.le_of_ble_eq_true rfl) ⟨by show 34 + 3 * i + 9 ≤ 601024; omega, by show 35708 + 54 * i + 215 ≤ 7293034; omega⟩ dL_law_280 (fun r19 w19 H locs hw19 hP hS => ?_)
          obtain ⟨hr19, hLC1, hFD1⟩ := hw19
          have hLR1 := hLS.2.1.fd hFD1
          have hLO1 := hLS.2.2.1.fd hFD1
          obtain ⟨fo5, ho5⟩ := hLR1.o
          refine lv_aload_n C0.1 C0.2.1 dL_law_283 rfl (lv_at hl 2 rfl) ?_
          refine lv_aload_n C0.1 C0.2.1 dL_law_284 rfl (lv_at hl 0 rfl) ?_
          refine lv_iload C0.1 C0.2.1 dL_law_285 (lv_at hl 4 rfl) ?_
          refine lv_iconst (v := 1) C0.1 C0.2.1 dL_law_287 (by decide) ?_
          refine lv_iadd C0.1 C0.2.1 dL_law_288 ?_
          refine me_topi (y := nI (i + 1)) (nI_add i 1) ?_
          refine va_sld C0.1 C0.2.1 hX hbl hbA hS (vp_in_nI (by omega) (by omega)) dL_law_289 ?_
          refine me_topi (y := xs (i + 1)) (by rw [nI_clamp (by omega)]) ?_
          refine lv_aload_n C0.1 C0.2.1 dL_law_290 rfl (lv_at hl 0 rfl) ?_
          refine lv_iload C0.1 C0.2.1 dL_law_291 (lv_at hl 4 rfl) ?_
          refine lv_iconst (v := 2) C0.1 C0.2.1 dL_law_293 (by decide) ?_
          refine lv_iadd C0.1 C0.2.1 dL_law_294 ?_
          refine me_topi (y := nI (i + 2)) (nI_add i 2) ?_
          refine va_sld C0.1 C0.2.1 hX hbl hbA hS (vp_in_nI (by omega) (by omega)) dL_law_295 ?_
          refine me_topi (y := xs (i + 2)) (by rw [nI_clamp (by omega)]) ?_
          refine lv_if_eq (tgt := 303) C0.1 C0.2.1 dL_law_296 (by decide) (fun c20 => ?_) (fun c20 => ?_)
          · refine lv_iconst (v := 0) C0.1 C0.2.1 dL_law_303 (by decide) ?_
            refine me_cVwi (n := 2) C0 hml hP hS (k_X5_put l G B0 o a w19 T tp fo hLR1 hI hoct (xs (i + 1)) 0 rfl) ⟨kw_614, kw_35, kw_611, ⟨by decide, by decide, by decide +kernel⟩, ⟨rfl, rfl⟩, ⟨Nat.le_of_ble_eq_true rfl, Nat.le_of_ble_eq_true rfl⟩⟩ kw_612 kw_613 ho5 rfl rfl hl.1 rfl (Nat.le_of_ble_eq_true rfl) ⟨by show 34 + 3 * i + 9 + 0 ≤ 601024; omega, by show 35708 + 54 * i + 215 + 0 ≤ 7293034; omega⟩ dL_law_304 (fun r21 w21 H locs hw21 hP hS => ?_)
            obtain ⟨hs21, hLR2, hMF2⟩ := hw21
            refine lv_icmp_eq (tgt := 659) C0.1 C0.2.1 dL_law_307 (by decide) (fun cx => ?_) (fun cx => absurd (hr19.trans hs21.symm) cx)
            exact W.widen (k := 34 + 3 * i + 12) (n := 35708 + 54 * i + 216) (by omega) (by omega) (j659 _ _ _ _ ⟨hLC1.mf hMF2, hLR2, hLO1.mf hMF2, (sPut_ok hI hSB hoct).1, Oct.nil⟩ H locs ls hP hS (lv_sub hl [0, 1, 2, 3, 4] rfl))
          · exact absurd c18 c20
        · refine lv_iconst (v := 1) C0.1 C0.2.1 dL_law_275 (by decide) ?_
          refine lv_goto (tgt := 280) C0.1 C0.2.1 dL_law_276 (by decide) ?_
          refine me_cVwi (n := 2) C0 hml hP hS (k_X4_put l G B0 x o ou a w T tp fo hLS (xs (i + 1)) 1 rfl rfl) ⟨kw_260, kw_31, kw_257, ⟨by decide, by decide, by decide +kernel⟩, ⟨rfl, rfl⟩, ⟨Nat.le_of_ble_eq_true rfl, Nat.le_of_ble_eq_true rfl⟩⟩ kw_258 kw_259 hx rfl rfl hl.1 rfl (Nat.le_of_ble_eq_true rfl) ⟨by show 34 + 3 * i + 9 ≤ 601024; omega, by show 35708 + 54 * i + 215 ≤ 7293034; omega⟩ dL_law_280 (fun r22 w22 H locs hw22 hP hS => ?_)
          obtain ⟨hr22, hLC1, hFD1⟩ := hw22
          have hLR1 := hLS.2.1.fd hFD1
          have hLO1 := hLS.2.2.1.fd hFD1
          obtain ⟨fo5, ho5⟩ := hLR1.o
          refine lv_aload_n C0.1 C0.2.1 dL_law_283 rfl (lv_at hl 2 rfl) ?_
          refine lv_aload_n C0.1 C0.2.1 dL_law_284 rfl (lv_at hl 0 rfl) ?_
          refine lv_iload C0.1 C0.2.1 dL_law_285 (lv_at hl 4 rfl) ?_
          refine lv_iconst (v := 1) C0.1 C0.2.1 dL_law_287 (by decide) ?_
          refine lv_iadd C0.1 C0.2.1 dL_law_288 ?_
          refine me_topi (y := nI (i + 1)) (nI_add i 1) ?_
          refine va_sld C0.1 C0.2.1 hX hbl hbA hS (vp_in_nI (by omega) (by omega)) dL_law_289 ?_
          refine me_topi (y := xs (i + 1)) (by rw [nI_clamp (by omega)]) ?_
          refine lv_aload_n C0.1 C0.2.1 dL_law_290 rfl (lv_at hl 0 rfl) ?_
          refine lv_iload C0.1 C0.2.1 dL_law_291 (lv_at hl 4 rfl) ?_
          refine lv_iconst (v := 2) C0.1 C0.2.1 dL_law_293 (by decide) ?_
          refine lv_iadd C0.1 C0.2.1 dL_law_294 ?_
          refine me_topi (y := nI (i + 2)) (nI_add i 2) ?_
          refine va_sld C0.1 C0.2.1 hX hbl hbA hS (vp_in_nI (by omega) (by omega)) dL_law_295 ?_
          refine me_topi (y := xs (i + 2)) (by rw [nI_clamp (by omega)]) ?_
          refine lv_if_eq (tgt := 303) C0.1 C0.2.1 dL_law_296 (by decide) (fun c23 => ?_) (fun c23 => ?_)
          · exact absurd c23 c18
          · refine lv_iconst (v := 1) C0.1 C0.2.1 dL_law_299 (by decide) ?_
            refine lv_goto (tgt := 304) C0.1 C0.2.1 dL_law_300 (by decide) ?_
            refine me_cVwi (n := 2) C0 hml hP hS (k_X5_put l G B0 o a w22 T tp fo hLR1 hI hoct (xs (i + 1)) 1 rfl) ⟨kw_614, kw_35, kw_611, ⟨by decide, by decide, by decide +kernel⟩, ⟨rfl, rfl⟩, ⟨Nat.le_of_ble_eq_true rfl, Nat.le_of_ble_eq_true rfl⟩⟩ kw_612 kw_613 ho5 rfl rfl hl.1 rfl (Nat.le_of_ble_eq_true rfl) ⟨by show 34 + 3 * i + 9 + 0 ≤ 601024; omega, by show 35708 + 54 * i + 215 + 0 ≤ 7293034; omega⟩ dL_law_304 (fun r24 w24 H locs hw24 hP hS => ?_)
            obtain ⟨hs24, hLR2, hMF2⟩ := hw24
            refine lv_icmp_eq (tgt := 659) C0.1 C0.2.1 dL_law_307 (by decide) (fun cx => ?_) (fun cx => absurd (hr22.trans hs24.symm) cx)
            exact W.widen (k := 34 + 3 * i + 12) (n := 35708 + 54 * i + 216) (by omega) (by omega) (j659 _ _ _ _ ⟨hLC1.mf hMF2, hLR2, hLO1.mf hMF2, (sPut_ok hI hSB hoct).1, Oct.nil⟩ H locs ls hP hS (lv_sub hl [0, 1, 2, 3, 4] rfl))
      · refine lv_tableIn (off := 273) (tgt := 312) C0.1 C0.2.1 dL_law_39 (by decide) (by decide) (by decide) (by decide) ?_
        refine lv_aload_n C0.1 C0.2.1 dL_law_312 rfl (lv_at hl 1 rfl) ?_
        refine lv_aload_n C0.1 C0.2.1 dL_law_313 rfl (lv_at hl 0 rfl) ?_
        refine lv_iload C0.1 C0.2.1 dL_law_314 (lv_at hl 4 rfl) ?_
        refine lv_iconst (v := 1) C0.1 C0.2.1 dL_law_316 (by decide) ?_
        refine lv_iadd C0.1 C0.2.1 dL_law_317 ?_
        refine me_topi (y := nI (i + 1)) (nI_add i 1) ?_
        refine va_sld C0.1 C0.2.1 hX hbl hbA hS (vp_in_nI (by omega) (by omega)) dL_law_318 ?_
        refine me_topi (y := xs (i + 1)) (by rw [nI_clamp (by omega)]) ?_
        refine me_cVwi (n := 1) C0 hml hP hS (k_X4_find l G B0 x o ou a w T tp fo hLS (xs (i + 1))) ⟨kw_323, kw_31, kw_320, ⟨by decide, by decide, by decide +kernel⟩, ⟨rfl, rfl⟩, ⟨Nat.le_of_ble_eq_true rfl, Nat.le_of_ble_eq_true rfl⟩⟩ kw_321 kw_322 hx rfl rfl hl.1 rfl (Nat.le_of_ble_eq_true rfl) ⟨by show 34 + 3 * i + 0 ≤ 601024; omega, by show 35708 + 54 * i + 0 ≤ 7293034; omega⟩ dL_law_319 (fun r25 w25 H locs hw25 hP hS => ?_)
        obtain ⟨hr25, hLC1, hFD1⟩ := hw25
        have hLR1 := hLS.2.1.fd hFD1
        have hLO1 := hLS.2.2.1.fd hFD1
        obtain ⟨fo5, ho5⟩ := hLR1.o
        refine lv_aload_n C0.1 C0.2.1 dL_law_322 rfl (lv_at hl 2 rfl) ?_
        refine lv_aload_n C0.1 C0.2.1 dL_law_323 rfl (lv_at hl 0 rfl) ?_
        refine lv_iload C0.1 C0.2.1 dL_law_324 (lv_at hl 4 rfl) ?_
        refine lv_iconst (v := 1) C0.1 C0.2.1 dL_law_326 (by decide) ?_
        refine lv_iadd C0.1 C0.2.1 dL_law_327 ?_
        refine me_topi (y := nI (i + 1)) (nI_add i 1) ?_
        refine va_sld C0.1 C0.2.1 hX hbl hbA hS (vp_in_nI (by omega) (by omega)) dL_law_328 ?_
        refine me_topi (y := xs (i + 1)) (by rw [nI_clamp (by omega)]) ?_
        refine me_cVwi (n := 1) C0 hml hP hS (k_X5_find l G B0 o a w25 T tp fo hLR1 hI hoct (xs (i + 1))) ⟨kw_646, kw_35, kw_643, ⟨by decide, by decide, by decide +kernel⟩, ⟨rfl, rfl⟩, ⟨Nat.le_of_ble_eq_true rfl, Nat.le_of_ble_eq_true rfl⟩⟩ kw_644 kw_645 ho5 rfl rfl hl.1 rfl (Nat.le_of_ble_eq_true rfl) ⟨by show 34 + 3 * i + 0 ≤ 601024; omega, by show 35708 + 54 * i + 0 ≤ 7293034; omega⟩ dL_law_329 (fun r26 w26 H locs hw26 hP hS => ?_)
        obtain ⟨hs26, hLR2, hMF2⟩ := hw26
        refine lv_icmp_eq (tgt := 659) C0.1 C0.2.1 dL_law_332 (by decide) (fun cx => ?_) (fun cx => absurd (hr25.trans hs26.symm) cx)
        exact W.widen (k := 34 + 3 * i + 12) (n := 35708 + 54 * i + 216) (by omega) (by omega) (j659 _ _ _ _ ⟨hLC1.mf hMF2, hLR2, hLO1.mf hMF2, hI, Oct.nil⟩ H locs ls hP hS (lv_sub hl [0, 1, 2, 3, 4] rfl))
      · refine lv_tableIn (off := 298) (tgt := 337) C0.1 C0.2.1 dL_law_39 (by decide) (by decide) (by decide) (by decide) ?_
        refine lv_aload_n C0.1 C0.2.1 dL_law_337 rfl (lv_at hl 1 rfl) ?_
        refine lv_aload_n C0.1 C0.2.1 dL_law_338 rfl (lv_at hl 0 rfl) ?_
        refine lv_iload C0.1 C0.2.1 dL_law_339 (lv_at hl 4 rfl) ?_
        refine lv_iconst (v := 1) C0.1 C0.2.1 dL_law_341 (by decide) ?_
        refine lv_iadd C0.1 C0.2.1 dL_law_342 ?_
        refine me_topi (y := nI (i + 1)) (nI_add i 1) ?_
        refine va_sld C0.1 C0.2.1 hX hbl hbA hS (vp_in_nI (by omega) (by omega)) dL_law_343 ?_
        refine me_topi (y := xs (i + 1)) (by rw [nI_clamp (by omega)]) ?_
        refine me_cVwi (n := 1) C0 hml hP hS (k_X4_walk l G B0 x o ou a w T tp fo hLS (xs (i + 1))) ⟨kw_331, kw_31, kw_328, ⟨by decide, by decide, by decide +kernel⟩, ⟨rfl, rfl⟩, ⟨Nat.le_of_ble_eq_true rfl, Nat.le_of_ble_eq_true rfl⟩⟩ kw_329 kw_330 hx rfl rfl hl.1 rfl (Nat.le_of_ble_eq_true rfl) ⟨by show 34 + 3 * i + 0 ≤ 601024; omega, by show 35708 + 54 * i + 0 ≤ 7293034; omega⟩ dL_law_344 (fun r27 w27 H locs hw27 hP hS => ?_)
        obtain ⟨hr27, hLC1, hFD1⟩ := hw27
        have hLR1 := hLS.2.1.fd hFD1
        have hLO1 := hLS.2.2.1.fd hFD1
        obtain ⟨fo5, ho5⟩ := hLR1.o
        refine lv_aload_n C0.1 C0.2.1 dL_law_347 rfl (lv_at hl 2 rfl) ?_
        refine lv_aload_n C0.1 C0.2.1 dL_law_348 rfl (lv_at hl 0 rfl) ?_
        refine lv_iload C0.1 C0.2.1 dL_law_349 (lv_at hl 4 rfl) ?_
        refine lv_iconst (v := 1) C0.1 C0.2.1 dL_law_351 (by decide) ?_
        refine lv_iadd C0.1 C0.2.1 dL_law_352 ?_
        refine me_topi (y := nI (i + 1)) (nI_add i 1) ?_
        refine va_sld C0.1 C0.2.1 hX hbl hbA hS (vp_in_nI (by omega) (by omega)) dL_law_353 ?_
        refine me_topi (y := xs (i + 1)) (by rw [nI_clamp (by omega)]) ?_
        refine me_cVwi (n := 1) C0 hml hP hS (k_X5_walk l G B0 o a w27 T tp fo hLR1 hI hoct (xs (i + 1))) ⟨kw_650, kw_35, kw_647, ⟨by decide, by decide, by decide +kernel⟩, ⟨rfl, rfl⟩, ⟨Nat.le_of_ble_eq_true rfl, Nat.le_of_ble_eq_true rfl⟩⟩ kw_648 kw_649 ho5 rfl rfl hl.1 rfl (Nat.le_of_ble_eq_true rfl) ⟨by show 34 + 3 * i + 0 ≤ 601024; omega, by show 35708 + 54 * i + 0 ≤ 7293034; omega⟩ dL_law_354 (fun r28 w28 H locs hw28 hP hS => ?_)
        obtain ⟨hs28, hLR2, hMF2⟩ := hw28
        refine lv_icmp_eq (tgt := 659) C0.1 C0.2.1 dL_law_357 (by decide) (fun cx => ?_) (fun cx => absurd (hr27.trans hs28.symm) cx)
        exact W.widen (k := 34 + 3 * i + 12) (n := 35708 + 54 * i + 216) (by omega) (by omega) (j659 _ _ _ _ ⟨hLC1.mf hMF2, hLR2, hLO1.mf hMF2, hI, Oct.nil⟩ H locs ls hP hS (lv_sub hl [0, 1, 2, 3, 4] rfl))
      · refine lv_tableIn (off := 323) (tgt := 362) C0.1 C0.2.1 dL_law_39 (by decide) (by decide) (by decide) (by decide) ?_
        refine lv_aload_n C0.1 C0.2.1 dL_law_362 rfl (lv_at hl 1 rfl) ?_
        refine lv_aload_n C0.1 C0.2.1 dL_law_363 rfl (lv_at hl 0 rfl) ?_
        refine lv_iload C0.1 C0.2.1 dL_law_364 (lv_at hl 4 rfl) ?_
        refine lv_iconst (v := 1) C0.1 C0.2.1 dL_law_366 (by decide) ?_
        refine lv_iadd C0.1 C0.2.1 dL_law_367 ?_
        refine me_topi (y := nI (i + 1)) (nI_add i 1) ?_
        refine va_sld C0.1 C0.2.1 hX hbl hbA hS (vp_in_nI (by omega) (by omega)) dL_law_368 ?_
        refine me_topi (y := xs (i + 1)) (by rw [nI_clamp (by omega)]) ?_
        refine lv_aload_n C0.1 C0.2.1 dL_law_369 rfl (lv_at hl 0 rfl) ?_
        refine lv_iload C0.1 C0.2.1 dL_law_370 (lv_at hl 4 rfl) ?_
        refine lv_iconst (v := 2) C0.1 C0.2.1 dL_law_372 (by decide) ?_
        refine lv_iadd C0.1 C0.2.1 dL_law_373 ?_
        refine me_topi (y := nI (i + 2)) (nI_add i 2) ?_
        refine va_sld C0.1 C0.2.1 hX hbl hbA hS (vp_in_nI (by omega) (by omega)) dL_law_374 ?_
        refine me_topi (y := xs (i + 2)) (by rw [nI_clamp (by omega)]) ?_
        refine me_cVwi (n := 2) C0 hml hP hS (k_X4_move l G B0 x o ou a w T tp fo hLS (xs (i + 1)) (xs (i + 2))) ⟨kw_343, kw_31, kw_340, ⟨by decide, by decide, by decide +kernel⟩, ⟨rfl, rfl⟩, ⟨Nat.le_of_ble_eq_true rfl, Nat.le_of_ble_eq_true rfl⟩⟩ kw_341 kw_342 hx rfl rfl hl.1 rfl (Nat.le_of_ble_eq_true rfl) ⟨by show 34 + 3 * i + 0 ≤ 601024; omega, by show 35708 + 54 * i + 0 ≤ 7293034; omega⟩ dL_law_375 (fun r29 w29 H locs hw29 hP hS => ?_)
        obtain ⟨hr29, hLC1, hFD1⟩ := hw29
        have hLR1 := hLS.2.1.fd hFD1
        have hLO1 := hLS.2.2.1.fd hFD1
        obtain ⟨fo5, ho5⟩ := hLR1.o
        refine lv_aload_n C0.1 C0.2.1 dL_law_378 rfl (lv_at hl 2 rfl) ?_
        refine lv_aload_n C0.1 C0.2.1 dL_law_379 rfl (lv_at hl 0 rfl) ?_
        refine lv_iload C0.1 C0.2.1 dL_law_380 (lv_at hl 4 rfl) ?_
        refine lv_iconst (v := 1) C0.1 C0.2.1 dL_law_382 (by decide) ?_
        refine lv_iadd C0.1 C0.2.1 dL_law_383 ?_
        refine me_topi (y := nI (i + 1)) (nI_add i 1) ?_
        refine va_sld C0.1 C0.2.1 hX hbl hbA hS (vp_in_nI (by omega) (by omega)) dL_law_384 ?_
        refine me_topi (y := xs (i + 1)) (by rw [nI_clamp (by omega)]) ?_
        refine lv_aload_n C0.1 C0.2.1 dL_law_385 rfl (lv_at hl 0 rfl) ?_
        refine lv_iload C0.1 C0.2.1 dL_law_386 (lv_at hl 4 rfl) ?_
        refine lv_iconst (v := 2) C0.1 C0.2.1 dL_law_388 (by decide) ?_
        refine lv_iadd C0.1 C0.2.1 dL_law_389 ?_
        refine me_topi (y := nI (i + 2)) (nI_add i 2) ?_
        refine va_sld C0.1 C0.2.1 hX hbl hbA hS (vp_in_nI (by omega) (by omega)) dL_law_390 ?_
        refine me_topi (y := xs (i + 2)) (by rw [nI_clamp (by omega)]) ?_
        refine me_cVwi (n := 2) C0 hml hP hS (k_X5_move l G B0 o a w29 T tp fo hLR1 hI hoct (xs (i + 1)) (xs (i + 2))) ⟨kw_654, kw_35, kw_651, ⟨by decide, by decide, by decide +kernel⟩, ⟨rfl, rfl⟩, ⟨Nat.le_of_ble_eq_true rfl, Nat.le_of_ble_eq_true rfl⟩⟩ kw_652 kw_653 ho5 rfl rfl hl.1 rfl (Nat.le_of_ble_eq_true rfl) ⟨by show 34 + 3 * i + 0 ≤ 601024; omega, by show 35708 + 54 * i + 0 ≤ 7293034; omega⟩ dL_law_391 (fun r30 w30 H locs hw30 hP hS => ?_)
        obtain ⟨hs30, hLR2, hMF2⟩ := hw30
        refine lv_icmp_eq (tgt := 659) C0.1 C0.2.1 dL_law_394 (by decide) (fun cx => ?_) (fun cx => absurd (hr29.trans hs30.symm) cx)
        exact W.widen (k := 34 + 3 * i + 12) (n := 35708 + 54 * i + 216) (by omega) (by omega) (j659 _ _ _ _ ⟨hLC1.mf hMF2, hLR2, hLO1.mf hMF2, (sMov_ok hI hSB hoct).1.1, Oct.nil⟩ H locs ls hP hS (lv_sub hl [0, 1, 2, 3, 4] rfl))
      · refine lv_tableIn (off := 360) (tgt := 399) C0.1 C0.2.1 dL_law_39 (by decide) (by decide) (by decide) (by decide) ?_
        refine lv_aload_n C0.1 C0.2.1 dL_law_399 rfl (lv_at hl 1 rfl) ?_
        refine lv_aload_n C0.1 C0.2.1 dL_law_400 rfl (lv_at hl 0 rfl) ?_
        refine lv_iload C0.1 C0.2.1 dL_law_401 (lv_at hl 4 rfl) ?_
        refine lv_iconst (v := 1) C0.1 C0.2.1 dL_law_403 (by decide) ?_
        refine lv_iadd C0.1 C0.2.1 dL_law_404 ?_
        refine me_topi (y := nI (i + 1)) (nI_add i 1) ?_
        refine va_sld C0.1 C0.2.1 hX hbl hbA hS (vp_in_nI (by omega) (by omega)) dL_law_405 ?_
        refine me_topi (y := xs (i + 1)) (by rw [nI_clamp (by omega)]) ?_
        refine me_cVwi (n := 1) C0 hml hP hS (k_X4_remove l G B0 x o ou a w T tp fo hLS (xs (i + 1))) ⟨kw_364, kw_31, kw_361, ⟨by decide, by decide, by decide +kernel⟩, ⟨rfl, rfl⟩, ⟨Nat.le_of_ble_eq_true rfl, Nat.le_of_ble_eq_true rfl⟩⟩ kw_362 kw_363 hx rfl rfl hl.1 rfl (Nat.le_of_ble_eq_true rfl) ⟨by show 34 + 3 * i + 0 ≤ 601024; omega, by show 35708 + 54 * i + 0 ≤ 7293034; omega⟩ dL_law_406 (fun r31 w31 H locs hw31 hP hS => ?_)
        obtain ⟨hr31, hLC1, hFD1⟩ := hw31
        have hLR1 := hLS.2.1.fd hFD1
        have hLO1 := hLS.2.2.1.fd hFD1
        obtain ⟨fo5, ho5⟩ := hLR1.o
        refine lv_aload_n C0.1 C0.2.1 dL_law_409 rfl (lv_at hl 2 rfl) ?_
        refine lv_aload_n C0.1 C0.2.1 dL_law_410 rfl (lv_at hl 0 rfl) ?_
        refine lv_iload C0.1 C0.2.1 dL_law_411 (lv_at hl 4 rfl) ?_
        refine lv_iconst (v := 1) C0.1 C0.2.1 dL_law_413 (by decide) ?_
        refine lv_iadd C0.1 C0.2.1 dL_law_414 ?_
        refine me_topi (y := nI (i + 1)) (nI_add i 1) ?_
        refine va_sld C0.1 C0.2.1 hX hbl hbA hS (vp_in_nI (by omega) (by omega)) dL_law_415 ?_
        refine me_topi (y := xs (i + 1)) (by rw [nI_clamp (by omega)]) ?_
        refine me_cVwi (n := 1) C0 hml hP hS (k_X5_remove l G B0 o a w31 T tp fo hLR1 hI hoct (xs (i + 1))) ⟨kw_666, kw_35, kw_663, ⟨by decide, by decide, by decide +kernel⟩, ⟨rfl, rfl⟩, ⟨Nat.le_of_ble_eq_true rfl, Nat.le_of_ble_eq_true rfl⟩⟩ kw_664 kw_665 ho5 rfl rfl hl.1 rfl (Nat.le_of_ble_eq_true rfl) ⟨by show 34 + 3 * i + 0 ≤ 601024; omega, by show 35708 + 54 * i + 0 ≤ 7293034; omega⟩ dL_law_416 (fun r32 w32 H locs hw32 hP hS => ?_)
        obtain ⟨hs32, hLR2, hMF2⟩ := hw32
        refine lv_icmp_eq (tgt := 659) C0.1 C0.2.1 dL_law_419 (by decide) (fun cx => ?_) (fun cx => absurd (hr31.trans hs32.symm) cx)
        exact W.widen (k := 34 + 3 * i + 12) (n := 35708 + 54 * i + 216) (by omega) (by omega) (j659 _ _ _ _ ⟨hLC1.mf hMF2, hLR2, hLO1.mf hMF2, (sRem_ok hI hSB).1, hoct⟩ H locs ls hP hS (lv_sub hl [0, 1, 2, 3, 4] rfl))
      · refine lv_tableIn (off := 385) (tgt := 424) C0.1 C0.2.1 dL_law_39 (by decide) (by decide) (by decide) (by decide) ?_
        refine lv_aload_n C0.1 C0.2.1 dL_law_424 rfl (lv_at hl 1 rfl) ?_
        refine lv_aload_n C0.1 C0.2.1 dL_law_425 rfl (lv_at hl 0 rfl) ?_
        refine lv_iload C0.1 C0.2.1 dL_law_426 (lv_at hl 4 rfl) ?_
        refine lv_iconst (v := 1) C0.1 C0.2.1 dL_law_428 (by decide) ?_
        refine lv_iadd C0.1 C0.2.1 dL_law_429 ?_
        refine me_topi (y := nI (i + 1)) (nI_add i 1) ?_
        refine va_sld C0.1 C0.2.1 hX hbl hbA hS (vp_in_nI (by omega) (by omega)) dL_law_430 ?_
        refine me_topi (y := xs (i + 1)) (by rw [nI_clamp (by omega)]) ?_
        refine lv_aload_n C0.1 C0.2.1 dL_law_431 rfl (lv_at hl 0 rfl) ?_
        refine lv_iload C0.1 C0.2.1 dL_law_432 (lv_at hl 4 rfl) ?_
        refine lv_iconst (v := 2) C0.1 C0.2.1 dL_law_434 (by decide) ?_
        refine lv_iadd C0.1 C0.2.1 dL_law_435 ?_
        refine me_topi (y := nI (i + 2)) (nI_add i 2) ?_
        refine va_sld C0.1 C0.2.1 hX hbl hbA hS (vp_in_nI (by omega) (by omega)) dL_law_436 ?_
        refine me_topi (y := xs (i + 2)) (by rw [nI_clamp (by omega)]) ?_
        refine lv_aload_n C0.1 C0.2.1 dL_law_437 rfl (lv_at hl 3 rfl) ?_
        refine me_cSH (n := 4) C0 hE hml hP hS (k_L_about l hl0 G B0 x o ou a w T tp fo hLS (xs (i + 1)) (xs (i + 2))) kw_453 kw_30 kw_451 kw_452 ⟨by decide, by decide, by decide +kernel⟩ rfl rfl ⟨Nat.le_of_ble_eq_true rfl, Nat.le_of_ble_eq_true rfl⟩ rfl hl.1 rfl (Nat.le_of_ble_eq_true rfl) ⟨by show 34 + 3 * i + 1 ≤ 601024; omega, by show 35708 + 54 * i + 6 ≤ 7293034; omega⟩ dL_law_438 (fun r33 w33 H locs hw33 hP hS => ?_)
        rcases hw33 with ⟨hok, hr33, hLC1, hLR1, hLO1⟩ | ⟨hok, hr33, ⟨hLC1, hLR1, hLO1⟩, fj, hfj, hfv⟩
        · subst hr33
          obtain ⟨fo5, ho5⟩ := hLR1.o
          refine lv_istore (lv' := [(5, .int 1), (0, .ref b), (1, .ref x), (2, .ref o), (3, .ref ou), (4, .int (nI i))]) C0.1 C0.2.1 dL_law_441 hl (by decide) rfl (fun ls hl => ?_)
          refine lv_aload_n C0.1 C0.2.1 dL_law_443 rfl (lv_at hl 3 rfl) ?_
          refine lv_aload_n C0.1 C0.2.1 dL_law_444 rfl (lv_at hl 1 rfl) ?_
          refine lv_iload C0.1 C0.2.1 dL_law_445 (lv_at hl 5 rfl) ?_
          refine lv_iconst (v := 1) C0.1 C0.2.1 dL_law_447 (by decide) ?_
          refine lv_iadd C0.1 C0.2.1 dL_law_448 ?_
          refine me_topi (y := nI (i + 1)) (nI_add i 1) ?_
          refine va_sld C0.1 C0.2.1 hX hbl hbA hS (vp_in_nI (by omega) (by omega)) dL_law_449 ?_
          refine me_topi (y := xs (i + 1)) (by rw [nI_clamp (by omega)]) ?_
          refine lv_aload_n C0.1 C0.2.1 dL_law_450 rfl (lv_at hl 1 rfl) ?_
          refine lv_iload C0.1 C0.2.1 dL_law_451 (lv_at hl 5 rfl) ?_
          refine lv_iconst (v := 2) C0.1 C0.2.1 dL_law_453 (by decide) ?_
          refine lv_iadd C0.1 C0.2.1 dL_law_454 ?_
          refine me_topi (y := nI (i + 2)) (nI_add i 2) ?_
          refine va_sld C0.1 C0.2.1 hX hbl hbA hS (vp_in_nI (by omega) (by omega)) dL_law_455 ?_
          refine me_topi (y := xs (i + 2)) (by rw [nI_clamp (by omega)]) ?_
          refine me_cVwi (n := 2) C0 hml hP hS (k_X5_about l G B0 o a w33 T tp fo hLR1 hI hoct (xs (i + 1)) (xs (i + 2))) ⟨kw_670, kw_35, kw_667, ⟨by decide, by decide, by decide +kernel⟩, ⟨rfl, rfl⟩, ⟨Nat.le_of_ble_eq_true rfl, Nat.le_of_ble_eq_true rfl⟩⟩ kw_668 kw_669 ho5 rfl rfl hl.1 rfl (Nat.le_of_ble_eq_true rfl) ⟨by show 34 + 3 * i + 1 + 0 ≤ 601024; omega, by show 35708 + 54 * i + 6 + 0 ≤ 7293034; omega⟩ dL_law_456 (fun r34 w34 H locs hw34 hP hS => ?_)
          rcases hw34 with ⟨⟨hok2, hz2⟩ | ⟨hok2, hr2, hz2⟩, hMF2⟩
          · obtain ⟨fo6, ho6⟩ := hz2.r.o
            refine lv_istore (lv' := [(6, .int r34), (5, .int 1), (0, .ref b), (1, .ref x), (2, .ref o), (3, .ref ou), (4, .int (nI i))]) C0.1 C0.2.1 dL_law_459 hl (by decide) rfl (fun ls hl => ?_)
            refine lv_aload_n C0.1 C0.2.1 dL_law_461 rfl (lv_at hl 4 rfl) ?_
            refine me_cVi (n := 0) C0 hml hP hS (k_X5_thrown l G B0 o a w34 T _ fo 1 hz2) ⟨kw_545, kw_35, kw_542, ⟨by decide, by decide, by decide +kernel⟩, ⟨rfl, rfl⟩, ⟨Nat.le_of_ble_eq_true rfl, Nat.le_of_ble_eq_true rfl⟩⟩ kw_543 kw_544 ho6 rfl rfl hl.1 rfl (Nat.le_of_ble_eq_true rfl) ⟨by show 34 + 3 * i + 1 + 0 ≤ 601024; omega, by show 35708 + 54 * i + 6 + 0 ≤ 7293034; omega⟩ dL_law_462 (fun r35 hr35 => ?_)
            subst hr35
            refine lv_iload C0.1 C0.2.1 dL_law_465 (lv_at hl 1 rfl) ?_
            refine lv_icmp_eq (tgt := 472) C0.1 C0.2.1 dL_law_467 (by decide) (fun cx => ?_) (fun cx => absurd cx (by decide))
            refine lv_iload C0.1 C0.2.1 dL_law_472 (lv_at hl 1 rfl) ?_
            refine lv_if_ne (tgt := 489) C0.1 C0.2.1 dL_law_474 (by decide) (fun cx => ?_) (fun cx => absurd cx (by decide))
            refine lv_goto (tgt := 659) C0.1 C0.2.1 dL_law_489 (by decide) ?_
            exact W.widen (k := 34 + 3 * i + 12) (n := 35708 + 54 * i + 216) (by omega) (by omega) (j659 _ _ _ _ ⟨hLC1.mf hMF2, hz2.r, hLO1.mf hMF2, hI, hoct⟩ H locs ls hP hS (lv_sub hl [2, 3, 4, 5, 6] rfl))
          · exact absurd hok2 hok
        · subst hr33
          obtain ⟨fo5, ho5⟩ := hLR1.o
          refine lv_istore (lv' := [(5, .int 0), (0, .ref b), (1, .ref x), (2, .ref o), (3, .ref ou), (4, .int (nI i))]) C0.1 C0.2.1 dL_law_441 hl (by decide) rfl (fun ls hl => ?_)
          refine lv_aload_n C0.1 C0.2.1 dL_law_443 rfl (lv_at hl 3 rfl) ?_
          refine lv_aload_n C0.1 C0.2.1 dL_law_444 rfl (lv_at hl 1 rfl) ?_
          refine lv_iload C0.1 C0.2.1 dL_law_445 (lv_at hl 5 rfl) ?_
          refine lv_iconst (v := 1) C0.1 C0.2.1 dL_law_447 (by decide) ?_
          refine lv_iadd C0.1 C0.2.1 dL_law_448 ?_
          refine me_topi (y := nI (i + 1)) (nI_add i 1) ?_
          refine va_sld C0.1 C0.2.1 hX hbl hbA hS (vp_in_nI (by omega) (by omega)) dL_law_449 ?_
          refine me_topi (y := xs (i + 1)) (by rw [nI_clamp (by omega)]) ?_
          refine lv_aload_n C0.1 C0.2.1 dL_law_450 rfl (lv_at hl 1 rfl) ?_
          refine lv_iload C0.1 C0.2.1 dL_law_451 (lv_at hl 5 rfl) ?_
          refine lv_iconst (v := 2) C0.1 C0.2.1 dL_law_453 (by decide) ?_
          refine lv_iadd C0.1 C0.2.1 dL_law_454 ?_
          refine me_topi (y := nI (i + 2)) (nI_add i 2) ?_
          refine va_sld C0.1 C0.2.1 hX hbl hbA hS (vp_in_nI (by omega) (by omega)) dL_law_455 ?_
          refine me_topi (y := xs (i + 2)) (by rw [nI_clamp (by omega)]) ?_
          refine me_cVwi (n := 2) C0 hml hP hS (k_X5_about l G B0 o a w33 T tp fo hLR1 hI hoct (xs (i + 1)) (xs (i + 2))) ⟨kw_670, kw_35, kw_667, ⟨by decide, by decide, by decide +kernel⟩, ⟨rfl, rfl⟩, ⟨Nat.le_of_ble_eq_true rfl, Nat.le_of_ble_eq_true rfl⟩⟩ kw_668 kw_669 ho5 rfl rfl hl.1 rfl (Nat.le_of_ble_eq_true rfl) ⟨by show 34 + 3 * i + 1 + 0 ≤ 601024; omega, by show 35708 + 54 * i + 6 + 0 ≤ 7293034; omega⟩ dL_law_456 (fun r38 w38 H locs hw38 hP hS => ?_)
          rcases hw38 with ⟨⟨hok2, hz2⟩ | ⟨hok2, hr2, hz2⟩, hMF2⟩
          · exact absurd hok hok2
          · obtain ⟨fo6, ho6⟩ := hz2.r.o
            subst hr2
            have hfj2 := (hMF2 ou hLO1.2.2.1 hLO1.2.2.2).trans hfj
            refine lv_istore (lv' := [(6, .int (sAbout T 200 (xs (i + 1)) (xs (i + 2)))), (5, .int 0), (0, .ref b), (1, .ref x), (2, .ref o), (3, .ref ou), (4, .int (nI i))]) C0.1 C0.2.1 dL_law_459 hl (by decide) rfl (fun ls hl => ?_)
            refine lv_aload_n C0.1 C0.2.1 dL_law_461 rfl (lv_at hl 4 rfl) ?_
            refine me_cVi (n := 0) C0 hml hP hS (k_X5_thrown l G B0 o a w38 T _ fo 0 hz2) ⟨kw_545, kw_35, kw_542, ⟨by decide, by decide, by decide +kernel⟩, ⟨rfl, rfl⟩, ⟨Nat.le_of_ble_eq_true rfl, Nat.le_of_ble_eq_true rfl⟩⟩ kw_543 kw_544 ho6 rfl rfl hl.1 rfl (Nat.le_of_ble_eq_true rfl) ⟨by show 34 + 3 * i + 1 + 0 ≤ 601024; omega, by show 35708 + 54 * i + 6 + 0 ≤ 7293034; omega⟩ dL_law_462 (fun r39 hr39 => ?_)
            subst hr39
            refine lv_iload C0.1 C0.2.1 dL_law_465 (lv_at hl 1 rfl) ?_
            refine lv_icmp_eq (tgt := 472) C0.1 C0.2.1 dL_law_467 (by decide) (fun cx => ?_) (fun cx => absurd cx (by decide))
            refine lv_iload C0.1 C0.2.1 dL_law_472 (lv_at hl 1 rfl) ?_
            refine lv_if_ne (tgt := 489) C0.1 C0.2.1 dL_law_474 (by decide) (fun cx => absurd cx (by decide)) (fun cx => ?_)
            refine lv_aload_n C0.1 C0.2.1 dL_law_477 rfl (lv_at hl 5 rfl) ?_
            refine lv_iconst (v := 0) C0.1 C0.2.1 dL_law_478 (by decide) ?_
            refine me_lald C0 hP hfj2 (by unfold vp_in; decide) dL_law_479 ?_
            refine me_topl hfv ?_
            refine lv_iload C0.1 C0.2.1 dL_law_480 (lv_at hl 0 rfl) ?_
            refine lv_i2l C0.1 C0.2.1 dL_law_482 rfl ?_
            refine me_lcmpE C0.1 C0.2.1 dL_law_483 ?_
            refine lv_if_eq (tgt := 489) C0.1 C0.2.1 dL_law_484 (by decide) (fun cx => ?_) (fun cx => absurd cx (by decide))
            refine lv_goto (tgt := 659) C0.1 C0.2.1 dL_law_489 (by decide) ?_
            exact W.widen (k := 34 + 3 * i + 12) (n := 35708 + 54 * i + 216) (by omega) (by omega) (j659 _ _ _ _ ⟨hLC1.mf hMF2, hz2.r, hLO1.mf hMF2, hI, hoct⟩ H locs ls hP hS (lv_sub hl [2, 3, 4, 5, 6] rfl))
      · refine lv_tableIn (off := 453) (tgt := 492) C0.1 C0.2.1 dL_law_39 (by decide) (by decide) (by decide) (by decide) ?_
        refine lv_aload_n C0.1 C0.2.1 dL_law_492 rfl (lv_at hl 1 rfl) ?_
        refine lv_aload_n C0.1 C0.2.1 dL_law_493 rfl (lv_at hl 0 rfl) ?_
        refine lv_iload C0.1 C0.2.1 dL_law_494 (lv_at hl 4 rfl) ?_
        refine lv_iconst (v := 1) C0.1 C0.2.1 dL_law_496 (by decide) ?_
        refine lv_iadd C0.1 C0.2.1 dL_law_497 ?_
        refine me_topi (y := nI (i + 1)) (nI_add i 1) ?_
        refine va_sld C0.1 C0.2.1 hX hbl hbA hS (vp_in_nI (by omega) (by omega)) dL_law_498 ?_
        refine me_topi (y := xs (i + 1)) (by rw [nI_clamp (by omega)]) ?_
        refine lv_aload_n C0.1 C0.2.1 dL_law_499 rfl (lv_at hl 0 rfl) ?_
        refine lv_iload C0.1 C0.2.1 dL_law_500 (lv_at hl 4 rfl) ?_
        refine lv_iconst (v := 2) C0.1 C0.2.1 dL_law_502 (by decide) ?_
        refine lv_iadd C0.1 C0.2.1 dL_law_503 ?_
        refine me_topi (y := nI (i + 2)) (nI_add i 2) ?_
        refine va_sld C0.1 C0.2.1 hX hbl hbA hS (vp_in_nI (by omega) (by omega)) dL_law_504 ?_
        refine me_topi (y := xs (i + 2)) (by rw [nI_clamp (by omega)]) ?_
        refine me_cVi (n := 2) C0 hml hP hS (k_X4_entry l G B0 x o ou a w T tp fo hLS (xs (i + 1)) (xs (i + 2))) ⟨kw_368, kw_31, kw_365, ⟨by decide, by decide, by decide +kernel⟩, ⟨rfl, rfl⟩, ⟨Nat.le_of_ble_eq_true rfl, Nat.le_of_ble_eq_true rfl⟩⟩ kw_366 kw_367 hx rfl rfl hl.1 rfl (Nat.le_of_ble_eq_true rfl) ⟨by show 34 + 3 * i + 0 ≤ 601024; omega, by show 35708 + 54 * i + 0 ≤ 7293034; omega⟩ dL_law_505 (fun r43 hr43 => ?_)
        obtain ⟨fo5, ho5⟩ := hLS.2.1.o
        refine lv_aload_n C0.1 C0.2.1 dL_law_508 rfl (lv_at hl 2 rfl) ?_
        refine lv_aload_n C0.1 C0.2.1 dL_law_509 rfl (lv_at hl 0 rfl) ?_
        refine lv_iload C0.1 C0.2.1 dL_law_510 (lv_at hl 4 rfl) ?_
        refine lv_iconst (v := 1) C0.1 C0.2.1 dL_law_512 (by decide) ?_
        refine lv_iadd C0.1 C0.2.1 dL_law_513 ?_
        refine me_topi (y := nI (i + 1)) (nI_add i 1) ?_
        refine va_sld C0.1 C0.2.1 hX hbl hbA hS (vp_in_nI (by omega) (by omega)) dL_law_514 ?_
        refine me_topi (y := xs (i + 1)) (by rw [nI_clamp (by omega)]) ?_
        refine lv_aload_n C0.1 C0.2.1 dL_law_515 rfl (lv_at hl 0 rfl) ?_
        refine lv_iload C0.1 C0.2.1 dL_law_516 (lv_at hl 4 rfl) ?_
        refine lv_iconst (v := 2) C0.1 C0.2.1 dL_law_518 (by decide) ?_
        refine lv_iadd C0.1 C0.2.1 dL_law_519 ?_
        refine me_topi (y := nI (i + 2)) (nI_add i 2) ?_
        refine va_sld C0.1 C0.2.1 hX hbl hbA hS (vp_in_nI (by omega) (by omega)) dL_law_520 ?_
        refine me_topi (y := xs (i + 2)) (by rw [nI_clamp (by omega)]) ?_
        refine me_cVwi (n := 2) C0 hml hP hS (k_X5_entry l G B0 o a w T tp fo hLS.2.1 hI hoct (xs (i + 1)) (xs (i + 2))) ⟨kw_674, kw_35, kw_671, ⟨by decide, by decide, by decide +kernel⟩, ⟨rfl, rfl⟩, ⟨Nat.le_of_ble_eq_true rfl, Nat.le_of_ble_eq_true rfl⟩⟩ kw_672 kw_673 ho5 rfl rfl hl.1 rfl (Nat.le_of_ble_eq_true rfl) ⟨by show 34 + 3 * i + 0 ≤ 601024; omega, by show 35708 + 54 * i + 0 ≤ 7293034; omega⟩ dL_law_521 (fun r44 w44 H locs hw44 hP hS => ?_)
        obtain ⟨hs44, hLR2, hMF2⟩ := hw44
        refine lv_icmp_eq (tgt := 659) C0.1 C0.2.1 dL_law_524 (by decide) (fun cx => ?_) (fun cx => absurd (hr43.trans hs44.symm) cx)
        exact W.widen (k := 34 + 3 * i + 12) (n := 35708 + 54 * i + 216) (by omega) (by omega) (j659 _ _ _ _ ⟨hLS.1.mf hMF2, hLR2, hLS.2.2.1.mf hMF2, hI, hoct⟩ H locs ls hP hS (lv_sub hl [0, 1, 2, 3, 4] rfl))
      · refine lv_tableIn (off := 490) (tgt := 529) C0.1 C0.2.1 dL_law_39 (by decide) (by decide) (by decide) (by decide) ?_
        refine lv_aload_n C0.1 C0.2.1 dL_law_529 rfl (lv_at hl 1 rfl) ?_
        refine lv_aload_n C0.1 C0.2.1 dL_law_530 rfl (lv_at hl 0 rfl) ?_
        refine lv_iload C0.1 C0.2.1 dL_law_531 (lv_at hl 4 rfl) ?_
        refine lv_iconst (v := 1) C0.1 C0.2.1 dL_law_533 (by decide) ?_
        refine lv_iadd C0.1 C0.2.1 dL_law_534 ?_
        refine me_topi (y := nI (i + 1)) (nI_add i 1) ?_
        refine va_sld C0.1 C0.2.1 hX hbl hbA hS (vp_in_nI (by omega) (by omega)) dL_law_535 ?_
        refine me_topi (y := xs (i + 1)) (by rw [nI_clamp (by omega)]) ?_
        refine lv_aload_n C0.1 C0.2.1 dL_law_536 rfl (lv_at hl 0 rfl) ?_
        refine lv_iload C0.1 C0.2.1 dL_law_537 (lv_at hl 4 rfl) ?_
        refine lv_iconst (v := 2) C0.1 C0.2.1 dL_law_539 (by decide) ?_
        refine lv_iadd C0.1 C0.2.1 dL_law_540 ?_
        refine me_topi (y := nI (i + 2)) (nI_add i 2) ?_
        refine va_sld C0.1 C0.2.1 hX hbl hbA hS (vp_in_nI (by omega) (by omega)) dL_law_541 ?_
        refine me_topi (y := xs (i + 2)) (by rw [nI_clamp (by omega)]) ?_
        refine me_cVi (n := 2) C0 hml hP hS (k_X4_sorted l G B0 x o ou a w T tp fo hLS (xs (i + 1)) (xs (i + 2))) ⟨kw_372, kw_31, kw_369, ⟨by decide, by decide, by decide +kernel⟩, ⟨rfl, rfl⟩, ⟨Nat.le_of_ble_eq_true rfl, Nat.le_of_ble_eq_true rfl⟩⟩ kw_370 kw_371 hx rfl rfl hl.1 rfl (Nat.le_of_ble_eq_true rfl) ⟨by show 34 + 3 * i + 0 ≤ 601024; omega, by show 35708 + 54 * i + 0 ≤ 7293034; omega⟩ dL_law_542 (fun r45 hr45 => ?_)
        obtain ⟨fo5, ho5⟩ := hLS.2.1.o
        refine lv_aload_n C0.1 C0.2.1 dL_law_545 rfl (lv_at hl 2 rfl) ?_
        refine lv_aload_n C0.1 C0.2.1 dL_law_546 rfl (lv_at hl 0 rfl) ?_
        refine lv_iload C0.1 C0.2.1 dL_law_547 (lv_at hl 4 rfl) ?_
        refine lv_iconst (v := 1) C0.1 C0.2.1 dL_law_549 (by decide) ?_
        refine lv_iadd C0.1 C0.2.1 dL_law_550 ?_
        refine me_topi (y := nI (i + 1)) (nI_add i 1) ?_
        refine va_sld C0.1 C0.2.1 hX hbl hbA hS (vp_in_nI (by omega) (by omega)) dL_law_551 ?_
        refine me_topi (y := xs (i + 1)) (by rw [nI_clamp (by omega)]) ?_
        refine lv_aload_n C0.1 C0.2.1 dL_law_552 rfl (lv_at hl 0 rfl) ?_
        refine lv_iload C0.1 C0.2.1 dL_law_553 (lv_at hl 4 rfl) ?_
        refine lv_iconst (v := 2) C0.1 C0.2.1 dL_law_555 (by decide) ?_
        refine lv_iadd C0.1 C0.2.1 dL_law_556 ?_
        refine me_topi (y := nI (i + 2)) (nI_add i 2) ?_
        refine va_sld C0.1 C0.2.1 hX hbl hbA hS (vp_in_nI (by omega) (by omega)) dL_law_557 ?_
        refine me_topi (y := xs (i + 2)) (by rw [nI_clamp (by omega)]) ?_
        refine me_cVwi (n := 2) C0 hml hP hS (k_X5_sorted l G B0 o a w T tp fo hLS.2.1 hI hoct (xs (i + 1)) (xs (i + 2))) ⟨kw_678, kw_35, kw_675, ⟨by decide, by decide, by decide +kernel⟩, ⟨rfl, rfl⟩, ⟨Nat.le_of_ble_eq_true rfl, Nat.le_of_ble_eq_true rfl⟩⟩ kw_676 kw_677 ho5 rfl rfl hl.1 rfl (Nat.le_of_ble_eq_true rfl) ⟨by show 34 + 3 * i + 0 ≤ 601024; omega, by show 35708 + 54 * i + 0 ≤ 7293034; omega⟩ dL_law_558 (fun r46 w46 H locs hw46 hP hS => ?_)
        obtain ⟨hs46, hLR2, hMF2⟩ := hw46
        refine lv_icmp_eq (tgt := 659) C0.1 C0.2.1 dL_law_561 (by decide) (fun cx => ?_) (fun cx => absurd (hr45.trans hs46.symm) cx)
        exact W.widen (k := 34 + 3 * i + 12) (n := 35708 + 54 * i + 216) (by omega) (by omega) (j659 _ _ _ _ ⟨hLS.1.mf hMF2, hLR2, hLS.2.2.1.mf hMF2, hI, hoct⟩ H locs ls hP hS (lv_sub hl [0, 1, 2, 3, 4] rfl))
      · refine lv_tableIn (off := 527) (tgt := 566) C0.1 C0.2.1 dL_law_39 (by decide) (by decide) (by decide) (by decide) ?_
        refine lv_aload_n C0.1 C0.2.1 dL_law_566 rfl (lv_at hl 1 rfl) ?_
        refine lv_aload_n C0.1 C0.2.1 dL_law_567 rfl (lv_at hl 0 rfl) ?_
        refine lv_iload C0.1 C0.2.1 dL_law_568 (lv_at hl 4 rfl) ?_
        refine lv_iconst (v := 1) C0.1 C0.2.1 dL_law_570 (by decide) ?_
        refine lv_iadd C0.1 C0.2.1 dL_law_571 ?_
        refine me_topi (y := nI (i + 1)) (nI_add i 1) ?_
        refine va_sld C0.1 C0.2.1 hX hbl hbA hS (vp_in_nI (by omega) (by omega)) dL_law_572 ?_
        refine me_topi (y := xs (i + 1)) (by rw [nI_clamp (by omega)]) ?_
        refine lv_aload_n C0.1 C0.2.1 dL_law_573 rfl (lv_at hl 0 rfl) ?_
        refine lv_iload C0.1 C0.2.1 dL_law_574 (lv_at hl 4 rfl) ?_
        refine lv_iconst (v := 2) C0.1 C0.2.1 dL_law_576 (by decide) ?_
        refine lv_iadd C0.1 C0.2.1 dL_law_577 ?_
        refine me_topi (y := nI (i + 2)) (nI_add i 2) ?_
        refine va_sld C0.1 C0.2.1 hX hbl hbA hS (vp_in_nI (by omega) (by omega)) dL_law_578 ?_
        refine me_topi (y := xs (i + 2)) (by rw [nI_clamp (by omega)]) ?_
        refine lv_aload_n C0.1 C0.2.1 dL_law_579 rfl (lv_at hl 0 rfl) ?_
        refine lv_iload C0.1 C0.2.1 dL_law_580 (lv_at hl 4 rfl) ?_
        refine lv_iconst (v := 3) C0.1 C0.2.1 dL_law_582 (by decide) ?_
        refine lv_iadd C0.1 C0.2.1 dL_law_583 ?_
        refine me_topi (y := nI (i + 3)) (nI_add i 3) ?_
        refine va_sld C0.1 C0.2.1 hX hbl hbA hS (vp_in_nI (by omega) (by omega)) dL_law_584 ?_
        refine me_topi (y := xs (i + 3)) (by rw [nI_clamp (by omega)]) ?_
        refine lv_aload_n C0.1 C0.2.1 dL_law_585 rfl (lv_at hl 3 rfl) ?_
        refine me_cSH (n := 5) C0 hE hml hP hS (k_L_letter l hl0 G B0 x o ou a w T tp fo hLS (xs (i + 1)) (xs (i + 2)) (xs (i + 3))) kw_465 kw_30 kw_463 kw_464 ⟨by decide, by decide, by decide +kernel⟩ rfl rfl ⟨Nat.le_of_ble_eq_true rfl, Nat.le_of_ble_eq_true rfl⟩ rfl hl.1 rfl (Nat.le_of_ble_eq_true rfl) ⟨by show 34 + 3 * i + 1 ≤ 601024; omega, by show 35708 + 54 * i + 6 ≤ 7293034; omega⟩ dL_law_586 (fun r47 w47 H locs hw47 hP hS => ?_)
        rcases hw47 with ⟨hok, hr47, hLC1, hLR1, hLO1⟩ | ⟨hok, hr47, ⟨hLC1, hLR1, hLO1⟩, fj, hfj, hfv⟩
        · subst hr47
          obtain ⟨fo5, ho5⟩ := hLR1.o
          refine lv_istore (lv' := [(5, .int 1), (0, .ref b), (1, .ref x), (2, .ref o), (3, .ref ou), (4, .int (nI i))]) C0.1 C0.2.1 dL_law_589 hl (by decide) rfl (fun ls hl => ?_)
          refine lv_aload_n C0.1 C0.2.1 dL_law_591 rfl (lv_at hl 3 rfl) ?_
          refine lv_aload_n C0.1 C0.2.1 dL_law_592 rfl (lv_at hl 1 rfl) ?_
          refine lv_iload C0.1 C0.2.1 dL_law_593 (lv_at hl 5 rfl) ?_
          refine lv_iconst (v := 1) C0.1 C0.2.1 dL_law_595 (by decide) ?_
          refine lv_iadd C0.1 C0.2.1 dL_law_596 ?_
          refine me_topi (y := nI (i + 1)) (nI_add i 1) ?_
          refine va_sld C0.1 C0.2.1 hX hbl hbA hS (vp_in_nI (by omega) (by omega)) dL_law_597 ?_
          refine me_topi (y := xs (i + 1)) (by rw [nI_clamp (by omega)]) ?_
          refine lv_aload_n C0.1 C0.2.1 dL_law_598 rfl (lv_at hl 1 rfl) ?_
          refine lv_iload C0.1 C0.2.1 dL_law_599 (lv_at hl 5 rfl) ?_
          refine lv_iconst (v := 2) C0.1 C0.2.1 dL_law_601 (by decide) ?_
          refine lv_iadd C0.1 C0.2.1 dL_law_602 ?_
          refine me_topi (y := nI (i + 2)) (nI_add i 2) ?_
          refine va_sld C0.1 C0.2.1 hX hbl hbA hS (vp_in_nI (by omega) (by omega)) dL_law_603 ?_
          refine me_topi (y := xs (i + 2)) (by rw [nI_clamp (by omega)]) ?_
          refine lv_aload_n C0.1 C0.2.1 dL_law_604 rfl (lv_at hl 1 rfl) ?_
          refine lv_iload C0.1 C0.2.1 dL_law_605 (lv_at hl 5 rfl) ?_
          refine lv_iconst (v := 3) C0.1 C0.2.1 dL_law_607 (by decide) ?_
          refine lv_iadd C0.1 C0.2.1 dL_law_608 ?_
          refine me_topi (y := nI (i + 3)) (nI_add i 3) ?_
          refine va_sld C0.1 C0.2.1 hX hbl hbA hS (vp_in_nI (by omega) (by omega)) dL_law_609 ?_
          refine me_topi (y := xs (i + 3)) (by rw [nI_clamp (by omega)]) ?_
          refine me_cVwi (n := 3) C0 hml hP hS (k_X5_letter l G B0 o a w47 T tp fo hLR1 hI hoct (xs (i + 1)) (xs (i + 2)) (xs (i + 3))) ⟨kw_686, kw_35, kw_683, ⟨by decide, by decide, by decide +kernel⟩, ⟨rfl, rfl⟩, ⟨Nat.le_of_ble_eq_true rfl, Nat.le_of_ble_eq_true rfl⟩⟩ kw_684 kw_685 ho5 rfl rfl hl.1 rfl (Nat.le_of_ble_eq_true rfl) ⟨by show 34 + 3 * i + 1 + 0 ≤ 601024; omega, by show 35708 + 54 * i + 6 + 0 ≤ 7293034; omega⟩ dL_law_610 (fun r48 w48 H locs hw48 hP hS => ?_)
          rcases hw48 with ⟨⟨hok2, hz2⟩ | ⟨hok2, hr2, hz2⟩, hMF2⟩
          · obtain ⟨fo6, ho6⟩ := hz2.r.o
            refine lv_istore (lv' := [(6, .int r48), (5, .int 1), (0, .ref b), (1, .ref x), (2, .ref o), (3, .ref ou), (4, .int (nI i))]) C0.1 C0.2.1 dL_law_613 hl (by decide) rfl (fun ls hl => ?_)
            refine lv_aload_n C0.1 C0.2.1 dL_law_615 rfl (lv_at hl 4 rfl) ?_
            refine me_cVi (n := 0) C0 hml hP hS (k_X5_thrown l G B0 o a w48 T _ fo 1 hz2) ⟨kw_545, kw_35, kw_542, ⟨by decide, by decide, by decide +kernel⟩, ⟨rfl, rfl⟩, ⟨Nat.le_of_ble_eq_true rfl, Nat.le_of_ble_eq_true rfl⟩⟩ kw_543 kw_544 ho6 rfl rfl hl.1 rfl (Nat.le_of_ble_eq_true rfl) ⟨by show 34 + 3 * i + 1 + 0 ≤ 601024; omega, by show 35708 + 54 * i + 6 + 0 ≤ 7293034; omega⟩ dL_law_616 (fun r49 hr49 => ?_)
            subst hr49
            refine lv_iload C0.1 C0.2.1 dL_law_619 (lv_at hl 1 rfl) ?_
            refine lv_icmp_eq (tgt := 626) C0.1 C0.2.1 dL_law_621 (by decide) (fun cx => ?_) (fun cx => absurd cx (by decide))
            refine lv_iload C0.1 C0.2.1 dL_law_626 (lv_at hl 1 rfl) ?_
            refine lv_if_ne (tgt := 643) C0.1 C0.2.1 dL_law_628 (by decide) (fun cx => ?_) (fun cx => absurd cx (by decide))
            refine lv_goto (tgt := 659) C0.1 C0.2.1 dL_law_643 (by decide) ?_
            exact W.widen (k := 34 + 3 * i + 12) (n := 35708 + 54 * i + 216) (by omega) (by omega) (j659 _ _ _ _ ⟨hLC1.mf hMF2, hz2.r, hLO1.mf hMF2, hI, hoct⟩ H locs ls hP hS (lv_sub hl [2, 3, 4, 5, 6] rfl))
          · exact absurd hok2 hok
        · subst hr47
          obtain ⟨fo5, ho5⟩ := hLR1.o
          refine lv_istore (lv' := [(5, .int 0), (0, .ref b), (1, .ref x), (2, .ref o), (3, .ref ou), (4, .int (nI i))]) C0.1 C0.2.1 dL_law_589 hl (by decide) rfl (fun ls hl => ?_)
          refine lv_aload_n C0.1 C0.2.1 dL_law_591 rfl (lv_at hl 3 rfl) ?_
          refine lv_aload_n C0.1 C0.2.1 dL_law_592 rfl (lv_at hl 1 rfl) ?_
          refine lv_iload C0.1 C0.2.1 dL_law_593 (lv_at hl 5 rfl) ?_
          refine lv_iconst (v := 1) C0.1 C0.2.1 dL_law_595 (by decide) ?_
          refine lv_iadd C0.1 C0.2.1 dL_law_596 ?_
          refine me_topi (y := nI (i + 1)) (nI_add i 1) ?_
          refine va_sld C0.1 C0.2.1 hX hbl hbA hS (vp_in_nI (by omega) (by omega)) dL_law_597 ?_
          refine me_topi (y := xs (i + 1)) (by rw [nI_clamp (by omega)]) ?_
          refine lv_aload_n C0.1 C0.2.1 dL_law_598 rfl (lv_at hl 1 rfl) ?_
          refine lv_iload C0.1 C0.2.1 dL_law_599 (lv_at hl 5 rfl) ?_
          refine lv_iconst (v := 2) C0.1 C0.2.1 dL_law_601 (by decide) ?_
          refine lv_iadd C0.1 C0.2.1 dL_law_602 ?_
          refine me_topi (y := nI (i + 2)) (nI_add i 2) ?_
          refine va_sld C0.1 C0.2.1 hX hbl hbA hS (vp_in_nI (by omega) (by omega)) dL_law_603 ?_
          refine me_topi (y := xs (i + 2)) (by rw [nI_clamp (by omega)]) ?_
          refine lv_aload_n C0.1 C0.2.1 dL_law_604 rfl (lv_at hl 1 rfl) ?_
          refine lv_iload C0.1 C0.2.1 dL_law_605 (lv_at hl 5 rfl) ?_
          refine lv_iconst (v := 3) C0.1 C0.2.1 dL_law_607 (by decide) ?_
          refine lv_iadd C0.1 C0.2.1 dL_law_608 ?_
          refine me_topi (y := nI (i + 3)) (nI_add i 3) ?_
          refine va_sld C0.1 C0.2.1 hX hbl hbA hS (vp_in_nI (by omega) (by omega)) dL_law_609 ?_
          refine me_topi (y := xs (i + 3)) (by rw [nI_clamp (by omega)]) ?_
          refine me_cVwi (n := 3) C0 hml hP hS (k_X5_letter l G B0 o a w47 T tp fo hLR1 hI hoct (xs (i + 1)) (xs (i + 2)) (xs (i + 3))) ⟨kw_686, kw_35, kw_683, ⟨by decide, by decide, by decide +kernel⟩, ⟨rfl, rfl⟩, ⟨Nat.le_of_ble_eq_true rfl, Nat.le_of_ble_eq_true rfl⟩⟩ kw_684 kw_685 ho5 rfl rfl hl.1 rfl (Nat.le_of_ble_eq_true rfl) ⟨by show 34 + 3 * i + 1 + 0 ≤ 601024; omega, by show 35708 + 54 * i + 6 + 0 ≤ 7293034; omega⟩ dL_law_610 (fun r52 w52 H locs hw52 hP hS => ?_)
          rcases hw52 with ⟨⟨hok2, hz2⟩ | ⟨hok2, hr2, hz2⟩, hMF2⟩
          · exact absurd hok hok2
          · obtain ⟨fo6, ho6⟩ := hz2.r.o
            subst hr2
            have hfj2 := (hMF2 ou hLO1.2.2.1 hLO1.2.2.2).trans hfj
            refine lv_istore (lv' := [(6, .int (sLetter T (xs (i + 1)) (xs (i + 2)) (xs (i + 3)))), (5, .int 0), (0, .ref b), (1, .ref x), (2, .ref o), (3, .ref ou), (4, .int (nI i))]) C0.1 C0.2.1 dL_law_613 hl (by decide) rfl (fun ls hl => ?_)
            refine lv_aload_n C0.1 C0.2.1 dL_law_615 rfl (lv_at hl 4 rfl) ?_
            refine me_cVi (n := 0) C0 hml hP hS (k_X5_thrown l G B0 o a w52 T _ fo 0 hz2) ⟨kw_545, kw_35, kw_542, ⟨by decide, by decide, by decide +kernel⟩, ⟨rfl, rfl⟩, ⟨Nat.le_of_ble_eq_true rfl, Nat.le_of_ble_eq_true rfl⟩⟩ kw_543 kw_544 ho6 rfl rfl hl.1 rfl (Nat.le_of_ble_eq_true rfl) ⟨by show 34 + 3 * i + 1 + 0 ≤ 601024; omega, by show 35708 + 54 * i + 6 + 0 ≤ 7293034; omega⟩ dL_law_616 (fun r53 hr53 => ?_)
            subst hr53
            refine lv_iload C0.1 C0.2.1 dL_law_619 (lv_at hl 1 rfl) ?_
            refine lv_icmp_eq (tgt := 626) C0.1 C0.2.1 dL_law_621 (by decide) (fun cx => ?_) (fun cx => absurd cx (by decide))
            refine lv_iload C0.1 C0.2.1 dL_law_626 (lv_at hl 1 rfl) ?_
            refine lv_if_ne (tgt := 643) C0.1 C0.2.1 dL_law_628 (by decide) (fun cx => absurd cx (by decide)) (fun cx => ?_)
            refine lv_aload_n C0.1 C0.2.1 dL_law_631 rfl (lv_at hl 5 rfl) ?_
            refine lv_iconst (v := 0) C0.1 C0.2.1 dL_law_632 (by decide) ?_
            refine me_lald C0 hP hfj2 (by unfold vp_in; decide) dL_law_633 ?_
            refine me_topl hfv ?_
            refine lv_iload C0.1 C0.2.1 dL_law_634 (lv_at hl 0 rfl) ?_
            refine lv_i2l C0.1 C0.2.1 dL_law_636 rfl ?_
            refine me_lcmpE C0.1 C0.2.1 dL_law_637 ?_
            refine lv_if_eq (tgt := 643) C0.1 C0.2.1 dL_law_638 (by decide) (fun cx => ?_) (fun cx => absurd cx (by decide))
            refine lv_goto (tgt := 659) C0.1 C0.2.1 dL_law_643 (by decide) ?_
            exact W.widen (k := 34 + 3 * i + 12) (n := 35708 + 54 * i + 216) (by omega) (by omega) (j659 _ _ _ _ ⟨hLC1.mf hMF2, hz2.r, hLO1.mf hMF2, hI, hoct⟩ H locs ls hP hS (lv_sub hl [2, 3, 4, 5, 6] rfl))
      · refine lv_tableIn (off := 607) (tgt := 646) C0.1 C0.2.1 dL_law_39 (by decide) (by decide) (by decide) (by decide) ?_
        refine lv_aload_n C0.1 C0.2.1 dL_law_646 rfl (lv_at hl 1 rfl) ?_
        refine me_cVi (n := 0) C0 hml hP hS (k_X4_nodes l G B0 x o ou a w T tp fo hLS ) ⟨kw_376, kw_31, kw_373, ⟨by decide, by decide, by decide +kernel⟩, ⟨rfl, rfl⟩, ⟨Nat.le_of_ble_eq_true rfl, Nat.le_of_ble_eq_true rfl⟩⟩ kw_374 kw_375 hx rfl rfl hl.1 rfl (Nat.le_of_ble_eq_true rfl) ⟨by show 34 + 3 * i + 0 ≤ 601024; omega, by show 35708 + 54 * i + 0 ≤ 7293034; omega⟩ dL_law_647 (fun r57 hr57 => ?_)
        obtain ⟨fo5, ho5⟩ := hLS.2.1.o
        refine lv_aload_n C0.1 C0.2.1 dL_law_650 rfl (lv_at hl 2 rfl) ?_
        refine me_cVwi (n := 0) C0 hml hP hS (k_X5_nodes l G B0 o a w T tp fo hLS.2.1 hI hoct ) ⟨kw_690, kw_35, kw_687, ⟨by decide, by decide, by decide +kernel⟩, ⟨rfl, rfl⟩, ⟨Nat.le_of_ble_eq_true rfl, Nat.le_of_ble_eq_true rfl⟩⟩ kw_688 kw_689 ho5 rfl rfl hl.1 rfl (Nat.le_of_ble_eq_true rfl) ⟨by show 34 + 3 * i + 0 ≤ 601024; omega, by show 35708 + 54 * i + 0 ≤ 7293034; omega⟩ dL_law_651 (fun r58 w58 H locs hw58 hP hS => ?_)
        obtain ⟨hs58, hLR2, hMF2⟩ := hw58
        refine lv_icmp_eq (tgt := 659) C0.1 C0.2.1 dL_law_654 (by decide) (fun cx => ?_) (fun cx => absurd (hr57.trans hs58.symm) cx)
        exact W.widen (k := 34 + 3 * i + 12) (n := 35708 + 54 * i + 216) (by omega) (by omega) (j659 _ _ _ _ ⟨hLS.1.mf hMF2, hLR2, hLS.2.2.1.mf hMF2, hI, hoct⟩ H locs ls hP hS (lv_sub hl [0, 1, 2, 3, 4] rfl))
      · refine lv_tableOut (tgt := 659) C0.1 C0.2.1 dL_law_39 (by decide) (by decide) ?_
        exact W.widen (k := 34 + 3 * i + 12) (n := 35708 + 54 * i + 216) (by omega) (by omega) (j659 _ _ _ _ hLS H locs ls hP hS (lv_sub hl [0, 1, 2, 3, 4] rfl))
      · refine lv_tableOut (tgt := 659) C0.1 C0.2.1 dL_law_39 (by decide) (by decide) ?_
        exact W.widen (k := 34 + 3 * i + 12) (n := 35708 + 54 * i + 216) (by omega) (by omega) (j659 _ _ _ _ hLS H locs ls hP hS (lv_sub hl [0, 1, 2, 3, 4] rfl))
