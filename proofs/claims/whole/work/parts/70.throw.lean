/-! THE OCTETS THAT THE CLASS TAKES -/
theorem b255_64 (j : Nat) : (255 : Int64).toBitVec.getLsbD j = decide (j < 8) := by
  show (255#64).getLsbD j = decide (j < 8)
  by_cases h : j < 8
  · rcases (show j = 0 ∨ j = 1 ∨ j = 2 ∨ j = 3 ∨ j = 4 ∨ j = 5 ∨ j = 6 ∨ j = 7 by omega) with rfl | rfl | rfl | rfl | rfl | rfl | rfl | rfl <;> decide
  · rw [decide_eq_false h]
    rw [← BitVec.testBit_toNat]
    exact Nat.testBit_lt_two_pow (Nat.lt_of_lt_of_le (show (255#64).toNat < 2 ^ 8 by decide) (Nat.pow_le_pow_right (by omega) (by omega)))
theorem b255_32 (j : Nat) : (255 : Int32).toBitVec.getLsbD j = decide (j < 8) := by
  show (255#32).getLsbD j = decide (j < 8)
  by_cases h : j < 8
  · rcases (show j = 0 ∨ j = 1 ∨ j = 2 ∨ j = 3 ∨ j = 4 ∨ j = 5 ∨ j = 6 ∨ j = 7 by omega) with rfl | rfl | rfl | rfl | rfl | rfl | rfl | rfl <;> decide
  · rw [decide_eq_false h]
    rw [← BitVec.testBit_toNat]
    exact Nat.testBit_lt_two_pow (Nat.lt_of_lt_of_le (show (255#32).toNat < 2 ^ 8 by decide) (Nat.pow_le_pow_right (by omega) (by omega)))
theorem sh_64 {i : Nat} (hi : i < 8) : ((((nI (8 * i)).toInt64 &&& 63 : Int64).toBitVec.smod 64)).toNat = 8 * i ∧ ((nI (8 * i)).toInt64.toUInt64 &&& Int64.toUInt64 63).toNat % 64 = 8 * i := by
  rcases (show i = 0 ∨ i = 1 ∨ i = 2 ∨ i = 3 ∨ i = 4 ∨ i = 5 ∨ i = 6 ∨ i = 7 by omega) with rfl | rfl | rfl | rfl | rfl | rfl | rfl | rfl <;> decide
theorem octR_bit (oc : Int64) (i : Nat) (hi : i < 8) (j : Nat) (hj : j < 32) : (octR oc i).toBitVec.getLsbD j = (decide (j < 8) && oc.toBitVec.getLsbD (8 * i + j)) := by
  unfold octR
  simp only [Int64.toBitVec_toInt32, Int64.toBitVec_and, Int64.toBitVec_shiftRight]
  rw [BitVec.signExtend_eq_setWidth_of_le _ (by omega)]
  rw [BitVec.getLsbD_setWidth, BitVec.getLsbD_and, b255_64, decide_eq_true hj, Bool.true_and]
  by_cases h : j < 8
  · rw [decide_eq_true h, Bool.and_true, Bool.true_and, BitVec.sshiftRight_eq', BitVec.getLsbD_sshiftRight]
    have e := (sh_64 hi).1
    rw [Int64.toBitVec_and] at e
    rw [e, decide_eq_false (by omega), if_pos (by omega)]; rfl
  · rw [decide_eq_false h, Bool.and_false, Bool.false_and]
theorem octU (oc : Int64) (i : Nat) (hi : i < 8) : ((oc.toUInt64 >>> ((nI (8 * i)).toInt64.toUInt64 &&& Int64.toUInt64 63)).toInt64.toInt32 &&& 255) = octR oc i := by
  apply Int32.toBitVec_inj.mp
  apply BitVec.eq_of_getLsbD_eq
  intro j hj
  rw [octR_bit oc i hi j hj]
  rw [Int32.toBitVec_and, BitVec.getLsbD_and, b255_32]
  by_cases h : j < 8
  · rw [decide_eq_true h, Bool.and_true, Bool.true_and, Int64.toBitVec_toInt32]
    rw [BitVec.signExtend_eq_setWidth_of_le _ (by omega), BitVec.getLsbD_setWidth, decide_eq_true hj, Bool.true_and]
    show (oc.toUInt64 >>> ((nI (8 * i)).toInt64.toUInt64 &&& Int64.toUInt64 63)).toBitVec.getLsbD j = _
    rw [UInt64.toBitVec_shiftRight, BitVec.ushiftRight_eq', BitVec.getLsbD_ushiftRight]
    have e := (sh_64 hi).2
    rw [show (((nI (8 * i)).toInt64.toUInt64 &&& Int64.toUInt64 63).toBitVec % 64).toNat = 8 * i from e]; rfl
  · rw [decide_eq_false h, Bool.and_false, Bool.false_and]
theorem octR_n (oc : Int64) (i : Nat) (hi : i < 8) : ∃ n : Nat, n < 256 ∧ octR oc i = nI n := by
  refine ⟨(octR oc i).toBitVec.toNat, ?_, ?_⟩
  · apply Nat.lt_pow_two_of_testBit (n := 8)
    intro j hj
    rw [BitVec.testBit_toNat]
    by_cases h : j < 32
    · rw [octR_bit oc i hi j h, decide_eq_false (by omega)]; rfl
    · exact BitVec.getLsbD_of_ge _ _ (by omega)
  · apply Int32.toBitVec_inj.mp
    show (octR oc i).toBitVec = BitVec.ofNat 32 _
    rw [BitVec.ofNat_toNat, BitVec.setWidth_eq]

theorem octsR_s (oc : Int64) (m : Nat) : octsR oc (m + 1) = octsR oc m ++ [octR oc m] := by simp [octsR, List.range_succ]
theorem Oct.app {xs ys : List Int32} (h : Oct xs) (h2 : Oct ys) : Oct (xs ++ ys) := by
  intro i hi
  by_cases q : i < xs.length
  · rw [List.getD_eq_getElem?_getD, List.getElem?_append_left q, ← List.getD_eq_getElem?_getD]; exact h i q
  · rw [List.length_append] at hi
    rw [List.getD_eq_getElem?_getD, List.getElem?_append_right (by omega), ← List.getD_eq_getElem?_getD]; exact h2 _ (by omega)
theorem Oct.octs {oc : Int64} {m : Nat} (h : m ≤ 8) : Oct (octsR oc m) := by
  intro i hi
  rw [octsR_len] at hi
  rw [octsR_get hi]; exact octR_n oc i (by omega)
theorem Oct.nil : Oct [] := fun i hi => absurd hi (Nat.not_lt_zero i)
/-! A METHOD THAT THROWS -/
def EXN : String := "java/lang/IllegalArgumentException"
def EXS : List String := ["java/lang/RuntimeException", "java/lang/Exception"]
/-- the words of the throw that don't stay of themselves -/
def me_N : List Cond := [.castable EXN EXN, .declares (Bundle.initS "java/lang/RuntimeException"), .declares (Bundle.initS "java/lang/Exception"), .declares (Bundle.initS Bundle.tN)]
def me_E (U : State) : Prop := va_Nw (.castable EXN EXN) U ∧ va_Nw (.declares (Bundle.initS "java/lang/RuntimeException")) U ∧ va_Nw (.declares (Bundle.initS "java/lang/Exception")) U ∧ va_Nw (.declares (Bundle.initS Bundle.tN)) U
theorem me_E.warm {s U : State} (hW : s.WarmedH U.vm) (h : me_E s) : me_E U := ⟨va_Nw.warmC hW h.1, va_Nw.warmD hW h.2.1, va_Nw.warmD hW h.2.2.1, va_Nw.warmD hW h.2.2.2⟩
theorem me_E.same {u U : State} (hv : u.vm = U.vm) (h : me_E u) : me_E U := ⟨va_Nw.same rfl hv h.1, va_Nw.same rfl hv h.2.1, va_Nw.same rfl hv h.2.2.1, va_Nw.same rfl hv h.2.2.2⟩
theorem me_E.all {s : State} {args : Array Value} (h : me_E s) : ∀ w ∈ me_N, w.before args s = true := vx_c (va_Nw.use rfl h.1) (vx_c (va_Nw.use rfl h.2.1) (vx_c (va_Nw.use rfl h.2.2.1) (vx_c (va_Nw.use rfl h.2.2.2) vx_n)))
set_option maxRecDepth 100000 in
theorem ex_in : ∀ w ∈ (vx_atS RX4 43 EXN EXS).filter goodWord, w ∈ tbG := by decide +kernel
set_option maxRecDepth 100000 in
theorem ex_no : ∀ w ∈ (vx_atS RX4 43 EXN EXS).filter (fun w => !goodWord w), w ∈ me_N := by decide +kernel
set_option maxRecDepth 100000 in
theorem ex_ot : ∀ w ∈ Cond.classLink RX4 39 EXN :: Cond.initialized EXN :: vx_atS RX4 43 EXN EXS, vx_ot w = true := by decide +kernel
set_option maxRecDepth 100000 in
theorem ex_cl : Cond.classLink RX4 39 EXN ∈ tbG ∧ Cond.initialized EXN ∈ tbG := by decide +kernel
abbrev me_XC (G : me_G) (B : Nat) (w : Me) (px : Prop) : String → State → State → Prop := vx_X (fun w' : Me => px ∧ w' = w) (fun E w' t => E = EXN ∧ me_P G.1 w' t.heap) (me_A B)
/-- a method that answers a number, or throws and leaves all as it was -/
abbrev CtX (l : Launch) (y : MethodName) (cd : Cond) (rm : Room) (G : me_G) (B : Nat) (w : Me) (av : List Value) (post : Int32 → Me → Prop) (px : Prop) (mc ms : Nat) : Prop := vx_Met l y (cd :: tbG) rm (va_Pc av (fun U => me_B G B w U ∧ me_E U)) (va_Qi post (me_W G) (me_A B)) (me_XC G B w px) mc ms (me_A B)
theorem me_Bx {G : me_G} {B : Nat} {w : Me} {av : List Value} : FrameBlind (va_Pc av (fun U => me_B G B w U ∧ me_E U)) := fun a U g mk q => ⟨q.1, ⟨va_K.moved (u := U) (U := U.calling g mk a) (Vm.Alike.refl U.vm) q.2.1.1, q.2.1.2.1, q.2.1.2.2.1.blind, q.2.1.2.2.2⟩, q.2.2.same rfl⟩
theorem me_P.kept {D : va_G} {w : Me} {H H1 : Heap} (h : me_P D w H) (hk : ∀ q : Nat, q < H.size → H1[q]? = H[q]?) : me_P D w H1 := fun a e he => (h a e he).kept (hk a (me_lt h he))
section MX
variable {p : Program} {l : Launch} {e : Env} {R : Room} {s : State} {m : MethodId} {args : Array Value} {below : List Frame} {meth : Method} {c : Code} {H : Heap} {locs : List Loc} {cells slots : Nat}
variable {cc : ByteArray} {pc : Nat} {ls : Array Slot} {rest : List Value} {G : me_G} {w : Me} {B : Nat}
theorem me_throw {post : Int32 → Me → Prop} {px : Prop} {mc ms is sa : Nat} {text : String} (C0 : Cx G B p s m args c cc RX4) (hE : me_E s) (hl0 : l.stackTraces = false) (hsz : ls.size = c.maxLocals) (hP : me_P G.1 w H) (hS : va_S (me_A B) s.heap H locs) (hpx : px) (hstr : vk_R RX4 is text sa s) (hout : ∀ x ∈ c.exceptionTable.toList, False) (hlocks : meth.locks = false)
    (hRf : 5 < R.frames) (hRl : (rest.map fun v => v.category).sum + 82 ≤ R.locals) (hRc : cells + 1 ≤ R.cells) (hRs : slots + 6 ≤ R.slots) (hc : cells + 1 ≤ mc) (hs : slots + 6 ≤ ms)
    (d0 : decode cc pc = .ok (.new 39, 3)) (d3 : decode cc (pc + 3) = .ok (.dup, 1)) (d4 : decode cc (pc + 4) = .ok (.ldc is, 2)) (d6 : decode cc (pc + 6) = .ok (.invokespecial 43, 3)) (d9 : decode cc (pc + 9) = .ok (.athrow, 1)) :
    W p l e R s m args below meth c H locs cells slots (vx_MQ below (va_Qi post (me_W G) (me_A B)) (me_XC G B w px) args s mc ms (me_A B)) (F0 m pc ls rest) :=
  vx_throwS (own := RX4) (cls := EXN) (names := EXS) (ik := 39) (ic := 43) (A := me_A B) C0.1 C0.2.1 hl0 C0.2.2.1 (by decide) (by decide) (C0.2.2.2.1 _ ex_cl.1) (C0.2.2.2.1 _ ex_cl.2) hstr (vx_hat (fun w hw => C0.2.2.2.1 _ (ex_in w hw)) ex_no hE.all) ex_ot C0.2.2.2.2.2.1.2.2.2.2.1 C0.2.2.2.2.2.1.2.2.2.2.2 hS hsz d0 d3 d4 d6 d9 (fun x hx => (hout x hx).elim) hRf hRl hRc hRs hlocks
    (fun t _ hz hk => ⟨w, ⟨hpx, rfl⟩, ⟨rfl, hP.kept hk⟩, Nat.le_trans hS.1 hz, fun q h1 h2 => (hk q (Nat.lt_of_lt_of_le h1 hS.1)).trans (hS.2.1 q h1 h2)⟩) hS.2.2 hc hs
end MX
