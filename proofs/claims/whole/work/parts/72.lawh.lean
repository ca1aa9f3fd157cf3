/-! THE LAW'S HELPERS: a call that may throw, its catch -/
section Catch
variable {p : Program} {l : Launch} {e : Env} {R : Room} {s : State} {m : MethodId} {args : Array Value} {below : List Frame} {meth : Method} {c : Code} {H : Heap} {locs : List Loc} {cells slots : Nat} {Q : State → Prop}
variable {pc : Nat} {ls : Array Slot} {rest : List Value}
theorem vx_catch {own name : String} {E : String} {ce : Cell} {q : Addr} (hown : s.vm.findClass own = some m.cls) (pre : List ExceptionTableEntry) (x : ExceptionTableEntry) (suf : List ExceptionTableEntry) (hsplit : c.exceptionTable.toList = pre ++ x :: suf)
    (hpass : ∀ z ∈ pre, covers z pc = false ∨ (z.catchType ≠ 0 ∧ ∃ nm : String, (Cond.classLink own z.catchType nm).before args s = true ∧ va_Nc E nm s)) (hx : covers x pc = true) (h0 : x.catchType ≠ 0)
    (hlink : (Cond.classLink own x.catchType name).before args s = true) (hcast : (Cond.castable E name).before args s = true) (hcell : H[q]? = some ce) (hv : ce.vm = .none) (hcl : s.vm.findClass E = some ce.cls)
    (kk : W p l e R s m args below meth c H locs cells slots Q (F0 m x.handlerPc ls [.ref q])) : vx_W p l e R s m args below meth c H locs cells slots Q (F0 m pc ls rest) q := by
  intro T hT X
  have hpl : e.platform.magicAccessors = ({} : Platform).magicAccessors := by rw [X.admits.platform]
  obtain ⟨c3, c4, hc3, hc4, hasg⟩ := Cond.castable_spec hcast
  cases Option.some.inj (hc3.symm.trans hcl)
  obtain ⟨c5, hc5, hcl5⟩ := Cond.classLink_spec hown hlink e.platform hpl
  cases Option.some.inj (hc4.symm.trans hc5)
  obtain ⟨vm', X', st⟩ := Stand.thenCaughtThrough X q (g := F0 m pc ls rest) rfl (Steps.refl _) (by rw [hT]; exact hcell) (by rw [hv]; rfl) (by obtain ⟨k9, h9, -⟩ := Vm.findClass_spec hcl; exact ⟨k9, h9⟩) pre x suf hsplit
    (fun z hz => by
      rcases hpass z hz with h | ⟨hz0, nm, hl1, hn1⟩
      · exact Or.inl h
      · obtain ⟨c6, hc6, hcl6⟩ := Cond.classLink_spec hown hl1 e.platform hpl
        obtain ⟨a8, b8, h1, h2, h3⟩ := hn1
        cases Option.some.inj (h1.symm.trans hcl)
        cases Option.some.inj (h2.symm.trans hc6)
        exact Or.inr ⟨hz0, _, hcl6, h3⟩) hx (Or.inr ⟨h0, c4, hcl5, hasg⟩)
  obtain ⟨t, a1, b1⟩ := kk (T.setVm vm') hT X'
  exact ⟨t, st.trans a1, b1⟩
end Catch
theorem me_ofWH {l : Launch} {y : MethodName} {ws ws' : List Cond} {rm : Room} {Pc : Array Value → State → Prop} {Qc : Array Value → State → Outcome → State → Prop} {mc ms : Nat} {free : Addr → Prop} {cc : ByteArray} {maxL : Nat} {ret : Option FieldType} {hh : List (Nat × Nat × Nat × Nat)}
    (hy : plainName y.cls = true) (hw : ws = Cond.codeWith y cc maxL ret hh :: ws')
    (body : ∀ p e s m args below meth c s₁, BodyLoose p l y (headSpec ws rm) cc maxL ret e s m args below meth c s₁ → c.maxLocals = maxL → Pc args s →
      W p l e (headSpec ws rm).room s m args below meth c s.heap [] 0 0 (MQ below Qc args s mc ms free) (entryFrame m args maxL)) : Met l y ws rm Pc Qc mc ms free := by
  refine MetFree.of_bodyS (code := cc) (maxLocals := maxL) (ret := ret) hy ?_ ?_
  · intro args s m h hn
    obtain ⟨m9, meth, c, hn9, h1, h2, h3, h4, -, h5, h6, -⟩ := Cond.codeWith_spec (atoms_spec (ws := ws) h _ (by rw [hw]; exact List.mem_cons_self))
    cases hn.symm.trans hn9
    exact ⟨meth, c, h1, h2, h3, h4, h5, h6⟩
  · intro p e s m args below meth c s₁ B hml hP _
    have hh0 : s₁.heap = s.heap := by rw [B.state]; rfl
    obtain ⟨t, a1, o, b1, b2, b3⟩ := body p e s m args below meth c s₁ B hml hP s₁ hh0 (Stand.of_body B)
    exact ⟨t, o, a1, b1, b2, b3⟩
/-- a helper's contract -/
abbrev CtH (l : Launch) (y : MethodName) (cd : Cond) (rm : Room) (G : me_G) (B : Nat) (w : Me) (av : List Value) (post : Int32 → Me → Prop) (mc ms : Nat) : Prop := Met l y (cd :: tbG) rm (va_Pc av (fun U => me_B G B w U ∧ me_E U)) (va_Qi post (me_W G) (me_A B)) mc ms (me_A B)
section MCX
variable {p : Program} {l : Launch} {e : Env} {R : Room} {s : State} {m : MethodId} {args : Array Value} {below : List Frame} {meth : Method} {c : Code} {H : Heap} {locs : List Loc} {cells slots : Nat} {Q : State → Prop}
variable {cc : ByteArray} {pc : Nat} {ls : Array Slot} {rest st0 As : List Value} {G : me_G} {w : Me} {b B : Nat} {own : String}
variable {y : MethodName} {bytes : ByteArray} {maxL nL n index mc ms : Nat} {ret : Option FieldType} {rm : Room}
theorem me_cVx {post : Int32 → Me → Prop} {px : Prop} (C0 : Cx G B p s m args c cc own) (hE : me_E s) (hml : c.maxLocals = nL) (hP : me_P G.1 w H) (hS : va_S (me_A B) s.heap H locs) (hM : CtX l y (Cond.code y bytes maxL ret) rm G B w (.ref b :: As) post px mc ms) (hC : Cl R own index y bytes maxL ret rm mc ms n) (hi : Cond.instanceMethod y ∈ tbG) (hse : Cond.selects y.cls y y ∈ tbG) {ci : Nat} {fs : List Value} {q : u_T × Nat} (he : w b = some (.inr (ci, fs))) (hc : vwCl[ci]? = some (y.cls, q)) (hn : As.length = n) (hls : ls.size = nL) (hst : st0 = As.reverse ++ .ref b :: rest) (hr : (rest.map fun v => v.category).sum ≤ 8) (hf : cells + mc ≤ R.cells ∧ slots + ms ≤ R.slots) (hdg : decode cc pc = .ok (.invokevirtual index, 3))
    (kx : ∀ (ce : Cell) (q9 : Addr) (H : Heap) (locs : List Loc), px → me_P G.1 w H → va_S (me_A B) s.heap H locs → H[q9]? = some ce → ce.vm = .none → s.vm.findClass EXN = some ce.cls → vx_W p l e R s m args below meth c H locs (cells + mc) (slots + ms) Q (F0 m pc ls rest) q9)
    (kk : ∀ (r : Int32) (w : Me) (H : Heap) (locs : List Loc), post r w → me_P G.1 w H → va_S (me_A B) s.heap H locs → W p l e R s m args below meth c H locs (cells + mc) (slots + ms) Q (F0 m (pc + 3) ls (.int r :: rest))) : W p l e R s m args below meth c H locs cells slots Q (F0 m pc ls st0) :=
  vx_calli (vx_runV (C := y.cls) (g := F0 m pc ls st0) (me_fix C0 hml) hM ⟨me_callB C0 hC, C0.2.2.2.1 _ hi, C0.2.2.2.1 _ hse⟩ ⟨me_Bx, me_recv C0 hP he hc, fun U hU hW => ⟨rfl, ⟨me_K.moved hW.alike C0.2.2.2.2.1, by rw [hU]; exact hP, C0.2.2.2.2.2.1.go hS hU hW, by rw [hU]; exact Nat.le_trans C0.2.2.2.2.2.2 hS.1⟩, hE.warm hW⟩⟩ rfl hn hls hst (lv_room (rest := st0) hr) hdg hf) hS (fun _ _ h => h) (fun _ h => h) (fun _ _ h => h)
    (fun E ce q9 u t H1 locs1 ht _ hp hb _ _ hS1 hc1 hc2 hc3 => by
      obtain ⟨hpx, rfl⟩ := hp
      obtain ⟨rfl, hb⟩ := hb
      exact kx ce q9 H1 locs1 hpx (by rw [← ht]; exact hb) hS1 hc1 hc2 hc3)
    (fun r u t H1 locs1 ht _ hp hb _ _ hS1 => kk r u H1 locs1 hp (by rw [← ht]; exact hb) hS1)
theorem me_cSH {hh : List (Nat × Nat × Nat × Nat)} {post : Int32 → Me → Prop} (C0 : Cx G B p s m args c cc own) (hE : me_E s) (hml : c.maxLocals = nL) (hP : me_P G.1 w H) (hS : va_S (me_A B) s.heap H locs) (hM : CtH l y (Cond.codeWith y bytes maxL ret hh) rm G B w As post mc ms) (hcw : Cond.codeWith y bytes maxL ret hh ∈ tbG) (hi : Cond.initialized y.cls ∈ tbG) (hk : Cond.methodLink own index y ∈ tbG) (hs : Cond.static y ∈ tbG) (hd : y.cls ≠ "java/lang/invoke/MethodHandle" ∧ y.cls ≠ "java/lang/invoke/VarHandle" ∧ (parseMethodDescriptor y.desc).map (fun d => d.parameters.length) = some n) (hrc : rm.cells = mc) (hrs : rm.slots = ms) (hR : rm.frames + 1 ≤ R.frames ∧ 8 + (maxL + 11) + rm.locals ≤ R.locals) (hn : As.length = n) (hls : ls.size = nL) (hst : st0 = As.reverse ++ rest) (hr : (rest.map fun v => v.category).sum ≤ 8) (hf : cells + mc ≤ R.cells ∧ slots + ms ≤ R.slots) (hdg : decode cc pc = .ok (.invokestatic index, 3))
    (kk : ∀ (r : Int32) (w : Me) (H : Heap) (locs : List Loc), post r w → me_P G.1 w H → va_S (me_A B) s.heap H locs → W p l e R s m args below meth c H locs (cells + mc) (slots + ms) Q (F0 m (pc + 3) ls (.int r :: rest))) : W p l e R s m args below meth c H locs cells slots Q (F0 m pc ls st0) := by
  have hg : GoodIn tbG (va_wsS own index y (Cond.codeWith y bytes maxL ret hh :: tbG)) := fun w hw => by
    have h1 : w ∈ tbG := by
      simp only [va_wsS, List.cons_append, List.nil_append, List.mem_cons] at hw
      rcases hw with rfl | rfl | rfl | rfl | hw
      · exact hk
      · exact hs
      · exact hi
      · exact hcw
      · exact hw
    exact ⟨h1, tb_good h1⟩
  exact va_calli (vx_runSW (g := F0 m pc ls st0) (me_fix C0 hml) hM (vx_cwSW n C0.2.2.2.1 hg rfl hrc hrs hd hR) ⟨me_Bx, fun U hU hW => ⟨rfl, ⟨me_K.moved hW.alike C0.2.2.2.2.1, by rw [hU]; exact hP, C0.2.2.2.2.2.1.go hS hU hW, by rw [hU]; exact Nat.le_trans C0.2.2.2.2.2.2 hS.1⟩, hE.warm hW⟩⟩ rfl hn hls hst (lv_room (rest := st0) hr) hdg hf) hS (fun _ _ h => h) (fun _ h => h) (fun r u t H1 locs1 ht _ hp hb _ _ hS1 => kk r u H1 locs1 hp (by rw [← ht]; exact hb) hS1)
end MCX

set_option maxHeartbeats 4000000 in
set_option maxRecDepth 100000 in
/-- the law's feed -/
theorem c_L_feed (l : Launch) (G : me_G) (B0 : Nat) (w : Me) (x ou : Nat) (fs : List Value) (fj : Nat → Int64) (hx : w x = some (eO 2 fs)) (hou : w ou = some (eJ G 1 fj)) (hBou : B0 ≤ ou) (nn : Int32) (oc : Int64) (pt : Int32 → Me → Prop) (px : Prop) (hM : CtX l yX4_feed (Cond.code yX4_feed cX4_feed 5 (some .int)) ({ frames := 6, cells := 1, slots := 6, locals := 82 }) G B0 w [.ref x, .int nn, .long oc] pt px 1 6) (hpt : ∀ r w', pt r w' → w' ou = w ou) : CtH l yL_feed (Cond.codeWith yL_feed cL_feed 6 (some .int) [(0, 11, 14, 13)]) ({ frames := 7, cells := 1, slots := 6, locals := 106 }) G B0 w [.ref x, .int nn, .long oc, .ref ou] (fun r w' => (r = 1 ∧ px ∧ w' = w) ∨ (r = 0 ∧ ∃ (rr : Int32) (wm : Me), pt rr wm ∧ w' = me_u wm ou (eJ G 1 (vp_updL fj (0 : Int32).toNatClampNeg rr.toInt64)))) 1 6 := by
  refine me_ofWH (cc := cL_feed) (maxL := 6) (ret := (some .int)) (hh := [(0, 11, 14, 13)]) (by decide) rfl ?_
  intro p e s m args below meth c s₁ B hml hv
  obtain ⟨rfl, ⟨hK, hP, hKq, hBs⟩, hE⟩ := hv
  have hts := fun w h => atoms_spec (ws := Cond.codeWith yL_feed cL_feed 6 (some .int) [(0, 11, 14, 13)] :: tbG) B.pre w (List.mem_cons_of_mem _ h)
  have hTab : c.exceptionTable.toList = tableOf [(0, 11, 14, 13)] := vx_table (x := yL_feed) B (atoms_spec (ws := Cond.codeWith yL_feed cL_feed 6 (some .int) [(0, 11, 14, 13)] :: tbG) B.pre _ List.mem_cons_self)
  have hown : s.vm.findClass RL = some m.cls := findClass_of_methodNamed B.named
  have C0 : Cx G B0 p s m _ c cL_feed RL := ⟨B.exec, B.bytes, hown, hts, hK, hKq, hBs⟩
  have hS : va_S (me_A B0) s.heap s.heap [] := va_S.rf
  have hl := lv_entry ([.ref x, .int nn, .long oc, .ref ou]) (n := 6) (Nat.le_of_ble_eq_true rfl)
  rw [lg_entry_eq]
  generalize (lg_sl ([.ref x, .int nn, .long oc, .ref ou]) ++ List.replicate (6 - (lg_sl ([.ref x, .int nn, .long oc, .ref ou])).length) Slot.unset).toArray = ls at hl ⊢
  have hl : lv_has ls 6 [(0, .ref x), (1, .int nn), (2, .long oc), (4, .ref ou)] := hl
  refine lv_aload C0.1 C0.2.1 dL_feed_0 (lv_at hl 3 rfl) ?_
  refine lv_iconst (v := 0) C0.1 C0.2.1 dL_feed_2 (by decide) ?_
  refine lv_aload_n C0.1 C0.2.1 dL_feed_3 rfl (lv_at hl 0 rfl) ?_
  refine lv_iload_n C0.1 C0.2.1 dL_feed_4 rfl (lv_at hl 1 rfl) ?_
  refine lv_lload_n C0.1 C0.2.1 dL_feed_5 rfl (lv_at hl 2 rfl) ?_
  refine me_cVx (n := 2) (st0 := [.long oc, .int nn, .ref x, .int 0, .ref ou]) (rest := [.int 0, .ref ou]) (As := [.int nn, .long oc]) C0 hE hml hP hS hM ⟨kw_384, kw_31, kw_381, ⟨by decide, by decide, by decide +kernel⟩, ⟨rfl, rfl⟩, ⟨Nat.le_of_ble_eq_true rfl, Nat.le_of_ble_eq_true rfl⟩⟩ kw_382 kw_383 hx rfl rfl hl.1 rfl (Nat.le_of_ble_eq_true rfl) ⟨Nat.le_of_ble_eq_true rfl, Nat.le_of_ble_eq_true rfl⟩ dL_feed_6 (fun ce q9 H locs hpx hP hS hce hcv hcl => ?_) (fun rr wm H locs hpt1 hP hS => ?_)
  · refine vx_catch (own := RL) (name := EXN) (E := EXN) hown [] ⟨0, 11, 14, 13⟩ [] (by rw [hTab]; rfl) (fun z hz => nomatch hz) (by decide) (by decide) (C0.2.2.2.1 _ kw_380) (va_Nw.use rfl hE.1) hce hcv hcl ?_
    refine lv_astore (lv' := [(5, .ref q9), (0, .ref x), (1, .int nn), (2, .long oc), (4, .ref ou)]) C0.1 C0.2.1 dL_feed_14 hl (by decide) rfl (fun ls hl => ?_)
    refine lv_iconst (v := 1) C0.1 C0.2.1 dL_feed_16 (by decide) ?_
    exact me_wiret _ C0.1 C0.2.1 B.returns B.notSynchronized hP hS (Nat.le_of_ble_eq_true rfl) (Nat.le_of_ble_eq_true rfl) (Or.inl ⟨rfl, hpx, rfl⟩) dL_feed_17
  · have hou1 := (hpt rr wm hpt1).trans hou
    refine lv_i2l C0.1 C0.2.1 dL_feed_9 rfl ?_
    refine me_jast C0 hP hS hBou hou1 (by unfold vp_in; decide) dL_feed_10 (fun H locs hP hS => ?_)
    have hP : me_P G.1 (me_u wm ou (eJ G 1 (vp_updL fj (0 : Int32).toNatClampNeg rr.toInt64))) H := hP
    refine lv_goto (tgt := 18) C0.1 C0.2.1 dL_feed_11 (by decide) ?_
    refine lv_iconst (v := 0) C0.1 C0.2.1 dL_feed_18 (by decide) ?_
    exact me_wiret _ C0.1 C0.2.1 B.returns B.notSynchronized hP hS (Nat.le_of_ble_eq_true rfl) (Nat.le_of_ble_eq_true rfl) (Or.inr ⟨rfl, rr, wm, hpt1, rfl⟩) dL_feed_19

set_option maxHeartbeats 4000000 in
set_option maxRecDepth 100000 in
/-- the law's about -/
theorem c_L_about (l : Launch) (G : me_G) (B0 : Nat) (w : Me) (x ou : Nat) (fs : List Value) (fj : Nat → Int64) (hx : w x = some (eO 2 fs)) (hou : w ou = some (eJ G 1 fj)) (hBou : B0 ≤ ou) (v wh : Int32) (pt : Int32 → Me → Prop) (px : Prop) (hM : CtX l yX4_about (Cond.code yX4_about cX4_about 4 (some .int)) ({ frames := 6, cells := 1, slots := 6, locals := 82 }) G B0 w [.ref x, .int v, .int wh] pt px 1 6) (hpt : ∀ r w', pt r w' → w' ou = w ou) : CtH l yL_about (Cond.codeWith yL_about cL_about 5 (some .int) [(0, 10, 13, 13)]) ({ frames := 7, cells := 1, slots := 6, locals := 105 }) G B0 w [.ref x, .int v, .int wh, .ref ou] (fun r w' => (r = 1 ∧ px ∧ w' = w) ∨ (r = 0 ∧ ∃ (rr : Int32) (wm : Me), pt rr wm ∧ w' = me_u wm ou (eJ G 1 (vp_updL fj (0 : Int32).toNatClampNeg rr.toInt64)))) 1 6 := by
  refine me_ofWH (cc := cL_about) (maxL := 5) (ret := (some .int)) (hh := [(0, 10, 13, 13)]) (by decide) rfl ?_
  intro p e s m args below meth c s₁ B hml hv
  obtain ⟨rfl, ⟨hK, hP, hKq, hBs⟩, hE⟩ := hv
  have hts := fun w h => atoms_spec (ws := Cond.codeWith yL_about cL_about 5 (some .int) [(0, 10, 13, 13)] :: tbG) B.pre w (List.mem_cons_of_mem _ h)
  have hTab : c.exceptionTable.toList = tableOf [(0, 10, 13, 13)] := vx_table (x := yL_about) B (atoms_spec (ws := Cond.codeWith yL_about cL_about 5 (some .int) [(0, 10, 13, 13)] :: tbG) B.pre _ List.mem_cons_self)
  have hown : s.vm.findClass RL = some m.cls := findClass_of_methodNamed B.named
  have C0 : Cx G B0 p s m _ c cL_about RL := ⟨B.exec, B.bytes, hown, hts, hK, hKq, hBs⟩
  have hS : va_S (me_A B0) s.heap s.heap [] := va_S.rf
  have hl := lv_entry ([.ref x, .int v, .int wh, .ref ou]) (n := 5) (Nat.le_of_ble_eq_true rfl)
  rw [lg_entry_eq]
  generalize (lg_sl ([.ref x, .int v, .int wh, .ref ou]) ++ List.replicate (5 - (lg_sl ([.ref x, .int v, .int wh, .ref ou])).length) Slot.unset).toArray = ls at hl ⊢
  have hl : lv_has ls 5 [(0, .ref x), (1, .int v), (2, .int wh), (3, .ref ou)] := hl
  refine lv_aload_n C0.1 C0.2.1 dL_about_0 rfl (lv_at hl 3 rfl) ?_
  refine lv_iconst (v := 0) C0.1 C0.2.1 dL_about_1 (by decide) ?_
  refine lv_aload_n C0.1 C0.2.1 dL_about_2 rfl (lv_at hl 0 rfl) ?_
  refine lv_iload_n C0.1 C0.2.1 dL_about_3 rfl (lv_at hl 1 rfl) ?_
  refine lv_iload_n C0.1 C0.2.1 dL_about_4 rfl (lv_at hl 2 rfl) ?_
  refine me_cVx (n := 2) (st0 := [.int wh, .int v, .ref x, .int 0, .ref ou]) (rest := [.int 0, .ref ou]) (As := [.int v, .int wh]) C0 hE hml hP hS hM ⟨kw_457, kw_31, kw_454, ⟨by decide, by decide, by decide +kernel⟩, ⟨rfl, rfl⟩, ⟨Nat.le_of_ble_eq_true rfl, Nat.le_of_ble_eq_true rfl⟩⟩ kw_455 kw_456 hx rfl rfl hl.1 rfl (Nat.le_of_ble_eq_true rfl) ⟨Nat.le_of_ble_eq_true rfl, Nat.le_of_ble_eq_true rfl⟩ dL_about_5 (fun ce q9 H locs hpx hP hS hce hcv hcl => ?_) (fun rr wm H locs hpt1 hP hS => ?_)
  · refine vx_catch (own := RL) (name := EXN) (E := EXN) hown [] ⟨0, 10, 13, 13⟩ [] (by rw [hTab]; rfl) (fun z hz => nomatch hz) (by decide) (by decide) (C0.2.2.2.1 _ kw_380) (va_Nw.use rfl hE.1) hce hcv hcl ?_
    refine lv_astore (lv' := [(4, .ref q9), (0, .ref x), (1, .int v), (2, .int wh), (3, .ref ou)]) C0.1 C0.2.1 dL_about_13 hl (by decide) rfl (fun ls hl => ?_)
    refine lv_iconst (v := 1) C0.1 C0.2.1 dL_about_15 (by decide) ?_
    exact me_wiret _ C0.1 C0.2.1 B.returns B.notSynchronized hP hS (Nat.le_of_ble_eq_true rfl) (Nat.le_of_ble_eq_true rfl) (Or.inl ⟨rfl, hpx, rfl⟩) dL_about_16
  · have hou1 := (hpt rr wm hpt1).trans hou
    refine lv_i2l C0.1 C0.2.1 dL_about_8 rfl ?_
    refine me_jast C0 hP hS hBou hou1 (by unfold vp_in; decide) dL_about_9 (fun H locs hP hS => ?_)
    have hP : me_P G.1 (me_u wm ou (eJ G 1 (vp_updL fj (0 : Int32).toNatClampNeg rr.toInt64))) H := hP
    refine lv_goto (tgt := 17) C0.1 C0.2.1 dL_about_10 (by decide) ?_
    refine lv_iconst (v := 0) C0.1 C0.2.1 dL_about_17 (by decide) ?_
    exact me_wiret _ C0.1 C0.2.1 B.returns B.notSynchronized hP hS (Nat.le_of_ble_eq_true rfl) (Nat.le_of_ble_eq_true rfl) (Or.inr ⟨rfl, rr, wm, hpt1, rfl⟩) dL_about_18

set_option maxHeartbeats 4000000 in
set_option maxRecDepth 100000 in
/-- the law's letter -/
theorem c_L_letter (l : Launch) (G : me_G) (B0 : Nat) (w : Me) (x ou : Nat) (fs : List Value) (fj : Nat → Int64) (hx : w x = some (eO 2 fs)) (hou : w ou = some (eJ G 1 fj)) (hBou : B0 ≤ ou) (v wh k : Int32) (pt : Int32 → Me → Prop) (px : Prop) (hM : CtX l yX4_letter (Cond.code yX4_letter cX4_letter 5 (some .int)) ({ frames := 6, cells := 1, slots := 6, locals := 82 }) G B0 w [.ref x, .int v, .int wh, .int k] pt px 1 6) (hpt : ∀ r w', pt r w' → w' ou = w ou) : CtH l yL_letter (Cond.codeWith yL_letter cL_letter 6 (some .int) [(0, 12, 15, 13)]) ({ frames := 7, cells := 1, slots := 6, locals := 106 }) G B0 w [.ref x, .int v, .int wh, .int k, .ref ou] (fun r w' => (r = 1 ∧ px ∧ w' = w) ∨ (r = 0 ∧ ∃ (rr : Int32) (wm : Me), pt rr wm ∧ w' = me_u wm ou (eJ G 1 (vp_updL fj (0 : Int32).toNatClampNeg rr.toInt64)))) 1 6 := by
  refine me_ofWH (cc := cL_letter) (maxL := 6) (ret := (some .int)) (hh := [(0, 12, 15, 13)]) (by decide) rfl ?_
  intro p e s m args below meth c s₁ B hml hv
  obtain ⟨rfl, ⟨hK, hP, hKq, hBs⟩, hE⟩ := hv
  have hts := fun w h => atoms_spec (ws := Cond.codeWith yL_letter cL_letter 6 (some .int) [(0, 12, 15, 13)] :: tbG) B.pre w (List.mem_cons_of_mem _ h)
  have hTab : c.exceptionTable.toList = tableOf [(0, 12, 15, 13)] := vx_table (x := yL_letter) B (atoms_spec (ws := Cond.codeWith yL_letter cL_letter 6 (some .int) [(0, 12, 15, 13)] :: tbG) B.pre _ List.mem_cons_self)
  have hown : s.vm.findClass RL = some m.cls := findClass_of_methodNamed B.named
  have C0 : Cx G B0 p s m _ c cL_letter RL := ⟨B.exec, B.bytes, hown, hts, hK, hKq, hBs⟩
  have hS : va_S (me_A B0) s.heap s.heap [] := va_S.rf
  have hl := lv_entry ([.ref x, .int v, .int wh, .int k, .ref ou]) (n := 6) (Nat.le_of_ble_eq_true rfl)
  rw [lg_entry_eq]
  generalize (lg_sl ([.ref x, .int v, .int wh, .int k, .ref ou]) ++ List.replicate (6 - (lg_sl ([.ref x, .int v, .int wh, .int k, .ref ou])).length) Slot.unset).toArray = ls at hl ⊢
  have hl : lv_has ls 6 [(0, .ref x), (1, .int v), (2, .int wh), (3, .int k), (4, .ref ou)] := hl
  refine lv_aload C0.1 C0.2.1 dL_letter_0 (lv_at hl 4 rfl) ?_
  refine lv_iconst (v := 0) C0.1 C0.2.1 dL_letter_2 (by decide) ?_
  refine lv_aload_n C0.1 C0.2.1 dL_letter_3 rfl (lv_at hl 0 rfl) ?_
  refine lv_iload_n C0.1 C0.2.1 dL_letter_4 rfl (lv_at hl 1 rfl) ?_
  refine lv_iload_n C0.1 C0.2.1 dL_letter_5 rfl (lv_at hl 2 rfl) ?_
  refine lv_iload_n C0.1 C0.2.1 dL_letter_6 rfl (lv_at hl 3 rfl) ?_
  refine me_cVx (n := 3) (st0 := [.int k, .int wh, .int v, .ref x, .int 0, .ref ou]) (rest := [.int 0, .ref ou]) (As := [.int v, .int wh, .int k]) C0 hE hml hP hS hM ⟨kw_469, kw_31, kw_466, ⟨by decide, by decide, by decide +kernel⟩, ⟨rfl, rfl⟩, ⟨Nat.le_of_ble_eq_true rfl, Nat.le_of_ble_eq_true rfl⟩⟩ kw_467 kw_468 hx rfl rfl hl.1 rfl (Nat.le_of_ble_eq_true rfl) ⟨Nat.le_of_ble_eq_true rfl, Nat.le_of_ble_eq_true rfl⟩ dL_letter_7 (fun ce q9 H locs hpx hP hS hce hcv hcl => ?_) (fun rr wm H locs hpt1 hP hS => ?_)
  · refine vx_catch (own := RL) (name := EXN) (E := EXN) hown [] ⟨0, 12, 15, 13⟩ [] (by rw [hTab]; rfl) (fun z hz => nomatch hz) (by decide) (by decide) (C0.2.2.2.1 _ kw_380) (va_Nw.use rfl hE.1) hce hcv hcl ?_
    refine lv_astore (lv' := [(5, .ref q9), (0, .ref x), (1, .int v), (2, .int wh), (3, .int k), (4, .ref ou)]) C0.1 C0.2.1 dL_letter_15 hl (by decide) rfl (fun ls hl => ?_)
    refine lv_iconst (v := 1) C0.1 C0.2.1 dL_letter_17 (by decide) ?_
    exact me_wiret _ C0.1 C0.2.1 B.returns B.notSynchronized hP hS (Nat.le_of_ble_eq_true rfl) (Nat.le_of_ble_eq_true rfl) (Or.inl ⟨rfl, hpx, rfl⟩) dL_letter_18
  · have hou1 := (hpt rr wm hpt1).trans hou
    refine lv_i2l C0.1 C0.2.1 dL_letter_10 rfl ?_
    refine me_jast C0 hP hS hBou hou1 (by unfold vp_in; decide) dL_letter_11 (fun H locs hP hS => ?_)
    have hP : me_P G.1 (me_u wm ou (eJ G 1 (vp_updL fj (0 : Int32).toNatClampNeg rr.toInt64))) H := hP
    refine lv_goto (tgt := 19) C0.1 C0.2.1 dL_letter_12 (by decide) ?_
    refine lv_iconst (v := 0) C0.1 C0.2.1 dL_letter_19 (by decide) ?_
    exact me_wiret _ C0.1 C0.2.1 B.returns B.notSynchronized hP hS (Nat.le_of_ble_eq_true rfl) (Nat.le_of_ble_eq_true rfl) (Or.inr ⟨rfl, rr, wm, hpt1, rfl⟩) dL_letter_20
