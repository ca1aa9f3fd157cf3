/-! MEMORY AS A MAP: address -> cell. A method's contract speaks of any map that the heap holds; a write is one turn of the map. -/
abbrev Me : Type := Nat → Option va_E
/-- slots of the fields, classes of arrays, places of the constants: the texts, their bytes, the steps of the marks -/
abbrev me_G : Type := va_G × (ClassId × ClassId × ClassId × ClassId) × (Nat → Nat) × (Nat → Nat) × Nat
def me_P (D : va_G) (w : Me) (H : Heap) : Prop := ∀ (a : Nat) (e : va_E), w a = some e → va_at D vwCl (a, e) H
def me_u (w : Me) (a : Nat) (e : va_E) : Me := fun q => if q = a then some e else w q
theorem me_us (w : Me) (a : Nat) (e : va_E) : me_u w a e a = some e := if_pos rfl
theorem me_un {w : Me} {a q : Nat} {e : va_E} (h : q ≠ a) : me_u w a e q = w q := if_neg h
theorem me_one {D : va_G} {w : Me} {H : Heap} {a : Nat} {e : va_E} (h : me_P D w H) (he : w a = some e) : va_P D vwCl [(a, e)] H := by
  intro k q hk
  match k, hk with
  | 0, hk => cases hk; exact h a e he
  | k + 1, hk => simp at hk
theorem me_lt {D : va_G} {w : Me} {H : Heap} {a : Nat} {e : va_E} (h : me_P D w H) (he : w a = some e) : a < H.size := (h a e he).lt
theorem me_set {D : va_G} {w : Me} {H H1 : Heap} {a : Nat} {e : va_E} (h : me_P D w H) (he : va_at D vwCl (a, e) H1) (oq : ∀ q : Nat, q ≠ a → H1[q]? = H[q]?) : me_P D (me_u w a e) H1 := by
  intro q x hq
  by_cases hqa : q = a
  · subst hqa
    rw [me_us] at hq
    cases hq
    exact he
  · rw [me_un hqa] at hq
    exact (h q x hq).kept (oq q hqa)
theorem me_free {D : va_G} {w : Me} {H : Heap} (h : me_P D w H) : w H.size = none := by
  cases hw : w H.size with
  | none => rfl
  | some e => exact absurd (me_lt h hw) (Nat.lt_irrefl _)
theorem me_ne {w : Me} {a q : Nat} {e : va_E} (hq : w q = none) (he : w a = some e) : a ≠ q := fun h => by rw [h, hq] at he; cases he
abbrev me_T (G : me_G) : List (ClassId × FieldType) := [(G.2.1.1, .int), (G.2.1.2.1, .boolean), (G.2.1.2.2.1, .long), (G.2.1.2.2.2, .object RX1)]
def me_K (G : me_G) (U : State) : Prop := va_K G.1 vwCl (me_T G) U
theorem me_K.moved {G : me_G} {u U : State} (hvm : u.vm.Alike U.vm) (h : me_K G u) : me_K G U := va_K.moved hvm h
/-- cells: an object of a class, rows of numbers, truths, longs, nodes -/
abbrev eO (ci : Nat) (fs : List Value) : va_E := .inr (ci, fs)
abbrev eI (G : me_G) (n : Nat) (f : Nat → Int32) : va_E := .inl (G.2.1.1, n, .inl f)
abbrev eZ (G : me_G) (n : Nat) (f : Nat → Int32) : va_E := .inl (G.2.1.2.1, n, .inl f)
abbrev eJ (G : me_G) (n : Nat) (f : Nat → Int64) : va_E := .inl (G.2.1.2.2.1, n, .inr (.inl f))
abbrev eN (G : me_G) (n : Nat) (f : Nat → Option Nat) : va_E := .inl (G.2.1.2.2.2, n, .inr (.inr (.inr (.inr f))))
/-- the texts of the class: their lengths, their bytes -/
def kq_len : List Nat := [64, 64, 15, 40, 18, 19]
def kq_str (t : String) : List Int32 := t.toList.map (fun ch => nI ch.toNat)
def kq_byt : List (List Int32) := [kq_str "AAAAAA_CEEEEIIII_NOOOOO__UUUUY__aaaaaa_ceeeeiiii_nooooo__uuuuy_y", kq_str "012345_601240124_301234__01241__012345_601240124_301234__01241_4", kq_str "n is not 1 .. 8", kq_str "the tape would have more than 200 octets", kq_str "what is not 0 .. 5", kq_str "which is not 0 or 1"]
def kq_steps : List Int32 := [0, 1, 2, 3, 8, 10, 39]
/-- what the constants hold -/
def Kq (G : me_G) (B : Nat) (U : State) (H : Heap) : Prop :=
  vk_S 6 kq_len kq_byt G.2.2.1 G.2.2.2.1 (fun q => B ≤ q) U H ∧
  (vk_R RX0 26 "AAAAAA_CEEEEIIII_NOOOOO__UUUUY__aaaaaa_ceeeeiiii_nooooo__uuuuy_y" (G.2.2.1 0) U ∧ vk_R RX0 48 "012345_601240124_301234__01241__012345_601240124_301234__01241_4" (G.2.2.1 1) U ∧ vk_R RX4 41 "n is not 1 .. 8" (G.2.2.1 2) U ∧ vk_R RX4 50 "the tape would have more than 200 octets" (G.2.2.1 3) U ∧ vk_R RX4 106 "what is not 0 .. 5" (G.2.2.1 4) U ∧ vk_R RX4 126 "which is not 0 or 1" (G.2.2.1 5) U) ∧
  (va_Z RX0 "MARK_STEPS" "[I" (.ref G.2.2.2.2) (fun q => B ≤ q) U H ∧ va_T .int G.2.2.2.2 7 (fun j => .int (kq_steps.getD j 0)) (fun q => B ≤ q) U H) ∧
  (va_Z RJ0 "COMPACT_STRINGS" "Z" (.int 1) (fun q => B ≤ q) U H ∧ va_Zq RJ3 "SIOOBE_FORMATTER" "Ljava/util/function/BiFunction;" (fun q => B ≤ q) U H) ∧
  (vx_Zq Bundle.tN "UNASSIGNED_STACK" Bundle.steD (fun q => B ≤ q) U H ∧ vx_Zq Bundle.tN "SUPPRESSED_SENTINEL" Bundle.listD (fun q => B ≤ q) U H)
theorem Kq.go {G : me_G} {B : Nat} {s U : State} {H : Heap} {locs : List Loc} (h : Kq G B s s.heap) (hS : va_S (fun q => B ≤ q) s.heap H locs) (hU : U.heap = H) (hW : s.WarmedH U.vm) : Kq G B U U.heap := by
  obtain ⟨h1, ⟨r1, r2, r3, r4, r5, r6⟩, ⟨h2, h3⟩, ⟨h4, h7⟩, h5, h6⟩ := h
  have hv := hW.alike
  rw [hU]
  exact ⟨(h1.kept hS.2.1).moved hv, ⟨r1.warm hW, r2.warm hW, r3.warm hW, r4.warm hW, r5.warm hW, r6.warm hW⟩, ⟨(h2.kept hS.2.1).moved hv, (h3.kept hS.2.1).moved hv⟩, ⟨(h4.kept hS.2.1).moved hv, (h7.kept hS.2.1).moved hv⟩, (h5.kept hS.2.1).moved hv, (h6.kept hS.2.1).moved hv⟩
theorem Kq.blind {G : me_G} {B : Nat} {U : State} {g : JFrame} {mk : MethodId} {a : Array Value} (h : Kq G B U U.heap) : Kq G B (U.calling g mk a) (U.calling g mk a).heap := by
  obtain ⟨h1, ⟨r1, r2, r3, r4, r5, r6⟩, ⟨h2, h3⟩, ⟨h4, h7⟩, h5, h6⟩ := h
  have hv : U.vm.Alike (U.calling g mk a).vm := Vm.Alike.refl U.vm
  have hs : (U.calling g mk a).vm = U.vm := rfl
  exact ⟨h1.moved hv, ⟨r1.same hs, r2.same hs, r3.same hs, r4.same hs, r5.same hs, r6.same hs⟩, ⟨h2.moved hv, h3.moved hv⟩, ⟨h4.moved hv, h7.moved hv⟩, h5.moved hv, h6.moved hv⟩
/-- the start of a method -/
def me_B (G : me_G) (B : Nat) (w : Me) (U : State) : Prop := me_K G U ∧ me_P G.1 w U.heap ∧ Kq G B U U.heap ∧ B ≤ U.heap.size
abbrev me_A (B : Nat) : Nat → Prop := fun q => B ≤ q
abbrev me_W (G : me_G) : Me → State → Prop := fun w t => me_P G.1 w t.heap
/-- contracts: reads that answer a number, a node or null, a long; writers that answer a number, nothing -/
abbrev CtI (l : Launch) (y : MethodName) (cd : Cond) (rm : Room) (G : me_G) (B : Nat) (w : Me) (av : List Value) (post : Int32 → Prop) : Prop := Met l y (cd :: tbG) rm (va_Pc av (me_B G B w)) (vp_Si post) 0 0 (fun _ => False)
abbrev CtQ (l : Launch) (y : MethodName) (cd : Cond) (rm : Room) (G : me_G) (B : Nat) (w : Me) (av : List Value) (post : Option Nat → Prop) : Prop := Met l y (cd :: tbG) rm (va_Pc av (me_B G B w)) (va_Sq post) 0 0 (fun _ => False)
abbrev CtL (l : Launch) (y : MethodName) (cd : Cond) (rm : Room) (G : me_G) (B : Nat) (w : Me) (av : List Value) (post : Int64 → Prop) : Prop := Met l y (cd :: tbG) rm (va_Pc av (me_B G B w)) (vp_Sl post) 0 0 (fun _ => False)
abbrev CtWI (l : Launch) (y : MethodName) (cd : Cond) (rm : Room) (G : me_G) (B : Nat) (w : Me) (av : List Value) (post : Int32 → Me → Prop) (mc ms : Nat) : Prop := Met l y (cd :: tbG) rm (va_Pc av (me_B G B w)) (va_Qi post (me_W G) (me_A B)) mc ms (me_A B)
abbrev CtWV (l : Launch) (y : MethodName) (cd : Cond) (rm : Room) (G : me_G) (B : Nat) (w : Me) (av : List Value) (post : Me → Prop) (mc ms : Nat) : Prop := Met l y (cd :: tbG) rm (va_Pc av (me_B G B w)) (va_Qv post (me_W G) (me_A B)) mc ms (me_A B)
theorem me_Bb {G : me_G} {B : Nat} {w : Me} {av : List Value} : FrameBlind (va_Pc av (me_B G B w)) := fun a U g mk q => ⟨q.1, va_K.moved (u := U) (U := U.calling g mk a) (Vm.Alike.refl U.vm) q.2.1, q.2.2.1, q.2.2.2.1.blind, q.2.2.2.2⟩
/-- what stands through a body: the machine, the code, the class, the words, the tables -/
abbrev Cx (G : me_G) (B : Nat) (p : Program) (s : State) (m : MethodId) (args : Array Value) (c : Code) (cc : ByteArray) (own : String) : Prop :=
  p.tables.exec = Jvm.exec ∧ c.code = cc ∧ s.vm.findClass own = some m.cls ∧ (∀ w ∈ tbG, w.before args s = true) ∧ me_K G s ∧ Kq G B s s.heap ∧ B ≤ s.heap.size
section ME
variable {p : Program} {l : Launch} {e : Env} {R : Room} {s : State} {m : MethodId} {args : Array Value} {below : List Frame} {meth : Method} {c : Code} {H : Heap} {locs : List Loc} {cells slots : Nat} {Q : State → Prop}
variable {cc : ByteArray} {pc : Nat} {ls : Array Slot} {rest : List Value} {G : me_G} {w : Me} {a B : Nat} {own : String}
theorem me_get (C0 : Cx G B p s m args c cc own) (hP : me_P G.1 w H) {C : String} {T : u_T} {N ci index : Nat} {fs : List Value} (he : w a = some (.inr (ci, fs))) (hc : vwCl[ci]? = some (C, T, N)) (hin : ∀ w ∈ u_ws C T N, w ∈ tbG) (k : Nat) (hk : k < N) (hlink : Cond.fieldLink own index (T k).1 (T k).2.1 (T k).2.2.1 ∈ tbG) {v : Value} (hv : fs[k]? = some v) (hdg : decode cc pc = .ok (.getfield index, 3))
    (kk : W p l e R s m args below meth c H locs cells slots Q (F0 m (pc + 3) ls (v :: rest))) : W p l e R s m args below meth c H locs cells slots Q (F0 m pc ls (.ref a :: rest)) :=
  va_get (ws := [(a, .inr (ci, fs))]) C0.1 C0.2.1 C0.2.2.2.1 hin C0.2.2.1 C0.2.2.2.2.1 (me_one hP he) 0 rfl hc k hk (C0.2.2.2.1 _ hlink) (fun _ h => h) hv hdg kk
theorem me_put (C0 : Cx G B p s m args c cc own) (hP : me_P G.1 w H) (hS0 : va_S (me_A B) s.heap H locs) (hB : B ≤ a) {C : String} {T : u_T} {N ci index : Nat} {fs : List Value} (he : w a = some (.inr (ci, fs))) (hc : vwCl[ci]? = some (C, T, N)) (hin : ∀ w ∈ u_ws C T N, w ∈ tbG) (ty0 : Nat → FieldType) (hty : ∀ k, k < N → parseFieldDescriptor (T k).2.2.1 = some (ty0 k)) (hnm : ∀ a, a < N → ∀ b, b < N → a ≠ b → (T a).2.1 ≠ (T b).2.1) (k : Nat) (hk : k < N) (hlink : Cond.fieldLink own index (T k).1 (T k).2.1 (T k).2.2.1 ∈ tbG) (hfin : (T k).2.2.2 = false) {v : Value} (hn : narrow (ty0 k) v = v) (hfit : fits (ty0 k) v = true) (hl : k < fs.length) (hdg : decode cc pc = .ok (.putfield index, 3))
    (kk : ∀ (H : Heap) (locs : List Loc), me_P G.1 (me_u w a (.inr (ci, fs.set k v))) H → va_S (me_A B) s.heap H locs → W p l e R s m args below meth c H locs cells slots Q (F0 m (pc + 3) ls rest)) : W p l e R s m args below meth c H locs cells slots Q (F0 m pc ls (v :: .ref a :: rest)) := by
  obtain ⟨hexec, hb, hown, hts, hK, hKq, hB9⟩ := C0
  have hap := va_apart (own := own) hts hin ty0 hty hnm hK hc
  obtain ⟨r, h1, cell, q1, q2, q3, q4⟩ := hP a _ he
  have hr : r = (C, T, N) := Option.some.inj (h1.symm.trans hc)
  subst hr
  obtain ⟨hS, hfc, kC, hkC, hkind⟩ := hK.1 ci _ hc
  obtain ⟨cf, kf, fi, f, hi, hsl⟩ := hS k hk
  have hlay := hts _ (hin _ (u_in_lay hk))
  unfold u_lay at hlay
  rw [if_neg (by rw [hfin]; decide)] at hlay
  have hst := (u_facts hfc hkC (u_lays hts hin hk) hi).1
  have h6 := u_store hfc hkC hkind hlay hi (hty k hk) hn hfit
  refine W.putK hexec hb (f := f) ⟨hown, hts _ hlink, ⟨_, _, _, hi⟩, hst⟩ (by rw [q2]; exact h6) q1 q3 (by rw [hsl]; exact k2_hasslot (q4 k hk)) rfl rfl hdg fun H' e1 e2 e3 => ?_
  rw [hsl] at e1 ⊢
  exact kk H' _ (me_set hP ⟨_, hc, t_OB.to (V := updV (vp_V fs) k v) ⟨_, e1, q2, q3, t_set q4 hap hk v⟩ (fun j _ => vp_updV_set hl v j)⟩ e3) (hS0.put e2 e3 hB)
theorem me_putF (C0 : Cx G B p s m args c cc own) (hP : me_P G.1 w H) (hS0 : va_S (me_A B) s.heap H locs) (hB : B ≤ a) {C : String} {T : u_T} {N ci index : Nat} {fs : List Value} (he : w a = some (.inr (ci, fs))) (hc : vwCl[ci]? = some (C, T, N)) (hin : ∀ w ∈ u_ws C T N, w ∈ tbG) (ty0 : Nat → FieldType) (hty : ∀ k, k < N → parseFieldDescriptor (T k).2.2.1 = some (ty0 k)) (hnm : ∀ a, a < N → ∀ b, b < N → a ≠ b → (T a).2.1 ≠ (T b).2.1) (k : Nat) (hk : k < N) (hlink : Cond.fieldLink own index (T k).1 (T k).2.1 (T k).2.2.1 ∈ tbG) (hfin : (T k).2.2.2 = true) (hin2 : meth.name = "<init>") (hdecl : (T k).1 = own) {v : Value} (hn : narrow (ty0 k) v = v) (hfit : fits (ty0 k) v = true) (hl : k < fs.length) (hdg : decode cc pc = .ok (.putfield index, 3))
    (kk : ∀ (H : Heap) (locs : List Loc), me_P G.1 (me_u w a (.inr (ci, fs.set k v))) H → va_S (me_A B) s.heap H locs → W p l e R s m args below meth c H locs cells slots Q (F0 m (pc + 3) ls rest)) : W p l e R s m args below meth c H locs cells slots Q (F0 m pc ls (v :: .ref a :: rest)) := by
  obtain ⟨hexec, hb, hown, hts, hK, hKq, hB9⟩ := C0
  have hap := va_apart (own := own) hts hin ty0 hty hnm hK hc
  obtain ⟨r, h1, cell, q1, q2, q3, q4⟩ := hP a _ he
  have hr : r = (C, T, N) := Option.some.inj (h1.symm.trans hc)
  subst hr
  obtain ⟨hS, hfc, kC, hkC, hkind⟩ := hK.1 ci _ hc
  obtain ⟨cf, kf, fi, f, hi, hsl⟩ := hS k hk
  have hlay := hts _ (hin _ (u_in_lay hk))
  unfold u_lay at hlay
  rw [if_pos hfin] at hlay
  have hst := (u_facts hfc hkC (u_lays hts hin hk) hi).1
  have hcf : m.cls = cf := by
    obtain ⟨_, _, c', _, _, _, -, -, hf', -, -, -, hown2, -⟩ := Cond.laysFinal_spec hlay
    have e1 : c' = cf := by have := hi.symm.trans hf'; simp at this; exact this.1.symm
    rw [hdecl] at hown2
    rw [← e1]; exact Option.some.inj (hown.symm.trans hown2)
  have h6 := u_fits hfc hkC hkind (Or.inr hlay) hi (hty k hk) hn hfit
  refine W.putFinK hexec hb hown (hts _ hlink) hi hst hcf hin2 (by rw [q2]; exact h6) q1 q3 (by rw [hsl]; exact k2_hasslot (q4 k hk)) rfl rfl hdg fun H' e1 e2 e3 => ?_
  rw [hsl] at e1 ⊢
  exact kk H' _ (me_set hP ⟨_, hc, t_OB.to (V := updV (vp_V fs) k v) ⟨_, e1, q2, q3, t_set q4 hap hk v⟩ (fun j _ => vp_updV_set hl v j)⟩ e3) (hS0.put e2 e3 hB)
theorem me_iald (C0 : Cx G B p s m args c cc own) (hP : me_P G.1 w H) {n : Nat} {f : Nat → Int32} (he : w a = some (eI G n f)) {i : Int32} (hin : vp_in i n) (hdg : decode cc pc = .ok (.iaload, 1))
    (kk : W p l e R s m args below meth c H locs cells slots Q (F0 m (pc + 1) ls (.int (f i.toNatClampNeg) :: rest))) : W p l e R s m args below meth c H locs cells slots Q (F0 m pc ls (.int i :: .ref a :: rest)) :=
  va_iald (ws := [(a, eI G n f)]) C0.1 C0.2.1 C0.2.2.2.2.1 (me_one hP he) 0 0 rfl rfl hin hdg kk
theorem me_zald (C0 : Cx G B p s m args c cc own) (hP : me_P G.1 w H) {n : Nat} {f : Nat → Int32} (he : w a = some (eZ G n f)) {i : Int32} (hin : vp_in i n) (hdg : decode cc pc = .ok (.baload, 1))
    (kk : W p l e R s m args below meth c H locs cells slots Q (F0 m (pc + 1) ls (.int (f i.toNatClampNeg) :: rest))) : W p l e R s m args below meth c H locs cells slots Q (F0 m pc ls (.int i :: .ref a :: rest)) :=
  va_zald (ws := [(a, eZ G n f)]) C0.1 C0.2.1 C0.2.2.2.2.1 (me_one hP he) 0 1 rfl rfl hin hdg kk
theorem me_lald (C0 : Cx G B p s m args c cc own) (hP : me_P G.1 w H) {n : Nat} {f : Nat → Int64} (he : w a = some (eJ G n f)) {i : Int32} (hin : vp_in i n) (hdg : decode cc pc = .ok (.laload, 1))
    (kk : W p l e R s m args below meth c H locs cells slots Q (F0 m (pc + 1) ls (.long (f i.toNatClampNeg) :: rest))) : W p l e R s m args below meth c H locs cells slots Q (F0 m pc ls (.int i :: .ref a :: rest)) :=
  va_lald (ws := [(a, eJ G n f)]) C0.1 C0.2.1 C0.2.2.2.2.1 (me_one hP he) 0 2 rfl rfl hin hdg kk
theorem me_aald (C0 : Cx G B p s m args c cc own) (hP : me_P G.1 w H) {n : Nat} {f : Nat → Option Nat} (he : w a = some (eN G n f)) {i : Int32} (hin : vp_in i n) (hdg : decode cc pc = .ok (.aaload, 1))
    (kk : W p l e R s m args below meth c H locs cells slots Q (F0 m (pc + 1) ls (va_rf (f i.toNatClampNeg) :: rest))) : W p l e R s m args below meth c H locs cells slots Q (F0 m pc ls (.int i :: .ref a :: rest)) :=
  va_aldq (ws := [(a, eN G n f)]) (C := RX1) C0.1 C0.2.1 C0.2.2.2.2.1 (me_one hP he) 0 3 rfl rfl hin hdg kk
theorem me_ilen (C0 : Cx G B p s m args c cc own) (hP : me_P G.1 w H) {n : Nat} {f : Nat → Int32} (he : w a = some (eI G n f)) (hdg : decode cc pc = .ok (.arraylength, 1))
    (kk : W p l e R s m args below meth c H locs cells slots Q (F0 m (pc + 1) ls (.int (nI n) :: rest))) : W p l e R s m args below meth c H locs cells slots Q (F0 m pc ls (.ref a :: rest)) :=
  va_alen (ws := [(a, eI G n f)]) C0.1 C0.2.1 C0.2.2.2.2.1 (me_one hP he) 0 0 rfl rfl rfl hdg kk
theorem me_nlen (C0 : Cx G B p s m args c cc own) (hP : me_P G.1 w H) {n : Nat} {f : Nat → Option Nat} (he : w a = some (eN G n f)) (hdg : decode cc pc = .ok (.arraylength, 1))
    (kk : W p l e R s m args below meth c H locs cells slots Q (F0 m (pc + 1) ls (.int (nI n) :: rest))) : W p l e R s m args below meth c H locs cells slots Q (F0 m pc ls (.ref a :: rest)) :=
  va_alen (ws := [(a, eN G n f)]) C0.1 C0.2.1 C0.2.2.2.2.1 (me_one hP he) 0 3 rfl rfl rfl hdg kk
theorem me_iast (C0 : Cx G B p s m args c cc own) (hP : me_P G.1 w H) (hS : va_S (me_A B) s.heap H locs) (hB : B ≤ a) {n : Nat} {f : Nat → Int32} (he : w a = some (eI G n f)) {i x : Int32} (hin : vp_in i n) (hdg : decode cc pc = .ok (.iastore, 1))
    (kk : ∀ (H : Heap) (locs : List Loc), me_P G.1 (me_u w a (eI G n (upd f i.toNatClampNeg x))) H → va_S (me_A B) s.heap H locs → W p l e R s m args below meth c H locs cells slots Q (F0 m (pc + 1) ls rest)) : W p l e R s m args below meth c H locs cells slots Q (F0 m pc ls (.int x :: .int i :: .ref a :: rest)) := by
  refine W.iast C0.1 C0.2.1 (hP a _ he) ((C0.2.2.2.2.1.2 0 _ rfl).1 n (fun j => .int (f j))) (fun q => by cases q) (by show ¬ (i < 0 ∨ (arrV _ _ _).slots.size ≤ _); rw [arrV_size]; exact hin) rfl rfl hdg fun H1 e z oq => ?_
  refine kk H1 _ (me_set hP ?_ oq) (hS.put z oq hB)
  show H1[a]? = some (vp_cell _ _)
  rw [e, vp_cell_i, vp_cell_i, arrV_store]
  congr 2
  funext q
  by_cases hq : q = i.toNatClampNeg
  · subst hq; simp [updV, upd]
  · simp [updV, upd, hq]
theorem me_zast (C0 : Cx G B p s m args c cc own) (hP : me_P G.1 w H) (hS : va_S (me_A B) s.heap H locs) (hB : B ≤ a) {n : Nat} {f : Nat → Int32} (he : w a = some (eZ G n f)) {i x : Int32} (hin : vp_in i n) (hx : narrow .boolean (.int x) = .int x) (hdg : decode cc pc = .ok (.bastore, 1))
    (kk : ∀ (H : Heap) (locs : List Loc), me_P G.1 (me_u w a (eZ G n (upd f i.toNatClampNeg x))) H → va_S (me_A B) s.heap H locs → W p l e R s m args below meth c H locs cells slots Q (F0 m (pc + 1) ls rest)) : W p l e R s m args below meth c H locs cells slots Q (F0 m pc ls (.int x :: .int i :: .ref a :: rest)) := by
  refine W.zast C0.1 C0.2.1 (hP a _ he) ((C0.2.2.2.2.1.2 1 _ rfl).1 n (fun j => .int (f j))) (fun q => by cases q) (by show ¬ (i < 0 ∨ (arrV _ _ _).slots.size ≤ _); rw [arrV_size]; exact hin) rfl rfl hdg fun H1 e z oq => ?_
  refine kk H1 _ (me_set hP ?_ oq) (hS.put z oq hB)
  show H1[a]? = some (vp_cell _ _)
  rw [e, vp_cell_i, vp_cell_i, arrV_store]
  congr 2
  funext q
  by_cases hq : q = i.toNatClampNeg
  · subst hq; simp [updV, upd, hx]
  · simp [updV, upd, hq]
theorem me_jast (C0 : Cx G B p s m args c cc own) (hP : me_P G.1 w H) (hS : va_S (me_A B) s.heap H locs) (hB : B ≤ a) {n : Nat} {f : Nat → Int64} (he : w a = some (eJ G n f)) {i : Int32} {x : Int64} (hin : vp_in i n) (hdg : decode cc pc = .ok (.lastore, 1))
    (kk : ∀ (H : Heap) (locs : List Loc), me_P G.1 (me_u w a (eJ G n (vp_updL f i.toNatClampNeg x))) H → va_S (me_A B) s.heap H locs → W p l e R s m args below meth c H locs cells slots Q (F0 m (pc + 1) ls rest)) : W p l e R s m args below meth c H locs cells slots Q (F0 m pc ls (.long x :: .int i :: .ref a :: rest)) := by
  refine W.last C0.1 C0.2.1 (hP a _ he) ((C0.2.2.2.2.1.2 2 _ rfl).1 n (fun j => .long (f j))) (fun q => by cases q) (by show ¬ (i < 0 ∨ (arrV _ _ _).slots.size ≤ _); rw [arrV_size]; exact hin) rfl rfl hdg fun H1 e z oq => ?_
  refine kk H1 _ (me_set hP ?_ oq) (hS.put z oq hB)
  show H1[a]? = some (vp_cell _ _)
  rw [e, vp_cell_l, vp_cell_l, arrV_store]
  congr 2
  funext q
  by_cases hq : q = i.toNatClampNeg
  · subst hq; simp [updV, vp_updL]
  · simp [updV, vp_updL, hq]
theorem me_aast (C0 : Cx G B p s m args c cc own) (hP : me_P G.1 w H) (hS : va_S (me_A B) s.heap H locs) (hB : B ≤ a) {n v : Nat} {vs : List Value} {f : Nat → Option Nat} (he : w a = some (eN G n f)) (hv : w v = some (.inr (0, vs))) {i : Int32} (hin : vp_in i n) (hdg : decode cc pc = .ok (.aastore, 1))
    (kk : ∀ (H : Heap) (locs : List Loc), me_P G.1 (me_u w a (eN G n (va_up f i.toNatClampNeg (some v)))) H → va_S (me_A B) s.heap H locs → W p l e R s m args below meth c H locs cells slots Q (F0 m (pc + 1) ls rest)) : W p l e R s m args below meth c H locs cells slots Q (F0 m pc ls (.ref v :: .int i :: .ref a :: rest)) := by
  have hlt : i.toNatClampNeg < n := Nat.not_le.mp fun q => hin (Or.inr q)
  have h0 : ¬ i < 0 := fun q => hin (Or.inl q)
  obtain ⟨r', hr', cellV, g1, g2, g3, -⟩ := hP v _ hv
  have hcls := (C0.2.2.2.2.1.1 0 (RX1, TX1, 7) rfl).2
  obtain ⟨kA, comp, k1, k2, k3, -⟩ := (C0.2.2.2.2.1.2 3 _ rfl).2
  have hcomp : comp = G.1.1 0 := Option.some.inj (k3.symm.trans hcls.1)
  subst hcomp
  obtain ⟨kC, hkC, -⟩ := hcls.2
  refine W.aast C0.1 C0.2.1 (hP a _ he) (fun q h => by cases h) (fun h => by cases h) k1 k2 rfl hkC ⟨h0, by show _ < (arrV _ _ _).slots.size; rw [arrV_size]; exact hlt⟩ g1 (fun q h => by rw [g3] at h; cases h) (by rw [g2]; exact hkC) (by rw [g2]; exact va_assign hcls) rfl rfl hdg fun H1 e z oq => ?_
  refine kk H1 _ (me_set hP ?_ oq) (hS.put z oq hB)
  show H1[a]? = some (vp_cell _ _)
  rw [e, vp_cell_q, vp_cell_q, arrV_store]
  congr 2
  funext q
  by_cases hq : q = i.toNatClampNeg
  · subst hq; simp [updV, va_up, va_rf]
  · simp [updV, va_up, hq]
theorem me_grow {D : va_G} {H1 : Heap} {x : va_E} (hP : me_P D w H) (hx : va_at D vwCl (H.size, x) H1) (o1 : ∀ q, q < H.size → H1[q]? = H[q]?) : me_P D (me_u w H.size x) H1 := by
  intro q y hq
  by_cases hqa : q = H.size
  · subst hqa
    rw [me_us] at hq
    cases hq
    exact hx
  · rw [me_un hqa] at hq
    exact (hP q y hq).kept (o1 q (me_lt hP hq))
theorem me_new (C0 : Cx G B p s m args c cc own) (hP : me_P G.1 w H) (hS : va_S (me_A B) s.heap H locs) {C : String} {T : u_T} {N ci index : Nat} (hc : vwCl[ci]? = some (C, T, N)) (hin : ∀ w ∈ u_ws C T N, w ∈ tbG) (ty : Nat → FieldType) (hty : ∀ k, k < N → parseFieldDescriptor (T k).2.2.1 = some (ty k)) (hcl : Cond.classLink own index C ∈ tbG) (hinst : Cond.instantiable C N ∈ tbG) (hini : Cond.initialized C ∈ tbG) {fs : List Value} (hfs : ∀ j, j < N → defaultValue (ty j) = vp_V fs j) (hcells : cells + 1 ≤ R.cells) (hslots : slots + N ≤ R.slots) (hdg : decode cc pc = .ok (.new index, 3))
    (kk : ∀ (q : Nat) (H : Heap), w q = none → B ≤ q → me_P G.1 (me_u w q (.inr (ci, fs))) H → va_S (me_A B) s.heap H locs → W p l e R s m args below meth c H locs (cells + 1) (slots + N) Q (F0 m (pc + 3) ls (.ref q :: rest))) : W p l e R s m args below meth c H locs cells slots Q (F0 m pc ls rest) := by
  obtain ⟨hexec, hb, hown, hts, hK, hKq, hB9⟩ := C0
  have hKn := hK.1 ci _ hc
  refine W.newcK hexec hb hown (hts _ hcl) (hts _ hinst) (hts _ hini) rfl hdg hcells hslots hKn.2.1 rfl fun H1 kC hkC e1 z1 o1 => ?_
  refine kk H.size H1 (me_free hP) (Nat.le_trans hB9 hS.1) (me_grow hP ⟨_, hc, (u_born ty hts hin hKn hkC e1 hty).to hfs⟩ o1) ⟨Nat.le_trans hS.1 (by omega), fun x h1 h2 => (o1 x (Nat.lt_of_lt_of_le h1 hS.1)).trans (hS.2.1 x h1 h2), hS.2.2⟩
theorem me_newI (C0 : Cx G B p s m args c cc own) (hP : me_P G.1 w H) (hS : va_S (me_A B) s.heap H locs)  (harr : Cond.arrayClass .int ∈ tbG) {n : Int32} {N : Nat} (hn : ¬ n < 0) (hN : n.toNatClampNeg = N) (hbytes : N * 4 ≤ 536870912) (hcells : cells + 1 ≤ R.cells) (hslots : slots + N ≤ R.slots) (hdg : decode cc pc = .ok (.newarray .int, 2))
    (kk : ∀ (q : Nat) (H : Heap), w q = none → B ≤ q → me_P G.1 (me_u w q (eI G N (fun _ => 0))) H → va_S (me_A B) s.heap H locs → W p l e R s m args below meth c H locs (cells + 1) (slots + N) Q (F0 m (pc + 2) ls (.ref q :: rest))) : W p l e R s m args below meth c H locs cells slots Q (F0 m pc ls (.int n :: rest)) := by
  obtain ⟨hexec, hb, hown, hts, hK, hKq, hB9⟩ := C0
  refine va_newaK (atype := .int) hexec hb (hts _ harr) rfl hdg rfl hn hN hbytes hcells hslots rfl fun H1 cA e1 z1 o1 hAr hNm => ?_
  have hc : cA = G.2.1.1 := Option.some.inj (hNm.symm.trans (hK.2 0 _ rfl).2)
  subst hc
  exact kk H.size H1 (me_free hP) (Nat.le_trans hB9 hS.1) (me_grow hP e1 o1) ⟨Nat.le_trans hS.1 (by omega), fun x h1 h2 => (o1 x (Nat.lt_of_lt_of_le h1 hS.1)).trans (hS.2.1 x h1 h2), hS.2.2⟩
theorem me_newZ (C0 : Cx G B p s m args c cc own) (hP : me_P G.1 w H) (hS : va_S (me_A B) s.heap H locs)  (harr : Cond.arrayClass .boolean ∈ tbG) {n : Int32} {N : Nat} (hn : ¬ n < 0) (hN : n.toNatClampNeg = N) (hbytes : N * 1 ≤ 536870912) (hcells : cells + 1 ≤ R.cells) (hslots : slots + N ≤ R.slots) (hdg : decode cc pc = .ok (.newarray .boolean, 2))
    (kk : ∀ (q : Nat) (H : Heap), w q = none → B ≤ q → me_P G.1 (me_u w q (eZ G N (fun _ => 0))) H → va_S (me_A B) s.heap H locs → W p l e R s m args below meth c H locs (cells + 1) (slots + N) Q (F0 m (pc + 2) ls (.ref q :: rest))) : W p l e R s m args below meth c H locs cells slots Q (F0 m pc ls (.int n :: rest)) := by
  obtain ⟨hexec, hb, hown, hts, hK, hKq, hB9⟩ := C0
  refine va_newaK (atype := .boolean) hexec hb (hts _ harr) rfl hdg rfl hn hN hbytes hcells hslots rfl fun H1 cA e1 z1 o1 hAr hNm => ?_
  have hc : cA = G.2.1.2.1 := Option.some.inj (hNm.symm.trans (hK.2 1 _ rfl).2)
  subst hc
  exact kk H.size H1 (me_free hP) (Nat.le_trans hB9 hS.1) (me_grow hP e1 o1) ⟨Nat.le_trans hS.1 (by omega), fun x h1 h2 => (o1 x (Nat.lt_of_lt_of_le h1 hS.1)).trans (hS.2.1 x h1 h2), hS.2.2⟩
end ME
