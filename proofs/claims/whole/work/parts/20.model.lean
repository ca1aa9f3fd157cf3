/-! THE REFERENCE: its object o, its arrays a k (k the field's place), what they hold (F k), its numbers (z k) -/
def uF (F : Nat → Nat → Int32) (k : Nat) (f : Nat → Int32) : Nat → Nat → Int32 := fun i => if i = k then f else F i
theorem uF_s {F : Nat → Nat → Int32} {k : Nat} {f : Nat → Int32} : uF F k f k = f := by simp [uF]
theorem uF_n {F : Nat → Nat → Int32} {k i : Nat} {f : Nat → Int32} (h : i ≠ k) : uF F k f i = F i := by simp [uF, h]
def mdN : Nat → Nat
  | 5 => 12000
  | 7 => 12000
  | 9 => 8000
  | 11 => 400
  | 18 => 400
  | _ => 200
def mdE (G : me_G) : Nat → (Nat → Int32) → va_E
  | 2, f => eZ G 200 f
  | 3, f => eZ G 200 f
  | 0, f => eI G 200 f
  | 4, f => eI G 200 f
  | 5, f => eI G 12000 f
  | 6, f => eI G 200 f
  | 7, f => eI G 12000 f
  | 8, f => eI G 200 f
  | 9, f => eI G 8000 f
  | 10, f => eI G 200 f
  | 11, f => eI G 400 f
  | 14, f => eI G 200 f
  | 16, f => eI G 200 f
  | 18, f => eI G 400 f
  | _, f => eI G 200 f
abbrev mdA : List Nat := [0, 2, 3, 4, 5, 6, 7, 8, 9, 10, 11, 14, 16, 18, 20]
abbrev mdI : List Nat := [0, 4, 5, 6, 7, 8, 9, 10, 11, 14, 16, 18, 20]
abbrev mdZ : List Nat := [2, 3]
abbrev mdNum : List Nat := [1, 12, 13, 15, 17, 19]
abbrev mdL (a : Nat → Nat) (z : Nat → Int32) : List Value := [.ref (a 0), .int (z 1), .ref (a 2), .ref (a 3), .ref (a 4), .ref (a 5), .ref (a 6), .ref (a 7), .ref (a 8), .ref (a 9), .ref (a 10), .ref (a 11), .int (z 12), .int (z 13), .ref (a 14), .int (z 15), .ref (a 16), .int (z 17), .ref (a 18), .int (z 19), .ref (a 20)]
def MD (G : me_G) (B : Nat) (w : Me) (o : Nat) (a : Nat → Nat) (F : Nat → Nat → Int32) (z : Nat → Int32) : Prop :=
  w o = some (eO 3 (mdL a z)) ∧ (∀ k ∈ mdA, w (a k) = some (mdE G k (F k))) ∧ (∀ k ∈ mdA, a k ≠ o) ∧ (∀ i ∈ mdA, ∀ j ∈ mdA, a i = a j → i = j) ∧ B ≤ o ∧ ∀ k ∈ mdA, B ≤ a k
/-- nothing but the reference's own cells has changed -/
def MF (w w' : Me) (o : Nat) (a : Nat → Nat) : Prop := ∀ q, q ≠ o → (∀ k ∈ mdA, q ≠ a k) → w' q = w q
theorem MF.rf {w : Me} {o : Nat} {a : Nat → Nat} : MF w w o a := fun _ _ _ => rfl
theorem MF.tr {w w1 w2 : Me} {o : Nat} {a : Nat → Nat} (h1 : MF w w1 o a) (h2 : MF w1 w2 o a) : MF w w2 o a := fun q x y => (h2 q x y).trans (h1 q x y)
theorem mdI_A : ∀ k ∈ mdI, k ∈ mdA := by decide
theorem mdZ_A : ∀ k ∈ mdZ, k ∈ mdA := by decide
theorem mdI_E (G : me_G) (f : Nat → Int32) : ∀ k ∈ mdI, mdE G k f = eI G (mdN k) f := by
  intro k hk
  simp only [mdI, List.mem_cons, List.not_mem_nil, or_false] at hk
  rcases hk with rfl | rfl | rfl | rfl | rfl | rfl | rfl | rfl | rfl | rfl | rfl | rfl | rfl <;> rfl
theorem mdZ_E (G : me_G) (f : Nat → Int32) : ∀ k ∈ mdZ, mdE G k f = eZ G 200 f := by
  intro k hk
  simp only [mdZ, List.mem_cons, List.not_mem_nil, or_false] at hk
  rcases hk with rfl | rfl <;> rfl
theorem MD.seti {G : me_G} {B : Nat} {w : Me} {o : Nat} {a : Nat → Nat} {F : Nat → Nat → Int32} {z : Nat → Int32} (h : MD G B w o a F z) {k : Nat} (hk : k ∈ mdA) (f : Nat → Int32) : MD G B (me_u w (a k) (mdE G k f)) o a (uF F k f) z := by
  obtain ⟨h1, h2, h3, h4, h5, h6⟩ := h
  refine ⟨(me_un (Ne.symm (h3 k hk))).trans h1, fun i hi => ?_, h3, h4, h5, h6⟩
  by_cases e : i = k
  · subst e; rw [me_us, uF_s]
  · rw [me_un (fun q => e (h4 i hi k hk q)), uF_n e]; exact h2 i hi
theorem MD.setz {G : me_G} {B : Nat} {w : Me} {o : Nat} {a : Nat → Nat} {F : Nat → Nat → Int32} {z : Nat → Int32} (h : MD G B w o a F z) (z' : Nat → Int32) : MD G B (me_u w o (eO 3 (mdL a z'))) o a F z' := by
  obtain ⟨h1, h2, h3, h4, h5, h6⟩ := h
  exact ⟨me_us _ _ _, fun i hi => (me_un (h3 i hi)).trans (h2 i hi), h3, h4, h5, h6⟩
section MDR
variable {p : Program} {l : Launch} {e : Env} {R : Room} {s : State} {m : MethodId} {args : Array Value} {below : List Frame} {meth : Method} {c : Code} {H : Heap} {locs : List Loc} {cells slots : Nat} {Q : State → Prop}
variable {cc : ByteArray} {pc : Nat} {ls : Array Slot} {rest : List Value} {G : me_G} {w0 w : Me} {o B : Nat} {a : Nat → Nat} {F : Nat → Nat → Int32} {z : Nat → Int32} {own : String}
theorem md_iald (C0 : Cx G B p s m args c cc own) (hP : me_P G.1 w H) (hM : MD G B w o a F z) (k : Nat) (hk : k ∈ mdI) {i : Nat} (hi : i < mdN k) (hdg : decode cc pc = .ok (.iaload, 1))
    (kk : W p l e R s m args below meth c H locs cells slots Q (F0 m (pc + 1) ls (.int (F k i) :: rest))) : W p l e R s m args below meth c H locs cells slots Q (F0 m pc ls (.int (nI i) :: .ref (a k) :: rest)) :=
  me_ialdN C0 hP ((hM.2.1 k (mdI_A k hk)).trans (by rw [mdI_E G _ k hk])) hi (by have : mdN k ≤ 12000 := (by unfold mdN; split <;> omega); omega) hdg kk
theorem md_zald (C0 : Cx G B p s m args c cc own) (hP : me_P G.1 w H) (hM : MD G B w o a F z) (k : Nat) (hk : k ∈ mdZ) {i : Nat} (hi : i < 200) (hdg : decode cc pc = .ok (.baload, 1))
    (kk : W p l e R s m args below meth c H locs cells slots Q (F0 m (pc + 1) ls (.int (F k i) :: rest))) : W p l e R s m args below meth c H locs cells slots Q (F0 m pc ls (.int (nI i) :: .ref (a k) :: rest)) :=
  me_zaldN C0 hP ((hM.2.1 k (mdZ_A k hk)).trans (by rw [mdZ_E G _ k hk])) hi (by omega) hdg kk
theorem md_iast (C0 : Cx G B p s m args c cc own) (hP : me_P G.1 w H) (hS : va_S (me_A B) s.heap H locs) (hM : MD G B w o a F z) (hF : MF w0 w o a) (k : Nat) (hk : k ∈ mdI) {i : Nat} {x : Int32} (hi : i < mdN k) (hdg : decode cc pc = .ok (.iastore, 1))
    (kk : ∀ (w : Me) (F' : Nat → Nat → Int32) (H : Heap) (locs : List Loc), F' = uF F k (upd (F k) i x) → MD G B w o a F' z → MF w0 w o a → me_P G.1 w H → va_S (me_A B) s.heap H locs → W p l e R s m args below meth c H locs cells slots Q (F0 m (pc + 1) ls rest)) : W p l e R s m args below meth c H locs cells slots Q (F0 m pc ls (.int x :: .int (nI i) :: .ref (a k) :: rest)) := by
  have hA := mdI_A k hk
  refine me_iastN C0 hP hS (hM.2.2.2.2.2 k hA) ((hM.2.1 k hA).trans (by rw [mdI_E G _ k hk])) hi (by have : mdN k ≤ 12000 := (by unfold mdN; split <;> omega); omega) hdg (fun H locs hP hS => ?_)
  have h2 := hM.seti hA (upd (F k) i x)
  rw [mdI_E G _ k hk] at h2
  exact kk _ _ H locs rfl h2 (hF.tr (fun q _ y => me_un (y k hA))) hP hS
theorem md_zast (C0 : Cx G B p s m args c cc own) (hP : me_P G.1 w H) (hS : va_S (me_A B) s.heap H locs) (hM : MD G B w o a F z) (hF : MF w0 w o a) (k : Nat) (hk : k ∈ mdZ) {i : Nat} {x : Int32} (hi : i < 200) (hx : narrow .boolean (.int x) = .int x) (hdg : decode cc pc = .ok (.bastore, 1))
    (kk : ∀ (w : Me) (F' : Nat → Nat → Int32) (H : Heap) (locs : List Loc), F' = uF F k (upd (F k) i x) → MD G B w o a F' z → MF w0 w o a → me_P G.1 w H → va_S (me_A B) s.heap H locs → W p l e R s m args below meth c H locs cells slots Q (F0 m (pc + 1) ls rest)) : W p l e R s m args below meth c H locs cells slots Q (F0 m pc ls (.int x :: .int (nI i) :: .ref (a k) :: rest)) := by
  have hA : k ∈ mdA := mdZ_A k hk
  refine me_zastN C0 hP hS (hM.2.2.2.2.2 k hA) ((hM.2.1 k hA).trans (by rw [mdZ_E G _ k hk])) hi (by omega) hx hdg (fun H locs hP hS => ?_)
  have h2 := hM.seti hA (upd (F k) i x)
  rw [mdZ_E G _ k hk] at h2
  exact kk _ _ H locs rfl h2 (hF.tr (fun q _ y => me_un (y k hA))) hP hS
theorem md_get (C0 : Cx G B p s m args c cc own) (hP : me_P G.1 w H) (hM : MD G B w o a F z) (k : Nat) (hk : k < 21) {index : Nat} (hlink : Cond.fieldLink own index (TX5 k).1 (TX5 k).2.1 (TX5 k).2.2.1 ∈ tbG) {v : Value} (hv : (mdL a z)[k]? = some v) (hdg : decode cc pc = .ok (.getfield index, 3))
    (kk : W p l e R s m args below meth c H locs cells slots Q (F0 m (pc + 3) ls (v :: rest))) : W p l e R s m args below meth c H locs cells slots Q (F0 m pc ls (.ref o :: rest)) :=
  me_get C0 hP hM.1 rfl inX5 k hk hlink hv hdg kk
theorem md_put (C0 : Cx G B p s m args c cc own) (hP : me_P G.1 w H) (hS : va_S (me_A B) s.heap H locs) (hM : MD G B w o a F z) (hF : MF w0 w o a) (k : Nat) (hk : k < 21) {index : Nat} (hlink : Cond.fieldLink own index (TX5 k).1 (TX5 k).2.1 (TX5 k).2.2.1 ∈ tbG) (hfin : (TX5 k).2.2.2 = false) (ht : tyX5 k = .int) {x : Int32} (hset : (mdL a z).set k (.int x) = mdL a (upd z k x)) (hdg : decode cc pc = .ok (.putfield index, 3))
    (kk : ∀ (w : Me) (z' : Nat → Int32) (H : Heap) (locs : List Loc), z' = upd z k x → MD G B w o a F z' → MF w0 w o a → me_P G.1 w H → va_S (me_A B) s.heap H locs → W p l e R s m args below meth c H locs cells slots Q (F0 m (pc + 3) ls rest)) : W p l e R s m args below meth c H locs cells slots Q (F0 m pc ls (.int x :: .ref o :: rest)) := by
  refine me_put C0 hP hS hM.2.2.2.2.1 hM.1 rfl inX5 tyX5 tyX5_ok nmX5 k hk hlink hfin (by rw [ht]; rfl) (by rw [ht]; rfl) hk hdg (fun H locs hP hS => ?_)
  rw [hset] at hP
  exact kk _ _ H locs rfl (hM.setz _) (hF.tr (fun q x _ => me_un x)) hP hS
end MDR
/-- a row of the reference: array ka, its size kz -/
def Ls (F : Nat → Nat → Int32) (z : Nat → Int32) (ka kz cap : Nat) (xs : List Int32) : Prop := z kz = nI xs.length ∧ xs.length ≤ cap ∧ ∀ i, i < xs.length → F ka i = xs.getD i 0
theorem Ls.of {F F' : Nat → Nat → Int32} {z z' : Nat → Int32} {ka kz cap : Nat} {xs : List Int32} (h : Ls F z ka kz cap xs) (h1 : F' ka = F ka) (h2 : z' kz = z kz) : Ls F' z' ka kz cap xs := ⟨h2.trans h.1, h.2.1, fun i hi => (congrFun h1 i).trans (h.2.2 i hi)⟩
theorem Ls.nil {F : Nat → Nat → Int32} {z : Nat → Int32} {ka kz cap : Nat} (h : z kz = 0) : Ls F z ka kz cap [] := ⟨h, Nat.zero_le _, fun i hi => absurd hi (Nat.not_lt_zero i)⟩
/-- all arrays but these, all numbers but these, are as they were -/
def SameF (F F' : Nat → Nat → Int32) (ks : List Nat) : Prop := ∀ k, k ∉ ks → F' k = F k
def SameZ (z z' : Nat → Int32) (ks : List Nat) : Prop := ∀ k, k ∉ ks → z' k = z k
theorem SameF.rf {F : Nat → Nat → Int32} {ks : List Nat} : SameF F F ks := fun _ _ => rfl
theorem SameZ.rf {z : Nat → Int32} {ks : List Nat} : SameZ z z ks := fun _ _ => rfl
theorem SameF.wr {F F1 F2 : Nat → Nat → Int32} {ks : List Nat} {k : Nat} {f : Nat → Int32} (h : SameF F F1 ks) (e : F2 = uF F1 k f) (hk : k ∈ ks) : SameF F F2 ks := fun i hi => by
  have hik : i ≠ k := fun q => hi (by rw [q]; exact hk)
  rw [e, uF_n hik]; exact h i hi
theorem SameZ.wr {z z1 z2 : Nat → Int32} {ks : List Nat} {k : Nat} {x : Int32} (h : SameZ z z1 ks) (e : z2 = upd z1 k x) (hk : k ∈ ks) : SameZ z z2 ks := fun i hi => by
  have hik : i ≠ k := fun q => hi (by rw [q]; exact hk)
  rw [e, upd_ne hik]; exact h i hi
theorem SameF.tr {F F1 F2 : Nat → Nat → Int32} {ks ks1 : List Nat} (h : SameF F F1 ks) (h1 : SameF F1 F2 ks1) (hs : ∀ k ∈ ks1, k ∈ ks) : SameF F F2 ks := fun i hi => (h1 i (fun q => hi (hs i q))).trans (h i hi)
theorem SameZ.tr {z z1 z2 : Nat → Int32} {ks ks1 : List Nat} (h : SameZ z z1 ks) (h1 : SameZ z1 z2 ks1) (hs : ∀ k ∈ ks1, k ∈ ks) : SameZ z z2 ks := fun i hi => (h1 i (fun q => hi (hs i q))).trans (h i hi)
theorem SameF.up {F F1 : Nat → Nat → Int32} {ks ks1 : List Nat} (h : SameF F F1 ks1) (hs : ∀ k ∈ ks1, k ∈ ks) : SameF F F1 ks := fun i hi => h i (fun q => hi (hs i q))
theorem SameZ.up {z z1 : Nat → Int32} {ks ks1 : List Nat} (h : SameZ z z1 ks1) (hs : ∀ k ∈ ks1, k ∈ ks) : SameZ z z1 ks := fun i hi => h i (fun q => hi (hs i q))
