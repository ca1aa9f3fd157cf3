/-! the same rows where an index or a number is told by a natural number -/
section MN
variable {p : Program} {l : Launch} {e : Env} {R : Room} {s : State} {m : MethodId} {args : Array Value} {below : List Frame} {meth : Method} {c : Code} {H : Heap} {locs : List Loc} {cells slots : Nat} {Q : State → Prop}
variable {cc : ByteArray} {pc : Nat} {ls : Array Slot} {rest : List Value} {G : me_G} {w : Me} {a B : Nat} {own : String}
theorem me_topi {x y : Int32} (h : x = y) (k : W p l e R s m args below meth c H locs cells slots Q (F0 m pc ls (.int y :: rest))) : W p l e R s m args below meth c H locs cells slots Q (F0 m pc ls (.int x :: rest)) := h ▸ k
theorem me_topl {x y : Int64} (h : x = y) (k : W p l e R s m args below meth c H locs cells slots Q (F0 m pc ls (.long y :: rest))) : W p l e R s m args below meth c H locs cells slots Q (F0 m pc ls (.long x :: rest)) := h ▸ k
theorem me_ialdN (C0 : Cx G B p s m args c cc own) (hP : me_P G.1 w H) {n : Nat} {f : Nat → Int32} (he : w a = some (eI G n f)) {i : Nat} (hi : i < n) (hn : n < 2 ^ 31) (hdg : decode cc pc = .ok (.iaload, 1))
    (kk : W p l e R s m args below meth c H locs cells slots Q (F0 m (pc + 1) ls (.int (f i) :: rest))) : W p l e R s m args below meth c H locs cells slots Q (F0 m pc ls (.int (nI i) :: .ref a :: rest)) :=
  me_iald C0 hP he (vp_in_nI hi hn) hdg (by rw [nI_clamp (Nat.lt_trans hi hn)]; exact kk)
theorem me_zaldN (C0 : Cx G B p s m args c cc own) (hP : me_P G.1 w H) {n : Nat} {f : Nat → Int32} (he : w a = some (eZ G n f)) {i : Nat} (hi : i < n) (hn : n < 2 ^ 31) (hdg : decode cc pc = .ok (.baload, 1))
    (kk : W p l e R s m args below meth c H locs cells slots Q (F0 m (pc + 1) ls (.int (f i) :: rest))) : W p l e R s m args below meth c H locs cells slots Q (F0 m pc ls (.int (nI i) :: .ref a :: rest)) :=
  me_zald C0 hP he (vp_in_nI hi hn) hdg (by rw [nI_clamp (Nat.lt_trans hi hn)]; exact kk)
theorem me_aaldN (C0 : Cx G B p s m args c cc own) (hP : me_P G.1 w H) {n : Nat} {f : Nat → Option Nat} (he : w a = some (eN G n f)) {i : Nat} (hi : i < n) (hn : n < 2 ^ 31) (hdg : decode cc pc = .ok (.aaload, 1))
    (kk : W p l e R s m args below meth c H locs cells slots Q (F0 m (pc + 1) ls (va_rf (f i) :: rest))) : W p l e R s m args below meth c H locs cells slots Q (F0 m pc ls (.int (nI i) :: .ref a :: rest)) :=
  me_aald C0 hP he (vp_in_nI hi hn) hdg (by rw [nI_clamp (Nat.lt_trans hi hn)]; exact kk)
theorem me_iastN (C0 : Cx G B p s m args c cc own) (hP : me_P G.1 w H) (hS : va_S (me_A B) s.heap H locs) (hB : B ≤ a) {n : Nat} {f : Nat → Int32} (he : w a = some (eI G n f)) {i : Nat} {x : Int32} (hi : i < n) (hn : n < 2 ^ 31) (hdg : decode cc pc = .ok (.iastore, 1))
    (kk : ∀ (H : Heap) (locs : List Loc), me_P G.1 (me_u w a (eI G n (upd f i x))) H → va_S (me_A B) s.heap H locs → W p l e R s m args below meth c H locs cells slots Q (F0 m (pc + 1) ls rest)) : W p l e R s m args below meth c H locs cells slots Q (F0 m pc ls (.int x :: .int (nI i) :: .ref a :: rest)) :=
  me_iast C0 hP hS hB he (vp_in_nI hi hn) hdg (by rw [nI_clamp (Nat.lt_trans hi hn)]; exact kk)
theorem me_zastN (C0 : Cx G B p s m args c cc own) (hP : me_P G.1 w H) (hS : va_S (me_A B) s.heap H locs) (hB : B ≤ a) {n : Nat} {f : Nat → Int32} (he : w a = some (eZ G n f)) {i : Nat} {x : Int32} (hi : i < n) (hn : n < 2 ^ 31) (hx : narrow .boolean (.int x) = .int x) (hdg : decode cc pc = .ok (.bastore, 1))
    (kk : ∀ (H : Heap) (locs : List Loc), me_P G.1 (me_u w a (eZ G n (upd f i x))) H → va_S (me_A B) s.heap H locs → W p l e R s m args below meth c H locs cells slots Q (F0 m (pc + 1) ls rest)) : W p l e R s m args below meth c H locs cells slots Q (F0 m pc ls (.int x :: .int (nI i) :: .ref a :: rest)) :=
  me_zast C0 hP hS hB he (vp_in_nI hi hn) hx hdg (by rw [nI_clamp (Nat.lt_trans hi hn)]; exact kk)
theorem me_aastN (C0 : Cx G B p s m args c cc own) (hP : me_P G.1 w H) (hS : va_S (me_A B) s.heap H locs) (hB : B ≤ a) {n v : Nat} {vs : List Value} {f : Nat → Option Nat} (he : w a = some (eN G n f)) (hv : w v = some (.inr (0, vs))) {i : Nat} (hi : i < n) (hn : n < 2 ^ 31) (hdg : decode cc pc = .ok (.aastore, 1))
    (kk : ∀ (H : Heap) (locs : List Loc), me_P G.1 (me_u w a (eN G n (va_up f i (some v)))) H → va_S (me_A B) s.heap H locs → W p l e R s m args below meth c H locs cells slots Q (F0 m (pc + 1) ls rest)) : W p l e R s m args below meth c H locs cells slots Q (F0 m pc ls (.ref v :: .int (nI i) :: .ref a :: rest)) :=
  me_aast C0 hP hS hB he hv (vp_in_nI hi hn) hdg (by rw [nI_clamp (Nat.lt_trans hi hn)]; exact kk)
end MN
/-- the map has changed at r and b alone -/
def Ch (w w' : Me) (r b : Nat) : Prop := ∀ q, q ≠ r → q ≠ b → w' q = w q
/-- Integer.compare -/
def icmp (x y : Int32) : Int32 := if x < y then -1 else if x = y then 0 else 1
