/-! WALK: one piece, and the way over the tape -/
def stp (T : Tre) (v : Nat) (pc : List Int32) : Int32 := match T v with
  | none => -1
  | some n => if isD pc 0 pc.length then (if n.1 = 0 then -1 else if pc.length = 1 then nI v else if v = 0 then 0 else n.2.1) else if nmI pc = 0 then -2 else if n.1 = 0 then -1 else elk T (folds pc) (-1) n.2.2.2.2
theorem stp_n {T : Tre} {v : Nat} {n : Nod} {pc : List Int32} (h : T v = some n) : stp T v pc = if isD pc 0 pc.length then (if n.1 = 0 then -1 else if pc.length = 1 then nI v else if v = 0 then 0 else n.2.1) else if nmI pc = 0 then -2 else if n.1 = 0 then -1 else elk T (folds pc) (-1) n.2.2.2.2 := by
  unfold stp; rw [h]
/-- a piece ends at i -/
abbrev endsW (tp : List Int32) (i : Nat) : Prop := i = tp.length ∨ tp.getD i 0 = 47
def wkF (T : Tre) (tp : List Int32) : Nat → Nat → Nat → Nat → Int32
  | 0, _, _, v => nI v
  | n + 1, f, i, v => if tp.length < i then nI v else if endsW tp i then (if f < i then (if stp T v (pieceL tp f i) < 0 then stp T v (pieceL tp f i) else wkF T tp n (i + 1) (i + 1) (stp T v (pieceL tp f i)).toNatClampNeg) else wkF T tp n (i + 1) (i + 1) v) else wkF T tp n f (i + 1) v
def wkW (T : Tre) (tp : List Int32) (f i v : Nat) : Int32 := wkF T tp (tp.length + 1 - i) f i v
theorem wkW_end {T : Tre} {tp : List Int32} {f i v : Nat} (h : tp.length < i) : wkW T tp f i v = nI v := by
  unfold wkW; rw [show tp.length + 1 - i = 0 by omega]; rfl
theorem wkW_s {T : Tre} {tp : List Int32} {f i v u : Nat} (h : i ≤ tp.length) (he : endsW tp i) (hf : f < i) (hs : stp T v (pieceL tp f i) = nI u) (hu : u < 200) : wkW T tp f i v = wkW T tp (i + 1) (i + 1) u := by
  unfold wkW
  rw [show tp.length + 1 - i = (tp.length + 1 - (i + 1)) + 1 by omega, wkF, if_neg (by omega), if_pos he, if_pos hf, hs, if_neg (nI_pos (by omega)), nI_clamp (by omega)]
theorem wkW_f {T : Tre} {tp : List Int32} {f i v : Nat} {c : Int32} (h : i ≤ tp.length) (he : endsW tp i) (hf : f < i) (hs : stp T v (pieceL tp f i) = c) (hc : c < 0) : wkW T tp f i v = c := by
  unfold wkW
  rw [show tp.length + 1 - i = (tp.length + 1 - (i + 1)) + 1 by omega, wkF, if_neg (by omega), if_pos he, if_pos hf, hs, if_pos hc]
theorem wkW_m {T : Tre} {tp : List Int32} {f i v : Nat} (h : i ≤ tp.length) (he : endsW tp i) (hf : ¬ f < i) : wkW T tp f i v = wkW T tp (i + 1) (i + 1) v := by
  unfold wkW
  rw [show tp.length + 1 - i = (tp.length + 1 - (i + 1)) + 1 by omega, wkF, if_neg (by omega), if_pos he, if_neg hf]
theorem wkW_g {T : Tre} {tp : List Int32} {f i v : Nat} (h : i ≤ tp.length) (he : ¬ endsW tp i) : wkW T tp f i v = wkW T tp f (i + 1) v := by
  unfold wkW
  rw [show tp.length + 1 - i = (tp.length + 1 - (i + 1)) + 1 by omega, wkF, if_neg (by omega), if_neg he]
def sWalk (T : Tre) (tp : List Int32) (v : Int32) : Int32 := if noN T v = 1 then -5 else wkW T tp 0 0 (if 0 < tp.length ∧ tp.getD 0 0 = 47 then 0 else v.toNatClampNeg)
theorem TI.elk {T : Tre} (h : TI T) {v : Nat} {n : Nod} (hT : T v = some n) {X : List Int32} {bt r : Int32} (hr : r = elk T X bt n.2.2.2.2) : (r = -1 ∧ r < 0) ∨ ∃ (u : Nat) (m : Nod), u < 200 ∧ u ≠ 0 ∧ r = nI u ∧ T u = some m ∧ ¬ r = bt ∧ m.2.2.2.1 = X ∧ nI u ∈ n.2.2.2.2 := by
  subst hr
  rcases elk_r (T := T) (X := X) (bt := bt) (E := n.2.2.2.2) with e | ⟨e1, e2, e3⟩
  · exact Or.inl ⟨e, by rw [e]; decide⟩
  · obtain ⟨j, m, j1, j2, j3, j4, -⟩ := (h.2.1 v n hT).2.2.2.1 _ e1
    refine Or.inr ⟨j, m, j1, j2, j3, j4, e2, ?_, j3 ▸ e1⟩
    rw [j3, folOf_n (by omega) j4] at e3; exact e3
