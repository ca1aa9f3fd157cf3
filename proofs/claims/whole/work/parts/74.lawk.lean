/-! THE METHODS AS THE LAW CALLS THEM -/
theorem CtWI.mono {l : Launch} {y : MethodName} {cd : Cond} {rm : Room} {G : me_G} {B : Nat} {w : Me} {av : List Value} {post post2 : Int32 → Me → Prop} {mc ms : Nat} (h : CtWI l y cd rm G B w av post mc ms) (hq : ∀ r w', post r w' → post2 r w') : CtWI l y cd rm G B w av post2 mc ms := by
  intro p e ha hc hk s m args below hf happ hP ht
  obtain ⟨k, o, h1, h2, h3, ⟨⟨r, u, hv, hp, hb⟩, hF⟩, hL⟩ := h p e ha hc hk s m args below hf happ hP ht
  exact ⟨k, o, h1, h2, h3, ⟨⟨r, u, hv, hq r u hp, hb⟩, hF⟩, hL⟩
theorem CtH.mono {l : Launch} {y : MethodName} {cd : Cond} {rm : Room} {G : me_G} {B : Nat} {w : Me} {av : List Value} {post post2 : Int32 → Me → Prop} {mc ms : Nat} (h : CtH l y cd rm G B w av post mc ms) (hq : ∀ r w', post r w' → post2 r w') : CtH l y cd rm G B w av post2 mc ms := by
  intro p e ha hc hk s m args below hf happ hP ht
  obtain ⟨k, o, h1, h2, h3, ⟨⟨r, u, hv, hp, hb⟩, hF⟩, hL⟩ := h p e ha hc hk s m args below hf happ hP ht
  exact ⟨k, o, h1, h2, h3, ⟨⟨r, u, hv, hq r u hp, hb⟩, hF⟩, hL⟩
/-- the reference, and whether its last call has thrown -/
def LRz (G : me_G) (B0 o : Nat) (a : Nat → Nat) (w : Me) (T : Tre) (tp fo : List Int32) (t : Int32) : Prop :=
  ∃ (F : Nat → Nat → Int32) (z : Nat → Int32), (MD G B0 w o a F z ∧ Ls F z 0 1 200 tp ∧ Ls F z 11 12 400 fo ∧ RT F T) ∧ z 13 = t
theorem LRz.r {G : me_G} {B0 o : Nat} {a : Nat → Nat} {w : Me} {T : Tre} {tp fo : List Int32} {t : Int32} (h : LRz G B0 o a w T tp fo t) : LR G B0 o a w T tp fo := by
  obtain ⟨F, z, h1, -⟩ := h
  exact ⟨F, z, h1⟩
/-- what feed takes -/
def fdOK (nn : Int32) (tp : List Int32) : Prop := (1 ≤ nn.toNatClampNeg ∧ nn.toNatClampNeg ≤ 8) ∧ nn = nI nn.toNatClampNeg ∧ tp.length + nn.toNatClampNeg ≤ 200
def fdT (nn : Int32) (oc : Int64) (tp : List Int32) : List Int32 := tp ++ octsR oc nn.toNatClampNeg
def fdR (nn : Int32) (tp : List Int32) : Int32 := nI (tp.length + nn.toNatClampNeg)
theorem fd_yes {nn : Int32} {tp : List Int32} {q0 : Nat} (h1 : 1 ≤ q0) (h2 : q0 ≤ 8) (h3 : nn = nI q0) (h4 : tp.length + q0 ≤ 200) : fdOK nn tp ∧ nn.toNatClampNeg = q0 := by
  have e : nn.toNatClampNeg = q0 := by rw [h3, nI_clamp (by omega)]
  refine ⟨⟨⟨by omega, by omega⟩, by rw [e]; exact h3, by omega⟩, e⟩
theorem fd_no {nn : Int32} {tp : List Int32} (h : ∀ q0 : Nat, 1 ≤ q0 → q0 ≤ 8 → ¬ (nn = nI q0 ∧ tp.length + q0 ≤ 200)) : ¬ fdOK nn tp := fun q => h _ q.1.1 q.1.2 q.2
theorem fdT_oct {nn : Int32} {oc : Int64} {tp : List Int32} (h : fdOK nn tp) (ho : Oct tp) : Oct (fdT nn oc tp) := ho.app (Oct.octs h.1.2)

theorem k_X4_check (l : Launch) (G : me_G) (B0 x o ou : Nat) (a : Nat → Nat) (w : Me) (T : Tre) (tp fo : List Int32) (hLS : LSt G B0 x o ou a w T tp fo) : CtWI l yX4_check (Cond.code yX4_check cX4_check 2 (some .int)) ({ frames := 3, cells := 0, slots := 0, locals := 73 }) G B0 w [.ref x] (fun r w' => r = wr tp tp.length 0 ∧ LC G B0 x o ou a w' T [] fo ∧ FDr (LD o ou a) w w') 0 0 := by
  obtain ⟨⟨ad, ex, R, N, Bn, rfl, hFN, hCT, hSB, htp, hfo⟩, hLR, hLO, hI, hoct⟩ := hLS
  refine (c_X4_check l G B0 w _ ad ex R N _ hFN tp htp hoct).mono (fun r w' h => ?_)
  obtain ⟨R', h1, h2, h3, h4, h5⟩ := h
  exact ⟨h5, ⟨ad, ex, R', N, Bn, rfl, h1, hCT.sr h3 (by simp), hSB, h4, (h3 0 3 (by simp)).trans hfo⟩, h2⟩

theorem k_X4_fold (l : Launch) (G : me_G) (B0 x o ou : Nat) (a : Nat → Nat) (w : Me) (T : Tre) (tp fo : List Int32) (hLS : LSt G B0 x o ou a w T tp fo) : CtWI l yX4_fold (Cond.code yX4_fold cX4_fold 2 (some .int)) ({ frames := 7, cells := 0, slots := 0, locals := 154 }) G B0 w [.ref x] (fun r w' => r = (if wr tp tp.length 0 = -1 then nI (folds tp).length else -2) ∧ LC G B0 x o ou a w' T [] (if wr tp tp.length 0 = -1 then folds tp else fo) ∧ FDr (LD o ou a) w w') 0 0 := by
  obtain ⟨⟨ad, ex, R, N, Bn, rfl, hFN, hCT, hSB, htp, hfo⟩, hLR, hLO, hI, hoct⟩ := hLS
  refine (c_X4_fold l G B0 w _ ad ex R N _ hFN tp htp hoct).mono (fun r w' h => ?_)
  obtain ⟨R', h1, h2, h3, h4, h5⟩ := h
  exact by
    rcases h5 with ⟨e1, e2, e3⟩ | ⟨e1, e2, e3⟩
    · rw [if_pos e1, if_pos e1]; exact ⟨e2, ⟨ad, ex, R', N, Bn, rfl, h1, hCT.sr h3 (by simp), hSB, h4, e3⟩, h2⟩
    · rw [if_neg e1, if_neg e1]; exact ⟨e2, ⟨ad, ex, R', N, Bn, rfl, h1, hCT.sr h3 (by simp), hSB, h4, e3.trans hfo⟩, h2⟩

theorem k_X4_folded (l : Launch) (G : me_G) (B0 x o ou : Nat) (a : Nat → Nat) (w : Me) (T : Tre) (tp fo : List Int32) (hLS : LSt G B0 x o ou a w T tp fo) (k : Int32) : CtI l yX4_folded (Cond.code yX4_folded cX4_folded 2 (some .int)) ({ frames := 1, cells := 0, slots := 0, locals := 21 }) G B0 w [.ref x, .int k] (fun r => r = ra fo k) := by
  obtain ⟨⟨ad, ex, R, N, Bn, rfl, hFN, hCT, hSB, htp, hfo⟩, hLR, hLO, hI, hoct⟩ := hLS
  exact c_X4_folded l G B0 w _ ad ex R N _ hFN fo hfo k

theorem k_X4_put (l : Launch) (G : me_G) (B0 x o ou : Nat) (a : Nat → Nat) (w : Me) (T : Tre) (tp fo : List Int32) (hLS : LSt G B0 x o ou a w T tp fo) (d dr : Int32) (hnb : narrow .boolean (.int dr) = .int dr) (hfit : fits .boolean (.int dr) = true) : CtWI l yX4_put (Cond.code yX4_put cX4_put 4 (some .int)) ({ frames := 9, cells := 9, slots := 215, locals := 204 }) G B0 w [.ref x, .int d, .int dr] (fun r w' => r = sPutR T tp d ∧ LC G B0 x o ou a w' (sPutT T tp d dr) [] fo ∧ FDr (LD o ou a) w w') 9 215 := by
  have hDn := hLS.dn
  obtain ⟨⟨ad, ex, R, N, Bn, rfl, hFN, hCT, hSB, htp, hfo⟩, hLR, hLO, hI, hoct⟩ := hLS
  refine (c_X4_put l G B0 w _ ad ex R N T hFN Bn hCT hI hSB tp htp hoct hDn d dr hnb hfit).mono (fun r w' h => ?_)
  obtain ⟨ad', ex', R', N', h1, h2, h3, h4, h5, h6, h7⟩ := h
  exact ⟨h6, ⟨ad', ex', R', N', _, h3, h1, h7, (sPut_ok hI hSB hoct).2, h4, h5.trans hfo⟩, h2⟩

theorem k_X4_find (l : Launch) (G : me_G) (B0 x o ou : Nat) (a : Nat → Nat) (w : Me) (T : Tre) (tp fo : List Int32) (hLS : LSt G B0 x o ou a w T tp fo) (d : Int32) : CtWI l yX4_find (Cond.code yX4_find cX4_find 3 (some .int)) ({ frames := 9, cells := 0, slots := 0, locals := 201 }) G B0 w [.ref x, .int d] (fun r w' => r = sFind T tp d ∧ LC G B0 x o ou a w' T [] fo ∧ FDr (LD o ou a) w w') 0 0 := by
  obtain ⟨⟨ad, ex, R, N, Bn, rfl, hFN, hCT, hSB, htp, hfo⟩, hLR, hLO, hI, hoct⟩ := hLS
  refine (c_X4_find l G B0 w _ ad ex R N _ hFN T Bn hCT hI tp htp hoct d).mono (fun r w' h => ?_)
  obtain ⟨R', h1, h2, h3, h4, h5, h6⟩ := h
  exact ⟨h6, ⟨ad, ex, R', N, Bn, rfl, h1, h5, hSB, h4, (h3 3 (by decide) (by decide)).trans hfo⟩, h2⟩

theorem k_X4_walk (l : Launch) (G : me_G) (B0 x o ou : Nat) (a : Nat → Nat) (w : Me) (T : Tre) (tp fo : List Int32) (hLS : LSt G B0 x o ou a w T tp fo) (nd0 : Int32) : CtWI l yX4_walk (Cond.code yX4_walk cX4_walk 3 (some .int)) ({ frames := 10, cells := 0, slots := 0, locals := 229 }) G B0 w [.ref x, .int nd0] (fun r w' => r = sWalk T tp nd0 ∧ LC G B0 x o ou a w' T [] fo ∧ FDr (LD o ou a) w w') 0 0 := by
  obtain ⟨⟨ad, ex, R, N, Bn, rfl, hFN, hCT, hSB, htp, hfo⟩, hLR, hLO, hI, hoct⟩ := hLS
  refine (c_X4_walk l G B0 w _ ad ex R N _ hFN T Bn hCT hI tp htp hoct nd0).mono (fun r w' h => ?_)
  obtain ⟨R', h1, h2, h3, h4, h5, h6⟩ := h
  exact ⟨h6, ⟨ad, ex, R', N, Bn, rfl, h1, h5, hSB, h4, (h3 3 (by decide) (by decide)).trans hfo⟩, h2⟩

theorem k_X4_move (l : Launch) (G : me_G) (B0 x o ou : Nat) (a : Nat → Nat) (w : Me) (T : Tre) (tp fo : List Int32) (hLS : LSt G B0 x o ou a w T tp fo) (v : Int32) (d : Int32) : CtWI l yX4_move (Cond.code yX4_move cX4_move 4 (some .int)) ({ frames := 9, cells := 0, slots := 0, locals := 206 }) G B0 w [.ref x, .int v, .int d] (fun r w' => r = sMovR T tp v d ∧ LC G B0 x o ou a w' (sMovT T tp v d) [] fo ∧ FDr (LD o ou a) w w') 0 0 := by
  obtain ⟨⟨ad, ex, R, N, Bn, rfl, hFN, hCT, hSB, htp, hfo⟩, hLR, hLO, hI, hoct⟩ := hLS
  refine (c_X4_move l G B0 w _ ad ex R N _ hFN T Bn hCT hI hSB tp htp hoct v d).mono (fun r w' h => ?_)
  obtain ⟨R', N', h1, h2, h3, h4, h5, h6⟩ := h
  exact ⟨h5, ⟨ad, ex, R', N', _, rfl, by rw [(sMov_ok (v := v) (d := d) hI hSB hoct).2]; exact h1, h6, (sMov_ok hI hSB hoct).1.2, h3, h4.trans hfo⟩, h2⟩

theorem k_X4_remove (l : Launch) (G : me_G) (B0 x o ou : Nat) (a : Nat → Nat) (w : Me) (T : Tre) (tp fo : List Int32) (hLS : LSt G B0 x o ou a w T tp fo) (v : Int32) : CtWI l yX4_remove (Cond.code yX4_remove cX4_remove 3 (some .int)) ({ frames := 2, cells := 0, slots := 0, locals := 46 }) G B0 w [.ref x, .int v] (fun r w' => r = sRemR T v ∧ LC G B0 x o ou a w' (sRemT T v) tp fo ∧ FDr (LD o ou a) w w') 0 0 := by
  obtain ⟨⟨ad, ex, R, N, Bn, rfl, hFN, hCT, hSB, htp, hfo⟩, hLR, hLO, hI, hoct⟩ := hLS
  refine (c_X4_remove l G B0 w _ ad ex R N T hFN Bn hCT hI v).mono (fun r w' h => ?_)
  obtain ⟨R', N', h1, h2, h3, h4, h5⟩ := h
  exact ⟨h4, ⟨ad, ex, R', N', _, rfl, h1, h5, (sRem_ok hI hSB).2, (h3 1).trans htp, (h3 3).trans hfo⟩, h2⟩

theorem k_X4_entry (l : Launch) (G : me_G) (B0 x o ou : Nat) (a : Nat → Nat) (w : Me) (T : Tre) (tp fo : List Int32) (hLS : LSt G B0 x o ou a w T tp fo) (d : Int32) (k : Int32) : CtI l yX4_entry (Cond.code yX4_entry cX4_entry 4 (some .int)) ({ frames := 2, cells := 0, slots := 0, locals := 44 }) G B0 w [.ref x, .int d, .int k] (fun r => r = sEntry T d k) := by
  obtain ⟨⟨ad, ex, R, N, Bn, rfl, hFN, hCT, hSB, htp, hfo⟩, hLR, hLO, hI, hoct⟩ := hLS
  exact c_X4_entry l G B0 w _ ad ex R N _ hFN T Bn hCT d k

theorem k_X4_sorted (l : Launch) (G : me_G) (B0 x o ou : Nat) (a : Nat → Nat) (w : Me) (T : Tre) (tp fo : List Int32) (hLS : LSt G B0 x o ou a w T tp fo) (d : Int32) (k : Int32) : CtI l yX4_sorted (Cond.code yX4_sorted cX4_sorted 4 (some .int)) ({ frames := 2, cells := 0, slots := 0, locals := 44 }) G B0 w [.ref x, .int d, .int k] (fun r => r = sSort T d k) := by
  obtain ⟨⟨ad, ex, R, N, Bn, rfl, hFN, hCT, hSB, htp, hfo⟩, hLR, hLO, hI, hoct⟩ := hLS
  rw [← hSB.srt hI d k]
  exact c_X4_sorted l G B0 w _ ad ex R N _ hFN T Bn hCT d k

theorem k_X4_nodes (l : Launch) (G : me_G) (B0 x o ou : Nat) (a : Nat → Nat) (w : Me) (T : Tre) (tp fo : List Int32) (hLS : LSt G B0 x o ou a w T tp fo) : CtI l yX4_nodes (Cond.code yX4_nodes cX4_nodes 1 (some .int)) ({ frames := 0, cells := 0, slots := 0, locals := 0 }) G B0 w [.ref x] (fun r => r = nI (cntF T 200)) := by
  obtain ⟨⟨ad, ex, R, N, Bn, rfl, hFN, hCT, hSB, htp, hfo⟩, hLR, hLO, hI, hoct⟩ := hLS
  exact c_X4_nodes l G B0 w _ ad ex R N _ hFN

theorem k_L_feed (l : Launch) (hl0 : l.stackTraces = false) (G : me_G) (B0 x o ou : Nat) (a : Nat → Nat) (w : Me) (T : Tre) (tp fo : List Int32) (hLS : LSt G B0 x o ou a w T tp fo) (nn : Int32) (oc : Int64) : CtH l yL_feed (Cond.codeWith yL_feed cL_feed 6 (some .int) [(0, 11, 14, 13)]) ({ frames := 7, cells := 1, slots := 6, locals := 106 }) G B0 w [.ref x, .int nn, .long oc, .ref ou] (fun r w' => (¬ fdOK nn tp ∧ r = 1 ∧ (LC G B0 x o ou a w' T tp fo ∧ LR G B0 o a w' T tp fo ∧ LO G B0 o ou a w')) ∨ (fdOK nn tp ∧ r = 0 ∧ (LC G B0 x o ou a w' T (fdT nn oc tp) fo ∧ LR G B0 o a w' T tp fo ∧ LO G B0 o ou a w') ∧ ∃ f : Nat → Int64, w' ou = some (eJ G 1 f) ∧ f (0 : Int32).toNatClampNeg = (fdR nn tp).toInt64)) 1 6 := by
  obtain ⟨hLC, hLR, hLO, hI, hoct⟩ := hLS
  obtain ⟨fs, hx⟩ := hLC.x
  obtain ⟨⟨fj, hou⟩, hBo, hO2⟩ := id hLO
  obtain ⟨ad, ex, R, N, Bn, rfl, hFN, hCT, hSB, htp, hfo⟩ := id hLC
  refine (c_L_feed l G B0 w (ad 0 0) ou fs fj hx hou hBo nn oc _ _ (c_X4_feed l hl0 G B0 w _ ad ex R N _ hFN T Bn hCT tp htp nn oc) (fun r w' h => ?_)).mono (fun r w' h => ?_)
  · obtain ⟨q0, R', -, -, -, -, -, -, h7, -⟩ := h
    exact h7 ou LD.ou
  · rcases h with ⟨h1, h2, h3⟩ | ⟨h1, rr, wm, h2, h3⟩
    · rw [h3]; exact Or.inl ⟨fd_no h2, h1, hLC, hLR, hLO⟩
    · obtain ⟨q0, R', g1, g2, g3, g4, g5, g6, g7, g8, g9, g10⟩ := h2
      obtain ⟨f1, f2⟩ := fd_yes g1 g2 g3 g4
      rw [h3]
      refine Or.inr ⟨f1, h1, ⟨LC.wo ⟨ad, ex, R', N, Bn, rfl, g6, g10, hSB, by unfold fdT; rw [f2]; exact g9, (g8 3 (by decide)).trans hfo⟩, (hLR.fd g7).wo hLO, LO.wo hLO⟩, _, me_us _ _ _, ?_⟩
      unfold fdR; rw [f2, ← g5]; simp [vp_updL]

theorem k_L_about (l : Launch) (hl0 : l.stackTraces = false) (G : me_G) (B0 x o ou : Nat) (a : Nat → Nat) (w : Me) (T : Tre) (tp fo : List Int32) (hLS : LSt G B0 x o ou a w T tp fo) (v : Int32) (wh : Int32) : CtH l yL_about (Cond.codeWith yL_about cL_about 5 (some .int) [(0, 10, 13, 13)]) ({ frames := 7, cells := 1, slots := 6, locals := 105 }) G B0 w [.ref x, .int v, .int wh, .ref ou] (fun r w' => (¬ (¬ wh < 0 ∧ ¬ 5 < wh) ∧ r = 1 ∧ (LC G B0 x o ou a w' T tp fo ∧ LR G B0 o a w' T tp fo ∧ LO G B0 o ou a w')) ∨ ((¬ wh < 0 ∧ ¬ 5 < wh) ∧ r = 0 ∧ (LC G B0 x o ou a w' T tp fo ∧ LR G B0 o a w' T tp fo ∧ LO G B0 o ou a w') ∧ ∃ f : Nat → Int64, w' ou = some (eJ G 1 f) ∧ f (0 : Int32).toNatClampNeg = (sAbout T 200 v wh).toInt64)) 1 6 := by
  obtain ⟨hLC, hLR, hLO, hI, hoct⟩ := hLS
  obtain ⟨fs, hx⟩ := hLC.x
  obtain ⟨⟨fj, hou⟩, hBo, hO2⟩ := id hLO
  obtain ⟨ad, ex, R, N, Bn, rfl, hFN, hCT, hSB, htp, hfo⟩ := id hLC
  obtain ⟨dp, hdp, hd⟩ := hI.dp
  refine (c_L_about l G B0 w (ad 0 0) ou fs fj hx hou hBo v wh _ _ (c_X4_about l hl0 G B0 w _ ad ex R N _ hFN T Bn hCT hI dp hdp hd v wh) (fun r w' h => ?_)).mono (fun r w' h => ?_)
  · rw [h.2.2]
  · rcases h with ⟨h1, h2, h3⟩ | ⟨h1, rr, wm, ⟨g1, g2, g3⟩, h3⟩
    · rw [h3]; exact Or.inl ⟨h2, h1, hLC, hLR, hLO⟩
    · subst g3
      rw [h3]
      refine Or.inr ⟨g1, h1, ⟨hLC.wo, hLR.wo hLO, LO.wo hLO⟩, _, me_us _ _ _, ?_⟩
      rw [← g2]; simp [vp_updL]

theorem k_L_letter (l : Launch) (hl0 : l.stackTraces = false) (G : me_G) (B0 x o ou : Nat) (a : Nat → Nat) (w : Me) (T : Tre) (tp fo : List Int32) (hLS : LSt G B0 x o ou a w T tp fo) (v : Int32) (wh : Int32) (k : Int32) : CtH l yL_letter (Cond.codeWith yL_letter cL_letter 6 (some .int) [(0, 12, 15, 13)]) ({ frames := 7, cells := 1, slots := 6, locals := 106 }) G B0 w [.ref x, .int v, .int wh, .int k, .ref ou] (fun r w' => (¬ (wh = 0 ∨ wh = 1) ∧ r = 1 ∧ (LC G B0 x o ou a w' T tp fo ∧ LR G B0 o a w' T tp fo ∧ LO G B0 o ou a w')) ∨ ((wh = 0 ∨ wh = 1) ∧ r = 0 ∧ (LC G B0 x o ou a w' T tp fo ∧ LR G B0 o a w' T tp fo ∧ LO G B0 o ou a w') ∧ ∃ f : Nat → Int64, w' ou = some (eJ G 1 f) ∧ f (0 : Int32).toNatClampNeg = (sLetter T v wh k).toInt64)) 1 6 := by
  obtain ⟨hLC, hLR, hLO, hI, hoct⟩ := hLS
  obtain ⟨fs, hx⟩ := hLC.x
  obtain ⟨⟨fj, hou⟩, hBo, hO2⟩ := id hLO
  obtain ⟨ad, ex, R, N, Bn, rfl, hFN, hCT, hSB, htp, hfo⟩ := id hLC
  refine (c_L_letter l G B0 w (ad 0 0) ou fs fj hx hou hBo v wh k _ _ (c_X4_letter l hl0 G B0 w _ ad ex R N _ hFN T Bn hCT v wh k) (fun r w' h => ?_)).mono (fun r w' h => ?_)
  · rw [h.2.2]
  · rcases h with ⟨h1, h2, h3⟩ | ⟨h1, rr, wm, ⟨g1, g2, g3⟩, h3⟩
    · rw [h3]; exact Or.inl ⟨h2, h1, hLC, hLR, hLO⟩
    · subst g3
      rw [h3]
      refine Or.inr ⟨g1, h1, ⟨hLC.wo, hLR.wo hLO, LO.wo hLO⟩, _, me_us _ _ _, ?_⟩
      rw [← g2]; simp [vp_updL]

theorem k_X5_check (l : Launch) (G : me_G) (B0 o : Nat) (a : Nat → Nat) (w : Me) (T : Tre) (tp fo : List Int32) (hLR : LR G B0 o a w T tp fo) (hI : TI T) (ho : Oct tp) : CtWI l yX5_check (Cond.code yX5_check cX5_check 1 (some .int)) ({ frames := 1, cells := 0, slots := 0, locals := 26 }) G B0 w [.ref o] (fun r w' => r = wr tp tp.length 0 ∧ LR G B0 o a w' T [] fo ∧ MF w w' o a) 0 0 := by
  obtain ⟨F, z, hM, hT0, hF0, hRT⟩ := hLR
  refine (c_X5_check l G B0 w o a F z hM tp hT0 ho).mono (fun r w' h => ?_)
  obtain ⟨F', z', h1, h2, h3, h4, h5, h6, h7⟩ := h
  exact ⟨h3, ⟨F', z', h1, h7, (hF0.of (h5 11 (by decide)) (h6 12 (by decide))), (hRT.of (fun k hk => h5 k (by revert k; decide)))⟩, h2⟩

theorem k_X5_fold (l : Launch) (G : me_G) (B0 o : Nat) (a : Nat → Nat) (w : Me) (T : Tre) (tp fo : List Int32) (hLR : LR G B0 o a w T tp fo) (hI : TI T) (ho : Oct tp) : CtWI l yX5_fold (Cond.code yX5_fold cX5_fold 2 (some .int)) ({ frames := 3, cells := 0, slots := 0, locals := 68 }) G B0 w [.ref o] (fun r w' => r = (if wr tp tp.length 0 = -1 then nI (folds tp).length else -2) ∧ LR G B0 o a w' T [] (if wr tp tp.length 0 = -1 then folds tp else fo) ∧ MF w w' o a) 0 0 := by
  obtain ⟨F, z, hM, hT0, hF0, hRT⟩ := hLR
  refine (c_X5_fold l G B0 w o a F z hM tp hT0 ho).mono (fun r w' h => ?_)
  obtain ⟨F', z', h1, h2, h3, h4, h5, h6, h7⟩ := h
  exact by
    rcases h7 with ⟨e1, e2, e3⟩ | ⟨e1, e2, e3, e4⟩
    · rw [if_pos e1, if_pos e1]; exact ⟨e2, ⟨F', z', h1, h6, e3, (hRT.of (fun k hk => h4 k (by revert k; decide)))⟩, h2⟩
    · rw [if_neg e1, if_neg e1]; exact ⟨e2, ⟨F', z', h1, h6, hF0.of e3 e4, (hRT.of (fun k hk => h4 k (by revert k; decide)))⟩, h2⟩

theorem k_X5_folded (l : Launch) (G : me_G) (B0 o : Nat) (a : Nat → Nat) (w : Me) (T : Tre) (tp fo : List Int32) (hLR : LR G B0 o a w T tp fo) (hI : TI T) (ho : Oct tp) (k : Int32) : CtWI l yX5_folded (Cond.code yX5_folded cX5_folded 2 (some .int)) ({ frames := 0, cells := 0, slots := 0, locals := 0 }) G B0 w [.ref o, .int k] (fun r w' => r = ra fo k ∧ LR G B0 o a w' T tp fo ∧ MF w w' o a) 0 0 := by
  obtain ⟨F, z, hM, hT0, hF0, hRT⟩ := hLR
  refine (c_X5_folded l G B0 w o a F z hM fo hF0 k).mono (fun r w' h => ?_)
  obtain ⟨F', z', h1, h2, h3, h4, h5, h6⟩ := h
  exact ⟨h6, ⟨F', z', h1, hT0.of (h4 0 (by decide)) (h5 1 (by decide)), (hF0.of (h4 11 (by decide)) (h5 12 (by decide))), (hRT.of (fun k hk => h4 k (by revert k; decide)))⟩, h2⟩

theorem k_X5_put (l : Launch) (G : me_G) (B0 o : Nat) (a : Nat → Nat) (w : Me) (T : Tre) (tp fo : List Int32) (hLR : LR G B0 o a w T tp fo) (hI : TI T) (ho : Oct tp) (d : Int32) (dr : Int32) (hnb : narrow .boolean (.int dr) = .int dr) : CtWI l yX5_put (Cond.code yX5_put cX5_put 4 (some .int)) ({ frames := 4, cells := 0, slots := 0, locals := 90 }) G B0 w [.ref o, .int d, .int dr] (fun r w' => r = sPutR T tp d ∧ LR G B0 o a w' (sPutT T tp d dr) [] fo ∧ MF w w' o a) 0 0 := by
  obtain ⟨F, z, hM, hT0, hF0, hRT⟩ := hLR
  refine (c_X5_put l G B0 w o a F z hM T hRT hI tp hT0 ho d dr hnb).mono (fun r w' h => ?_)
  obtain ⟨F', z', h1, h2, h3, h4, h5, h6, h7, h8⟩ := h
  exact ⟨h7, ⟨F', z', h1, h6, (hF0.of (h4 11 (by decide)) (h5 12 (by decide))), h8⟩, h2⟩

theorem k_X5_find (l : Launch) (G : me_G) (B0 o : Nat) (a : Nat → Nat) (w : Me) (T : Tre) (tp fo : List Int32) (hLR : LR G B0 o a w T tp fo) (hI : TI T) (ho : Oct tp) (d : Int32) : CtWI l yX5_find (Cond.code yX5_find cX5_find 2 (some .int)) ({ frames := 4, cells := 0, slots := 0, locals := 90 }) G B0 w [.ref o, .int d] (fun r w' => r = sFind T tp d ∧ LR G B0 o a w' T [] fo ∧ MF w w' o a) 0 0 := by
  obtain ⟨F, z, hM, hT0, hF0, hRT⟩ := hLR
  refine (c_X5_find l G B0 w o a F z hM T hRT hI tp hT0 ho d).mono (fun r w' h => ?_)
  obtain ⟨F', z', h1, h2, h3, h4, h5, h6, h7⟩ := h
  exact ⟨h7, ⟨F', z', h1, h6, (hF0.of (h4 11 (by decide)) (h5 12 (by decide))), (hRT.of (fun k hk => h4 k (by revert k; decide)))⟩, h2⟩

theorem k_X5_walk (l : Launch) (G : me_G) (B0 o : Nat) (a : Nat → Nat) (w : Me) (T : Tre) (tp fo : List Int32) (hLR : LR G B0 o a w T tp fo) (hI : TI T) (ho : Oct tp) (nd0 : Int32) : CtWI l yX5_walk (Cond.code yX5_walk cX5_walk 7 (some .int)) ({ frames := 4, cells := 0, slots := 0, locals := 90 }) G B0 w [.ref o, .int nd0] (fun r w' => r = sWalk T tp nd0 ∧ LR G B0 o a w' T [] fo ∧ MF w w' o a) 0 0 := by
  obtain ⟨F, z, hM, hT0, hF0, hRT⟩ := hLR
  refine (c_X5_walk l G B0 w o a F z hM T hRT hI tp hT0 ho nd0).mono (fun r w' h => ?_)
  obtain ⟨F', z', h1, h2, h3, h4, h5, h6, h7⟩ := h
  exact ⟨h7, ⟨F', z', h1, h6, (hF0.of (h4 11 (by decide)) (h5 12 (by decide))), (hRT.of (fun k hk => h4 k (by revert k; decide)))⟩, h2⟩

theorem k_X5_move (l : Launch) (G : me_G) (B0 o : Nat) (a : Nat → Nat) (w : Me) (T : Tre) (tp fo : List Int32) (hLR : LR G B0 o a w T tp fo) (hI : TI T) (ho : Oct tp) (v : Int32) (d : Int32) : CtWI l yX5_move (Cond.code yX5_move cX5_move 4 (some .int)) ({ frames := 4, cells := 0, slots := 0, locals := 90 }) G B0 w [.ref o, .int v, .int d] (fun r w' => r = sMovR T tp v d ∧ LR G B0 o a w' (sMovT T tp v d) [] fo ∧ MF w w' o a) 0 0 := by
  obtain ⟨F, z, hM, hT0, hF0, hRT⟩ := hLR
  refine (c_X5_move l G B0 w o a F z hM T hRT hI tp hT0 ho v d).mono (fun r w' h => ?_)
  obtain ⟨F', z', h1, h2, h3, h4, h5, h6, h7, h8⟩ := h
  exact ⟨h7, ⟨F', z', h1, h6, (hF0.of (h4 11 (by decide)) (h5 12 (by decide))), h8⟩, h2⟩

theorem k_X5_remove (l : Launch) (G : me_G) (B0 o : Nat) (a : Nat → Nat) (w : Me) (T : Tre) (tp fo : List Int32) (hLR : LR G B0 o a w T tp fo) (hI : TI T) (ho : Oct tp) (v : Int32) : CtWI l yX5_remove (Cond.code yX5_remove cX5_remove 2 (some .int)) ({ frames := 1, cells := 0, slots := 0, locals := 24 }) G B0 w [.ref o, .int v] (fun r w' => r = sRemR T v ∧ LR G B0 o a w' (sRemT T v) tp fo ∧ MF w w' o a) 0 0 := by
  obtain ⟨F, z, hM, hT0, hF0, hRT⟩ := hLR
  refine (c_X5_remove l G B0 w o a F z hM T hRT hI v).mono (fun r w' h => ?_)
  obtain ⟨F', z', h1, h2, h3, h4, h5, h6, h7⟩ := h
  exact ⟨h6, ⟨F', z', h1, hT0.of (h4 0 (by decide)) (h5 1 (by decide)), (hF0.of (h4 11 (by decide)) (h5 12 (by decide))), h7⟩, h2⟩

theorem k_X5_entry (l : Launch) (G : me_G) (B0 o : Nat) (a : Nat → Nat) (w : Me) (T : Tre) (tp fo : List Int32) (hLR : LR G B0 o a w T tp fo) (hI : TI T) (ho : Oct tp) (d : Int32) (k : Int32) : CtWI l yX5_entry (Cond.code yX5_entry cX5_entry 3 (some .int)) ({ frames := 2, cells := 0, slots := 0, locals := 42 }) G B0 w [.ref o, .int d, .int k] (fun r w' => r = sEntry T d k ∧ LR G B0 o a w' T tp fo ∧ MF w w' o a) 0 0 := by
  obtain ⟨F, z, hM, hT0, hF0, hRT⟩ := hLR
  refine (c_X5_entry l G B0 w o a F z hM T hRT d k).mono (fun r w' h => ?_)
  obtain ⟨F', z', h1, h2, h3, h4, h5, h6⟩ := h
  exact ⟨h6, ⟨F', z', h1, hT0.of (by rw [h4]) (h5 1 (by decide)), hF0.of (by rw [h4]) (h5 12 (by decide)), by rw [h4]; exact hRT⟩, h2⟩

theorem k_X5_sorted (l : Launch) (G : me_G) (B0 o : Nat) (a : Nat → Nat) (w : Me) (T : Tre) (tp fo : List Int32) (hLR : LR G B0 o a w T tp fo) (hI : TI T) (ho : Oct tp) (d : Int32) (k : Int32) : CtWI l yX5_sorted (Cond.code yX5_sorted cX5_sorted 7 (some .int)) ({ frames := 2, cells := 0, slots := 0, locals := 42 }) G B0 w [.ref o, .int d, .int k] (fun r w' => r = sSort T d k ∧ LR G B0 o a w' T tp fo ∧ MF w w' o a) 0 0 := by
  obtain ⟨F, z, hM, hT0, hF0, hRT⟩ := hLR
  refine (c_X5_sorted l G B0 w o a F z hM T hRT hI d k).mono (fun r w' h => ?_)
  obtain ⟨F', z', h1, h2, h3, h4, h5, h6⟩ := h
  exact ⟨h6, ⟨F', z', h1, hT0.of (by rw [h4]) (h5 1 (by decide)), hF0.of (by rw [h4]) (h5 12 (by decide)), by rw [h4]; exact hRT⟩, h2⟩

theorem k_X5_nodes (l : Launch) (G : me_G) (B0 o : Nat) (a : Nat → Nat) (w : Me) (T : Tre) (tp fo : List Int32) (hLR : LR G B0 o a w T tp fo) (hI : TI T) (ho : Oct tp) : CtWI l yX5_nodes (Cond.code yX5_nodes cX5_nodes 3 (some .int)) ({ frames := 0, cells := 0, slots := 0, locals := 0 }) G B0 w [.ref o] (fun r w' => r = nI (cntF T 200) ∧ LR G B0 o a w' T tp fo ∧ MF w w' o a) 0 0 := by
  obtain ⟨F, z, hM, hT0, hF0, hRT⟩ := hLR
  refine (c_X5_nodes l G B0 w o a F z hM T hRT).mono (fun r w' h => ?_)
  obtain ⟨F', z', h1, h2, h3, h4, h5, h6⟩ := h
  exact ⟨h6, ⟨F', z', h1, hT0.of (by rw [h4]) (h5 1 (by decide)), hF0.of (by rw [h4]) (h5 12 (by decide)), by rw [h4]; exact hRT⟩, h2⟩

theorem k_X5_feed (l : Launch) (G : me_G) (B0 o : Nat) (a : Nat → Nat) (w : Me) (T : Tre) (tp fo : List Int32) (hLR : LR G B0 o a w T tp fo) (hI : TI T) (ho : Oct tp) (nn : Int32) (oc : Int64) : CtWI l yX5_feed (Cond.code yX5_feed cX5_feed 5 (some .int)) ({ frames := 0, cells := 0, slots := 0, locals := 0 }) G B0 w [.ref o, .int nn, .long oc] (fun r w' => ((¬ fdOK nn tp ∧ LRz G B0 o a w' T tp fo 1) ∨ (fdOK nn tp ∧ r = fdR nn tp ∧ LRz G B0 o a w' T (fdT nn oc tp) fo 0)) ∧ MF w w' o a) 0 0 := by
  obtain ⟨F, z, hM, hT0, hF0, hRT⟩ := hLR
  refine (c_X5_feed l G B0 w o a F z hM tp hT0 nn oc).mono (fun r w' h => ?_)
  obtain ⟨F', z', h1, h2, h3, h4, h5⟩ := h
  exact by
    rcases h5 with ⟨e1, e2, e3, e4⟩ | ⟨q0, e1, e2, e3, e4, e5, e6, e7⟩
    · exact ⟨Or.inl ⟨fd_no e1, F', z', ⟨h1, hT0.of (by rw [e3]) e4, (hF0.of (h3 11 (by decide)) (h4 12 (by decide))), by rw [e3]; exact hRT⟩, e2⟩, h2⟩
    · obtain ⟨f1, f2⟩ := fd_yes e1 e2 e3 e4
      exact ⟨Or.inr ⟨f1, by unfold fdR; rw [f2]; exact e6, F', z', ⟨h1, by unfold fdT; rw [f2]; exact e7, (hF0.of (h3 11 (by decide)) (h4 12 (by decide))), (hRT.of (fun k hk => h3 k (by revert k; decide)))⟩, e5⟩, h2⟩

theorem k_X5_about (l : Launch) (G : me_G) (B0 o : Nat) (a : Nat → Nat) (w : Me) (T : Tre) (tp fo : List Int32) (hLR : LR G B0 o a w T tp fo) (hI : TI T) (ho : Oct tp) (v : Int32) (wh : Int32) : CtWI l yX5_about (Cond.code yX5_about cX5_about 5 (some .int)) ({ frames := 1, cells := 0, slots := 0, locals := 21 }) G B0 w [.ref o, .int v, .int wh] (fun r w' => ((¬ (¬ wh < 0 ∧ ¬ 5 < wh) ∧ LRz G B0 o a w' T tp fo 1) ∨ ((¬ wh < 0 ∧ ¬ 5 < wh) ∧ r = sAbout T 200 v wh ∧ LRz G B0 o a w' T tp fo 0)) ∧ MF w w' o a) 0 0 := by
  obtain ⟨F, z, hM, hT0, hF0, hRT⟩ := hLR
  obtain ⟨dp, hdp, hd⟩ := hI.dp
  refine (c_X5_about l G B0 w o a F z hM T hRT dp hdp hd v wh).mono (fun r w' h => ?_)
  obtain ⟨F', z', h1, h2, h3, h4, h5⟩ := h
  exact by
    rcases h5 with ⟨e1, e2⟩ | ⟨e1, e2, e3⟩
    · exact ⟨Or.inl ⟨e1, ⟨F', z', ⟨h1, hT0.of (by rw [h3]) (h4 1 (by decide)), hF0.of (by rw [h3]) (h4 12 (by decide)), by rw [h3]; exact hRT⟩, e2⟩⟩, h2⟩
    · exact ⟨Or.inr ⟨e1, e3, ⟨F', z', ⟨h1, hT0.of (by rw [h3]) (h4 1 (by decide)), hF0.of (by rw [h3]) (h4 12 (by decide)), by rw [h3]; exact hRT⟩, e2⟩⟩, h2⟩

theorem k_X5_letter (l : Launch) (G : me_G) (B0 o : Nat) (a : Nat → Nat) (w : Me) (T : Tre) (tp fo : List Int32) (hLR : LR G B0 o a w T tp fo) (hI : TI T) (ho : Oct tp) (v : Int32) (wh : Int32) (k : Int32) : CtWI l yX5_letter (Cond.code yX5_letter cX5_letter 4 (some .int)) ({ frames := 1, cells := 0, slots := 0, locals := 21 }) G B0 w [.ref o, .int v, .int wh, .int k] (fun r w' => ((¬ (wh = 0 ∨ wh = 1) ∧ LRz G B0 o a w' T tp fo 1) ∨ ((wh = 0 ∨ wh = 1) ∧ r = sLetter T v wh k ∧ LRz G B0 o a w' T tp fo 0)) ∧ MF w w' o a) 0 0 := by
  obtain ⟨F, z, hM, hT0, hF0, hRT⟩ := hLR
  refine (c_X5_letter l G B0 w o a F z hM T hRT v wh k).mono (fun r w' h => ?_)
  obtain ⟨F', z', h1, h2, h3, h4, h5⟩ := h
  exact by
    rcases h5 with ⟨e1, e2⟩ | ⟨e1, e2, e3⟩
    · exact ⟨Or.inl ⟨e1, ⟨F', z', ⟨h1, hT0.of (by rw [h3]) (h4 1 (by decide)), hF0.of (by rw [h3]) (h4 12 (by decide)), by rw [h3]; exact hRT⟩, e2⟩⟩, h2⟩
    · exact ⟨Or.inr ⟨e1, e3, ⟨F', z', ⟨h1, hT0.of (by rw [h3]) (h4 1 (by decide)), hF0.of (by rw [h3]) (h4 12 (by decide)), by rw [h3]; exact hRT⟩, e2⟩⟩, h2⟩

theorem k_X5_thrown (l : Launch) (G : me_G) (B0 o : Nat) (a : Nat → Nat) (w : Me) (T : Tre) (tp fo : List Int32) (t : Int32) (h : LRz G B0 o a w T tp fo t) : CtI l yX5_thrown (Cond.code yX5_thrown cX5_thrown 1 (some .int)) ({ frames := 0, cells := 0, slots := 0, locals := 0 }) G B0 w [.ref o] (fun r => r = t) := by
  obtain ⟨F, z, h1, rfl⟩ := h
  exact c_X5_thrown l G B0 w o a F z h1.1
