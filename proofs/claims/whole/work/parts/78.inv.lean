/-! ===== what holds between the class and the model, and that every call keeps it ===== -/
def zSet (gs : Nat → zM) (i : Nat) (w : zM) : Nat → zM := fun j => if j = i then w else gs j
def yInv (gs : Nat → zM) (g : zM) (gl : zL) : Prop := ∃ a, yOk a ∧ yC (gs 1) a ∧ yG g a ∧ gs 1 0 13 = g 0 7 ∧ zAllB (gs 1 7) 14 = true ∧ zAllB (gs 2 7) 14 = true ∧ pT (gs 4) g ∧ pR (gs 9) g ∧ pH (gs 10) g gl ∧ pA (gs 11) g ∧ pK (gs 0) (gs 3) g
theorem pR.eq {gr g g' : zM} (h : pR gr g) (e : eqR g g') : pR gr g' := by
  obtain ⟨n, h1, h2, h3, h4⟩ := h
  exact ⟨n, h1, h2, by rw [e.1]; exact h3, fun i j hi hj => by rw [e.2]; exact h4 i j hi hj⟩
theorem pA.eq {ga g g' : zM} (h : pA ga g) (e : eqA g g') : pA ga g' := by
  obtain ⟨n, h1, h2, h3, h4⟩ := h
  exact ⟨n, h1, h2, by rw [e.1]; exact h3, fun i hi => by rw [e.2]; exact h4 i hi⟩
theorem yInv.ks {gs : Nat → zM} {g g' : zM} {gl : zL} (h : yInv gs g gl) (hk : yKs g g') : yInv gs g' gl := by
  obtain ⟨a, ok, hc, hg, hz, hB, hBd, hT, hR, hH, hA, hK⟩ := h
  have e := eqO.ks hk
  exact ⟨a, ok, hc, hg.ks hk, by rw [hk.1.2.2.2.1]; exact hz, hB, hBd, hT.eq e.1, hR.eq e.2.1, hH.eq e.2.2.1 rfl, hA.eq e.2.2.2.1, hK.eq e.2.2.2.2⟩
theorem yInv.gl {gs : Nat → zM} {g : zM} {gl gl' : zL} (h : yInv gs g gl) (e : gl' 20 = gl 20) : yInv gs g gl' := by
  obtain ⟨a, ok, hc, hg, hz, hB, hBd, hT, hR, hH, hA, hK⟩ := h
  exact ⟨a, ok, hc, hg, hz, hB, hBd, hT, hR, hH.eq (eqO.rf g).2.2.1 e, hA, hK⟩
section VV
variable {gs : Nat → zM} {g : zM} {gl : zL}
theorem v_feed (h : yInv gs g gl) (x : Int64) (y : Int32) : ∃ r w4 g', fX9_feed (gs 0) (gs 4) x y = some (r, w4) ∧ fX10_feed g gl x y = some (r, g') ∧ yInv (zSet gs 4 w4) g' gl := by
  obtain ⟨a, ok, hc, hg, hz, hB, hBd, hT, hR, hH, hA, hK⟩ := h
  obtain ⟨r, w4, g', e1, e2, e3, e4⟩ := m_feed (gx := gs 0) (gl := gl) hT x y
  refine ⟨r, w4, g', e1, e2, a, ok, hc, ?_, ?_, hB, hBd, e3, hR.eq ⟨e4.2 36 (by decide), e4.1 16 (by decide) (by decide)⟩, hH.eq ⟨e4.1 18 (by decide) (by decide), e4.1 19 (by decide) (by decide), e4.1 21 (by decide) (by decide), e4.1 22 (by decide) (by decide), e4.1 23 (by decide) (by decide)⟩ rfl, hA.eq ⟨e4.2 48 (by decide), e4.1 24 (by decide) (by decide)⟩, hK.eq ⟨e4.2 50 (by decide), e4.1 25 (by decide) (by decide)⟩⟩
  · exact hg.cg ok (e4.2 0 (by decide)) (e4.2 2 (by decide)) (e4.2 4 (by decide)) (fun j _ => by rw [e4.1 1 (by decide) (by decide)]) (fun j _ => by rw [e4.1 2 (by decide) (by decide)]) (fun j _ => by rw [e4.1 3 (by decide) (by decide)]) (fun j _ => by rw [e4.1 4 (by decide) (by decide)])
  · rw [e4.2 7 (by decide)]; exact hz
theorem v_works (h : yInv gs g gl) : ∃ r w1 w2 w4 w9 g' gl', fX9_works (gs 0) (gs 1) (gs 2) (gs 4) (gs 9) = some (r, w1, w2, w4, w9) ∧ fX10_works g gl = some (r, g', gl') ∧ yInv (zSet (zSet (zSet (zSet gs 1 w1) 2 w2) 4 w4) 9 w9) g' gl' := by
  obtain ⟨a, ok, hc, hg, hz, hB, hBd, hT, hR, hH, hA, hK⟩ := h
  obtain ⟨r, w1, w2, w4, w9, g', gl', a', e1, e2, o1, o2, o3, o4, o5, o6, o7, o8, o9, o10, o11, o12⟩ := m_works (gx := gs 0) (gl := gl) ok hc hg hz hB hBd hT hR
  exact ⟨r, w1, w2, w4, w9, g', gl', e1, e2, a', o1, o2, o3, o4, o5, o6, o7, o8, hH.eq o9 o12, hA.eq o10, hK.eq o11⟩
theorem v_people (h : yInv gs g gl) (x : Int32) : ∃ r w1 w9 g', fX9_people (gs 0) (gs 1) (gs 9) x = some (r, w1, w9) ∧ fX10_people g gl x = some (r, g') ∧ yInv (zSet (zSet gs 1 w1) 9 w9) g' gl := by
  obtain ⟨a, ok, hc, hg, hz, hB, hBd, hT, hR, hH, hA, hK⟩ := h
  obtain ⟨r, w1, w9, g', a', e1, e2, o1, o2, o3, o4, o5, o6, o7, o8, o9, o10, o11⟩ := m_people (gx := gs 0) (gl := gl) ok hc hg hR x
  exact ⟨r, w1, w9, g', e1, e2, a', o1, o2, o3, by show w1 0 13 = g' 0 7; rw [o4, o5]; exact hz, by show zAllB (w1 7) 14 = true; rw [o6]; exact hB, hBd, hT.eq o8, o7, hH.eq o9 rfl, hA.eq o10, hK.eq o11⟩
theorem v_tie (h : yInv gs g gl) (x y u v z : Int32) (hz01 : z = 0 ∨ z = 1) : ∃ r w1 g', fX9_tie (gs 0) (gs 1) x y u v z = some (r, w1) ∧ fX10_tie g gl x y u v z = some (r, g') ∧ yInv (zSet gs 1 w1) g' gl := by
  obtain ⟨a, ok, hc, hg, hz, hB, hBd, hT, hR, hH, hA, hK⟩ := h
  obtain ⟨r, w1, g', a', e1, e2, o1, o2, o3, o4, o5, o6, o7⟩ := m_tie (gx := gs 0) (gl := gl) ok hc hg hB x y u v z hz01
  exact ⟨r, w1, g', e1, e2, a', o1, o2, o3, by show w1 0 13 = g' 0 7; rw [o4, o5]; exact hz, o6, hBd, hT.eq o7.1, hR.eq o7.2.1, hH.eq o7.2.2.1 rfl, hA.eq o7.2.2.2.1, hK.eq o7.2.2.2.2⟩
theorem v_tieOf (h : yInv gs g gl) (x y : Int32) : ∃ r, fX9_tieOf (gs 0) (gs 1) x y = some r ∧ fX10_tieOf g gl x y = some r ∧ yInv gs g gl := by
  have h' := h
  obtain ⟨a, ok, hc, hg, hz, hB, hBd, hT, hR, hH, hA, hK⟩ := h
  obtain ⟨r, e1, e2⟩ := m_tieOf (gx := gs 0) (gl := gl) ok hc hg x y
  exact ⟨r, e1, e2, h'⟩
theorem v_first (h : yInv gs g gl) (x y : Int32) : ∃ r w1 g', fX9_first (gs 0) (gs 1) x y = some (r, w1) ∧ fX10_first g gl x y = some (r, g') ∧ yInv (zSet gs 1 w1) g' gl := by
  obtain ⟨a, ok, hc, hg, hz, hB, hBd, hT, hR, hH, hA, hK⟩ := h
  obtain ⟨r, w1, g', a', e1, e2, o1, o2, o3, o4, o5, o6, o7⟩ := m_first (gx := gs 0) (gl := gl) ok hc hg x y
  exact ⟨r, w1, g', e1, e2, a', o1, o2, o3, by show w1 0 13 = g' 0 7; rw [o4, o5]; exact hz, by show zAllB (w1 7) 14 = true; rw [o6]; exact hB, hBd, hT.eq o7.1, hR.eq o7.2.1, hH.eq o7.2.2.1 rfl, hA.eq o7.2.2.2.1, hK.eq o7.2.2.2.2⟩
theorem v_cut (h : yInv gs g gl) (x y z : Int32) : ∃ r w1 g', fX9_cut (gs 0) (gs 1) x y z = some (r, w1) ∧ fX10_cut g gl x y z = some (r, g') ∧ yInv (zSet gs 1 w1) g' gl := by
  obtain ⟨a, ok, hc, hg, hz, hB, hBd, hT, hR, hH, hA, hK⟩ := h
  obtain ⟨r, w1, g', a', e1, e2, o1, o2, o3, o4, o5, o6, o7⟩ := m_cut (gx := gs 0) (gl := gl) ok hc hg x y z
  exact ⟨r, w1, g', e1, e2, a', o1, o2, o3, by show w1 0 13 = g' 0 7; rw [o4, o5]; exact hz, by show zAllB (w1 7) 14 = true; rw [o6]; exact hB, hBd, hT.eq o7.1, hR.eq o7.2.1, hH.eq o7.2.2.1 rfl, hA.eq o7.2.2.2.1, hK.eq o7.2.2.2.2⟩
theorem v_cutOf (h : yInv gs g gl) (x y : Int32) : ∃ r, fX9_cutOf (gs 0) (gs 1) x y = some r ∧ fX10_cutOf g gl x y = some r ∧ yInv gs g gl := by
  have h' := h
  obtain ⟨a, ok, hc, hg, hz, hB, hBd, hT, hR, hH, hA, hK⟩ := h
  obtain ⟨r, e1, e2⟩ := m_cutOf (gx := gs 0) (gl := gl) ok hc hg x y
  exact ⟨r, e1, e2, h'⟩
theorem v_uncut (h : yInv gs g gl) : ∃ r w1 g', fX9_uncut (gs 0) (gs 1) = some (r, w1) ∧ fX10_uncut g gl = some (r, g') ∧ yInv (zSet gs 1 w1) g' gl := by
  obtain ⟨a, ok, hc, hg, hz, hB, hBd, hT, hR, hH, hA, hK⟩ := h
  obtain ⟨r, w1, g', a', e1, e2, o1, o2, o3, o4, o5, o6, o7⟩ := m_uncut (gx := gs 0) (gl := gl) ok hc hg
  exact ⟨r, w1, g', e1, e2, a', o1, o2, o3, by show w1 0 13 = g' 0 7; rw [o4, o5]; exact hz, by show zAllB (w1 7) 14 = true; rw [o6]; exact hB, hBd, hT.eq o7.1, hR.eq o7.2.1, hH.eq o7.2.2.1 rfl, hA.eq o7.2.2.2.1, hK.eq o7.2.2.2.2⟩
theorem v_open (h : yInv gs g gl) (x y : Int32) : ∃ r, fX9_open (gs 0) (gs 1) x y = some r ∧ fX10_open g gl x y = some r ∧ yInv gs g gl := by
  have h' := h
  obtain ⟨a, ok, hc, hg, hz, hB, hBd, hT, hR, hH, hA, hK⟩ := h
  obtain ⟨r, e1, e2⟩ := m_open (gx := gs 0) (gl := gl) ok hc hg x y
  exact ⟨r, e1, e2, h'⟩
theorem v_joined (h : yInv gs g gl) (x : Int32) : ∃ r w5, fX9_joined (gs 0) (gs 1) (gs 5) x = some (r, w5) ∧ fX10_joined g gl x = some r ∧ yInv (zSet gs 5 w5) g gl := by
  have h' := h
  obtain ⟨a, ok, hc, hg, hz, hB, hBd, hT, hR, hH, hA, hK⟩ := h
  obtain ⟨r, w5, e1, e2⟩ := m_joined (gx := gs 0) (gn := gs 5) (gl := gl) ok hc hg x
  exact ⟨r, w5, e1, e2, h'⟩
theorem v_sets (h : yInv gs g gl) (x : Int32) : ∃ r w5 g', fX9_sets (gs 0) (gs 1) (gs 5) x = some (r, w5) ∧ fX10_sets g gl x = some (r, g') ∧ yInv (zSet gs 5 w5) g' gl := by
  have h' := h
  obtain ⟨a, ok, hc, hg, hz, hB, hBd, hT, hR, hH, hA, hK⟩ := h
  obtain ⟨r, w5, g', e1, e2, e3⟩ := m_sets (gx := gs 0) (gn := gs 5) (gl := gl) ok hc hg x
  exact ⟨r, w5, g', e1, e2, h'.ks e3⟩
theorem v_chance (h : yInv gs g gl) (x y : Int32) : ∃ r w5 w6 gl', fX9_chance (gs 0) (gs 1) (gs 5) (gs 6) x y = some (r, w5, w6) ∧ fX10_chance g gl x y = some (r, gl') ∧ yInv (zSet (zSet gs 5 w5) 6 w6) g gl' := by
  have h' := h
  obtain ⟨a, ok, hc, hg, hz, hB, hBd, hT, hR, hH, hA, hK⟩ := h
  obtain ⟨r, w5, w6, gl', e1, e2, e3⟩ := m_chance (gx := gs 0) (gn := gs 5) (gt := gs 6) (gl := gl) ok hc hg x y
  exact ⟨r, w5, w6, gl', e1, e2, h'.gl e3⟩
theorem v_reach (h : yInv gs g gl) (x : Int32) : ∃ r w5 w6 gl', fX9_reach (gs 0) (gs 1) (gs 5) (gs 6) x = some (r, w5, w6) ∧ fX10_reach g gl x = some (r, gl') ∧ yInv (zSet (zSet gs 5 w5) 6 w6) g gl' := by
  have h' := h
  obtain ⟨a, ok, hc, hg, hz, hB, hBd, hT, hR, hH, hA, hK⟩ := h
  obtain ⟨r, w5, w6, gl', e1, e2, e3⟩ := m_reach (gx := gs 0) (gn := gs 5) (gt := gs 6) (gl := gl) ok hc hg x
  exact ⟨r, w5, w6, gl', e1, e2, h'.gl e3⟩
theorem v_who (h : yInv gs g gl) (x y : Int32) : ∃ r w5 w6 gl', fX9_who (gs 0) (gs 1) (gs 5) (gs 6) x y = some (r, w5, w6) ∧ fX10_who g gl x y = some (r, gl') ∧ yInv (zSet (zSet gs 5 w5) 6 w6) g gl' := by
  have h' := h
  obtain ⟨a, ok, hc, hg, hz, hB, hBd, hT, hR, hH, hA, hK⟩ := h
  obtain ⟨r, w5, w6, gl', e1, e2, e3⟩ := m_who (gx := gs 0) (gn := gs 5) (gt := gs 6) (gl := gl) ok hc hg x y
  exact ⟨r, w5, w6, gl', e1, e2, h'.gl e3⟩
theorem v_seen (h : yInv gs g gl) (x y : Int32) : ∃ r w1 g', fX9_seen (gs 0) (gs 1) x y = some (r, w1) ∧ fX10_seen g gl x y = some (r, g') ∧ yInv (zSet gs 1 w1) g' gl := by
  obtain ⟨a, ok, hc, hg, hz, hB, hBd, hT, hR, hH, hA, hK⟩ := h
  obtain ⟨r, w1, g', a', e1, e2, o1, o2, o3, o4, o5, o6, o7⟩ := m_seen (gx := gs 0) (gl := gl) ok hc hg x y
  exact ⟨r, w1, g', e1, e2, a', o1, o2, o3, by show w1 0 13 = g' 0 7; rw [o4, o5]; exact hz, by show zAllB (w1 7) 14 = true; rw [o6]; exact hB, hBd, hT.eq o7.1, hR.eq o7.2.1, hH.eq o7.2.2.1 rfl, hA.eq o7.2.2.2.1, hK.eq o7.2.2.2.2⟩
theorem v_fewest (h : yInv gs g gl) (x y z : Int32) : ∃ r w7 g', fX9_fewest (gs 0) (gs 1) (gs 7) x y z = some (r, w7) ∧ fX10_fewest g gl x y z = some (r, g') ∧ yInv (zSet gs 7 w7) g' gl := by
  have h' := h
  obtain ⟨a, ok, hc, hg, hz, hB, hBd, hT, hR, hH, hA, hK⟩ := h
  obtain ⟨r, w7, g', e1, e2, e3⟩ := m_fewest (gx := gs 0) (gp := gs 7) (gl := gl) ok hc hg x y z
  exact ⟨r, w7, g', e1, e2, h'.ks e3⟩
theorem v_between (h : yInv gs g gl) (x y z : Int32) : ∃ r w5, fX9_between (gs 0) (gs 1) (gs 5) x y z = some (r, w5) ∧ fX10_between g gl x y z = some r ∧ yInv (zSet gs 5 w5) g gl := by
  have h' := h
  obtain ⟨a, ok, hc, hg, hz, hB, hBd, hT, hR, hH, hA, hK⟩ := h
  obtain ⟨r, w5, e1, e2⟩ := m_between (gx := gs 0) (gn := gs 5) (gl := gl) ok hc hg x y z
  exact ⟨r, w5, e1, e2, h'⟩
theorem v_small (h : yInv gs g gl) (x y : Int32) : ∃ r w7 g', fX9_small (gs 0) (gs 1) (gs 7) x y = some (r, w7) ∧ fX10_small g gl x y = some (r, g') ∧ yInv (zSet gs 7 w7) g' gl := by
  have h' := h
  obtain ⟨a, ok, hc, hg, hz, hB, hBd, hT, hR, hH, hA, hK⟩ := h
  obtain ⟨r, w7, g', e1, e2, e3⟩ := m_small (gx := gs 0) (gp := gs 7) (gl := gl) ok hc hg x y
  exact ⟨r, w7, g', e1, e2, h'.ks e3⟩
theorem v_sit (h : yInv gs g gl) (x y : Int32) : ∃ r w7 g', fX9_sit (gs 0) (gs 1) (gs 7) x y = some (r, w7) ∧ fX10_sit g gl x y = some (r, g') ∧ yInv (zSet gs 7 w7) g' gl := by
  have h' := h
  obtain ⟨a, ok, hc, hg, hz, hB, hBd, hT, hR, hH, hA, hK⟩ := h
  obtain ⟨r, w7, g', e1, e2, e3⟩ := m_sit (gx := gs 0) (gp := gs 7) (gl := gl) ok hc hg x y
  exact ⟨r, w7, g', e1, e2, h'.ks e3⟩
theorem v_early (h : yInv gs g gl) (x y : Int32) : ∃ r w8 g', fX9_early (gs 0) (gs 1) (gs 8) x y = some (r, w8) ∧ fX10_early g gl x y = some (r, g') ∧ yInv (zSet gs 8 w8) g' gl := by
  have h' := h
  obtain ⟨a, ok, hc, hg, hz, hB, hBd, hT, hR, hH, hA, hK⟩ := h
  obtain ⟨r, w8, g', e1, e2, e3⟩ := m_early (gx := gs 0) (gd := gs 8) (gl := gl) ok hc hg x y
  exact ⟨r, w8, g', e1, e2, h'.ks e3⟩
theorem v_could (h : yInv gs g gl) (x y : Int32) : ∃ r w8 g', fX9_could (gs 0) (gs 1) (gs 8) x y = some (r, w8) ∧ fX10_could g gl x y = some (r, g') ∧ yInv (zSet gs 8 w8) g' gl := by
  have h' := h
  obtain ⟨a, ok, hc, hg, hz, hB, hBd, hT, hR, hH, hA, hK⟩ := h
  obtain ⟨r, w8, g', e1, e2, e3⟩ := m_could (gx := gs 0) (gd := gs 8) (gl := gl) ok hc hg x y
  exact ⟨r, w8, g', e1, e2, h'.ks e3⟩
theorem v_seed (h : yInv gs g gl) (x : Int32) : ∃ r w1 g', fX9_seed (gs 0) (gs 1) x = some (r, w1) ∧ fX10_seed g gl x = some (r, g') ∧ yInv (zSet gs 1 w1) g' gl := by
  obtain ⟨a, ok, hc, hg, hz, hB, hBd, hT, hR, hH, hA, hK⟩ := h
  obtain ⟨r, w1, g', e1, e2, o2, o3, o4, o6, o7⟩ := m_seed (gx := gs 0) (gl := gl) ok hc hg hz x
  exact ⟨r, w1, g', e1, e2, a, ok, o2, o3, o4, by show zAllB (w1 7) 14 = true; rw [o6]; exact hB, hBd, hT.eq o7.1, hR.eq o7.2.1, hH.eq o7.2.2.1 rfl, hA.eq o7.2.2.2.1, hK.eq o7.2.2.2.2⟩
theorem v_run (h : yInv gs g gl) (x y : Int32) : ∃ r w1 g', fX9_run (gs 0) (gs 1) (gs 8) x y = some (r, w1) ∧ fX10_run g gl x y = some (r, g') ∧ yInv (zSet gs 1 w1) g' gl := by
  obtain ⟨a, ok, hc, hg, hz, hB, hBd, hT, hR, hH, hA, hK⟩ := h
  obtain ⟨r, w1, g', e1, e2, o1, o2, o3⟩ := m_run (gx := gs 0) (gd := gs 8) (gl := gl) ok hc hg hz x y
  have o7 := eqO.x o2
  exact ⟨r, w1, g', e1, e2, a, ok, hc.x o1, hg.x o2, o3, by show zAllB (w1 7) 14 = true; rw [show w1 7 = gs 1 7 from funext (fun j => o1 7 j (Or.inl (by decide)))]; exact hB, hBd, hT.eq o7.1, hR.eq o7.2.1, hH.eq o7.2.2.1 rfl, hA.eq o7.2.2.2.1, hK.eq o7.2.2.2.2⟩
theorem v_guards (h : yInv gs g gl) (x y : Int32) : ∃ r w5 g', fX9_guards (gs 0) (gs 1) (gs 5) x y = some (r, w5) ∧ fX10_guards g gl x y = some (r, g') ∧ yInv (zSet gs 5 w5) g' gl := by
  have h' := h
  obtain ⟨a, ok, hc, hg, hz, hB, hBd, hT, hR, hH, hA, hK⟩ := h
  obtain ⟨r, w5, g', e1, e2, e3⟩ := m_guards (gx := gs 0) (gn := gs 5) (gl := gl) ok hc hg x y
  exact ⟨r, w5, g', e1, e2, h'.ks e3⟩
theorem v_prove (h : yInv gs g gl) (x y : Int32) : ∃ r w8 w9 g', fX9_prove (gs 0) (gs 1) (gs 8) (gs 9) x y = some (r, w8, w9) ∧ fX10_prove g gl x y = some (r, g') ∧ yInv (zSet (zSet gs 8 w8) 9 w9) g' gl := by
  obtain ⟨a, ok, hc, hg, hz, hB, hBd, hT, hR, hH, hA, hK⟩ := h
  obtain ⟨r, w8, w9, g', e1, e2, o1, o2, o3, o4, o5, o6, o7⟩ := m_prove (gx := gs 0) (gd := gs 8) (gl := gl) ok hc hg hR x y
  exact ⟨r, w8, w9, g', e1, e2, a, ok, hc, o1, by show gs 1 0 13 = g' 0 7; rw [o3]; exact hz, hB, hBd, hT.eq o4, o2, hH.eq o5 rfl, hA.eq o6, hK.eq o7⟩
theorem v_row (h : yInv gs g gl) (x y : Int32) : ∃ r, fX9_row (gs 0) (gs 9) x y = some r ∧ fX10_row g gl x y = some r ∧ yInv gs g gl := by
  have h' := h
  obtain ⟨a, ok, hc, hg, hz, hB, hBd, hT, hR, hH, hA, hK⟩ := h
  obtain ⟨r, e1, e2⟩ := m_row (gx := gs 0) (gl := gl) hR x y
  exact ⟨r, e1, e2, h'⟩
theorem v_alterRow (h : yInv gs g gl) (x y z : Int32) : ∃ r w9 g', fX9_alterRow (gs 0) (gs 9) x y z = some (r, w9) ∧ fX10_alterRow g gl x y z = some (r, g') ∧ yInv (zSet gs 9 w9) g' gl := by
  obtain ⟨a, ok, hc, hg, hz, hB, hBd, hT, hR, hH, hA, hK⟩ := h
  obtain ⟨r, w9, g', e1, e2, o1, o2⟩ := m_alterRow (gx := gs 0) (gl := gl) hR x y z
  have s0 : g' 0 = g 0 := o2 0 (by decide)
  refine ⟨r, w9, g', e1, e2, a, ok, hc, ?_, by show gs 1 0 13 = g' 0 7; rw [s0]; exact hz, hB, hBd, hT.eq ⟨by rw [s0], o2 5 (by decide)⟩, o1, hH.eq ⟨o2 18 (by decide), o2 19 (by decide), o2 21 (by decide), o2 22 (by decide), o2 23 (by decide)⟩ rfl, hA.eq ⟨by rw [s0], o2 24 (by decide)⟩, hK.eq ⟨by rw [s0], o2 25 (by decide)⟩⟩
  exact hg.cg ok (by rw [s0]) (by rw [s0]) (by rw [s0]) (fun j _ => by rw [o2 1 (by decide)]) (fun j _ => by rw [o2 2 (by decide)]) (fun j _ => by rw [o2 3 (by decide)]) (fun j _ => by rw [o2 4 (by decide)])
theorem v_judge (h : yInv gs g gl) (x y : Int32) : ∃ r, fX9_judge (gs 0) (gs 1) (gs 9) x y = some r ∧ fX10_judge g gl x y = some r ∧ yInv gs g gl := by
  have h' := h
  obtain ⟨a, ok, hc, hg, hz, hB, hBd, hT, hR, hH, hA, hK⟩ := h
  obtain ⟨r, e1, e2⟩ := m_judge (gx := gs 0) (gl := gl) ok hc hg hR x y
  exact ⟨r, e1, e2, h'⟩
theorem v_chair (h : yInv gs g gl) (x : Int32) : ∃ r w5 g', fX9_chair (gs 0) (gs 1) (gs 5) x = some (r, w5) ∧ fX10_chair g gl x = some (r, g') ∧ yInv (zSet gs 5 w5) g' gl := by
  have h' := h
  obtain ⟨a, ok, hc, hg, hz, hB, hBd, hT, hR, hH, hA, hK⟩ := h
  obtain ⟨r, w5, g', e1, e2, e3⟩ := m_chair (gx := gs 0) (gn := gs 5) (gl := gl) ok hc hg x
  exact ⟨r, w5, g', e1, e2, h'.ks e3⟩
theorem v_meet (h : yInv gs g gl) (x y : Int32) : ∃ r w5, fX9_meet (gs 0) (gs 1) (gs 5) x y = some (r, w5) ∧ fX10_meet g gl x y = some r ∧ yInv (zSet gs 5 w5) g gl := by
  have h' := h
  obtain ⟨a, ok, hc, hg, hz, hB, hBd, hT, hR, hH, hA, hK⟩ := h
  obtain ⟨r, w5, e1, e2⟩ := m_meet (gx := gs 0) (gn := gs 5) (gl := gl) ok hc hg x y
  exact ⟨r, w5, e1, e2, h'⟩
theorem v_tell (h : yInv gs g gl) (x y : Int32) : ∃ r w8 g', fX9_tell (gs 0) (gs 1) (gs 8) x y = some (r, w8) ∧ fX10_tell g gl x y = some (r, g') ∧ yInv (zSet gs 8 w8) g' gl := by
  have h' := h
  obtain ⟨a, ok, hc, hg, hz, hB, hBd, hT, hR, hH, hA, hK⟩ := h
  obtain ⟨r, w8, g', e1, e2, e3⟩ := m_tell (gx := gs 0) (gd := gs 8) (gl := gl) ok hc hg x y
  exact ⟨r, w8, g', e1, e2, h'.ks e3⟩
theorem v_best (h : yInv gs g gl) (x y : Int32) : ∃ r w5 g', fX9_best (gs 0) (gs 1) (gs 5) (gs 10) x y = some (r, w5) ∧ fX10_best g gl x y = some (r, g') ∧ yInv (zSet gs 5 w5) g' gl := by
  have h' := h
  obtain ⟨a, ok, hc, hg, hz, hB, hBd, hT, hR, hH, hA, hK⟩ := h
  obtain ⟨r, w5, g', e1, e2, e3⟩ := m_best (gx := gs 0) (gn := gs 5) (gl := gl) ok hc hg hH x y
  exact ⟨r, w5, g', e1, e2, h'.ks e3⟩
theorem v_sheet (h : yInv gs g gl) (x y z : Int32) : ∃ r w10 g' gl', fX9_sheet (gs 0) (gs 10) x y z = some (r, w10) ∧ fX10_sheet g gl x y z = some (r, g', gl') ∧ yInv (zSet gs 10 w10) g' gl' := by
  obtain ⟨a, ok, hc, hg, hz, hB, hBd, hT, hR, hH, hA, hK⟩ := h
  obtain ⟨r, w10, g', gl', e1, e2, o1, o2⟩ := m_sheet (gx := gs 0) hH x y z
  have s0 : g' 0 = g 0 := o2 0 (by decide) (by decide)
  refine ⟨r, w10, g', gl', e1, e2, a, ok, hc, ?_, by show gs 1 0 13 = g' 0 7; rw [s0]; exact hz, hB, hBd, hT.eq ⟨by rw [s0], o2 5 (by decide) (by decide)⟩, hR.eq ⟨by rw [s0], o2 16 (by decide) (by decide)⟩, o1, hA.eq ⟨by rw [s0], o2 24 (by decide) (by decide)⟩, hK.eq ⟨by rw [s0], o2 25 (by decide) (by decide)⟩⟩
  exact hg.cg ok (by rw [s0]) (by rw [s0]) (by rw [s0]) (fun j _ => by rw [o2 1 (by decide) (by decide)]) (fun j _ => by rw [o2 2 (by decide) (by decide)]) (fun j _ => by rw [o2 3 (by decide) (by decide)]) (fun j _ => by rw [o2 4 (by decide) (by decide)])
theorem v_put (h : yInv gs g gl) (x y z : Int32) : ∃ r w10 gl', fX9_put (gs 0) (gs 10) x y z = some (r, w10) ∧ fX10_put g gl x y z = some (r, gl') ∧ yInv (zSet gs 10 w10) g gl' := by
  obtain ⟨a, ok, hc, hg, hz, hB, hBd, hT, hR, hH, hA, hK⟩ := h
  obtain ⟨r, w10, gl', e1, e2, o1⟩ := m_put (gx := gs 0) hH x y z
  exact ⟨r, w10, gl', e1, e2, a, ok, hc, hg, hz, hB, hBd, hT, hR, o1, hA, hK⟩
theorem v_item (h : yInv gs g gl) (x y z : Int32) : ∃ r, fX9_item (gs 0) (gs 10) x y z = some r ∧ fX10_item g gl x y z = some r ∧ yInv gs g gl := by
  have h' := h
  obtain ⟨a, ok, hc, hg, hz, hB, hBd, hT, hR, hH, hA, hK⟩ := h
  obtain ⟨r, e1, e2⟩ := m_item (gx := gs 0) hH x y z
  exact ⟨r, e1, e2, h'⟩
theorem v_shelf (h : yInv gs g gl) (x y z : Int32) : ∃ r w10 g', fX9_shelf (gs 0) (gs 1) (gs 10) x y z = some (r, w10) ∧ fX10_shelf g gl x y z = some (r, g') ∧ yInv (zSet gs 10 w10) g' gl := by
  obtain ⟨a, ok, hc, hg, hz, hB, hBd, hT, hR, hH, hA, hK⟩ := h
  obtain ⟨r, w10, g', e1, e2, o1, o2⟩ := m_shelf (gx := gs 0) ok hc hg hH x y z
  have s0 : g' 0 = g 0 := o2 0 (by decide) (by decide) (by decide)
  refine ⟨r, w10, g', e1, e2, a, ok, hc, ?_, by show gs 1 0 13 = g' 0 7; rw [s0]; exact hz, hB, hBd, hT.eq ⟨by rw [s0], o2 5 (by decide) (by decide) (by decide)⟩, hR.eq ⟨by rw [s0], o2 16 (by decide) (by decide) (by decide)⟩, o1, hA.eq ⟨by rw [s0], o2 24 (by decide) (by decide) (by decide)⟩, hK.eq ⟨by rw [s0], o2 25 (by decide) (by decide) (by decide)⟩⟩
  exact hg.cg ok (by rw [s0]) (by rw [s0]) (by rw [s0]) (fun j _ => by rw [o2 1 (by decide) (by decide) (by decide)]) (fun j _ => by rw [o2 2 (by decide) (by decide) (by decide)]) (fun j _ => by rw [o2 3 (by decide) (by decide) (by decide)]) (fun j _ => by rw [o2 4 (by decide) (by decide) (by decide)])
theorem v_taken (h : yInv gs g gl) (x y : Int32) : ∃ r, fX9_taken (gs 0) (gs 1) (gs 10) x y = some r ∧ fX10_taken g gl x y = some r ∧ yInv gs g gl := by
  have h' := h
  obtain ⟨a, ok, hc, hg, hz, hB, hBd, hT, hR, hH, hA, hK⟩ := h
  obtain ⟨r, e1, e2⟩ := m_taken (gx := gs 0) ok hc hg hH x y
  exact ⟨r, e1, e2, h'⟩
theorem v_act (h : yInv gs g gl) (x y z : Int32) : ∃ r w11 g', fX9_act (gs 0) (gs 1) (gs 10) (gs 11) x y z = some (r, w11) ∧ fX10_act g gl x y z = some (r, g') ∧ yInv (zSet gs 11 w11) g' gl := by
  obtain ⟨a, ok, hc, hg, hz, hB, hBd, hT, hR, hH, hA, hK⟩ := h
  obtain ⟨r, w11, g', e1, e2, o1, o2⟩ := m_act (gx := gs 0) (ga := gs 11) ok hc hg hH x y z
  have o := o2.o
  exact ⟨r, w11, g', e1, e2, a, ok, hc, o2.g hg, by show gs 1 0 13 = g' 0 7; rw [o2.2 7 (by decide) (by decide) (by decide) (by decide) (by decide)]; exact hz, hB, hBd, hT.eq o.1, hR.eq o.2.1, hH.eq o.2.2.1 rfl, o1, hK.eq o.2.2.2⟩
theorem v_trace (h : yInv gs g gl) (x : Int32) : ∃ r, fX9_trace (gs 0) (gs 11) x = some r ∧ fX10_trace g gl x = some r ∧ yInv gs g gl := by
  have h' := h
  obtain ⟨a, ok, hc, hg, hz, hB, hBd, hT, hR, hH, hA, hK⟩ := h
  obtain ⟨r, e1, e2⟩ := m_trace (gx := gs 0) (gl := gl) hA x
  exact ⟨r, e1, e2, h'⟩
theorem v_many (h : yInv gs g gl) (x : Int32) : ∃ r, fX9_many (gs 0) (gs 1) (gs 4) (gs 9) (gs 11) x = some r ∧ fX10_many g gl x = some r ∧ yInv gs g gl := by
  have h' := h
  obtain ⟨a, ok, hc, hg, hz, hB, hBd, hT, hR, hH, hA, hK⟩ := h
  obtain ⟨B, L, t1, t2, t3, t4⟩ := hT
  obtain ⟨n, n1, n2, n3, n4⟩ := hR
  obtain ⟨c, c1, c2, c3, c4⟩ := hA
  obtain ⟨r, e1, e2⟩ := m_many (gx := gs 0) (gt := gs 4) (gr := gs 9) (ga := gs 11) (gl := gl) ok hc hg (by rw [n2, n3]) (by rw [t2, t3]) (by rw [c2, c3]) x
  exact ⟨r, e1, e2, h'⟩
theorem v_keep (h : yInv gs g gl) : ∃ r w0 w3 g', fX9_keep (gs 0) (gs 1) (gs 3) = some (r, w0, w3) ∧ fX10_keep g gl = some (r, g') ∧ yInv (zSet (zSet gs 0 w0) 3 w3) g' gl := by
  obtain ⟨a, ok, hc, hg, hz, hB, hBd, hT, hR, hH, hA, hK⟩ := h
  obtain ⟨r, w0, w3, g', e1, e2, o1, o2, o3, o4, o5, o6, o7⟩ := m_keep (gx := gs 0) (gok := gs 3) (gl := gl) ok hc hg hz hB
  exact ⟨r, w0, w3, g', e1, e2, a, ok, hc, o2, by show gs 1 0 13 = g' 0 7; rw [o3]; exact hz, hB, hBd, hT.eq o4, hR.eq o5, hH.eq o6 rfl, hA.eq o7, o1⟩
theorem v_back (h : yInv gs g gl) : ∃ r w1 g', fX9_back (gs 0) (gs 1) (gs 3) = some (r, w1) ∧ fX10_back g gl = some (r, g') ∧ yInv (zSet gs 1 w1) g' gl := by
  obtain ⟨a, ok, hc, hg, hz, hB, hBd, hT, hR, hH, hA, hK⟩ := h
  obtain ⟨r, w1, g', a', e1, e2, o1, o2, o3, o4, o5, o7⟩ := m_back (gl := gl) ok hc hg hz hB hK
  exact ⟨r, w1, g', e1, e2, a', o1, o2, o3, o4, o5, hBd, hT.eq o7.1, hR.eq o7.2.1, hH.eq o7.2.2.1 rfl, hA.eq o7.2.2.2.1, hK.eq o7.2.2.2.2⟩
end VV
