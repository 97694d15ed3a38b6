/-! ===== reading side by side ===== -/
def pFp (g g' : zM) (gl gl' : zL) : Prop := (∀ k, k ≠ 0 → k ≠ 6 → k ≠ 7 → k ≠ 8 → g' k = g k) ∧ (∀ j, (j < 10 ∨ 18 < j) → g' 0 j = g 0 j) ∧ ∀ k, k ≠ 0 → gl' k = gl k
theorem pFp.rf (g : zM) (gl : zL) : pFp g g gl gl := ⟨fun _ _ _ _ _ => rfl, fun _ _ => rfl, fun _ _ => rfl⟩
theorem pFp.tr {g g' g'' : zM} {gl gl' gl'' : zL} (h : pFp g g' gl gl') (h2 : pFp g' g'' gl' gl'') : pFp g g'' gl gl'' := ⟨fun k a b c d => (h2.1 k a b c d).trans (h.1 k a b c d), fun j hj => (h2.2.1 j hj).trans (h.2.1 j hj), fun k hk => (h2.2.2 k hk).trans (h.2.2 k hk)⟩
/-- the part being made is untouched -/
def pFz (g g' : zM) (gl gl' : zL) : Prop := pFp g g' gl gl' ∧ g' 6 = g 6 ∧ g' 7 = g 7 ∧ g' 8 = g 8 ∧ g' 0 16 = g 0 16 ∧ g' 0 17 = g 0 17 ∧ g' 0 18 = g 0 18
theorem pFz.rf (g : zM) (gl : zL) : pFz g g gl gl := ⟨pFp.rf g gl, rfl, rfl, rfl, rfl, rfl, rfl⟩
theorem pFz.tr {g g' g'' : zM} {gl gl' gl'' : zL} (h : pFz g g' gl gl') (h2 : pFz g' g'' gl' gl'') : pFz g g'' gl gl'' := ⟨h.1.tr h2.1, h2.2.1.trans h.2.1, h2.2.2.1.trans h.2.2.1, h2.2.2.2.1.trans h.2.2.2.1, h2.2.2.2.2.1.trans h.2.2.2.2.1, h2.2.2.2.2.2.1.trans h.2.2.2.2.2.1, h2.2.2.2.2.2.2.trans h.2.2.2.2.2.2⟩
theorem pFz.g15 (g : zM) (gl : zL) (v : Int32) : pFz g (zPu g 0 15 v) gl gl := ⟨⟨fun k h _ _ _ => zPu_k h, fun j hj => zPu_j (by omega), fun _ _ => rfl⟩, zPu_k (by decide), zPu_k (by decide), zPu_k (by decide), zPu_j (by decide), zPu_j (by decide), zPu_j (by decide)⟩
theorem pFw.z {g g' : zM} {gl gl' : zL} (h : pFw g g' gl gl') : pFz g g' gl gl' := ⟨⟨fun k h0 _ _ _ => h.1 k h0, fun j hj => h.2.1 j (by omega) (by omega) (by omega) (by omega), h.2.2⟩, h.1 6 (by decide), h.1 7 (by decide), h.1 8 (by decide), h.2.1 16 (by decide) (by decide) (by decide) (by decide), h.2.1 17 (by decide) (by decide) (by decide) (by decide), h.2.1 18 (by decide) (by decide) (by decide) (by decide)⟩
theorem yAt.g15 {B : Nat → Nat} {L e c : Nat} {gt g : zM} {gl : zL} (h : yAt B L gt g gl e c) (v : Int32) : yAt B L gt (zPu g 0 15 v) gl e c := by
  obtain ⟨⟨t1, t2, t3, t4⟩, h1, h2, h3, h4, h5, h6, h7⟩ := h
  refine ⟨⟨t1, t2, by rw [zPu_j (by decide)]; exact t3, fun i hi => by rw [zPu_k (by decide)]; exact t4 i hi⟩, h1, by rw [zPu_j (by decide)]; exact h2, h3, by rw [zPu_j (by decide)]; exact h4, h5, ?_, fun j hj => ?_⟩
  · rw [zPu_j (by decide), zPu_j (by decide)]; exact h6
  · obtain ⟨b, b1, b2, b3⟩ := h7 j hj
    refine ⟨b, b1, ?_, b3⟩
    unfold fX10_isWord at b2 ⊢
    rw [zPu_j (by decide)]
    exact b2
def yPr (B : Nat → Nat) (L : Nat) (gt g : zM) (gl : zL) (e : Nat) : Prop := ∃ gt' e' c, fX7_step gt = some gt' ∧ yAt B L gt' g gl e' c ∧ e ≤ e' ∧ (c ≠ 0 → e < e')
theorem yAt.go {B : Nat → Nat} {L e c : Nat} {gt g : zM} {gl : zL} (h : yAt B L gt g gl e c) : ∃ g' gl', fX10_advance g gl = some (g', gl') ∧ yPr B L gt g' gl' e ∧ pFw g g' gl gl' := by
  obtain ⟨gt', g', gl', e', c', s1, s2, s3, s4, s5, s6⟩ := s_step (gl := gl) h.1 h.2.1 h.2.2.2.1 h.2.2.2.2.1
  exact ⟨g', gl', s2, ⟨gt', e', c', s1, s3, s4, s5⟩, s6⟩
theorem pFw.o15 {g g' : zM} {gl gl' : zL} (h : pFw g g' gl gl') : g' 0 15 = g 0 15 := h.2.1 15 (by decide) (by decide) (by decide) (by decide)
theorem y_15s {g : zM} {v : Int32} : zPu g 0 15 v 0 15 = v := zPu_s
theorem y_in01 (x lo hi : Int32) : (fX10_in x lo hi = some 1 ∧ ¬ x < lo ∧ ¬ hi < x) ∨ (fX10_in x lo hi = some 0 ∧ (x < lo ∨ (¬ x < lo ∧ hi < x))) := by
  rw [s10_in]
  by_cases c1 : lo.toInt ≤ x.toInt
  · have n1 : ¬ x < lo := fun h => by have := Int32.lt_iff_toInt_lt.mp h; omega
    by_cases c2 : x.toInt ≤ hi.toInt
    · left; rw [decide_eq_true c1, decide_eq_true c2]
      exact ⟨rfl, n1, fun h => by have := Int32.lt_iff_toInt_lt.mp h; omega⟩
    · right; rw [decide_eq_true c1, decide_eq_false c2]
      exact ⟨rfl, Or.inr ⟨n1, Int32.lt_iff_toInt_lt.mpr (by omega)⟩⟩
  · right; rw [decide_eq_false c1]
    exact ⟨rfl, Or.inl (Int32.lt_iff_toInt_lt.mpr (by omega))⟩
theorem s_number {B : Nat → Nat} {L e l : Nat} {gt g : zM} {gl : zL} {lo hi : Int32} (hp : yPr B L gt g gl e) (h15 : g 0 15 = 1) (hlo : lo = nI l) (hl : l ≤ 1) : (∃ gt' v g', fX7_stepNumber gt lo hi = some (0, gt') ∧ fX10_wantNumber g gl lo hi = some (v, g', gl) ∧ g' 0 15 = 0 ∧ gt' 0 2 = g' 0 11 ∧ pFz g g' gl gl) ∨ (∃ gt' v g' gl' e', fX7_stepNumber gt lo hi = some (1, gt') ∧ fX10_wantNumber g gl lo hi = some (nI v, g', gl') ∧ l ≤ v ∧ v ≤ 99 ∧ ¬ hi < nI v ∧ gt' 0 5 = nI v ∧ g' 0 15 = 1 ∧ yPr B L gt' g' gl' e' ∧ e < e' ∧ pFz g g' gl gl') := by
  obtain ⟨gt', e', c, p1, p2, p3, p4⟩ := hp
  have p2' := p2
  obtain ⟨t, h1, h2, h3, h4, h5, h6, h7⟩ := p2
  unfold fX7_stepNumber fX10_wantNumber fX10_wantNumber_J34 fX10_wantNumber_J35
  rw [p1, y_b1, h5, y_lt_e, h15, if_neg (show ¬ (1 : Int32) = 0 by decide)]
  simp only [y_lt_e, y_15s, if_true, if_neg (show ¬ (1 : Int32) = 0 by decide)]
  have bad : fX10_wantNumber_J34 g gl (g 0 14) = some (g 0 14, zPu g 0 15 0, gl) := by
    unfold fX10_wantNumber_J34 fX10_wantNumber_J35
    rw [y_gd (show zBo 0 = true from rfl), y_lt_e, y_15s, if_pos rfl]
  have loc : gt' 0 2 = zPu g 0 15 0 0 11 := by rw [zPu_j (by decide)]; exact h2
  by_cases c2 : c = 2
  · have hx : g 0 10 = 2 ∧ gt' 0 5 = g 0 14 ∧ yVl (g 0 14) := by
      rcases h6 with h | h | h | h | h
      · omega
      · omega
      · exact h.2
      · omega
      · omega
    rw [c2, if_pos (show nI 2 = 2 from rfl), hx.1, if_pos rfl, hx.2.1]
    rcases y_in01 (g 0 14) lo hi with ⟨i1, i2, i3⟩ | ⟨i1, i2⟩
    · right
      obtain ⟨v, v1, v2⟩ : ∃ v, v ≤ 99 ∧ g 0 14 = nI v := by
        rcases hx.2.2 with h | h
        · exfalso; apply i2; rw [h, hlo]
          have : l = 0 ∨ l = 1 := by omega
          rcases this with rfl | rfl <;> decide
        · exact h
      obtain ⟨g2, gl2, a1, a2, a3⟩ := (p2'.g15 1).go
      rw [i1, y_b1, if_neg (show ¬ (1 : Int32) = 0 by decide), if_neg i2, if_neg i3, y_gd (show zBo 1 = true from rfl), a1, y_b2, v2]
      rw [v2] at i2 i3
      refine ⟨gt', v, g2, gl2, e', rfl, rfl, ?_, v1, i3, by rw [hx.2.1, v2], by rw [a3.o15, y_15s], a2, p4 (by omega), (pFz.g15 g gl 1).tr a3.z⟩
      rw [hlo, y_lt (by omega) (by omega)] at i2
      omega
    · left
      rw [i1, y_b1, if_pos rfl, y_gd (show zBo 0 = true from rfl)]
      refine ⟨gt', g 0 14, zPu g 0 15 0, ?_, rfl, y_15s, loc, pFz.g15 g gl 0⟩
      rcases i2 with i2 | ⟨i2, i3⟩
      · rw [if_pos i2]
      · rw [if_neg i2, if_pos i3]
  · left
    have hc4 : c ≤ 4 := by
      rcases h6 with h | h | h | h | h <;> omega
    have hg : ¬ g 0 10 = 2 := by
      rcases h6 with h | h | h | h | h
      · rw [h.2.2]; decide
      · rw [h.2]; decide
      · omega
      · rw [h.2.1]; decide
      · rw [h.2.1]; decide
    rw [if_neg (show ¬ nI c = 2 from fun h => c2 ((nI_eq (by omega) (by omega)).mp (h.trans (show (2 : Int32) = nI 2 from rfl)))), if_neg hg, y_gd (show zBo 0 = true from rfl)]
    exact ⟨gt', g 0 14, zPu g 0 15 0, rfl, rfl, y_15s, loc, pFz.g15 g gl 0⟩
theorem s_end {B : Nat → Nat} {L e c : Nat} {gt g : zM} {gl : zL} (h : yAt B L gt g gl e c) (h15 : g 0 15 = 1) : (c ≠ 3 ∧ ∃ g', fX10_wantEnd g gl = some (g', gl) ∧ g' 0 15 = 0 ∧ gt 0 2 = g' 0 11 ∧ pFz g g' gl gl) ∨ (c = 3 ∧ ∃ g' gl', fX10_wantEnd g gl = some (g', gl') ∧ g' 0 15 = 1 ∧ yPr B L gt g' gl' e ∧ pFz g g' gl gl') := by
  have h' := h
  obtain ⟨t, h1, h2, h3, h4, h5, h6, h7⟩ := h
  unfold fX10_wantEnd fX10_wantEnd_J29 fX10_wantEnd_J30
  rw [h15, if_neg (show ¬ (1 : Int32) = 0 by decide)]
  simp only [y_lt_e, y_15s, if_true, if_neg (show ¬ (1 : Int32) = 0 by decide)]
  have loc : gt 0 2 = zPu g 0 15 0 0 11 := by rw [zPu_j (by decide)]; exact h2
  have bad : ∀ {P : Prop}, c ≠ 3 → (zGd (zBo 0) (some (zPu g 0 15 0, gl)) = some (zPu g 0 15 0, gl)) := fun _ => y_gd (show zBo 0 = true from rfl)
  rcases h6 with h6 | h6 | h6 | h6 | h6
  · left; rw [h6.2.2, if_neg (by decide), y_gd (show zBo 0 = true from rfl)]; exact ⟨by omega, _, rfl, y_15s, loc, pFz.g15 g gl 0⟩
  · left; rw [h6.2, if_neg (by decide), y_gd (show zBo 0 = true from rfl)]; exact ⟨by omega, _, rfl, y_15s, loc, pFz.g15 g gl 0⟩
  · left; rw [h6.2.1, if_neg (by decide), y_gd (show zBo 0 = true from rfl)]; exact ⟨by omega, _, rfl, y_15s, loc, pFz.g15 g gl 0⟩
  · right
    obtain ⟨g2, gl2, a1, a2, a3⟩ := (h'.g15 1).go
    rw [h6.2.1, if_pos rfl, h6.2.2, if_pos rfl, y_gd (show zBo 1 = true from rfl), a1, y_b2]
    exact ⟨h6.1, g2, gl2, rfl, by rw [a3.o15, y_15s], a2, (pFz.g15 g gl 1).tr a3.z⟩
  · left; rw [h6.2.1, if_pos rfl, if_neg h6.2.2, y_gd (show zBo 0 = true from rfl)]; exact ⟨by omega, _, rfl, y_15s, loc, pFz.g15 g gl 0⟩
theorem s_stop {B : Nat → Nat} {L e : Nat} {gt g : zM} {gl : zL} (hp : yPr B L gt g gl e) (h15 : g 0 15 = 1) : (∃ gt' g', fX7_stepStop gt = some (0, gt') ∧ fX10_wantEnd g gl = some (g', gl) ∧ g' 0 15 = 0 ∧ gt' 0 2 = g' 0 11 ∧ pFz g g' gl gl) ∨ (∃ gt' g' gl' e', fX7_stepStop gt = some (1, gt') ∧ fX10_wantEnd g gl = some (g', gl') ∧ g' 0 15 = 1 ∧ yPr B L gt' g' gl' e' ∧ e < e' ∧ pFz g g' gl gl') := by
  obtain ⟨gt', e', c, p1, p2, p3, p4⟩ := hp
  have h5 := p2.2.2.2.2.2.1
  have h6 := p2.2.2.2.2.2.2.1
  unfold fX7_stepStop
  rw [p1, y_b1, h5]
  rcases s_end p2 h15 with ⟨c3, g', a1, a2, a3, a4⟩ | ⟨c3, g', gl', a1, a2, a3, a4⟩
  · left
    have hc4 : c ≤ 4 := by
      rcases h6 with h | h | h | h | h <;> omega
    rw [if_neg (show ¬ nI c = 3 from fun h => c3 ((nI_eq (by omega) (by omega)).mp (h.trans (show (3 : Int32) = nI 3 from rfl))))]
    exact ⟨gt', g', rfl, a1, a2, a3, a4⟩
  · right
    rw [c3, if_pos (show nI 3 = 3 from rfl)]
    exact ⟨gt', g', gl', e', rfl, a1, a2, a3, p4 (by omega), a4⟩
theorem s_want {B : Nat → Nat} {L e c j : Nat} {gt g : zM} {gl : zL} (hj : j < 10) (h : yAt B L gt g gl e c) (h15 : g 0 15 = 1) : (fX7_isWord gt j = some 0 ∧ fX10_isWord g gl (lN (yWn j)) = some 0 ∧ ∃ g', fX10_wantWord g gl (lN (yWn j)) = some (g', gl) ∧ g' 0 15 = 0 ∧ gt 0 2 = g' 0 11 ∧ pFz g g' gl gl) ∨ (c = 1 ∧ fX7_isWord gt j = some 1 ∧ fX10_isWord g gl (lN (yWn j)) = some 1 ∧ ∃ g' gl', fX10_wantWord g gl (lN (yWn j)) = some (g', gl') ∧ g' 0 15 = 1 ∧ yPr B L gt g' gl' e ∧ pFz g g' gl gl') := by
  obtain ⟨b, b1, b2, b3⟩ := h.2.2.2.2.2.2.2 j hj
  unfold fX10_wantWord fX10_wantWord_J20 fX10_wantWord_J21
  rw [h15, if_neg (show ¬ (1 : Int32) = 0 by decide)]
  simp only [y_lt_e, y_15s, if_true, if_neg (show ¬ (1 : Int32) = 0 by decide)]
  cases b
  · left
    rw [b1, b2, y_b1, if_pos (show yBl false = 0 from rfl), y_gd (show zBo 0 = true from rfl)]
    exact ⟨rfl, rfl, _, rfl, y_15s, by rw [zPu_j (by decide)]; exact h.2.2.1, pFz.g15 g gl 0⟩
  · right
    obtain ⟨g2, gl2, a1, a2, a3⟩ := (h.g15 1).go
    rw [b1, b2, y_b1, if_neg y_1n0, y_gd (show zBo 1 = true from rfl), a1, y_b2]
    exact ⟨b3 rfl, rfl, rfl, g2, gl2, rfl, by rw [a3.o15, y_15s], a2, (pFz.g15 g gl 1).tr a3.z⟩
/-! ===== once wrong, nothing more is read ===== -/
theorem d_word {g : zM} {gl : zL} (h : g 0 15 = 0) (w : Int64) : fX10_wantWord g gl w = some (g, gl) := by
  unfold fX10_wantWord fX10_wantWord_J20 fX10_wantWord_J21
  rw [h, if_pos rfl, y_gd (show zBo 0 = true from rfl), y_lt_e, y_15s, if_pos rfl, zPu_me h]
theorem d_number {g : zM} {gl : zL} (h : g 0 15 = 0) (x y : Int32) : fX10_wantNumber g gl x y = some (g 0 14, g, gl) := by
  unfold fX10_wantNumber fX10_wantNumber_J34 fX10_wantNumber_J35
  rw [y_lt_e, h, if_pos rfl, y_gd (show zBo 0 = true from rfl), y_lt_e, y_15s, if_pos rfl, zPu_me h]
theorem d_end {g : zM} {gl : zL} (h : g 0 15 = 0) : fX10_wantEnd g gl = some (g, gl) := by
  unfold fX10_wantEnd fX10_wantEnd_J29 fX10_wantEnd_J30
  rw [h, if_pos rfl, y_gd (show zBo 0 = true from rfl), y_lt_e, y_15s, if_pos rfl, zPu_me h]
