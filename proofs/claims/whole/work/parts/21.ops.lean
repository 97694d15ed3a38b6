/-! ===== the other parts of the model's memory stay ===== -/
def eqT (g g' : zM) : Prop := g' 0 9 = g 0 9 ∧ g' 5 = g 5
def eqR (g g' : zM) : Prop := g' 0 36 = g 0 36 ∧ g' 16 = g 16
def eqH (g g' : zM) : Prop := g' 18 = g 18 ∧ g' 19 = g 19 ∧ g' 21 = g 21 ∧ g' 22 = g 22 ∧ g' 23 = g 23
def eqA (g g' : zM) : Prop := g' 0 48 = g 0 48 ∧ g' 24 = g 24
def eqK (g g' : zM) : Prop := g' 0 50 = g 0 50 ∧ g' 25 = g 25
def eqO (g g' : zM) : Prop := eqT g g' ∧ eqR g g' ∧ eqH g g' ∧ eqA g g' ∧ eqK g g'
theorem eqO.rf (g : zM) : eqO g g := ⟨⟨rfl, rfl⟩, ⟨rfl, rfl⟩, ⟨rfl, rfl, rfl, rfl, rfl⟩, ⟨rfl, rfl⟩, rfl, rfl⟩
theorem eqO.pu {g g' : zM} (h : eqO g g') {k j : Nat} {v : Int32} (hk : (k == 1 || k == 2 || k == 3 || k == 4) = true) : eqO g (zPu g' k j v) := by
  have hk2 : k = 1 ∨ k = 2 ∨ k = 3 ∨ k = 4 := by
    simp only [Bool.or_eq_true, beq_iff_eq] at hk
    omega
  have e : ∀ m, m ≠ k → zPu g' k j v m = g' m := fun m hm => zPu_k hm
  obtain ⟨⟨h1, h2⟩, ⟨h3, h4⟩, ⟨h5, h6, h7, h8, h9⟩, ⟨h10, h11⟩, h12, h13⟩ := h
  refine ⟨⟨?_, ?_⟩, ⟨?_, ?_⟩, ⟨?_, ?_, ?_, ?_, ?_⟩, ⟨?_, ?_⟩, ?_, ?_⟩ <;> rw [e _ (by omega)] <;> assumption
theorem eqO.pu0 {g g' : zM} (h : eqO g g') {j : Nat} {v : Int32} (hj : (j == 0 || j == 2 || j == 4 || j == 7) = true) : eqO g (zPu g' 0 j v) := by
  have hj2 : j = 0 ∨ j = 2 ∨ j = 4 ∨ j = 7 := by
    simp only [Bool.or_eq_true, beq_iff_eq] at hj
    omega
  have e : ∀ m, m ≠ 0 → zPu g' 0 j v m = g' m := fun m hm => zPu_k hm
  have e0 : ∀ m, m ≠ j → zPu g' 0 j v 0 m = g' 0 m := fun m hm => zPu_j hm
  obtain ⟨⟨h1, h2⟩, ⟨h3, h4⟩, ⟨h5, h6, h7, h8, h9⟩, ⟨h10, h11⟩, h12, h13⟩ := h
  refine ⟨⟨?_, ?_⟩, ⟨?_, ?_⟩, ⟨?_, ?_, ?_, ?_, ?_⟩, ⟨?_, ?_⟩, ?_, ?_⟩ <;> first | (rw [e0 _ (by omega)]; assumption) | (rw [e _ (by omega)]; assumption)
theorem eqO.x {g g' : zM} (h : yX 7 g g') : eqO g g' := by
  have e : ∀ k, k ≠ 0 → g' k = g k := fun k hk => funext (fun j => h k j (Or.inl hk))
  exact ⟨⟨h 0 9 (Or.inr (by omega)), e 5 (by omega)⟩, ⟨h 0 36 (Or.inr (by omega)), e 16 (by omega)⟩, ⟨e 18 (by omega), e 19 (by omega), e 21 (by omega), e 22 (by omega), e 23 (by omega)⟩, ⟨h 0 48 (Or.inr (by omega)), e 24 (by omega)⟩, h 0 50 (Or.inr (by omega)), e 25 (by omega)⟩
theorem eqO.ks {g g' : zM} (h : yKs g g') : eqO g g' := by
  obtain ⟨⟨a1, a2, a3, a4, a5, a6, a7, a8⟩, b1, b2, b3, b4, b5, b6, b7, b8, b9, b10, b11, b12, b13⟩ := h
  exact ⟨⟨a5, b5⟩, ⟨a6, b6⟩, ⟨b7, b8, b9, b10, b11⟩, ⟨a7, b12⟩, a8, b13⟩
/-! ===== tieOf, cutOf, open ===== -/
theorem y_in5 {x : Int32} {n : Nat} (hn : n < 2147483648) (h : zIn x n = false) (k : Nat) (hk : k < n) : ¬ x = nI k := fun e => by
  rw [e, y_in hk (by omega)] at h; cases h
theorem y_inN (x : Int32) (N : Nat) (hN : N < 2147483000) : fX10_in x 0 (nI N) = some (yBl (zIn x (N + 1))) := by rw [s10_in, y_days x N hN]
theorem m_tieOf {gx w g : zM} {gl : zL} {a : yA} (ok : yOk a) (hc : yC w a) (hg : yG g a) (x y : Int32) : ∃ r, fX9_tieOf gx w x y = some r ∧ fX10_tieOf g gl x y = some r := by
  have h0 := ok.1
  unfold fX9_tieOf fX10_tieOf
  rw [s8_hasTie ok hc, y_b1, s10_isTie ok hg, y_b1, show (4 : Int32) = nI 4 from rfl, y_inN y 4 (by omega), y_b1]
  rcases y_zin x (n := a 0 1) (by omega) with ⟨h, k, hk, rfl⟩ | ⟨h, -⟩
  · rw [y_bl_t h, y_bl_t h]
    have hm := (ok.2.2.1 k hk).2.2.2.2.2
    have hc3 := hc.2.2.2.1 k hk
    have hc4 := hc.2.2.2.2.1 k hk
    have hc5 := hc.2.2.2.2.2.1 k hk
    have hc6 := hc.2.2.2.2.2.2.1 k hk
    have hc7 := hc.2.2.2.2.2.2.2.1 k hk
    have hg3 := hg.2.2.2.1 k hk
    have hg4 := hg.2.2.2.2.1 k hk
    have hg5 := hg.2.2.2.2.2.1 k hk
    have hg6 := hg.2.2.2.2.2.2.1 k hk
    have hg7 := hg.2.2.2.2.2.2.2.1 k hk
    rcases y_zin y (n := 4 + 1) (by omega) with ⟨h2, j, hj, rfl⟩ | ⟨h2, -⟩
    · rw [y_bl_t h2, s10_its (by omega) hj, y_b1, y_gin (by omega) (by omega), y_gin (by omega) (by omega), y_gin (by omega) (by omega), y_gin (by omega) (by omega), y_gin (by omega) (by omega), y_lt_e, y_lt_e, y_lt_e, y_lt_e, y_lt_e, y_cl (by omega), hc3, hc4, hc5, hc6, hc7]
      have hj5 : j = 0 ∨ j = 1 ∨ j = 2 ∨ j = 3 ∨ j = 4 := by omega
      rcases hj5 with rfl | rfl | rfl | rfl | rfl
      · rw [if_pos (show nI 0 = 0 from rfl), Nat.add_zero, hg3]; exact ⟨_, rfl, rfl⟩
      · rw [if_neg (by decide), if_pos (by decide), hg4]; exact ⟨_, rfl, rfl⟩
      · rw [if_neg (by decide), if_neg (by decide), if_pos (by decide), hg5]; exact ⟨_, rfl, rfl⟩
      · rw [if_neg (by decide), if_neg (by decide), if_neg (by decide), if_pos (by decide), hg6]; exact ⟨_, rfl, rfl⟩
      · rw [if_neg (by decide), if_neg (by decide), if_neg (by decide), if_neg (by decide), if_pos (by decide), hg7]
        have : a 7 k = 0 ∨ a 7 k = 1 := by omega
        rcases this with e | e
        · rw [e, if_pos (by decide)]; exact ⟨_, rfl, rfl⟩
        · rw [e, if_neg (by decide)]; exact ⟨_, rfl, rfl⟩
    · have hn := y_in5 (n := 4 + 1) (by omega) h2
      rw [y_bl_f h2, if_neg (show ¬ y = 0 from hn 0 (by omega)), if_neg (show ¬ y = 1 from hn 1 (by omega)), if_neg (show ¬ y = 2 from hn 2 (by omega)), if_neg (show ¬ y = 3 from hn 3 (by omega)), if_neg (hn 4 (by omega))]
      exact ⟨_, rfl, rfl⟩
  · rw [y_bl_f h, y_bl_f h]; exact ⟨_, rfl, rfl⟩
theorem m_cutOf {gx w g : zM} {gl : zL} {a : yA} (ok : yOk a) (hc : yC w a) (hg : yG g a) (x y : Int32) : ∃ r, fX9_cutOf gx w x y = some r ∧ fX10_cutOf g gl x y = some r := by
  have h0 := ok.1
  unfold fX9_cutOf fX10_cutOf
  rw [s8_hasCut ok hc, y_b1, s10_isCut ok hg, y_b1, show (2 : Int32) = nI 2 from rfl, y_inN y 2 (by omega), y_b1]
  rcases y_zin x (n := a 0 2) (by omega) with ⟨h, k, hk, rfl⟩ | ⟨h, -⟩
  · rw [y_bl_t h, y_bl_t h]
    have hc8 := hc.2.2.2.2.2.2.2.2.1 k hk
    have hc9 := hc.2.2.2.2.2.2.2.2.2.1 k hk
    have hc10 := hc.2.2.2.2.2.2.2.2.2.2 k hk
    have hg8 := hg.2.2.2.2.2.2.2.2.1 k hk
    have hg9 := hg.2.2.2.2.2.2.2.2.2.1 k hk
    have hg10 := hg.2.2.2.2.2.2.2.2.2.2 k hk
    rcases y_zin y (n := 2 + 1) (by omega) with ⟨h2, j, hj, rfl⟩ | ⟨h2, -⟩
    · rw [y_bl_t h2, show (3 : Int32) = nI 3 from rfl, y_mul, y_add, y_gin (k := 3 * k + j) (by omega) (by omega), y_lt_e, y_cl (k := 3 * k + j) (by omega), y_gin (by omega) (by omega), y_gin (by omega) (by omega), y_gin (by omega) (by omega), y_lt_e, y_lt_e, y_lt_e, y_cl (by omega), hc8, hc9, hc10]
      have hj5 : j = 0 ∨ j = 1 ∨ j = 2 := by omega
      rcases hj5 with rfl | rfl | rfl
      · rw [if_pos (show nI 0 = 0 from rfl), Nat.add_zero, hg8]; exact ⟨_, rfl, rfl⟩
      · rw [if_neg (by decide), if_pos (by decide), hg9]; exact ⟨_, rfl, rfl⟩
      · rw [if_neg (by decide), if_neg (by decide), if_pos (by decide), hg10]; exact ⟨_, rfl, rfl⟩
    · have hn := y_in5 (n := 2 + 1) (by omega) h2
      rw [y_bl_f h2, if_neg (show ¬ y = 0 from hn 0 (by omega)), if_neg (show ¬ y = 1 from hn 1 (by omega)), if_neg (show ¬ y = nI 2 from hn 2 (by omega))]
      exact ⟨_, rfl, rfl⟩
  · rw [y_bl_f h, y_bl_f h]; exact ⟨_, rfl, rfl⟩
theorem m_open {gx w g : zM} {gl : zL} {a : yA} (ok : yOk a) (hc : yC w a) (hg : yG g a) (x y : Int32) : ∃ r, fX9_open gx w x y = some r ∧ fX10_open g gl x y = some r := by
  have h0 := ok.1
  unfold fX9_open fX10_open
  rw [s8_hasTie ok hc, y_b1, s10_isTie ok hg, y_b1, show (99 : Int32) = nI 99 from rfl, y_inN y 99 (by omega), y_b1, show (100 : Int32) = nI 100 from rfl]
  rcases y_zin x (n := a 0 1) (by omega) with ⟨h, k, hk, rfl⟩ | ⟨h, -⟩
  · rw [y_bl_t h, y_bl_t h]
    rcases y_zin y (n := 99 + 1) (by omega) with ⟨h2, j, hj, rfl⟩ | ⟨h2, h3⟩
    · rw [y_bl_t h2, if_neg (y_nn (by omega)), y_lt_t (by omega) (by omega), s8_isOpen ok hc hk (by omega), y_b1, s10_isOpen ok hg hk (by omega), y_b1]
      cases yOpen a k j
      · rw [y_bl_f rfl]; exact ⟨_, rfl, rfl⟩
      · rw [y_bl_t rfl]; exact ⟨_, rfl, rfl⟩
    · rw [y_bl_f h2]
      by_cases c : y < 0
      · rw [if_pos c]; exact ⟨_, rfl, rfl⟩
      · rw [if_neg c, if_neg (by
          have := h3.resolve_left c
          obtain ⟨j, hj, rfl⟩ := nI_of c
          rw [y_le (by omega) hj] at this
          rw [y_lt hj (by omega)]; omega)]
        exact ⟨_, rfl, rfl⟩
  · rw [y_bl_f h, y_bl_f h]; exact ⟨_, rfl, rfl⟩
/-! ===== changes ===== -/
def ySt (a : yA) (r j v : Nat) : yA := fun r' j' => if r' = r ∧ j' = j then v else a r' j'
theorem ySt_s (a : yA) (r j v : Nat) : ySt a r j v r j = v := if_pos ⟨rfl, rfl⟩
theorem ySt_r (a : yA) (r j v r' j' : Nat) (h : r' ≠ r) : ySt a r j v r' j' = a r' j' := if_neg (fun z => h z.1)
theorem ySt_j (a : yA) (r j v r' j' : Nat) (h : j' ≠ j) : ySt a r j v r' j' = a r' j' := if_neg (fun z => h z.2)
