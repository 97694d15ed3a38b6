/-! ===== run ===== -/
/-- the same but for one number of the object -/
def yX (s : Nat) (w w' : zM) : Prop := ∀ k j, (k ≠ 0 ∨ j ≠ s) → w' k j = w k j
theorem yX.rf (s : Nat) (w : zM) : yX s w w := fun _ _ _ => rfl
theorem yX.pu {s : Nat} {w w' : zM} (h : yX s w w') (v : Int32) : yX s w (zPu w' 0 s v) := by
  intro k j hkj
  rw [← h k j hkj]
  by_cases e : k = 0
  · subst e
    exact zPu_j (hkj.resolve_left (fun z => z rfl))
  · rw [zPu_k e]
theorem yC.x {w w' : zM} {a : yA} (h : yC w a) (hx : yX 13 w w') : yC w' a := by
  obtain ⟨⟨h1, h2, h3⟩, h4, h5, h6, h7, h8, h9, h10, h11, h12, h13⟩ := h
  refine ⟨⟨?_, ?_, ?_⟩, ?_, ?_, ?_, ?_, ?_, ?_, ?_, ?_, ?_, ?_⟩
  · rw [hx 0 0 (Or.inr (by omega))]; exact h1
  · rw [hx 0 3 (Or.inr (by omega))]; exact h2
  · rw [hx 0 9 (Or.inr (by omega))]; exact h3
  · intro p hp; rw [hx 1 p (Or.inl (by omega))]; exact h4 p hp
  · intro p hp; rw [hx 2 p (Or.inl (by omega))]; exact h5 p hp
  · intro p hp; rw [hx 3 p (Or.inl (by omega))]; exact h6 p hp
  · intro p hp; rw [hx 4 p (Or.inl (by omega))]; exact h7 p hp
  · intro p hp; rw [hx 5 p (Or.inl (by omega))]; exact h8 p hp
  · intro p hp; rw [hx 6 p (Or.inl (by omega))]; exact h9 p hp
  · intro p hp; rw [hx 7 p (Or.inl (by omega))]; exact h10 p hp
  · intro p hp; rw [hx 8 p (Or.inl (by omega))]; exact h11 p hp
  · intro p hp; rw [hx 9 p (Or.inl (by omega))]; exact h12 p hp
  · intro p hp; rw [hx 10 p (Or.inl (by omega))]; exact h13 p hp
theorem yG.x {w w' : zM} {a : yA} (h : yG w a) (hx : yX 7 w w') : yG w' a := by
  obtain ⟨⟨h1, h2, h3⟩, h4, h5, h6, h7, h8, h9, h10, h11, h12, h13⟩ := h
  refine ⟨⟨?_, ?_, ?_⟩, ?_, ?_, ?_, ?_, ?_, ?_, ?_, ?_, ?_, ?_⟩
  · rw [hx 0 0 (Or.inr (by omega))]; exact h1
  · rw [hx 0 2 (Or.inr (by omega))]; exact h2
  · rw [hx 0 4 (Or.inr (by omega))]; exact h3
  · intro p hp; rw [hx 1 p (Or.inl (by omega))]; exact h4 p hp
  · intro p hp; rw [hx 4 p (Or.inl (by omega))]; exact h5 p hp
  · intro p hp; rw [hx 2 _ (Or.inl (by omega))]; exact h6 p hp
  · intro p hp; rw [hx 2 _ (Or.inl (by omega))]; exact h7 p hp
  · intro p hp; rw [hx 2 _ (Or.inl (by omega))]; exact h8 p hp
  · intro p hp; rw [hx 2 _ (Or.inl (by omega))]; exact h9 p hp
  · intro p hp; rw [hx 2 _ (Or.inl (by omega))]; exact h10 p hp
  · intro p hp; rw [hx 3 _ (Or.inl (by omega))]; exact h11 p hp
  · intro p hp; rw [hx 3 _ (Or.inl (by omega))]; exact h12 p hp
  · intro p hp; rw [hx 3 _ (Or.inl (by omega))]; exact h13 p hp
def yZn (z : Int32) : Int32 := z * 1103515245 + 12345
def yZq (z : Int32) : Int32 := ((z.toUInt32 >>> ((16 : Int32).toUInt32 &&& Int32.toUInt32 31)).toInt32) - ((z.toUInt32 >>> ((16 : Int32).toUInt32 &&& Int32.toUInt32 31)).toInt32) / 4 * 4
def yRnS (a : yA) (s d k : Nat) (x : Nat × Int32) : Nat × Int32 := if yOpen a k d = true ∧ yIn a k s = 1 then (if nI (a 6 k) ≤ yZq (yZn x.2) then x.1 else x.1 ||| yEn a k, yZn x.2) else x
def yRnK (a : yA) (s d : Nat) (x : Nat × Int32) : Nat → Nat × Int32
  | 0 => x
  | k + 1 => yRnS a s d k (yRnK a s d x k)
def yRnD (a : yA) (x : Nat × Int32) : Nat → Nat × Int32
  | 0 => x
  | d + 1 => yRnK a (yRnD a x d).1 d (yRnD a x d) (a 0 1)
theorem s1_chanceDay {gd w0 w : zM} {a : yA} (ok : yOk a) (hc : yC w0 a) (hw : yX 13 w0 w) {s d : Nat} (hd : d < 2147483648) : ∃ w', fX1_chanceDay gd w (nI s) (nI d) = some (nI (yRnK a s d (s, w 0 13) (a 0 1)).1, w') ∧ yX 13 w0 w' ∧ w' 0 13 = (yRnK a s d (s, w 0 13) (a 0 1)).2 := by
  have h0 := ok.1
  have key : ∃ r, zLp (fX1_chanceDay_L6 (nI s) (nI d)) zFU ((fun k (x : Int32 × zM) => (x.1, nI k, x.2)) 0 (nI s, w)) = some r ∧ r.1 = nI (yRnK a s d (s, w 0 13) (a 0 1)).1 ∧ yX 13 w0 r.2 ∧ r.2 0 13 = (yRnK a s d (s, w 0 13) (a 0 1)).2 := by
    refine y_for (fun k (x : Int32 × zM) => (x.1, nI k, x.2)) (a 0 1) (fun k x => x.1 = nI (yRnK a s d (s, w 0 13) k).1 ∧ yX 13 w0 x.2 ∧ x.2 0 13 = (yRnK a s d (s, w 0 13) k).2) _ ?_ ?_ zFU 0 _ (by omega) ⟨rfl, hw, rfl⟩ (by unfold zFU; omega)
    · rintro k ⟨x1, x2⟩ hk ⟨h1, h2, h3⟩
      have h1 : x1 = _ := h1
      have h2 : yX 13 w0 x2 := h2
      have h3 : x2 0 13 = _ := h3
      have hc2 := hc.x h2
      have ho := (ok.2.2.1 k hk).2.2.2
      have hE : yRnK a s d (s, w 0 13) (k + 1) = yRnS a s d k (yRnK a s d (s, w 0 13) k) := rfl
      by_cases c2 : yIn a k s = 1
      · cases c1 : yOpen a k d
        · refine ⟨(x1, x2), ?_, ?_⟩
          · show fX1_chanceDay_L6 (nI s) (nI d) (x1, nI k, x2) = some (.inl (x1, nI (k + 1), x2))
            unfold fX1_chanceDay_L6 fX1_chanceDay_L6J80
            rw [y_u3, hc2.1.2.1, y_le_f hk (by omega), s1_isAtEdge ok hc2 hk, y_b1, y_bl_t (decide_eq_true c2), s8_isOpen ok hc2 hk hd, y_b1, c1, y_bl_f rfl, y_a1, y_lt_e]
          · rw [hE]; unfold yRnS; rw [if_neg (fun z => by rw [c1] at z; cases z.1)]
            exact ⟨h1, h2, h3⟩
        · have hS : yRnS a s d k (yRnK a s d (s, w 0 13) k) = (if nI (a 6 k) ≤ yZq (yZn (yRnK a s d (s, w 0 13) k).2) then (yRnK a s d (s, w 0 13) k).1 else (yRnK a s d (s, w 0 13) k).1 ||| yEn a k, yZn (yRnK a s d (s, w 0 13) k).2) := by
            unfold yRnS; rw [if_pos ⟨c1, c2⟩]
          have hx3 := h2.pu (yZn (x2 0 13))
          refine ⟨(nI (yRnK a s d (s, w 0 13) (k + 1)).1, zPu x2 0 13 (yZn (x2 0 13))), ?_, rfl, hx3, ?_⟩
          · show fX1_chanceDay_L6 (nI s) (nI d) (x1, nI k, x2) = some (.inl (nI (yRnK a s d (s, w 0 13) (k + 1)).1, nI (k + 1), zPu x2 0 13 (yZn (x2 0 13))))
            unfold fX1_chanceDay_L6 fX1_chanceDay_L6J80
            rw [y_u3, hc2.1.2.1, y_le_f hk (by omega), s1_isAtEdge ok hc2 hk, y_b1, y_bl_t (decide_eq_true c2), s8_isOpen ok hc2 hk hd, y_b1, c1, y_bl_t rfl, y_lt_e, y_lt_e, show x2 0 13 * 1103515245 + 12345 = yZn (x2 0 13) from rfl, y_gin (by omega) (by omega), y_lt_e, y_cl (k := k) (by omega), (hc.x hx3).2.2.2.2.2.2.1 k hk, zPu_s, s8_bothOf ok (hc.x hx3) hk, y_b1, h1, y_or, y_a1, y_lt_e, y_lt_e, y_lt_e, hE, hS, ← h3]
            show (if nI (a 6 k) ≤ yZq (yZn (x2 0 13)) then _ else _) = _
            by_cases c : nI (a 6 k) ≤ yZq (yZn (x2 0 13))
            · rw [if_pos c, if_pos c]
            · rw [if_neg c, if_neg c]
          · rw [hE, hS]
            show zPu x2 0 13 (yZn (x2 0 13)) 0 13 = _
            rw [zPu_s, h3]
      · refine ⟨(x1, x2), ?_, ?_⟩
        · show fX1_chanceDay_L6 (nI s) (nI d) (x1, nI k, x2) = some (.inl (x1, nI (k + 1), x2))
          unfold fX1_chanceDay_L6 fX1_chanceDay_L6J80
          rw [y_u3, hc2.1.2.1, y_le_f hk (by omega), s1_isAtEdge ok hc2 hk, y_b1, y_bl_f (decide_eq_false c2), y_a1, y_lt_e]
        · rw [hE]; unfold yRnS; rw [if_neg (fun z => c2 z.2)]
          exact ⟨h1, h2, h3⟩
    · rintro ⟨x1, x2⟩ ⟨h1, h2, h3⟩
      have h2 : yX 13 w0 x2 := h2
      refine ⟨(x1, x2), ?_, h1, h2, h3⟩
      show fX1_chanceDay_L6 (nI s) (nI d) (x1, nI (a 0 1), x2) = some (.inr (x1, x2))
      unfold fX1_chanceDay_L6
      rw [y_u3, (hc.x h2).1.2.1, y_le_t (by omega) (by omega)]
  obtain ⟨⟨r1, r2⟩, hr, q1, q2, q3⟩ := key
  refine ⟨r2, ?_, q2, q3⟩
  have q1 : r1 = _ := q1
  unfold fX1_chanceDay
  rw [show ((nI s, 0, w) : Int32 × Int32 × zM) = (fun k (x : Int32 × zM) => (x.1, nI k, x.2)) 0 (nI s, w) from rfl, hr, y_b1, y_u2, q1]
theorem s10_runDay {gl : zL} {g0 g : zM} {a : yA} (ok : yOk a) (hc : yG g0 a) (hw : yX 7 g0 g) {s d : Nat} (hd : d < 2147483648) : ∃ g', zLp (fX10_run_L39 gl (nI s) (nI d)) zFU (nI s, 0, g) = some (nI (yRnK a s d (s, g 0 7) (a 0 1)).1, g') ∧ yX 7 g0 g' ∧ g' 0 7 = (yRnK a s d (s, g 0 7) (a 0 1)).2 := by
  have h0 := ok.1
  have key : ∃ r, zLp (fX10_run_L39 gl (nI s) (nI d)) zFU ((fun k (x : Int32 × zM) => (x.1, nI k, x.2)) 0 (nI s, g)) = some r ∧ r.1 = nI (yRnK a s d (s, g 0 7) (a 0 1)).1 ∧ yX 7 g0 r.2 ∧ r.2 0 7 = (yRnK a s d (s, g 0 7) (a 0 1)).2 := by
    refine y_for (fun k (x : Int32 × zM) => (x.1, nI k, x.2)) (a 0 1) (fun k x => x.1 = nI (yRnK a s d (s, g 0 7) k).1 ∧ yX 7 g0 x.2 ∧ x.2 0 7 = (yRnK a s d (s, g 0 7) k).2) _ ?_ ?_ zFU 0 _ (by omega) ⟨rfl, hw, rfl⟩ (by unfold zFU; omega)
    · rintro k ⟨x1, x2⟩ hk ⟨h1, h2, h3⟩
      have h1 : x1 = _ := h1
      have h2 : yX 7 g0 x2 := h2
      have h3 : x2 0 7 = _ := h3
      have hc2 := hc.x h2
      have ho := (ok.2.2.1 k hk).2.2.2
      have hp : yIn a k s ≤ 14 := yPop_le _
      have hE : yRnK a s d (s, g 0 7) (k + 1) = yRnS a s d k (yRnK a s d (s, g 0 7) k) := rfl
      cases c1 : yOpen a k d
      · refine ⟨(x1, x2), ?_, ?_⟩
        · show fX10_run_L39 gl (nI s) (nI d) (x1, nI k, x2) = some (.inl (x1, nI (k + 1), x2))
          unfold fX10_run_L39 fX10_run_L39J120
          rw [y_u3, hc2.1.2.1, y_le_f hk (by omega), s10_isOpen ok hc2 hk hd, y_b1, c1, y_bl_f rfl, y_a1, y_lt_e]
        · rw [hE]; unfold yRnS; rw [if_neg (fun z => by rw [c1] at z; cases z.1)]
          exact ⟨h1, h2, h3⟩
      · by_cases c2 : yIn a k s = 1
        · have hS : yRnS a s d k (yRnK a s d (s, g 0 7) k) = (if nI (a 6 k) ≤ yZq (yZn (yRnK a s d (s, g 0 7) k).2) then (yRnK a s d (s, g 0 7) k).1 else (yRnK a s d (s, g 0 7) k).1 ||| yEn a k, yZn (yRnK a s d (s, g 0 7) k).2) := by
            unfold yRnS; rw [if_pos ⟨c1, c2⟩]
          have hx3 := h2.pu (yZn (x2 0 7))
          refine ⟨(nI (yRnK a s d (s, g 0 7) (k + 1)).1, zPu x2 0 7 (yZn (x2 0 7))), ?_, rfl, hx3, ?_⟩
          · show fX10_run_L39 gl (nI s) (nI d) (x1, nI k, x2) = some (.inl (nI (yRnK a s d (s, g 0 7) (k + 1)).1, nI (k + 1), zPu x2 0 7 (yZn (x2 0 7))))
            unfold fX10_run_L39 fX10_run_L39J117 fX10_run_L39J120
            rw [y_u3, hc2.1.2.1, y_le_f hk (by omega), s10_isOpen ok hc2 hk hd, y_b1, c1, y_bl_t rfl, s10_inSet ok hc2 hk, y_b1, if_pos (show nI (yIn a k s) = 1 by rw [c2]; rfl), y_lt_e, y_lt_e, show x2 0 7 * 1103515245 + 12345 = yZn (x2 0 7) from rfl, show (3 : Int32) = nI 3 from rfl, s10_its (by omega) (by omega), y_b1, (hc.x hx3).2.2.2.2.2.2.1 k hk, zPu_s, s10_ends ok (hc.x hx3) hk, y_b1, h1, y_or, show nI (yRnK a s d (s, g 0 7) k).1 ||| 0 = nI (yRnK a s d (s, g 0 7) k).1 from by rw [show (0 : Int32) = nI 0 from rfl, y_or, Nat.or_zero], y_a1, y_lt_e, y_lt_e, y_lt_e, hE, hS, ← h3]
            show (if nI (a 6 k) ≤ yZq (yZn (x2 0 7)) then _ else _) = _
            by_cases c : nI (a 6 k) ≤ yZq (yZn (x2 0 7))
            · rw [if_pos c, if_pos c]
            · rw [if_neg c, if_neg c]; rfl
          · rw [hE, hS]
            show zPu x2 0 7 (yZn (x2 0 7)) 0 7 = _
            rw [zPu_s, h3]
        · refine ⟨(x1, x2), ?_, ?_⟩
          · show fX10_run_L39 gl (nI s) (nI d) (x1, nI k, x2) = some (.inl (x1, nI (k + 1), x2))
            unfold fX10_run_L39 fX10_run_L39J120
            rw [y_u3, hc2.1.2.1, y_le_f hk (by omega), s10_isOpen ok hc2 hk hd, y_b1, c1, y_bl_t rfl, s10_inSet ok hc2 hk, y_b1, if_neg (show ¬ nI (yIn a k s) = 1 from fun z => c2 ((nI_eq (by omega) (by omega)).mp z)), y_a1, y_lt_e]
          · rw [hE]; unfold yRnS; rw [if_neg (fun z => c2 z.2)]
            exact ⟨h1, h2, h3⟩
    · rintro ⟨x1, x2⟩ ⟨h1, h2, h3⟩
      have h2 : yX 7 g0 x2 := h2
      refine ⟨(x1, x2), ?_, h1, h2, h3⟩
      show fX10_run_L39 gl (nI s) (nI d) (x1, nI (a 0 1), x2) = some (.inr (x1, x2))
      unfold fX10_run_L39
      rw [y_u3, (hc.x h2).1.2.1, y_le_t (by omega) (by omega)]
  obtain ⟨⟨r1, r2⟩, hr, q1, q2, q3⟩ := key
  have q1 : r1 = _ := q1
  refine ⟨r2, ?_, q2, q3⟩
  rw [show ((nI s, 0, g) : Int32 × Int32 × zM) = (fun k (x : Int32 × zM) => (x.1, nI k, x.2)) 0 (nI s, g) from rfl, hr, q1]
theorem m_run {gx w gd g : zM} {gl : zL} {a : yA} (ok : yOk a) (hc : yC w a) (hg : yG g a) (hz : w 0 13 = g 0 7) (x y : Int32) : ∃ r w' g', fX9_run gx w gd x y = some (r, w') ∧ fX10_run g gl x y = some (r, g') ∧ yX 13 w w' ∧ yX 7 g g' ∧ w' 0 13 = g' 0 7 := by
  have h0 := ok.1
  unfold fX9_run fX10_run
  rw [s8_hasPerson ok hc, y_b1, s10_isPerson ok hg, y_b1, s10_in, y_b1, show (20 : Int32) = nI 20 from rfl, y_days y 20 (by omega)]
  rcases y_zin x (n := a 0 0) (by omega) with ⟨h, k, hk, rfl⟩ | ⟨h, -⟩
  · rw [y_bl_t h, y_bl_t h]
    rcases y_zin y (n := 21) (by omega) with ⟨h2, j, hj, rfl⟩ | ⟨h2, h3⟩
    · rw [y_bl_t h2, if_neg (y_nn (by omega)), y_le_t (by omega) (by omega), y_one (by omega), y_lt_e, y_lt_e]
      have k1 : ∃ r, zLp (fX9_run_L30 (nI j) gd) zFU ((fun k (x : Int32 × zM) => (x.1, nI k, x.2)) 0 (nI (2 ^ k), w)) = some r ∧ r.1 = nI (yRnD a (2 ^ k, w 0 13) j).1 ∧ yX 13 w r.2 ∧ r.2 0 13 = (yRnD a (2 ^ k, w 0 13) j).2 := by
        refine y_for (fun k (x : Int32 × zM) => (x.1, nI k, x.2)) j (fun i x => x.1 = nI (yRnD a (2 ^ k, w 0 13) i).1 ∧ yX 13 w x.2 ∧ x.2 0 13 = (yRnD a (2 ^ k, w 0 13) i).2) _ ?_ ?_ zFU 0 _ (by omega) ⟨rfl, yX.rf 13 w, rfl⟩ (by unfold zFU; omega)
        · rintro i ⟨x1, x2⟩ hi ⟨h1, h2, h3⟩
          have h1 : x1 = _ := h1
          have h2 : yX 13 w x2 := h2
          have h3 : x2 0 13 = _ := h3
          obtain ⟨w', q1, q2, q3⟩ := s1_chanceDay (gd := gd) (s := (yRnD a (2 ^ k, w 0 13) i).1) (d := i) ok hc h2 (by omega)
          rw [h3] at q1 q3
          refine ⟨(nI (yRnD a (2 ^ k, w 0 13) (i + 1)).1, w'), ?_, rfl, q2, q3⟩
          show fX9_run_L30 (nI j) gd (x1, nI i, x2) = some (.inl (nI (yRnD a (2 ^ k, w 0 13) (i + 1)).1, nI (i + 1), w'))
          unfold fX9_run_L30
          rw [y_u3, y_le_f hi (by omega), h1, q1, y_b2, y_a1, y_lt_e]
          rfl
        · rintro ⟨x1, x2⟩ ⟨h1, h2, h3⟩
          refine ⟨(x1, x2), ?_, h1, h2, h3⟩
          show fX9_run_L30 (nI j) gd (x1, nI j, x2) = some (.inr (x1, x2))
          unfold fX9_run_L30
          rw [y_u3, y_le_t (by omega) (by omega)]
      have k2 : ∃ r, zLp (fX10_run_L27 (nI j) gl) zFU ((fun k (x : Int32 × zM) => (x.1, nI k, x.2)) 0 (nI (2 ^ k), g)) = some r ∧ r.1 = nI (yRnD a (2 ^ k, g 0 7) j).1 ∧ yX 7 g r.2 ∧ r.2 0 7 = (yRnD a (2 ^ k, g 0 7) j).2 := by
        refine y_for (fun k (x : Int32 × zM) => (x.1, nI k, x.2)) j (fun i x => x.1 = nI (yRnD a (2 ^ k, g 0 7) i).1 ∧ yX 7 g x.2 ∧ x.2 0 7 = (yRnD a (2 ^ k, g 0 7) i).2) _ ?_ ?_ zFU 0 _ (by omega) ⟨rfl, yX.rf 7 g, rfl⟩ (by unfold zFU; omega)
        · rintro i ⟨x1, x2⟩ hi ⟨h1, h2, h3⟩
          have h1 : x1 = _ := h1
          have h2 : yX 7 g x2 := h2
          have h3 : x2 0 7 = _ := h3
          obtain ⟨w', q1, q2, q3⟩ := s10_runDay (gl := gl) (s := (yRnD a (2 ^ k, g 0 7) i).1) (d := i) ok hg h2 (by omega)
          rw [h3] at q1 q3
          refine ⟨(nI (yRnD a (2 ^ k, g 0 7) (i + 1)).1, w'), ?_, rfl, q2, q3⟩
          show fX10_run_L27 (nI j) gl (x1, nI i, x2) = some (.inl (nI (yRnD a (2 ^ k, g 0 7) (i + 1)).1, nI (i + 1), w'))
          unfold fX10_run_L27
          rw [y_u3, y_le_f hi (by omega), h1, q1, y_b1, y_u2, y_a1, y_lt_e]
          rfl
        · rintro ⟨x1, x2⟩ ⟨h1, h2, h3⟩
          refine ⟨(x1, x2), ?_, h1, h2, h3⟩
          show fX10_run_L27 (nI j) gl (x1, nI j, x2) = some (.inr (x1, x2))
          unfold fX10_run_L27
          rw [y_u3, y_le_t (by omega) (by omega)]
      obtain ⟨⟨r1, r2⟩, hr, q1, q2, q3⟩ := k1
      obtain ⟨⟨s1, s2⟩, hs, p1, p2, p3⟩ := k2
      have q1 : r1 = _ := q1
      have p1 : s1 = _ := p1
      have q2 : yX 13 w r2 := q2
      have p2 : yX 7 g s2 := p2
      have q3 : r2 0 13 = _ := q3
      have p3 : s2 0 7 = _ := p3
      rw [show ((nI (2 ^ k), 0, w) : Int32 × Int32 × zM) = (fun k (x : Int32 × zM) => (x.1, nI k, x.2)) 0 (nI (2 ^ k), w) from rfl, hr, y_b1, y_u2, show ((nI (2 ^ k), 0, g) : Int32 × Int32 × zM) = (fun k (x : Int32 × zM) => (x.1, nI k, x.2)) 0 (nI (2 ^ k), g) from rfl, hs, y_b1, y_u2, q1, p1, hz]
      exact ⟨_, r2, s2, rfl, rfl, q2, p2, by rw [q3, p3, hz]⟩
    · rw [y_bl_f h2]
      by_cases c : y < 0
      · rw [if_pos c]
        exact ⟨_, _, _, rfl, rfl, yX.rf 13 w, yX.rf 7 g, hz⟩
      · rw [if_neg c, if_neg (by
          have := h3.resolve_left c
          obtain ⟨j, hj, rfl⟩ := nI_of c
          rw [y_le (by omega) hj] at this
          rw [y_le hj (by omega)]; omega)]
        exact ⟨_, _, _, rfl, rfl, yX.rf 13 w, yX.rf 7 g, hz⟩
  · rw [y_bl_f h, y_bl_f h]
    exact ⟨_, _, _, rfl, rfl, yX.rf 13 w, yX.rf 7 g, hz⟩
