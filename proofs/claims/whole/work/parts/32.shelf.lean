/-! ===== shelves ===== -/
theorem pHs.u {gh gh' g g' : zM} {s s' : Nat} (h : pHs gh g s') (hs : s' ≠ s) (e1 : gh' 1 = gh 1) (e2 : gh' 2 = gh 2) (e4 : ∀ j, j ≠ s → gh' 4 j = gh 4 j) (e5 : ∀ j, j ≠ s → gh' 5 j = gh 5 j) (e6 : ∀ j, j ≠ s → gh' 6 j = gh 6 j) (f1 : g' 18 = g 18) (f2 : g' 19 = g 19) (f3 : ∀ j, j ≠ s → g' 21 j = g 21 j) (f4 : ∀ j, j ≠ s → g' 22 j = g 22 j) (f5 : ∀ j, j ≠ s → g' 23 j = g 23 j) : pHs gh' g' s' := by
  unfold pHs at h ⊢
  rw [e1, e2, e4 _ hs, e5 _ hs, e6 _ hs, f1, f2, f3 _ hs, f4 _ hs, f5 _ hs]; exact h
theorem s10_isHeld {g : zM} {gl : zL} {a : yA} (ok : yOk a) (hg : yG g a) (z : Int32) : fX10_isHeld g gl 0 z = some (yBl (zIn z (a 0 2))) ∧ fX10_isHeld g gl 1 z = some (yBl (zIn z 4)) ∧ fX10_isHeld g gl 2 z = some 1 := by
  unfold fX10_isHeld
  refine ⟨?_, ?_, ?_⟩
  · rw [if_pos rfl, s10_isCut ok hg, y_b1]; cases zIn z (a 0 2) <;> rfl
  · rw [if_neg (by decide), if_pos rfl, s10_isShelf, y_b1]; cases zIn z 4 <;> rfl
  · rw [if_neg (by decide), if_neg (by decide), if_pos rfl]
theorem m_shelf {gx w gh g : zM} {gl : zL} {a : yA} (ok : yOk a) (hc : yC w a) (hg : yG g a) (h : pH gh g gl) (x y z : Int32) : ∃ r gh' g', fX9_shelf gx w gh x y z = some (r, gh') ∧ fX10_shelf g gl x y z = some (r, g') ∧ pH gh' g' gl ∧ (∀ k, k ≠ 21 → k ≠ 22 → k ≠ 23 → g' k = g k) := by
  have h0 := ok.1
  have hbad : ∀ {v : Int32}, ∃ r gh' g', some (v, gh) = some (r, gh') ∧ some (v, g) = some (r, g') ∧ pH gh' g' gl ∧ (∀ k, k ≠ 21 → k ≠ 22 → k ≠ 23 → g' k = g k) := fun {v} => ⟨v, gh, g, rfl, rfl, h, fun _ _ _ _ => rfl⟩
  unfold fX9_shelf fX10_shelf
  rw [s2_hasPlace, y_b1, s10_isShelf, y_b1]
  rcases y_zin x (n := 4) (by omega) with ⟨hx, s, hs, rfl⟩ | ⟨hx, -⟩
  · rw [y_bl_t hx, y_bl_t hx]
    have hps := h.1 s hs
    obtain ⟨hh0, hh1, hh2⟩ := s10_isHeld (gl := gl) ok hg z
    rcases y_rng y (L := 0) (M := 2) (l := 0) (m := 2) rfl rfl (by omega) (by omega) with ⟨K, -, k2, hK, -, e2, e3, e4⟩ | ⟨-, e2⟩
    · rw [if_neg e2, if_pos e4]
      unfold fX9_shelf_J33 fX9_shelf_J47 fX10_shelf_J42 fX10_shelf_J46 fX10_shelf_J47 fX10_shelf_J68 fX10_shelf_J89 fX2_holdCut fX2_holdRow fX2_holdRow_J20 fX2_holdNothing
      have k3 : K = 0 ∨ K = 1 ∨ K = 2 := by omega
      rcases k3 with rfl | rfl | rfl
      · -- a cut
        have y0 : y = 0 := hK
        subst y0
        rw [hh0, y_b1, if_pos (show (0 : Int32) = 0 from rfl), s8_hasCut ok hc, y_b1]
        cases hz : zIn z (a 0 2)
        · rw [y_bl_f rfl, y_bl_f rfl]; exact hbad
        · rw [y_bl_t rfl, y_bl_t rfl]
          simp only [show ¬ (0 : Int32) = 1 by decide, show ¬ (0 : Int32) = 2 by decide, if_true, if_false, y_gin hs (show s < 2147483648 by omega), y_lt_e, y_b1, y_cl (show s < 2147483648 by omega)]
          refine ⟨_, _, _, rfl, rfl, ⟨?_, ?_⟩, ?_⟩
          · intro s' hs'
            by_cases e : s' = s
            · subst e
              unfold pHs at hps ⊢
              rw [zPu_k (show 1 ≠ 5 by omega), zPu_k (show 1 ≠ 4 by omega), zPu_k (show 2 ≠ 5 by omega), zPu_k (show 2 ≠ 4 by omega), zPu_k (show 18 ≠ 23 by omega), zPu_k (show 18 ≠ 22 by omega), zPu_k (show 18 ≠ 21 by omega), zPu_k (show 19 ≠ 23 by omega), zPu_k (show 19 ≠ 22 by omega), zPu_k (show 19 ≠ 21 by omega)]
              refine ⟨hps.1, hps.2.1, hps.2.2.1, hps.2.2.2.1, Or.inr (Or.inl ⟨?_, ?_, ?_⟩)⟩
              · rw [zPu_k (by omega), zPu_k (by omega), zPu_s]
              · rw [zPu_k (by omega), zPu_s]
              · rw [zPu_s, zPu_k (by omega), zPu_s]
            · refine (h.1 s' hs').u e ?_ ?_ (fun j hj => ?_) (fun j hj => ?_) (fun j hj => ?_) ?_ ?_ (fun j hj => ?_) (fun j hj => ?_) (fun j hj => ?_)
              · rw [zPu_k (by omega), zPu_k (by omega)]
              · rw [zPu_k (by omega), zPu_k (by omega)]
              · rw [zPu_k (by omega), zPu_j hj]
              · rw [zPu_j hj, zPu_k (by omega)]
              · rw [zPu_k (by omega), zPu_k (by omega)]
              · rw [zPu_k (by omega), zPu_k (by omega), zPu_k (by omega)]
              · rw [zPu_k (by omega), zPu_k (by omega), zPu_k (by omega)]
              · rw [zPu_k (by omega), zPu_k (by omega), zPu_j hj]
              · rw [zPu_k (by omega), zPu_j hj, zPu_k (by omega)]
              · rw [zPu_j hj, zPu_k (by omega), zPu_k (by omega)]
          · intro s' i hs' hi
            rw [zPu_k (by omega), zPu_k (by omega)]; exact h.2 s' i hs' hi
          · intro k q1 q2 q3
            rw [zPu_k q3, zPu_k q2, zPu_k q1]
      · -- a row
        have y0 : y = 1 := hK
        subst y0
        rw [hh1, y_b1, if_neg (show ¬ (1 : Int32) = 0 by decide), if_pos (show (1 : Int32) = 1 from rfl), s2_hasPlace, y_b1]
        rcases y_zin z (n := 4) (by omega) with ⟨hz, t, ht, rfl⟩ | ⟨hz, -⟩
        · rw [y_bl_t hz, y_bl_t hz]
          simp only [show ¬ (1 : Int32) = 0 by decide, show ¬ (1 : Int32) = 2 by decide, if_true, if_false, y_gin hs (show s < 2147483648 by omega), y_gin ht (show t < 2147483648 by omega), y_lt_e, y_cl (show s < 2147483648 by omega), y_cl (show t < 2147483648 by omega), zPu_k (show 1 ≠ 4 by omega), zPu_k (show 2 ≠ 4 by omega), zPu_k (show 2 ≠ 6 by omega), zPu_k (show 18 ≠ 21 by omega), zPu_k (show 19 ≠ 22 by omega), zPu_k (show 19 ≠ 21 by omega)]
          obtain ⟨p1, p2, p3, p4, p5⟩ := h.1 t ht
          rw [p1, p2]
          have fin : ∀ (u v : Int32), ((u = 0 ∧ v = -1) ∨ (u = 2 ∧ v = 1 ∧ ∃ k, k ≤ 3 ∧ g 18 t = nI k)) → ∃ r gh' g', (zB1 (some (zPu (zPu (zPu gh 4 s u) 6 s (g 18 t)) 5 s (g 19 t))) fun gh_3 => some ((1 : Int32), gh_3)) = some (r, gh') ∧ some ((1 : Int32), zPu (zPu (zPu g 21 s v) 22 s (g 18 t)) 23 s (g 19 t)) = some (r, g') ∧ pH gh' g' gl ∧ (∀ k, k ≠ 21 → k ≠ 22 → k ≠ 23 → g' k = g k) := by
            intro u v huv
            rw [y_b1]
            refine ⟨_, _, _, rfl, rfl, ⟨?_, ?_⟩, ?_⟩
            · intro s' hs'
              by_cases e : s' = s
              · subst e
                unfold pHs at hps ⊢
                rw [zPu_k (show 1 ≠ 5 by omega), zPu_k (show 1 ≠ 6 by omega), zPu_k (show 1 ≠ 4 by omega), zPu_k (show 2 ≠ 5 by omega), zPu_k (show 2 ≠ 6 by omega), zPu_k (show 2 ≠ 4 by omega), zPu_k (show 18 ≠ 23 by omega), zPu_k (show 18 ≠ 22 by omega), zPu_k (show 18 ≠ 21 by omega), zPu_k (show 19 ≠ 23 by omega), zPu_k (show 19 ≠ 22 by omega), zPu_k (show 19 ≠ 21 by omega), zPu_k (show 4 ≠ 5 by omega), zPu_k (show 4 ≠ 6 by omega), zPu_k (show 6 ≠ 5 by omega), zPu_k (show 21 ≠ 23 by omega), zPu_k (show 21 ≠ 22 by omega), zPu_k (show 22 ≠ 23 by omega), zPu_s, zPu_s, zPu_s, zPu_s, zPu_s, zPu_s]
                refine ⟨hps.1, hps.2.1, hps.2.2.1, hps.2.2.2.1, ?_⟩
                rcases huv with ⟨q1, q2⟩ | ⟨q1, q2, q3⟩
                · exact Or.inl ⟨q2, q1⟩
                · exact Or.inr (Or.inr ⟨q2, q1, q3, rfl, rfl⟩)
              · refine (h.1 s' hs').u e ?_ ?_ (fun j hj => ?_) (fun j hj => ?_) (fun j hj => ?_) ?_ ?_ (fun j hj => ?_) (fun j hj => ?_) (fun j hj => ?_)
                · rw [zPu_k (by omega), zPu_k (by omega), zPu_k (by omega)]
                · rw [zPu_k (by omega), zPu_k (by omega), zPu_k (by omega)]
                · rw [zPu_k (by omega), zPu_k (by omega), zPu_j hj]
                · rw [zPu_j hj, zPu_k (by omega), zPu_k (by omega)]
                · rw [zPu_k (by omega), zPu_j hj, zPu_k (by omega)]
                · rw [zPu_k (by omega), zPu_k (by omega), zPu_k (by omega)]
                · rw [zPu_k (by omega), zPu_k (by omega), zPu_k (by omega)]
                · rw [zPu_k (by omega), zPu_k (by omega), zPu_j hj]
                · rw [zPu_k (by omega), zPu_j hj, zPu_k (by omega)]
                · rw [zPu_j hj, zPu_k (by omega), zPu_k (by omega)]
            · intro s' i hs' hi
              rw [zPu_k (by omega), zPu_k (by omega), zPu_k (by omega)]; exact h.2 s' i hs' hi
            · intro k q1 q2 q3
              rw [zPu_k q3, zPu_k q2, zPu_k q1]
          rcases y_sort p3 with ⟨c1, c2⟩ | ⟨c1, c2⟩
          · rw [if_pos c1, if_neg c2]; exact fin 0 (-1) (Or.inl ⟨rfl, rfl⟩)
          · rw [if_neg c1, if_pos c2]
            refine fin 2 1 (Or.inr ⟨rfl, rfl, ?_⟩)
            rcases p3 with e | e
            · exact absurd e c1
            · exact e
        · rw [y_bl_f hz, y_bl_f hz]; exact hbad
      · -- nothing
        have y0 : y = 2 := hK
        subst y0
        simp only [hh2, show ¬ (2 : Int32) = 0 by decide, show ¬ (2 : Int32) = 1 by decide, show ¬ (1 : Int32) = 0 by decide, if_true, if_false, y_gin hs (show s < 2147483648 by omega), y_lt_e, y_cl (show s < 2147483648 by omega), y_b1]
        refine ⟨_, _, _, rfl, rfl, ⟨?_, ?_⟩, ?_⟩
        · intro s' hs'
          by_cases e : s' = s
          · subst e
            unfold pHs at hps ⊢
            rw [zPu_k (show 1 ≠ 4 by omega), zPu_k (show 2 ≠ 4 by omega), zPu_k (show 18 ≠ 23 by omega), zPu_k (show 18 ≠ 22 by omega), zPu_k (show 18 ≠ 21 by omega), zPu_k (show 19 ≠ 23 by omega), zPu_k (show 19 ≠ 22 by omega), zPu_k (show 19 ≠ 21 by omega)]
            refine ⟨hps.1, hps.2.1, hps.2.2.1, hps.2.2.2.1, Or.inl ⟨?_, zPu_s⟩⟩
            rw [zPu_k (by omega), zPu_k (by omega), zPu_s]
          · refine (h.1 s' hs').u e ?_ ?_ (fun j hj => ?_) (fun j hj => ?_) (fun j hj => ?_) ?_ ?_ (fun j hj => ?_) (fun j hj => ?_) (fun j hj => ?_)
            · rw [zPu_k (by omega)]
            · rw [zPu_k (by omega)]
            · rw [zPu_j hj]
            · rw [zPu_k (by omega)]
            · rw [zPu_k (by omega)]
            · rw [zPu_k (by omega), zPu_k (by omega), zPu_k (by omega)]
            · rw [zPu_k (by omega), zPu_k (by omega), zPu_k (by omega)]
            · rw [zPu_k (by omega), zPu_k (by omega), zPu_j hj]
            · rw [zPu_k (by omega), zPu_j hj, zPu_k (by omega)]
            · rw [zPu_j hj, zPu_k (by omega), zPu_k (by omega)]
        · intro s' i hs' hi
          rw [zPu_k (by omega)]; exact h.2 s' i hs' hi
        · intro k q1 q2 q3
          rw [zPu_k q3, zPu_k q2, zPu_k q1]
    · have n0 : ¬ y = 0 := fun e => by subst e; rcases e2 with e2 | ⟨-, e2, -⟩ <;> revert e2 <;> decide
      have n1 : ¬ y = 1 := fun e => by subst e; rcases e2 with e2 | ⟨-, e2, -⟩ <;> revert e2 <;> decide
      have n2 : ¬ y = 2 := fun e => by subst e; rcases e2 with e2 | ⟨-, e2, -⟩ <;> revert e2 <;> decide
      have hh : fX10_isHeld g gl y z = some 0 := by unfold fX10_isHeld; rw [if_neg n0, if_neg n1, if_neg n2]
      rw [hh, y_b1, if_pos (show (0 : Int32) = 0 from rfl), if_neg n0]
      rcases e2 with e2 | ⟨e2, e3, e4⟩
      · rw [if_pos e2]; exact hbad
      · rw [if_neg e2, if_neg e4]; exact hbad
  · rw [y_bl_f hx, y_bl_f hx]; exact hbad
/-! ===== taken ===== -/
def yUnd (k c : Nat) : Bool := decide (fX8_isUnder (nI k) (nI c) = fX10_isUnder (nI k) (nI c)) && (decide (fX10_isUnder (nI k) (nI c) = some 0) || decide (fX10_isUnder (nI k) (nI c) = some 1))
theorem yUndK : ((List.range 7).all fun k => (List.range 7).all fun c => Nat.beq k 0 || yUnd k c) = true := by decide +kernel
theorem y_und {k c : Nat} (h1 : 1 ≤ k) (hk : k ≤ 6) (hc : c ≤ 6) : fX8_isUnder (nI k) (nI c) = fX10_isUnder (nI k) (nI c) ∧ (fX10_isUnder (nI k) (nI c) = some 0 ∨ fX10_isUnder (nI k) (nI c) = some 1) := by
  have h := List.all_eq_true.mp (List.all_eq_true.mp yUndK k (List.mem_range.mpr (by omega))) c (List.mem_range.mpr (by omega))
  rw [Bool.or_eq_true] at h
  rcases h with h | h
  · have := Nat.eq_of_beq_eq_true h; omega
  · unfold yUnd at h
    simp only [Bool.and_eq_true, Bool.or_eq_true, decide_eq_true_eq] at h
    exact h
/-- what is on a shelf: no thing (0), cut n of kind k (1), a row (2) -/
theorem s_on {w gh g : zM} {gl : zL} {a : yA} (ok : yOk a) (hc : yC w a) (hg : yG g a) (h : pH gh g gl) {s : Nat} (hs : s < 4) : (∃ x, fX2_isRow gh (nI s) = some 0 ∧ fX2_cutOn gh (nI s) = some x ∧ zIn x (a 0 2) = false ∧ fX10_kindOn g gl (nI s) = some (-1)) ∨ (∃ n, n < a 0 2 ∧ fX2_isRow gh (nI s) = some 0 ∧ fX2_cutOn gh (nI s) = some (nI n) ∧ fX10_kindOn g gl (nI s) = some (nI (a 8 n)) ∧ g 22 s = nI n) ∨ (fX2_isRow gh (nI s) = some 1 ∧ fX2_cutOn gh (nI s) = some (-1) ∧ fX10_kindOn g gl (nI s) = some 9 ∧ (∃ k, k ≤ 3 ∧ g 22 s = nI k) ∧ gh 6 s = g 22 s ∧ gh 5 s = g 23 s) := by
  have h0 := ok.1
  obtain ⟨p1, p2, p3, p4, p5⟩ := h.1 s hs
  unfold fX2_isRow fX2_cutOn fX10_kindOn
  simp only [y_gin hs (show s < 2147483648 by omega), y_lt_e, y_cl (show s < 2147483648 by omega)]
  rcases p5 with ⟨q1, q2⟩ | ⟨q1, q2, q3⟩ | ⟨q1, q2, q3, q4, q5⟩
  · left
    rw [q1, q2]
    refine ⟨-1, if_neg (by decide), if_neg (by decide), ?_, ?_⟩
    · unfold zIn; rw [show decide ((0 : Int32) ≤ -1) = false from by decide]; rfl
    · rw [if_neg (by decide), if_neg (by decide)]
  · rw [q1, q2, q3, if_neg (by decide), if_pos rfl, if_pos rfl, s10_isCut ok hg, y_b1]
    rcases y_zin (g 22 s) (n := a 0 2) (by omega) with ⟨hz, n, hn, e⟩ | ⟨hz, -⟩
    · right; left
      rw [y_bl_t hz]
      have o := ok.2.2.2.1 n hn
      refine ⟨n, hn, rfl, by rw [e], ?_, e⟩
      rw [e, show (3 : Int32) = nI 3 from rfl, y_mul, y_gin (by omega) (by omega), y_cl (by omega), hg.2.2.2.2.2.2.2.2.1 n hn]
    · left
      rw [y_bl_f hz]
      exact ⟨_, rfl, rfl, hz, rfl⟩
  · right; right
    rw [q1, q2]
    exact ⟨if_pos rfl, if_neg (by decide), by rw [if_neg (by decide), if_pos (by decide)], q3, q4, q5⟩
theorem m_taken {gx w gh g : zM} {gl : zL} {a : yA} (ok : yOk a) (hc : yC w a) (hg : yG g a) (h : pH gh g gl) (x y : Int32) : ∃ r, fX9_taken gx w gh x y = some r ∧ fX10_taken g gl x y = some r := by
  have h0 := ok.1
  have hbad : ∀ {v : Int32}, ∃ r, some v = some r ∧ some v = some r := fun {v} => ⟨v, rfl, rfl⟩
  have core : ∀ (s : Nat) (v1 v2 : Int32), s < 4 → ((v1 = 1 ∧ v2 = 0 ∧ ∃ c, 10 ≤ c ∧ c ≤ 13 ∧ y = nI c) ∨ (v1 = 0 ∧ v2 = 1 ∧ ∃ c, c ≤ 6 ∧ y = nI c)) → ∃ r, fX9_taken_J53 (nI s) y w gh v1 v2 = some r ∧ fX10_taken_J30 (nI s) y g gl = some r := by
    intro s v1 v2 hs hv
    unfold fX9_taken_J53 fX10_taken_J30
    rcases s_on ok hc hg h hs with ⟨u, q1, q2, q3, q4⟩ | ⟨n, hn, q1, q2, q3, q4⟩ | ⟨q1, q2, q3, ⟨k, hk, q4⟩, q5, q6⟩
    · rw [q1, y_b1, if_pos (show (0 : Int32) = 0 from rfl), q2, y_b1, s8_hasCut ok hc, y_b1, y_bl_f q3, q4, y_b1, if_neg (show ¬ (0 : Int32) ≤ -1 by decide)]; exact hbad
    · have o := ok.2.2.2.1 n hn
      rw [q1, y_b1, if_pos (show (0 : Int32) = 0 from rfl), q2, y_b1, s8_hasCut ok hc, y_b1, y_bl_t (y_in hn (by omega)), q3, y_b1, if_pos (show (0 : Int32) ≤ nI (a 8 n) from nI_le (a := 0) (by omega) (by omega)), if_neg (show ¬ nI (a 8 n) = 9 from fun e => by have := (nI_eq (b := 9) (by omega) (by omega)).mp e; omega)]
      rcases hv with ⟨rfl, rfl, c, c1, c2, rfl⟩ | ⟨rfl, rfl, c, c1, rfl⟩
      · rw [if_pos (show (0 : Int32) = 0 from rfl), if_pos (show (10 : Int32) ≤ nI c from nI_le (a := 10) (by omega) (by omega))]; exact hbad
      · rw [if_neg (show ¬ (1 : Int32) = 0 by decide), if_neg (show ¬ (10 : Int32) ≤ nI c from fun e => by have : nI 10 ≤ nI c := e; rw [y_le (by omega) (by omega)] at this; omega), y_gin (by omega) (by omega), y_lt_e, y_cl (by omega), hc.2.2.2.2.2.2.2.2.1 n hn]
        obtain ⟨u1, u2⟩ := y_und o.1 o.2.1 c1
        rw [u1]
        rcases u2 with u2 | u2
        · rw [u2, y_b1, y_b1, if_pos (show (0 : Int32) = 0 from rfl), if_pos (show (0 : Int32) = 0 from rfl)]; exact hbad
        · rw [u2, y_b1, y_b1, if_neg (show ¬ (1 : Int32) = 0 by decide), if_neg (show ¬ (1 : Int32) = 0 by decide), y_gin hs (by omega), y_lt_e, y_cl (by omega), q4]; exact hbad
    · rw [q1, y_b1, if_neg (show ¬ (1 : Int32) = 0 by decide), q3, y_b1, if_pos (show (0 : Int32) ≤ 9 by decide), if_pos (show (9 : Int32) = 9 from rfl)]
      simp only [y_gin hs (show s < 2147483648 by omega), y_lt_e, y_cl (show s < 2147483648 by omega)]
      rw [q5, q6, q4]
      rcases hv with ⟨rfl, rfl, c, c1, c2, rfl⟩ | ⟨rfl, rfl, c, c1, rfl⟩
      · rw [if_neg (show ¬ (1 : Int32) = 0 by decide), show (10 : Int32) = nI 10 from rfl, y_sub c1, y_add]
        by_cases e : c = 10 + k
        · rw [y_eq_t (by omega), y_eq_t (by omega)]; exact hbad
        · rw [y_eq_f (by omega) (by omega) (by omega), y_eq_f (by omega) (by omega) (by omega)]; exact hbad
      · rw [if_pos (show (0 : Int32) = 0 from rfl), show (10 : Int32) = nI 10 from rfl, y_add, y_eq_f (by omega) (by omega) (by omega)]; exact hbad
  unfold fX9_taken fX9_taken_J16 fX9_taken_J17 fX9_taken_J32 fX9_taken_J33 fX10_taken
  rw [s2_hasPlace, y_b1, s10_isShelf, y_b1]
  rcases y_zin x (n := 4) (by omega) with ⟨hx, s, hs, rfl⟩ | ⟨hx, -⟩
  · simp only [y_bl_t hx, y_b1]
    simp only [show ¬ (1 : Int32) = 0 by decide, if_true, if_false]
    rcases y_rng y (L := 0) (M := 6) (l := 0) (m := 6) rfl rfl (by omega) (by omega) with ⟨c, -, c2, hy, e1, e2, e3, e4⟩ | ⟨e1, e2⟩
    · rw [e1, y_b1, if_neg (show ¬ (1 : Int32) = 0 by decide), if_neg e2, if_neg e3, if_pos (show y < 10 from by rw [hy]; exact nI_lt (b := 10) (by omega) (by omega))]
      exact core s 0 1 hs (Or.inr ⟨rfl, rfl, c, c2, hy⟩)
    · rw [e1, y_b1, if_pos (show (0 : Int32) = 0 from rfl)]
      rcases y_rng y (L := 10) (M := 13) (l := 10) (m := 13) rfl rfl (by omega) (by omega) with ⟨c, c1, c2, hy, f1, f2, f3, f4⟩ | ⟨f1, f2⟩
      · rw [f1, y_b1, if_neg (show ¬ (1 : Int32) = 0 by decide), if_neg f2, if_neg f3]
        have n0 : ¬ y < 0 := by rw [hy]; exact y_nn (by omega)
        rw [if_neg n0, if_pos (show 6 < y from by rw [hy]; exact nI_lt (a := 6) (by omega) (by omega))]
        exact core s 1 0 hs (Or.inl ⟨rfl, rfl, c, c1, c2, hy⟩)
      · rw [f1, y_b1, if_pos (show (0 : Int32) = 0 from rfl)]
        have lhs : ∀ {A B : Option Int32}, (if y < 0 then some (-1) else if 6 < y then some (-1) else A) = some (-1 : Int32) := by
          intro A B
          rcases e2 with e2 | ⟨e2, e3, -⟩
          · rw [if_pos e2]
          · rw [if_neg e2, if_pos e3]
        rcases f2 with f2 | ⟨f2, f3, f4⟩
        · rw [if_pos f2, lhs (B := none)]; exact hbad
        · rw [if_neg f2, if_pos f3, lhs (B := none)]; exact hbad
  · simp only [y_b1, y_bl_f hx, ite_self]; exact hbad
