/-! ===== keep, back ===== -/
theorem s10_mv26 {g : zM} {gl : zL} {o : Nat} (ho : o + 4 ≤ 120) (hg : g 0 52 = nI o) (a3 : Int32) : ∃ g', fX10_move_c26 g gl 4 a3 = some g' ∧ g' 0 52 = nI (o + 4) ∧ (∀ j, j ≠ 52 → g' 0 j = g 0 j) ∧ (∀ k, k ≠ 0 → k ≠ 25 → k ≠ 26 → g' k = g k) ∧ ((a3 = 0 ∧ g' 25 = g 25 ∧ ∀ j, j < 4 → g' 26 j = g 25 (o + j)) ∨ (¬ a3 = 0 ∧ g' 26 = g 26 ∧ (∀ j, j < 4 → g' 25 (o + j) = g 26 j) ∧ ∀ j, (j < o ∨ o + 4 ≤ j) → g' 25 j = g 25 j)) := by
  have key : ∃ b, zLp (fX10_move_c26_L3 (nI 4) a3) zFU ((fun k (x : zM) => (nI k, x)) 0 g) = some b ∧ (b 0 52 = nI (o + 4) ∧ (∀ j, j ≠ 52 → b 0 j = g 0 j) ∧ (∀ k, k ≠ 0 → k ≠ 25 → k ≠ 26 → b k = g k) ∧ ((a3 = 0 ∧ b 25 = g 25 ∧ ∀ j, j < 4 → b 26 j = g 25 (o + j)) ∨ (¬ a3 = 0 ∧ b 26 = g 26 ∧ (∀ j, j < 4 → b 25 (o + j) = g 26 j) ∧ ∀ j, (j < o ∨ o + 4 ≤ j) → b 25 j = g 25 j))) := by
    refine y_for (fun k (x : zM) => (nI k, x)) 4 (fun m b => b 0 52 = nI (o + m) ∧ (∀ j, j ≠ 52 → b 0 j = g 0 j) ∧ (∀ k, k ≠ 0 → k ≠ 25 → k ≠ 26 → b k = g k) ∧ ((a3 = 0 ∧ b 25 = g 25 ∧ ∀ j, j < m → b 26 j = g 25 (o + j)) ∨ (¬ a3 = 0 ∧ b 26 = g 26 ∧ (∀ j, j < m → b 25 (o + j) = g 26 j) ∧ ∀ j, (j < o ∨ o + m ≤ j) → b 25 j = g 25 j))) _ ?_ ?_ zFU 0 g (by omega) ⟨hg, fun _ _ => rfl, fun _ _ _ _ => rfl, ?_⟩ (by unfold zFU; omega)
    · rintro k x hk ⟨i1, i2, i3, i4⟩
      rcases i4 with ⟨e, i5, i6⟩ | ⟨e, i5, i6, i7⟩
      · refine ⟨zPu (zPu x 26 k (x 25 (o + k))) 0 52 (nI (o + (k + 1))), ?_, zPu_s, ?_, ?_, Or.inl ⟨e, ?_, ?_⟩⟩
        · show fX10_move_c26_L3 (nI 4) a3 (nI k, x) = _
          unfold fX10_move_c26_L3 fX10_move_c26_L3J42
          rw [y_u2, y_le_f (by omega) (by omega), if_pos e, i1, y_gin (by omega) (by omega), y_lt_e, y_gin (by omega) (by omega), y_lt_e, y_lt_e, y_lt_e, y_lt_e, y_cl (by omega), y_cl (by omega), zPu_k (show 0 ≠ 26 by omega), i1, y_a1, y_a1]; rfl
        · intro j hj; rw [zPu_j hj, zPu_k (by omega)]; exact i2 j hj
        · intro m m1 m2 m3; rw [zPu_k m1, zPu_k m3]; exact i3 m m1 m2 m3
        · rw [zPu_k (by omega), zPu_k (by omega)]; exact i5
        · intro j hj
          rw [zPu_k (by omega)]
          by_cases f : j = k
          · subst f; rw [zPu_s, i5]
          · rw [zPu_j f]; exact i6 j (by omega)
      · refine ⟨zPu (zPu x 25 (o + k) (x 26 k)) 0 52 (nI (o + (k + 1))), ?_, zPu_s, ?_, ?_, Or.inr ⟨e, ?_, ?_, ?_⟩⟩
        · show fX10_move_c26_L3 (nI 4) a3 (nI k, x) = _
          unfold fX10_move_c26_L3 fX10_move_c26_L3J42
          rw [y_u2, y_le_f (by omega) (by omega), if_neg e, i1, y_gin (by omega) (by omega), y_lt_e, y_gin (by omega) (by omega), y_lt_e, y_lt_e, y_lt_e, y_lt_e, y_cl (by omega), y_cl (by omega), zPu_k (show 0 ≠ 25 by omega), i1, y_a1, y_a1]; rfl
        · intro j hj; rw [zPu_j hj, zPu_k (by omega)]; exact i2 j hj
        · intro m m1 m2 m3; rw [zPu_k m1, zPu_k m2]; exact i3 m m1 m2 m3
        · rw [zPu_k (by omega), zPu_k (by omega)]; exact i5
        · intro j hj
          rw [zPu_k (by omega)]
          by_cases f : j = k
          · subst f; rw [zPu_s, i5]
          · rw [zPu_j (by omega)]; exact i6 j (by omega)
        · intro j hj
          rw [zPu_k (by omega), zPu_j (by omega)]; exact i7 j (by omega)
    · intro x hx
      refine ⟨x, ?_, hx⟩
      show fX10_move_c26_L3 (nI 4) a3 (nI 4, x) = _
      unfold fX10_move_c26_L3
      rw [y_u2, y_le_t (by omega) (by omega)]
    · by_cases e : a3 = 0
      · exact Or.inl ⟨e, rfl, fun j hj => absurd hj (by omega)⟩
      · exact Or.inr ⟨e, rfl, fun j hj => absurd hj (by omega), fun _ _ => rfl⟩
  obtain ⟨b, e, h⟩ := key
  refine ⟨b, ?_, h⟩
  unfold fX10_move_c26
  show zB1 (zLp (fX10_move_c26_L3 (nI 4) a3) zFU ((fun k (x : zM) => (nI k, x)) 0 g)) _ = _
  rw [e, y_b1, y_u1]
theorem s10_mv1 {g : zM} {gl : zL} {o : Nat} (ho : o + 10 ≤ 120) (hg : g 0 52 = nI o) (a3 : Int32) : ∃ g', fX10_move_c1 g gl 10 a3 = some g' ∧ g' 0 52 = nI (o + 10) ∧ (∀ j, j ≠ 52 → g' 0 j = g 0 j) ∧ (∀ k, k ≠ 0 → k ≠ 25 → k ≠ 1 → g' k = g k) ∧ ((a3 = 0 ∧ g' 25 = g 25 ∧ ∀ j, j < 10 → g' 1 j = g 25 (o + j)) ∨ (¬ a3 = 0 ∧ g' 1 = g 1 ∧ (∀ j, j < 10 → g' 25 (o + j) = g 1 j) ∧ ∀ j, (j < o ∨ o + 10 ≤ j) → g' 25 j = g 25 j)) := by
  have key : ∃ b, zLp (fX10_move_c1_L3 (nI 10) a3) zFU ((fun k (x : zM) => (nI k, x)) 0 g) = some b ∧ (b 0 52 = nI (o + 10) ∧ (∀ j, j ≠ 52 → b 0 j = g 0 j) ∧ (∀ k, k ≠ 0 → k ≠ 25 → k ≠ 1 → b k = g k) ∧ ((a3 = 0 ∧ b 25 = g 25 ∧ ∀ j, j < 10 → b 1 j = g 25 (o + j)) ∨ (¬ a3 = 0 ∧ b 1 = g 1 ∧ (∀ j, j < 10 → b 25 (o + j) = g 1 j) ∧ ∀ j, (j < o ∨ o + 10 ≤ j) → b 25 j = g 25 j))) := by
    refine y_for (fun k (x : zM) => (nI k, x)) 10 (fun m b => b 0 52 = nI (o + m) ∧ (∀ j, j ≠ 52 → b 0 j = g 0 j) ∧ (∀ k, k ≠ 0 → k ≠ 25 → k ≠ 1 → b k = g k) ∧ ((a3 = 0 ∧ b 25 = g 25 ∧ ∀ j, j < m → b 1 j = g 25 (o + j)) ∨ (¬ a3 = 0 ∧ b 1 = g 1 ∧ (∀ j, j < m → b 25 (o + j) = g 1 j) ∧ ∀ j, (j < o ∨ o + m ≤ j) → b 25 j = g 25 j))) _ ?_ ?_ zFU 0 g (by omega) ⟨hg, fun _ _ => rfl, fun _ _ _ _ => rfl, ?_⟩ (by unfold zFU; omega)
    · rintro k x hk ⟨i1, i2, i3, i4⟩
      rcases i4 with ⟨e, i5, i6⟩ | ⟨e, i5, i6, i7⟩
      · refine ⟨zPu (zPu x 1 k (x 25 (o + k))) 0 52 (nI (o + (k + 1))), ?_, zPu_s, ?_, ?_, Or.inl ⟨e, ?_, ?_⟩⟩
        · show fX10_move_c1_L3 (nI 10) a3 (nI k, x) = _
          unfold fX10_move_c1_L3 fX10_move_c1_L3J42
          rw [y_u2, y_le_f (by omega) (by omega), if_pos e, i1, y_gin (by omega) (by omega), y_lt_e, y_gin (by omega) (by omega), y_lt_e, y_lt_e, y_lt_e, y_lt_e, y_cl (by omega), y_cl (by omega), zPu_k (show 0 ≠ 1 by omega), i1, y_a1, y_a1]; rfl
        · intro j hj; rw [zPu_j hj, zPu_k (by omega)]; exact i2 j hj
        · intro m m1 m2 m3; rw [zPu_k m1, zPu_k m3]; exact i3 m m1 m2 m3
        · rw [zPu_k (by omega), zPu_k (by omega)]; exact i5
        · intro j hj
          rw [zPu_k (by omega)]
          by_cases f : j = k
          · subst f; rw [zPu_s, i5]
          · rw [zPu_j f]; exact i6 j (by omega)
      · refine ⟨zPu (zPu x 25 (o + k) (x 1 k)) 0 52 (nI (o + (k + 1))), ?_, zPu_s, ?_, ?_, Or.inr ⟨e, ?_, ?_, ?_⟩⟩
        · show fX10_move_c1_L3 (nI 10) a3 (nI k, x) = _
          unfold fX10_move_c1_L3 fX10_move_c1_L3J42
          rw [y_u2, y_le_f (by omega) (by omega), if_neg e, i1, y_gin (by omega) (by omega), y_lt_e, y_gin (by omega) (by omega), y_lt_e, y_lt_e, y_lt_e, y_lt_e, y_cl (by omega), y_cl (by omega), zPu_k (show 0 ≠ 25 by omega), i1, y_a1, y_a1]; rfl
        · intro j hj; rw [zPu_j hj, zPu_k (by omega)]; exact i2 j hj
        · intro m m1 m2 m3; rw [zPu_k m1, zPu_k m2]; exact i3 m m1 m2 m3
        · rw [zPu_k (by omega), zPu_k (by omega)]; exact i5
        · intro j hj
          rw [zPu_k (by omega)]
          by_cases f : j = k
          · subst f; rw [zPu_s, i5]
          · rw [zPu_j (by omega)]; exact i6 j (by omega)
        · intro j hj
          rw [zPu_k (by omega), zPu_j (by omega)]; exact i7 j (by omega)
    · intro x hx
      refine ⟨x, ?_, hx⟩
      show fX10_move_c1_L3 (nI 10) a3 (nI 10, x) = _
      unfold fX10_move_c1_L3
      rw [y_u2, y_le_t (by omega) (by omega)]
    · by_cases e : a3 = 0
      · exact Or.inl ⟨e, rfl, fun j hj => absurd hj (by omega)⟩
      · exact Or.inr ⟨e, rfl, fun j hj => absurd hj (by omega), fun _ _ => rfl⟩
  obtain ⟨b, e, h⟩ := key
  refine ⟨b, ?_, h⟩
  unfold fX10_move_c1
  show zB1 (zLp (fX10_move_c1_L3 (nI 10) a3) zFU ((fun k (x : zM) => (nI k, x)) 0 g)) _ = _
  rw [e, y_b1, y_u1]
theorem s10_mv2 {g : zM} {gl : zL} {o : Nat} (ho : o + 70 ≤ 120) (hg : g 0 52 = nI o) (a3 : Int32) : ∃ g', fX10_move_c2 g gl 70 a3 = some g' ∧ g' 0 52 = nI (o + 70) ∧ (∀ j, j ≠ 52 → g' 0 j = g 0 j) ∧ (∀ k, k ≠ 0 → k ≠ 25 → k ≠ 2 → g' k = g k) ∧ ((a3 = 0 ∧ g' 25 = g 25 ∧ ∀ j, j < 70 → g' 2 j = g 25 (o + j)) ∨ (¬ a3 = 0 ∧ g' 2 = g 2 ∧ (∀ j, j < 70 → g' 25 (o + j) = g 2 j) ∧ ∀ j, (j < o ∨ o + 70 ≤ j) → g' 25 j = g 25 j)) := by
  have key : ∃ b, zLp (fX10_move_c2_L3 (nI 70) a3) zFU ((fun k (x : zM) => (nI k, x)) 0 g) = some b ∧ (b 0 52 = nI (o + 70) ∧ (∀ j, j ≠ 52 → b 0 j = g 0 j) ∧ (∀ k, k ≠ 0 → k ≠ 25 → k ≠ 2 → b k = g k) ∧ ((a3 = 0 ∧ b 25 = g 25 ∧ ∀ j, j < 70 → b 2 j = g 25 (o + j)) ∨ (¬ a3 = 0 ∧ b 2 = g 2 ∧ (∀ j, j < 70 → b 25 (o + j) = g 2 j) ∧ ∀ j, (j < o ∨ o + 70 ≤ j) → b 25 j = g 25 j))) := by
    refine y_for (fun k (x : zM) => (nI k, x)) 70 (fun m b => b 0 52 = nI (o + m) ∧ (∀ j, j ≠ 52 → b 0 j = g 0 j) ∧ (∀ k, k ≠ 0 → k ≠ 25 → k ≠ 2 → b k = g k) ∧ ((a3 = 0 ∧ b 25 = g 25 ∧ ∀ j, j < m → b 2 j = g 25 (o + j)) ∨ (¬ a3 = 0 ∧ b 2 = g 2 ∧ (∀ j, j < m → b 25 (o + j) = g 2 j) ∧ ∀ j, (j < o ∨ o + m ≤ j) → b 25 j = g 25 j))) _ ?_ ?_ zFU 0 g (by omega) ⟨hg, fun _ _ => rfl, fun _ _ _ _ => rfl, ?_⟩ (by unfold zFU; omega)
    · rintro k x hk ⟨i1, i2, i3, i4⟩
      rcases i4 with ⟨e, i5, i6⟩ | ⟨e, i5, i6, i7⟩
      · refine ⟨zPu (zPu x 2 k (x 25 (o + k))) 0 52 (nI (o + (k + 1))), ?_, zPu_s, ?_, ?_, Or.inl ⟨e, ?_, ?_⟩⟩
        · show fX10_move_c2_L3 (nI 70) a3 (nI k, x) = _
          unfold fX10_move_c2_L3 fX10_move_c2_L3J42
          rw [y_u2, y_le_f (by omega) (by omega), if_pos e, i1, y_gin (by omega) (by omega), y_lt_e, y_gin (by omega) (by omega), y_lt_e, y_lt_e, y_lt_e, y_lt_e, y_cl (by omega), y_cl (by omega), zPu_k (show 0 ≠ 2 by omega), i1, y_a1, y_a1]; rfl
        · intro j hj; rw [zPu_j hj, zPu_k (by omega)]; exact i2 j hj
        · intro m m1 m2 m3; rw [zPu_k m1, zPu_k m3]; exact i3 m m1 m2 m3
        · rw [zPu_k (by omega), zPu_k (by omega)]; exact i5
        · intro j hj
          rw [zPu_k (by omega)]
          by_cases f : j = k
          · subst f; rw [zPu_s, i5]
          · rw [zPu_j f]; exact i6 j (by omega)
      · refine ⟨zPu (zPu x 25 (o + k) (x 2 k)) 0 52 (nI (o + (k + 1))), ?_, zPu_s, ?_, ?_, Or.inr ⟨e, ?_, ?_, ?_⟩⟩
        · show fX10_move_c2_L3 (nI 70) a3 (nI k, x) = _
          unfold fX10_move_c2_L3 fX10_move_c2_L3J42
          rw [y_u2, y_le_f (by omega) (by omega), if_neg e, i1, y_gin (by omega) (by omega), y_lt_e, y_gin (by omega) (by omega), y_lt_e, y_lt_e, y_lt_e, y_lt_e, y_cl (by omega), y_cl (by omega), zPu_k (show 0 ≠ 25 by omega), i1, y_a1, y_a1]; rfl
        · intro j hj; rw [zPu_j hj, zPu_k (by omega)]; exact i2 j hj
        · intro m m1 m2 m3; rw [zPu_k m1, zPu_k m2]; exact i3 m m1 m2 m3
        · rw [zPu_k (by omega), zPu_k (by omega)]; exact i5
        · intro j hj
          rw [zPu_k (by omega)]
          by_cases f : j = k
          · subst f; rw [zPu_s, i5]
          · rw [zPu_j (by omega)]; exact i6 j (by omega)
        · intro j hj
          rw [zPu_k (by omega), zPu_j (by omega)]; exact i7 j (by omega)
    · intro x hx
      refine ⟨x, ?_, hx⟩
      show fX10_move_c2_L3 (nI 70) a3 (nI 70, x) = _
      unfold fX10_move_c2_L3
      rw [y_u2, y_le_t (by omega) (by omega)]
    · by_cases e : a3 = 0
      · exact Or.inl ⟨e, rfl, fun j hj => absurd hj (by omega)⟩
      · exact Or.inr ⟨e, rfl, fun j hj => absurd hj (by omega), fun _ _ => rfl⟩
  obtain ⟨b, e, h⟩ := key
  refine ⟨b, ?_, h⟩
  unfold fX10_move_c2
  show zB1 (zLp (fX10_move_c2_L3 (nI 70) a3) zFU ((fun k (x : zM) => (nI k, x)) 0 g)) _ = _
  rw [e, y_b1, y_u1]
theorem s10_mv3 {g : zM} {gl : zL} {o : Nat} (ho : o + 24 ≤ 120) (hg : g 0 52 = nI o) (a3 : Int32) : ∃ g', fX10_move_c3 g gl 24 a3 = some g' ∧ g' 0 52 = nI (o + 24) ∧ (∀ j, j ≠ 52 → g' 0 j = g 0 j) ∧ (∀ k, k ≠ 0 → k ≠ 25 → k ≠ 3 → g' k = g k) ∧ ((a3 = 0 ∧ g' 25 = g 25 ∧ ∀ j, j < 24 → g' 3 j = g 25 (o + j)) ∨ (¬ a3 = 0 ∧ g' 3 = g 3 ∧ (∀ j, j < 24 → g' 25 (o + j) = g 3 j) ∧ ∀ j, (j < o ∨ o + 24 ≤ j) → g' 25 j = g 25 j)) := by
  have key : ∃ b, zLp (fX10_move_c3_L3 (nI 24) a3) zFU ((fun k (x : zM) => (nI k, x)) 0 g) = some b ∧ (b 0 52 = nI (o + 24) ∧ (∀ j, j ≠ 52 → b 0 j = g 0 j) ∧ (∀ k, k ≠ 0 → k ≠ 25 → k ≠ 3 → b k = g k) ∧ ((a3 = 0 ∧ b 25 = g 25 ∧ ∀ j, j < 24 → b 3 j = g 25 (o + j)) ∨ (¬ a3 = 0 ∧ b 3 = g 3 ∧ (∀ j, j < 24 → b 25 (o + j) = g 3 j) ∧ ∀ j, (j < o ∨ o + 24 ≤ j) → b 25 j = g 25 j))) := by
    refine y_for (fun k (x : zM) => (nI k, x)) 24 (fun m b => b 0 52 = nI (o + m) ∧ (∀ j, j ≠ 52 → b 0 j = g 0 j) ∧ (∀ k, k ≠ 0 → k ≠ 25 → k ≠ 3 → b k = g k) ∧ ((a3 = 0 ∧ b 25 = g 25 ∧ ∀ j, j < m → b 3 j = g 25 (o + j)) ∨ (¬ a3 = 0 ∧ b 3 = g 3 ∧ (∀ j, j < m → b 25 (o + j) = g 3 j) ∧ ∀ j, (j < o ∨ o + m ≤ j) → b 25 j = g 25 j))) _ ?_ ?_ zFU 0 g (by omega) ⟨hg, fun _ _ => rfl, fun _ _ _ _ => rfl, ?_⟩ (by unfold zFU; omega)
    · rintro k x hk ⟨i1, i2, i3, i4⟩
      rcases i4 with ⟨e, i5, i6⟩ | ⟨e, i5, i6, i7⟩
      · refine ⟨zPu (zPu x 3 k (x 25 (o + k))) 0 52 (nI (o + (k + 1))), ?_, zPu_s, ?_, ?_, Or.inl ⟨e, ?_, ?_⟩⟩
        · show fX10_move_c3_L3 (nI 24) a3 (nI k, x) = _
          unfold fX10_move_c3_L3 fX10_move_c3_L3J42
          rw [y_u2, y_le_f (by omega) (by omega), if_pos e, i1, y_gin (by omega) (by omega), y_lt_e, y_gin (by omega) (by omega), y_lt_e, y_lt_e, y_lt_e, y_lt_e, y_cl (by omega), y_cl (by omega), zPu_k (show 0 ≠ 3 by omega), i1, y_a1, y_a1]; rfl
        · intro j hj; rw [zPu_j hj, zPu_k (by omega)]; exact i2 j hj
        · intro m m1 m2 m3; rw [zPu_k m1, zPu_k m3]; exact i3 m m1 m2 m3
        · rw [zPu_k (by omega), zPu_k (by omega)]; exact i5
        · intro j hj
          rw [zPu_k (by omega)]
          by_cases f : j = k
          · subst f; rw [zPu_s, i5]
          · rw [zPu_j f]; exact i6 j (by omega)
      · refine ⟨zPu (zPu x 25 (o + k) (x 3 k)) 0 52 (nI (o + (k + 1))), ?_, zPu_s, ?_, ?_, Or.inr ⟨e, ?_, ?_, ?_⟩⟩
        · show fX10_move_c3_L3 (nI 24) a3 (nI k, x) = _
          unfold fX10_move_c3_L3 fX10_move_c3_L3J42
          rw [y_u2, y_le_f (by omega) (by omega), if_neg e, i1, y_gin (by omega) (by omega), y_lt_e, y_gin (by omega) (by omega), y_lt_e, y_lt_e, y_lt_e, y_lt_e, y_cl (by omega), y_cl (by omega), zPu_k (show 0 ≠ 25 by omega), i1, y_a1, y_a1]; rfl
        · intro j hj; rw [zPu_j hj, zPu_k (by omega)]; exact i2 j hj
        · intro m m1 m2 m3; rw [zPu_k m1, zPu_k m2]; exact i3 m m1 m2 m3
        · rw [zPu_k (by omega), zPu_k (by omega)]; exact i5
        · intro j hj
          rw [zPu_k (by omega)]
          by_cases f : j = k
          · subst f; rw [zPu_s, i5]
          · rw [zPu_j (by omega)]; exact i6 j (by omega)
        · intro j hj
          rw [zPu_k (by omega), zPu_j (by omega)]; exact i7 j (by omega)
    · intro x hx
      refine ⟨x, ?_, hx⟩
      show fX10_move_c3_L3 (nI 24) a3 (nI 24, x) = _
      unfold fX10_move_c3_L3
      rw [y_u2, y_le_t (by omega) (by omega)]
    · by_cases e : a3 = 0
      · exact Or.inl ⟨e, rfl, fun j hj => absurd hj (by omega)⟩
      · exact Or.inr ⟨e, rfl, fun j hj => absurd hj (by omega), fun _ _ => rfl⟩
  obtain ⟨b, e, h⟩ := key
  refine ⟨b, ?_, h⟩
  unfold fX10_move_c3
  show zB1 (zLp (fX10_move_c3_L3 (nI 24) a3) zFU ((fun k (x : zM) => (nI k, x)) 0 g)) _ = _
  rw [e, y_b1, y_u1]
theorem s10_mv4 {g : zM} {gl : zL} {o : Nat} (ho : o + 10 ≤ 120) (hg : g 0 52 = nI o) (a3 : Int32) : ∃ g', fX10_move_c4 g gl 10 a3 = some g' ∧ g' 0 52 = nI (o + 10) ∧ (∀ j, j ≠ 52 → g' 0 j = g 0 j) ∧ (∀ k, k ≠ 0 → k ≠ 25 → k ≠ 4 → g' k = g k) ∧ ((a3 = 0 ∧ g' 25 = g 25 ∧ ∀ j, j < 10 → g' 4 j = g 25 (o + j)) ∨ (¬ a3 = 0 ∧ g' 4 = g 4 ∧ (∀ j, j < 10 → g' 25 (o + j) = g 4 j) ∧ ∀ j, (j < o ∨ o + 10 ≤ j) → g' 25 j = g 25 j)) := by
  have key : ∃ b, zLp (fX10_move_c4_L3 (nI 10) a3) zFU ((fun k (x : zM) => (nI k, x)) 0 g) = some b ∧ (b 0 52 = nI (o + 10) ∧ (∀ j, j ≠ 52 → b 0 j = g 0 j) ∧ (∀ k, k ≠ 0 → k ≠ 25 → k ≠ 4 → b k = g k) ∧ ((a3 = 0 ∧ b 25 = g 25 ∧ ∀ j, j < 10 → b 4 j = g 25 (o + j)) ∨ (¬ a3 = 0 ∧ b 4 = g 4 ∧ (∀ j, j < 10 → b 25 (o + j) = g 4 j) ∧ ∀ j, (j < o ∨ o + 10 ≤ j) → b 25 j = g 25 j))) := by
    refine y_for (fun k (x : zM) => (nI k, x)) 10 (fun m b => b 0 52 = nI (o + m) ∧ (∀ j, j ≠ 52 → b 0 j = g 0 j) ∧ (∀ k, k ≠ 0 → k ≠ 25 → k ≠ 4 → b k = g k) ∧ ((a3 = 0 ∧ b 25 = g 25 ∧ ∀ j, j < m → b 4 j = g 25 (o + j)) ∨ (¬ a3 = 0 ∧ b 4 = g 4 ∧ (∀ j, j < m → b 25 (o + j) = g 4 j) ∧ ∀ j, (j < o ∨ o + m ≤ j) → b 25 j = g 25 j))) _ ?_ ?_ zFU 0 g (by omega) ⟨hg, fun _ _ => rfl, fun _ _ _ _ => rfl, ?_⟩ (by unfold zFU; omega)
    · rintro k x hk ⟨i1, i2, i3, i4⟩
      rcases i4 with ⟨e, i5, i6⟩ | ⟨e, i5, i6, i7⟩
      · refine ⟨zPu (zPu x 4 k (x 25 (o + k))) 0 52 (nI (o + (k + 1))), ?_, zPu_s, ?_, ?_, Or.inl ⟨e, ?_, ?_⟩⟩
        · show fX10_move_c4_L3 (nI 10) a3 (nI k, x) = _
          unfold fX10_move_c4_L3 fX10_move_c4_L3J42
          rw [y_u2, y_le_f (by omega) (by omega), if_pos e, i1, y_gin (by omega) (by omega), y_lt_e, y_gin (by omega) (by omega), y_lt_e, y_lt_e, y_lt_e, y_lt_e, y_cl (by omega), y_cl (by omega), zPu_k (show 0 ≠ 4 by omega), i1, y_a1, y_a1]; rfl
        · intro j hj; rw [zPu_j hj, zPu_k (by omega)]; exact i2 j hj
        · intro m m1 m2 m3; rw [zPu_k m1, zPu_k m3]; exact i3 m m1 m2 m3
        · rw [zPu_k (by omega), zPu_k (by omega)]; exact i5
        · intro j hj
          rw [zPu_k (by omega)]
          by_cases f : j = k
          · subst f; rw [zPu_s, i5]
          · rw [zPu_j f]; exact i6 j (by omega)
      · refine ⟨zPu (zPu x 25 (o + k) (x 4 k)) 0 52 (nI (o + (k + 1))), ?_, zPu_s, ?_, ?_, Or.inr ⟨e, ?_, ?_, ?_⟩⟩
        · show fX10_move_c4_L3 (nI 10) a3 (nI k, x) = _
          unfold fX10_move_c4_L3 fX10_move_c4_L3J42
          rw [y_u2, y_le_f (by omega) (by omega), if_neg e, i1, y_gin (by omega) (by omega), y_lt_e, y_gin (by omega) (by omega), y_lt_e, y_lt_e, y_lt_e, y_lt_e, y_cl (by omega), y_cl (by omega), zPu_k (show 0 ≠ 25 by omega), i1, y_a1, y_a1]; rfl
        · intro j hj; rw [zPu_j hj, zPu_k (by omega)]; exact i2 j hj
        · intro m m1 m2 m3; rw [zPu_k m1, zPu_k m2]; exact i3 m m1 m2 m3
        · rw [zPu_k (by omega), zPu_k (by omega)]; exact i5
        · intro j hj
          rw [zPu_k (by omega)]
          by_cases f : j = k
          · subst f; rw [zPu_s, i5]
          · rw [zPu_j (by omega)]; exact i6 j (by omega)
        · intro j hj
          rw [zPu_k (by omega), zPu_j (by omega)]; exact i7 j (by omega)
    · intro x hx
      refine ⟨x, ?_, hx⟩
      show fX10_move_c4_L3 (nI 10) a3 (nI 10, x) = _
      unfold fX10_move_c4_L3
      rw [y_u2, y_le_t (by omega) (by omega)]
    · by_cases e : a3 = 0
      · exact Or.inl ⟨e, rfl, fun j hj => absurd hj (by omega)⟩
      · exact Or.inr ⟨e, rfl, fun j hj => absurd hj (by omega), fun _ _ => rfl⟩
  obtain ⟨b, e, h⟩ := key
  refine ⟨b, ?_, h⟩
  unfold fX10_move_c4
  show zB1 (zLp (fX10_move_c4_L3 (nI 10) a3) zFU ((fun k (x : zM) => (nI k, x)) 0 g)) _ = _
  rw [e, y_b1, y_u1]
