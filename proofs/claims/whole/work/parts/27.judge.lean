/-! ===== rows ===== -/
theorem s5_has {gr : zM} {n : Nat} (hn : n ≤ 10) (h : gr 0 1 = nI n) (x y : Int32) : fX5_has gr x y = some (yBl (zIn x n && zIn y 3)) := by
  unfold fX5_has
  rw [h]
  rcases y_zin x (n := n) (by omega) with ⟨h1, k, hk, rfl⟩ | ⟨h1, h2⟩
  · rw [h1, if_neg (y_nn (by omega)), y_le_f (by omega) (by omega)]
    rcases y_zin y (n := 3) (by omega) with ⟨h3, j, hj, rfl⟩ | ⟨h3, h4⟩
    · rw [h3, if_neg (y_nn (by omega)), if_neg (show ¬ (2 : Int32) < nI j from by rw [show (2 : Int32) = nI 2 from rfl, y_lt (by omega) (by omega)]; omega)]; rfl
    · rw [h3]
      by_cases c : y < 0
      · rw [if_pos c]; rfl
      · rw [if_neg c, if_pos (by
          have := h4.resolve_left c
          obtain ⟨j, hj, rfl⟩ := nI_of c
          rw [y_le (by omega) hj] at this
          rw [show (2 : Int32) = nI 2 from rfl, y_lt (by omega) hj]; omega)]; rfl
  · rw [h1]
    by_cases c : x < 0
    · rw [if_pos c]; rfl
    · rw [if_neg c, if_pos (h2.resolve_left c)]; rfl
theorem s10_isRow {g : zM} {gl : zL} {n : Nat} (hn : n ≤ 10) (h : g 0 36 = nI n) (x y : Int32) : fX10_isRow g gl x y = some (yBl (zIn x n && zIn y 3)) := by
  unfold fX10_isRow
  rw [h, s10_in0 x (by omega), y_b1, show (2 : Int32) = nI 2 from rfl, y_inN y 2 (by omega), y_b1]
  cases zIn x n
  · rw [y_bl_f rfl]; rfl
  · rw [y_bl_t rfl]
    show (if yBl (zIn y 3) = 0 then some 0 else some 1) = _
    cases zIn y 3
    · rw [y_bl_f rfl]; rfl
    · rw [y_bl_t rfl]; rfl
theorem m_row {gx gr g : zM} {gl : zL} (hr : pR gr g) (x y : Int32) : ∃ r, fX9_row gx gr x y = some r ∧ fX10_row g gl x y = some r := by
  obtain ⟨n, hn, h1, h2, h3⟩ := hr
  unfold fX9_row fX10_row
  rw [s5_has hn h1, y_b1, s10_isRow hn h2, y_b1]
  cases h : (zIn x n && zIn y 3)
  · rw [y_bl_f rfl, y_bl_f rfl]; exact ⟨_, rfl, rfl⟩
  · rw [y_bl_t rfl, y_bl_t rfl]
    obtain ⟨i, hi, rfl⟩ := vp_in_of (zIn_ok (Bool.and_eq_true_iff.mp h).1) (by omega)
    obtain ⟨j, hj, rfl⟩ := vp_in_of (zIn_ok (Bool.and_eq_true_iff.mp h).2) (by omega)
    rw [y_gin (by omega) (by omega), y_gin (by omega) (by omega), y_lt_e, show (3 : Int32) = nI 3 from rfl, y_mul, y_add, y_gin (by omega) (by omega), y_lt_e, y_cl (by omega), y_cl (by omega), y_cl (by omega), h3 i j hi hj]
    exact ⟨_, rfl, rfl⟩
theorem m_alterRow {gx gr g : zM} {gl : zL} (hr : pR gr g) (x y z : Int32) : ∃ r gr' g', fX9_alterRow gx gr x y z = some (r, gr') ∧ fX10_alterRow g gl x y z = some (r, g') ∧ pR gr' g' ∧ (∀ k, k ≠ 16 → g' k = g k) := by
  obtain ⟨n, hn, h1, h2, h3⟩ := hr
  unfold fX9_alterRow fX10_alterRow
  rw [s5_has hn h1, y_b1, s10_isRow hn h2, y_b1]
  cases h : (zIn x n && zIn y 3)
  · rw [y_bl_f rfl, y_bl_f rfl]; exact ⟨_, gr, g, rfl, rfl, ⟨n, hn, h1, h2, h3⟩, fun _ _ => rfl⟩
  · rw [y_bl_t rfl, y_bl_t rfl]
    obtain ⟨i, hi, rfl⟩ := vp_in_of (zIn_ok (Bool.and_eq_true_iff.mp h).1) (by omega)
    obtain ⟨j, hj, rfl⟩ := vp_in_of (zIn_ok (Bool.and_eq_true_iff.mp h).2) (by omega)
    rw [y_gin (by omega) (by omega), y_gin (by omega) (by omega), y_lt_e, y_gin (by omega) (by omega), y_gin (by omega) (by omega), y_lt_e, show (3 : Int32) = nI 3 from rfl, y_mul, y_add, y_gin (by omega) (by omega), y_lt_e, y_gin (by omega) (by omega), y_lt_e, y_cl (by omega), y_cl (by omega), y_cl (by omega), h3 i j hi hj]
    refine ⟨_, _, _, rfl, rfl, ⟨n, hn, by rw [zPu_k (by omega)]; exact h1, by rw [zPu_k (by omega)]; exact h2, ?_⟩, fun k hk => zPu_k hk⟩
    intro i' j' hi' hj'
    by_cases e : i' = i ∧ j' = j
    · obtain ⟨rfl, rfl⟩ := e; rw [zPu_s, zPu_s]
    · rw [zPu_j (w := g) (show 3 * i' + j' ≠ 3 * i + j by omega)]
      by_cases f : i' = i
      · rw [f, zPu_j (fun q => e ⟨f, q⟩), ← f]; exact h3 i' j' hi' hj'
      · rw [zPu_k (by omega)]; exact h3 i' j' hi' hj'
/-! ===== who is told by whom ===== -/
def yTd (a : yA) (p q d : Nat) : Bool := (List.range (a 0 1)).any (fun i => decide (a 3 i = (if p < q then p else q)) && decide (a 4 i = (if p < q then q else p)) && yOpen a i d)
theorem yTd_i {a : yA} {p q d : Nat} : yTd a p q d = true ↔ ∃ i, i < a 0 1 ∧ a 3 i = (if p < q then p else q) ∧ a 4 i = (if p < q then q else p) ∧ yOpen a i d = true := by
  unfold yTd
  simp only [List.any_eq_true, List.mem_range, Bool.and_eq_true, decide_eq_true_eq, and_assoc]
theorem yTd_e {a : yA} (ok : yOk a) {p q d i : Nat} (hi : i < a 0 1) (h1 : a 3 i = (if p < q then p else q)) (h2 : a 4 i = (if p < q then q else p)) : yTd a p q d = yOpen a i d := by
  cases h : yOpen a i d
  · cases h' : yTd a p q d
    · rfl
    · obtain ⟨j, hj, j1, j2, j3⟩ := yTd_i.mp h'
      have := ok.2.2.2.2 j i hj hi (by rw [j1, h1]) (by rw [j2, h2])
      rw [this, h] at j3; cases j3
  · exact yTd_i.mpr ⟨i, hi, h1, h2, h⟩
theorem yTd_n {a : yA} {p q d : Nat} (hn : ∀ i, i < a 0 1 → ¬ (a 3 i = (if p < q then p else q) ∧ a 4 i = (if p < q then q else p))) : yTd a p q d = false := by
  cases h' : yTd a p q d
  · rfl
  · obtain ⟨j, hj, j1, j2, j3⟩ := yTd_i.mp h'
    exact absurd ⟨j1, j2⟩ (hn j hj)
theorem s5_isTold {w : zM} {a : yA} (ok : yOk a) (hc : yC w a) {p d : Nat} (hp : p < a 0 0) (hd : d < 100) (y : Int32) : (∃ q, q < a 0 0 ∧ y = nI q ∧ fX5_isTold w (nI p) y (nI d) = some (yBl (yTd a p q d))) ∨ (zIn y (a 0 0) = false ∧ fX5_isTold w (nI p) y (nI d) = some 0) := by
  have h0 := ok.1
  unfold fX5_isTold
  have mine := s8_tieBetween ok hc (nI p) y
  rcases y_zin y (n := a 0 0) (by omega) with ⟨hy, q, hq, rfl⟩ | ⟨hy, -⟩
  · left
    refine ⟨q, hq, rfl, ?_⟩
    rw [y_mn (by omega) (by omega), y_mx (by omega) (by omega)] at mine
    have m1 : (if p < q then p else q) < 2147483648 := by split <;> omega
    have m2 : (if p < q then q else p) < 2147483648 := by split <;> omega
    rcases mine with ⟨i, hi, i1, i2, e⟩ | ⟨hn, e⟩
    · have o := ok.2.2.1 i hi
      rw [e, y_b1, if_neg (y_nn (by omega)), s8_isOpen ok hc hi (by omega), y_b1, yTd_e ok hi ((nI_eq (by omega) m1).mp i1) ((nI_eq (by omega) m2).mp i2)]
      cases yOpen a i d <;> rfl
    · rw [e, y_b1, if_pos (by decide), yTd_n (fun i hi h => hn i hi ⟨by rw [h.1], by rw [h.2]⟩)]; rfl
  · right
    refine ⟨hy, ?_⟩
    rcases mine with ⟨i, hi, i1, i2, e⟩ | ⟨hn, e⟩
    · exfalso
      have o := ok.2.2.1 i hi
      have : y = nI (a 3 i) ∨ y = nI (a 4 i) := by
        by_cases c : y < nI p
        · rw [if_pos c] at i1; exact Or.inl i1.symm
        · rw [if_neg c] at i1
          by_cases c2 : nI p < y
          · rw [if_pos c2] at i2; exact Or.inr i2.symm
          · rw [if_neg c2] at i2
            have := (nI_eq (by omega) (by omega)).mp (i1.trans i2.symm)
            omega
      rcases this with e | e
      · rw [e, y_in (by omega) (by omega)] at hy; cases hy
      · rw [e, y_in (by omega) (by omega)] at hy; cases hy
    · rw [e, y_b1, if_pos (by decide)]
theorem s10_tieOfTwo {g : zM} {gl : zL} {a : yA} (ok : yOk a) (hg : yG g a) {p q : Nat} (hp : p < a 0 0) (hq : q < a 0 0) : (∃ i, i < a 0 1 ∧ a 3 i = (if p < q then p else q) ∧ a 4 i = (if p < q then q else p) ∧ fX10_tieOfTwo g gl (nI p) (nI q) = some (nI i)) ∨ ((∀ i, i < a 0 1 → ¬ (a 3 i = (if p < q then p else q) ∧ a 4 i = (if p < q then q else p))) ∧ fX10_tieOfTwo g gl (nI p) (nI q) = some (-1)) := by
  have h0 := ok.1
  have key : ∃ b, zLp (fX10_tieOfTwo_L2 (nI p) (nI q) g gl) zFU 0 = some b ∧ ((∃ i, i < a 0 1 ∧ a 3 i = (if p < q then p else q) ∧ a 4 i = (if p < q then q else p) ∧ b = .inr (nI i)) ∨ ((∀ i, i < a 0 1 → ¬ (a 3 i = (if p < q then p else q) ∧ a 4 i = (if p < q then q else p))) ∧ b = .inl ())) := by
    refine y_lp (fun s => ∃ n, s = nI n ∧ n ≤ a 0 1 ∧ ∀ i, i < n → ¬ (a 3 i = (if p < q then p else q) ∧ a 4 i = (if p < q then q else p))) (fun s => 20 - s.toNatClampNeg) _ ?_ zFU 0 ⟨0, rfl, by omega, fun i hi => absurd hi (by omega)⟩ (by unfold zFU; omega)
    rintro s ⟨n, rfl, hn, hI⟩
    unfold fX10_tieOfTwo_L2 fX10_tieOfTwo_L2J32
    rw [y_u1, hg.1.2.1]
    by_cases c : n < a 0 1
    · have o := ok.2.2.1 n c
      have nx : ¬ (a 3 n = (if p < q then p else q) ∧ a 4 n = (if p < q then q else p)) → ∀ i, i < n + 1 → ¬ (a 3 i = (if p < q then p else q) ∧ a 4 i = (if p < q then q else p)) := fun h i hi => by
        by_cases f : i = n
        · rw [f]; exact h
        · exact hI i (by omega)
      rw [y_le_f (by omega) (by omega), y_lt_e, y_a1, y_cl (by omega)]
      by_cases hpq : p = q
      · rw [if_pos (by rw [hpq])]
        refine ⟨_, rfl, ⟨n + 1, rfl, by omega, nx ?_⟩, by rw [y_cl (by omega)]; omega⟩
        rw [hpq, if_neg (by omega)]; omega
      · have hE := yEn_lt ok c
        have hb : 2 ^ p ||| 2 ^ q < 2 ^ 10 := y_or_lt (Nat.pow_lt_pow_right (by omega) (by omega)) (Nat.pow_lt_pow_right (by omega) (by omega))
        rw [y_eq_f hpq (by omega) (by omega), s10_ends ok hg c, y_b1, y_one (by omega), y_one (by omega), y_or]
        by_cases e : yEn a n = 2 ^ p ||| 2 ^ q
        · rw [y_eq_t e]
          have := (y_ends ok c (by omega) (by omega) hpq).mp e
          exact ⟨_, rfl, Or.inl ⟨n, c, this.1, this.2, rfl⟩⟩
        · rw [y_eq_f e (by omega) (by omega)]
          exact ⟨_, rfl, ⟨n + 1, rfl, by omega, nx (fun h => e ((y_ends ok c (by omega) (by omega) hpq).mpr h))⟩, by rw [y_cl (by omega)]; omega⟩
    · rw [y_le_t (by omega) (by omega)]
      exact ⟨_, rfl, Or.inr ⟨fun i hi => hI i (by omega), rfl⟩⟩
  obtain ⟨b, e, h⟩ := key
  unfold fX10_tieOfTwo
  rw [e, y_b1]
  rcases h with ⟨i, h1, h2, h3, rfl⟩ | ⟨h1, rfl⟩
  · exact Or.inl ⟨i, h1, h2, h3, rfl⟩
  · exact Or.inr ⟨h1, rfl⟩
theorem s10_areOpen {g : zM} {gl : zL} {a : yA} (ok : yOk a) (hg : yG g a) {p q d : Nat} (hp : p < a 0 0) (hq : q < a 0 0) (hd : d < 100) : fX10_areOpen g gl (nI p) (nI q) (nI d) = some (yBl (yTd a p q d)) := by
  have h0 := ok.1
  unfold fX10_areOpen fX10_areOpen_J35 fX10_areOpen_J36
  rw [s10_isPerson ok hg, y_b1, y_bl_t (y_in hp (by omega)), s10_isPerson ok hg, y_b1, y_bl_t (y_in hq (by omega)), show (99 : Int32) = nI 99 from rfl, y_inN _ 99 (by omega), y_b1, y_bl_t (y_in (by omega) (by omega))]
  rcases s10_tieOfTwo (gl := gl) ok hg hp hq with ⟨i, hi, i1, i2, e⟩ | ⟨hn, e⟩
  · rw [e, y_b1, if_neg (y_nn (by omega)), s10_isOpen ok hg hi (by omega), y_b1, yTd_e ok hi i1 i2]
    cases yOpen a i d <;> rfl
  · rw [e, y_b1, if_pos (by decide), yTd_n hn]; rfl
theorem s10_areOpenN {g : zM} {gl : zL} {a : yA} (ok : yOk a) (hg : yG g a) {p : Nat} (hp : p < a 0 0) {y d : Int32} (h : zIn y (a 0 0) = false ∨ zIn d 100 = false) : fX10_areOpen g gl (nI p) y d = some 0 := by
  have h0 := ok.1
  unfold fX10_areOpen fX10_areOpen_J35 fX10_areOpen_J36
  rw [s10_isPerson ok hg, y_b1, y_bl_t (y_in hp (by omega)), s10_isPerson ok hg, y_b1, show (99 : Int32) = nI 99 from rfl, y_inN _ 99 (by omega), y_b1, if_pos (show (-1 : Int32) < 0 by decide)]
  rcases h with h | h
  · rw [y_bl_f h]
  · rw [y_bl_f (b := zIn d (99 + 1)) h]; exact ite_self _
