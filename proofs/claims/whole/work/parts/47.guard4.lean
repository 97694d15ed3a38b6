/-! ===== guards: least, and who first ===== -/
def yWm (f : Nat → Nat) (c : Nat → Bool) : Nat → Option Nat
  | 0 => none
  | p + 1 => if c p = true ∧ f p < yMn f c p then some p else yWm f c p
theorem yWm_mn {f : Nat → Nat} {c : Nat → Bool} : ∀ k, (∀ p, p < k → c p = true → f p ≤ 8) → (yWm f c k = none ∧ yMn f c k = 11 ∧ ∀ p, p < k → c p = false) ∨ (∃ q, q < k ∧ yWm f c k = some q ∧ yMn f c k ≤ 8)
  | 0, _ => Or.inl ⟨rfl, rfl, fun p hp => absurd hp (by omega)⟩
  | k + 1, h => by
    have ih := yWm_mn k (fun p hp hc => h p (by omega) hc)
    rw [yWm, yMn]
    by_cases hc : c k = true
    · have hf := h k (by omega) hc
      rw [if_pos hc]
      right
      rcases ih with ⟨i1, i2, i3⟩ | ⟨q, i1, i2, i3⟩
      · rw [i2, if_pos ⟨hc, by omega⟩, if_pos (by omega)]
        exact ⟨k, by omega, rfl, hf⟩
      · by_cases d : f k < yMn f c k
        · rw [if_pos ⟨hc, d⟩, if_pos d]; exact ⟨k, by omega, rfl, hf⟩
        · rw [if_neg (fun h => d h.2), if_neg d]; exact ⟨q, by omega, i2, i3⟩
    · rw [if_neg hc, if_neg (fun h => hc h.1)]
      rcases ih with ⟨i1, i2, i3⟩ | ⟨q, i1, i2, i3⟩
      · refine Or.inl ⟨i1, i2, fun p hp => ?_⟩
        by_cases e : p = k
        · subst e; exact Bool.eq_false_iff.mpr hc
        · exact i3 p (by omega)
      · exact Or.inr ⟨q, by omega, i2, i3⟩
theorem y_cand {a : yA} (ok : yOk a) {b s w : Nat} (hs : s < 2 ^ a 0 0) (hsw : ∀ i, s.testBit i = true → w.testBit i = false) (h : ySd (yAr a b s) w ≠ s) : ∃ q, q < a 0 0 ∧ (s ||| w).testBit q = false := by
  rcases Classical.em (∃ q, q < a 0 0 ∧ (s ||| w).testBit q = false) with c | c
  · exact c
  · exfalso
    apply h
    apply Nat.eq_of_testBit_eq
    intro i
    rw [ySd_t]
    cases c1 : s.testBit i
    · cases c2 : (yAr a b s).testBit i
      · rfl
      · have hi : i < a 0 0 := by
          rcases Nat.lt_or_ge i (a 0 0) with h | h
          · exact h
          · rw [y_tf (yAr_ltn ok hs) h] at c2; cases c2
        cases c3 : w.testBit i
        · exact absurd ⟨i, hi, by rw [Nat.testBit_or, c1, c3]; rfl⟩ c
        · rfl
    · rw [(yAr_t ok b s i).mpr (Or.inl c1), hsw i c1]; rfl
theorem yEd_8 {a : yA} (ok : yOk a) {b : Nat} (h8 : a 0 0 ≤ 8) : ∀ (k s w : Nat), s < 2 ^ a 0 0 → (∀ i, s.testBit i = true → w.testBit i = false) → yEd a b k s w ≤ 8
  | 0, s, w, hs, _ => yPop8 (Nat.lt_of_lt_of_le hs (Nat.pow_le_pow_right (by omega) h8))
  | k + 1, s, w, hs, hsw => by
    unfold yEd
    by_cases c : ySd (yAr a b s) w = s
    · rw [if_pos c]; exact yPop8 (Nat.lt_of_lt_of_le hs (Nat.pow_le_pow_right (by omega) h8))
    · rw [if_neg c]
      obtain ⟨q, q1, q2⟩ := y_cand ok hs hsw c
      rcases yWm_mn (f := fun p => yEd a b k (ySd (yAr a b s) (w ||| 2 ^ p)) (w ||| 2 ^ p)) (c := fun p => !(s ||| w).testBit p) (a 0 0) (fun p hp _ => yEd_8 ok h8 k _ _ (y_sd_lt (yAr_ltn ok hs)) (y_dj (s := s) _)) with ⟨-, -, i3⟩ | ⟨q, -, -, i3⟩
      · have := i3 q q1
        simp only [q2] at this
        cases this
      · exact i3
