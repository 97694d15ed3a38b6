/-! ===== guards: the model ===== -/
def yTlK (a : yA) (b s : Nat) : Nat → Nat
  | 0 => s
  | p + 1 => yTlK a b s p ||| (if s.testBit p then yAr a b (2 ^ p) else 0)
theorem yTlK_t {a : yA} (ok : yOk a) (b s q : Nat) : ∀ k, (yTlK a b s k).testBit q = true ↔ (s.testBit q = true ∨ ∃ p, p < k ∧ s.testBit p = true ∧ yAdj a b p q)
  | 0 => by simp [yTlK]
  | k + 1 => by
    unfold yTlK
    rw [Nat.testBit_or, Bool.or_eq_true, yTlK_t ok b s q k]
    constructor
    · rintro ((h | ⟨p, h1, h2, h3⟩) | h)
      · exact Or.inl h
      · exact Or.inr ⟨p, by omega, h2, h3⟩
      · by_cases c : s.testBit k = true
        · rw [if_pos c, yAr_t ok] at h
          rcases h with h | ⟨p, h1, h2⟩
          · rw [Nat.testBit_two_pow] at h
            have := of_decide_eq_true h
            subst this; exact Or.inl c
          · rw [Nat.testBit_two_pow] at h1
            have := of_decide_eq_true h1
            subst this; exact Or.inr ⟨k, by omega, c, h2⟩
        · rw [if_neg c] at h; simp at h
    · rintro (h | ⟨p, h1, h2, h3⟩)
      · exact Or.inl (Or.inl h)
      · by_cases e : p = k
        · subst e
          right
          rw [if_pos h2, yAr_t ok]
          exact Or.inr ⟨p, by rw [Nat.testBit_two_pow]; exact decide_eq_true rfl, h3⟩
        · exact Or.inl (Or.inr ⟨p, by omega, h2, h3⟩)
theorem yTlK_ar {a : yA} (ok : yOk a) (b s : Nat) : yTlK a b s (a 0 0) = yAr a b s := by
  apply Nat.eq_of_testBit_eq
  intro q
  apply Bool.eq_iff_iff.mpr
  rw [yTlK_t ok, yAr_t ok]
  constructor
  · rintro (h | ⟨p, h1, h2, h3⟩)
    · exact Or.inl h
    · exact Or.inr ⟨p, h2, h3⟩
  · rintro (h | ⟨p, h2, h3⟩)
    · exact Or.inl h
    · exact Or.inr ⟨p, (h3.lt ok).1, h2, h3⟩
def yNe (a : yA) (b : Nat) (g : zM) : Prop := ∀ p, p < a 0 0 → g 15 p = nI (yAr a b (2 ^ p))
theorem s10_tells {g : zM} {gl : zL} {a : yA} {b s : Nat} (ok : yOk a) (hg : yG g a) (h8 : a 0 0 ≤ 8) (hn : yNe a b g) (hs : s < 2 ^ a 0 0) (w : Nat) : fX10_tells g gl (nI s) (nI w) = some (nI (ySd (yAr a b s) w)) := by
  have h0 := ok.1
  have hp8 : 2 ^ a 0 0 ≤ 2 ^ 8 := Nat.pow_le_pow_right (by omega) h8
  have key : ∃ r, zLp (fX10_tells_L5 (nI s) g) zFU ((fun k (x : Nat) => (nI x, nI k)) 0 s) = some r ∧ r = nI (yAr a b s) := by
    refine y_for (fun k (x : Nat) => (nI x, nI k)) (a 0 0) (fun k x => x = yTlK a b s k) _ ?_ ?_ zFU 0 s (by omega) rfl (by unfold zFU; omega)
    · rintro k x hk rfl
      refine ⟨yTlK a b s (k + 1), ?_, rfl⟩
      show fX10_tells_L5 (nI s) g (nI (yTlK a b s k), nI k) = _
      unfold fX10_tells_L5 fX10_tells_L5J36
      simp only [y_u2, hg.1.1, y_le_f hk (show a 0 0 < 2147483648 by omega), y_bit1 (show s < 2147483648 by omega) (show k < 31 by omega)]
      rw [yTlK]
      cases c : s.testBit k
      · rw [if_neg (show ¬ false = true by decide), y_lt_e, y_lt_e, show (0 : Int32) = nI 0 from rfl, y_or, y_a1, if_neg (show ¬ false = true by decide)]
      · rw [if_pos (show true = true from rfl), y_gin (by omega) (by omega), y_lt_e, y_lt_e, y_lt_e, y_cl (by omega), hn k hk, y_or, y_a1, if_pos (show true = true from rfl)]
    · rintro x rfl
      refine ⟨_, ?_, rfl⟩
      show fX10_tells_L5 (nI s) g (nI (yTlK a b s (a 0 0)), nI (a 0 0)) = _
      unfold fX10_tells_L5
      rw [y_u2, hg.1.1, y_le_t (by omega) (by omega), yTlK_ar ok]
  obtain ⟨r, e, rfl⟩ := key
  unfold fX10_tells
  have e' : zLp (fX10_tells_L5 (nI s) g) zFU (nI s, 0) = some (nI (yAr a b s)) := e
  rw [e', y_b1, y_u1, y_andn]
theorem s10_nextL {g : zM} {gl : zL} {a : yA} {b : Nat} (ok : yOk a) (hg : yG g a) (h8 : a 0 0 ≤ 8) (hb : b < 2 ^ 14) : ∃ g', zLp (fX10_guards_L38 gl (nI b)) zFU (0, g) = some g' ∧ yKs g g' ∧ yNe a b g' := by
  have h0 := ok.1
  have key : ∃ r, zLp (fX10_guards_L38 gl (nI b)) zFU ((fun k (x : zM) => (nI k, x)) 0 g) = some r ∧ (yKs g r ∧ ∀ p, p < a 0 0 → r 15 p = nI (yAr a b (2 ^ p))) := by
    refine y_for (fun k (x : zM) => (nI k, x)) (a 0 0) (fun k x => yKs g x ∧ ∀ p, p < k → x 15 p = nI (yAr a b (2 ^ p))) _ ?_ ?_ zFU 0 g (by omega) ⟨yKs.rf g, fun p hp => absurd hp (by omega)⟩ (by unfold zFU; omega)
    · rintro k x hk ⟨i1, i2⟩
      have hg' := hg.ks i1
      refine ⟨zPu x 15 k (nI (yAr a b (2 ^ k))), ?_, i1.pu (by decide), fun p hp => ?_⟩
      · show fX10_guards_L38 gl (nI b) (nI k, x) = _
        unfold fX10_guards_L38
        rw [y_u2, hg'.1.1, y_le_f hk (by omega), y_one (by omega), s10_around ok hg' (y_pow_lt (by omega)) hb, y_b1, y_gin (by omega) (by omega), y_lt_e, y_lt_e, y_cl (by omega), y_a1]
      · by_cases e : p = k
        · subst e; rw [zPu_s]
        · rw [zPu_j e]; exact i2 p (by omega)
    · intro x hx
      refine ⟨x, ?_, hx⟩
      show fX10_guards_L38 gl (nI b) (nI (a 0 0), x) = _
      unfold fX10_guards_L38
      rw [y_u2, (hg.ks hx.1).1.1, y_le_t (by omega) (by omega)]
  obtain ⟨r, e, h1, h2⟩ := key
  exact ⟨r, e, h1, h2⟩
