/-! ===== guards: the class ===== -/
def yAuK (a : yA) (b s : Nat) : Nat → Nat
  | 0 => 0
  | p + 1 => yAuK a b s p ||| (if s.testBit p then yNr a b (a 0 1) p else 0)
theorem yAuK_t (a : yA) (b s q : Nat) : ∀ k, (yAuK a b s k).testBit q = true ↔ ∃ p, p < k ∧ s.testBit p = true ∧ yAdj a b p q
  | 0 => by simp [yAuK]
  | k + 1 => by
    unfold yAuK
    rw [Nat.testBit_or, Bool.or_eq_true, yAuK_t a b s q k]
    constructor
    · rintro (⟨p, h1, h2, h3⟩ | h)
      · exact ⟨p, by omega, h2, h3⟩
      · by_cases c : s.testBit k = true
        · rw [if_pos c] at h
          exact ⟨k, by omega, c, (yNr_adj a b k q).mp h⟩
        · rw [if_neg c] at h; simp at h
    · rintro ⟨p, h1, h2, h3⟩
      by_cases e : p = k
      · subst e; right; rw [if_pos h2]; exact (yNr_adj a b p q).mpr h3
      · left; exact ⟨p, by omega, h2, h3⟩
theorem yAuK_lt {a : yA} (ok : yOk a) (b s k : Nat) : yAuK a b s k < 2 ^ 10 := y_ltp (fun i hi => by
  cases e : (yAuK a b s k).testBit i
  · rfl
  · obtain ⟨p, -, -, h⟩ := (yAuK_t a b s i k).mp e
    have h0 := ok.1
    have := (h.lt ok).2
    omega)
theorem s3_around {gn : zM} {a : yA} {b s : Nat} (ok : yOk a) (hn : yNet a b gn) (hs : s < 2 ^ 10) : fX3_around gn (nI s) = some (nI (yAuK a b s 10)) := by
  have key : ∃ r, zLp (fX3_around_L4 (nI s) gn) zFU ((fun k (x : Nat) => (nI x, nI k)) 0 0) = some r ∧ r = nI (yAuK a b s 10) := by
    refine y_for (fun k (x : Nat) => (nI x, nI k)) 10 (fun k x => x = yAuK a b s k) _ ?_ ?_ zFU 0 0 (by omega) rfl (by unfold zFU; omega)
    · rintro k x hk rfl
      refine ⟨yAuK a b s (k + 1), ?_, rfl⟩
      show fX3_around_L4 (nI s) gn (nI (yAuK a b s k), nI k) = _
      unfold fX3_around_L4 fX3_around_L4J27
      simp only [y_u2, show (10 : Int32) = nI 10 from rfl, y_le_f hk (show 10 < 2147483648 by omega), y_bit0 (show s < 2147483648 by omega) (show k < 31 by omega)]
      rw [yAuK]
      cases c : s.testBit k
      · rw [if_pos rfl, y_lt_e, y_a1, if_neg (by decide), Nat.or_zero]
      · rw [if_neg (by decide), y_gin (by omega) (by omega), y_lt_e, y_lt_e, y_lt_e, y_cl (by omega), hn k hk, y_or, y_a1, if_pos rfl]
    · rintro x rfl
      refine ⟨_, ?_, rfl⟩
      show fX3_around_L4 (nI s) gn (nI (yAuK a b s 10), nI 10) = _
      unfold fX3_around_L4
      rw [y_u2, show (10 : Int32) = nI 10 from rfl, y_le_t (by omega) (by omega)]
  obtain ⟨r, e, rfl⟩ := key
  unfold fX3_around
  rw [show ((0, 0) : Int32 × Int32) = (fun k (x : Nat) => (nI x, nI k)) 0 0 from rfl, e, y_b1, y_u1]
theorem yAu_ar {a : yA} (ok : yOk a) (b : Nat) {s w : Nat} (hs : s < 2 ^ 10) (hsw : ∀ i, s.testBit i = true → w.testBit i = false) : s ||| ySd (yAuK a b s 10) w = ySd (yAr a b s) w := by
  apply Nat.eq_of_testBit_eq
  intro i
  rw [Nat.testBit_or, ySd_t, ySd_t]
  apply Bool.eq_iff_iff.mpr
  simp only [Bool.or_eq_true, Bool.and_eq_true, Bool.not_eq_true']
  rw [yAuK_t, yAr_t ok]
  constructor
  · rintro (h | ⟨⟨p, h1, h2, h3⟩, h4⟩)
    · exact ⟨Or.inl h, hsw i h⟩
    · exact ⟨Or.inr ⟨p, h2, h3⟩, h4⟩
  · rintro ⟨h | ⟨p, h2, h3⟩, h4⟩
    · exact Or.inl h
    · exact Or.inr ⟨⟨p, by
        have := (h3.lt ok).1
        have := ok.1
        omega, h2, h3⟩, h4⟩
theorem s3_isThreatened {gn : zM} {a : yA} {b s w : Nat} (ok : yOk a) (hn : yNet a b gn) (hs : s < 2 ^ 10) (hsw : ∀ i, s.testBit i = true → w.testBit i = false) : fX3_isThreatened gn (nI s) (nI w) = some (yBl (!decide (ySd (yAr a b s) w = s))) := by
  have hA := yAuK_lt ok b s 10
  have h2 : ySd (ySd (yAuK a b s 10) s) w < 2 ^ 10 := y_sd_lt (y_sd_lt hA)
  unfold fX3_isThreatened
  rw [s3_around ok hn hs, y_b1, y_andn, y_andn]
  have iff : ySd (ySd (yAuK a b s 10) s) w = 0 ↔ ySd (yAr a b s) w = s := by
    rw [← yAu_ar ok b hs hsw]
    constructor
    · intro h
      apply Nat.eq_of_testBit_eq
      intro i
      have := congrArg (fun n => Nat.testBit n i) h
      simp only [ySd_t, Nat.zero_testBit] at this
      rw [Nat.testBit_or, ySd_t]
      cases c1 : s.testBit i <;> cases c2 : (yAuK a b s 10).testBit i <;> cases c3 : w.testBit i <;> simp [c1, c2, c3] at this ⊢
    · intro h
      apply Nat.eq_of_testBit_eq
      intro i
      have := congrArg (fun n => Nat.testBit n i) h
      simp only [Nat.testBit_or, ySd_t] at this
      rw [ySd_t, ySd_t, Nat.zero_testBit]
      cases c1 : s.testBit i <;> cases c2 : (yAuK a b s 10).testBit i <;> cases c3 : w.testBit i <;> simp [c1, c2, c3] at this ⊢
  by_cases c : ySd (yAr a b s) w = s
  · rw [y_0_t (iff.mpr c), decide_eq_true c]; rfl
  · rw [y_0_f (fun h => c (iff.mp h)) (by omega), decide_eq_false c]; rfl
def yMn (f : Nat → Nat) (c : Nat → Bool) : Nat → Nat
  | 0 => 11
  | p + 1 => if c p then (if f p < yMn f c p then f p else yMn f c p) else yMn f c p
theorem yMn_le (f : Nat → Nat) (c : Nat → Bool) : ∀ p, yMn f c p ≤ 11
  | 0 => Nat.le_refl _
  | p + 1 => by
    have := yMn_le f c p
    unfold yMn
    split
    · split <;> omega
    · omega
def yEd (a : yA) (b : Nat) : Nat → Nat → Nat → Nat
  | 0, s, _ => yPop s
  | k + 1, s, w => if ySd (yAr a b s) w = s then yPop s else yMn (fun p => yEd a b k (ySd (yAr a b s) (w ||| 2 ^ p)) (w ||| 2 ^ p)) (fun p => !(s ||| w).testBit p) (a 0 0)
theorem yEd_le (a : yA) (b k s w : Nat) : yEd a b k s w ≤ 14 := by
  cases k with
  | zero => exact yPop_le s
  | succ k =>
    unfold yEd
    split
    · exact yPop_le s
    · have := yMn_le (fun p => yEd a b k (ySd (yAr a b s) (w ||| 2 ^ p)) (w ||| 2 ^ p)) (fun p => !(s ||| w).testBit p) (a 0 0)
      omega
