/-! ===== who is joined to whom: classes of people ===== -/
noncomputable def yJ (a : yA) (b p : Nat) : Nat := yFl a b (2 ^ p) (2 ^ a 0 0 - 1)
theorem yJ_lf {a : yA} (ok : yOk a) (b : Nat) {p : Nat} (hp : p < a 0 0) : yLf a b (2 ^ p) (2 ^ a 0 0 - 1) (yJ a b p) := yFl_lf ok (y_pow_lt (by have := ok.1; omega)) (y_all_lt ok.1.2.1)
theorem yJ_me {a : yA} (ok : yOk a) (b : Nat) {p : Nat} (hp : p < a 0 0) : (yJ a b p).testBit p = true := (yJ_lf ok b hp).1 p Nat.testBit_two_pow_self (by rw [y_all_t]; exact decide_eq_true hp)
theorem yJ_lt {a : yA} (ok : yOk a) (b : Nat) {p : Nat} (hp : p < a 0 0) : yJ a b p < 2 ^ a 0 0 := (yJ_lf ok b hp).lt (by have : 1 ≤ 2 ^ a 0 0 := Nat.one_le_two_pow; omega)
theorem yJ_in {a : yA} (ok : yOk a) (b : Nat) {p q : Nat} (hp : p < a 0 0) (h : (yJ a b p).testBit q = true) : q < a 0 0 := by
  have := (yJ_lf ok b hp).2.1 q h
  rw [y_all_t] at this
  exact of_decide_eq_true this
theorem yJ_sub {a : yA} (ok : yOk a) (b : Nat) {p q : Nat} (hp : p < a 0 0) (h : (yJ a b p).testBit q = true) : ∀ r, (yJ a b q).testBit r = true → (yJ a b p).testBit r = true := by
  have hq := yJ_in ok b hp h
  refine (yJ_lf ok b hq).2.2.2 (fun r => (yJ a b p).testBit r = true) (fun r h1 _ => ?_) (fun r s h1 h2 h3 => (yJ_lf ok b hp).2.2.1 r s h1 h2 h3)
  rw [Nat.testBit_two_pow] at h1
  have := of_decide_eq_true h1
  subst this; exact h
theorem yJ_eq {a : yA} (ok : yOk a) (b : Nat) {p : Nat} (hp : p < a 0 0) : ∀ q, (yJ a b p).testBit q = true → yJ a b q = yJ a b p := by
  have key : ∀ q, (yJ a b p).testBit q = true → q < a 0 0 ∧ yJ a b q = yJ a b p := by
    refine (yJ_lf ok b hp).2.2.2 (fun q => q < a 0 0 ∧ yJ a b q = yJ a b p) (fun r h1 _ => ?_) (fun x y h1 h2 h3 => ?_)
    · rw [Nat.testBit_two_pow] at h1
      have := of_decide_eq_true h1
      subst this; exact ⟨hp, rfl⟩
    · obtain ⟨hx, ex⟩ := h1
      rw [y_all_t] at h3
      have hy := of_decide_eq_true h3
      refine ⟨hy, ?_⟩
      rw [← ex]
      have m1 : (yJ a b x).testBit y = true := (yJ_lf ok b hx).2.2.1 x y (yJ_me ok b hx) h2 (by rw [y_all_t]; exact decide_eq_true hy)
      have m2 : (yJ a b y).testBit x = true := (yJ_lf ok b hy).2.2.1 y x (yJ_me ok b hy) h2.sy (by rw [y_all_t]; exact decide_eq_true hx)
      apply Nat.eq_of_testBit_eq
      intro i
      apply Bool.eq_iff_iff.mpr
      exact ⟨yJ_sub ok b hx m1 i, yJ_sub ok b hy m2 i⟩
  exact fun q h => (key q h).2
theorem yJ_sy {a : yA} (ok : yOk a) (b : Nat) {p q : Nat} (hp : p < a 0 0) (hq : q < a 0 0) : (yJ a b p).testBit q = (yJ a b q).testBit p := by
  apply Bool.eq_iff_iff.mpr
  constructor
  · intro h; rw [yJ_eq ok b hp q h]; exact yJ_me ok b hp
  · intro h; rw [yJ_eq ok b hq p h]; exact yJ_me ok b hq
/-! ===== weights ===== -/
def yW (a : yA) (s : Nat) : Nat := ySg (fun f => if s.testBit f then a 1 f else 0) (a 0 0)
theorem yW_b {a : yA} (ok : yOk a) (s k : Nat) (hk : k ≤ a 0 0) : ySg (fun f => if s.testBit f then a 1 f else 0) k ≤ 9 * k := by
  apply ySg_b
  intro i hi
  have := (ok.2.1 i (by omega)).1
  split <;> omega
theorem yW_90 {a : yA} (ok : yOk a) (s : Nat) : yW a s ≤ 90 := by
  have h := yW_b ok s (a 0 0) (Nat.le_refl _)
  have := ok.1
  unfold yW; omega
theorem s8_weightOf {w : zM} {a : yA} (ok : yOk a) (hc : yC w a) {s : Nat} (hs : s < 2 ^ 10) : fX8_weightOf w (nI s) = some (nI (yW a s)) := by
  have h0 := ok.1
  have key : ∃ r, zLp (fX8_weightOf_L4 (nI s) w) zFU ((fun k (x : Nat) => (nI x, nI k)) 0 0) = some r ∧ r = nI (yW a s) := by
    refine y_for (fun k (x : Nat) => (nI x, nI k)) (a 0 0) (fun k x => x = ySg (fun f => if s.testBit f then a 1 f else 0) k) _ ?_ ?_ zFU 0 0 (by omega) rfl (by unfold zFU; omega)
    · rintro k x hk rfl
      refine ⟨ySg (fun f => if s.testBit f then a 1 f else 0) (k + 1), ?_, rfl⟩
      show fX8_weightOf_L4 (nI s) w (nI (ySg (fun f => if s.testBit f then a 1 f else 0) k), nI k) = _
      unfold fX8_weightOf_L4 fX8_weightOf_L4J29
      rw [y_u2, hc.1.1, y_le_f hk (by omega), ySg]
      cases c : s.testBit k
      · rw [if_pos ((y_bit0 (by omega) (by omega)).mpr c), y_lt_e, y_a1, if_neg (by decide)]; rfl
      · rw [if_neg (fun h => by rw [y_bit0 (by omega) (by omega), c] at h; cases h), y_gin (by omega) (by omega), y_lt_e, y_lt_e, y_lt_e, y_cl (by omega), hc.2.1 k hk, y_add, y_a1, if_pos rfl]
    · rintro x rfl
      refine ⟨_, ?_, rfl⟩
      show fX8_weightOf_L4 (nI s) w (nI (ySg (fun f => if s.testBit f then a 1 f else 0) (a 0 0)), nI (a 0 0)) = _
      unfold fX8_weightOf_L4
      rw [y_u2, hc.1.1, y_le_t (by omega) (by omega)]
      rfl
  obtain ⟨r, e, rfl⟩ := key
  unfold fX8_weightOf
  have e' : zLp (fX8_weightOf_L4 (nI s) w) zFU (0, 0) = some (nI (yW a s)) := e
  rw [e', y_b1, y_u1]
theorem s10_weights {g : zM} {gl : zL} {a : yA} (ok : yOk a) (hg : yG g a) : fX10_weights g gl = some (nI (yW a (2 ^ a 0 0 - 1))) := by
  have h0 := ok.1
  have key : ∃ r, zLp (fX10_weights_L4 g) zFU ((fun k (x : Nat) => (nI x, nI k)) 0 0) = some r ∧ r = nI (yW a (2 ^ a 0 0 - 1)) := by
    refine y_for (fun k (x : Nat) => (nI x, nI k)) (a 0 0) (fun k x => x = ySg (fun f => if (2 ^ a 0 0 - 1).testBit f then a 1 f else 0) k) _ ?_ ?_ zFU 0 0 (by omega) rfl (by unfold zFU; omega)
    · rintro k x hk rfl
      refine ⟨ySg (fun f => if (2 ^ a 0 0 - 1).testBit f then a 1 f else 0) (k + 1), ?_, rfl⟩
      show fX10_weights_L4 g (nI (ySg (fun f => if (2 ^ a 0 0 - 1).testBit f then a 1 f else 0) k), nI k) = _
      unfold fX10_weights_L4
      rw [y_u2, hg.1.1, y_le_f hk (by omega), y_gin (by omega) (by omega), y_lt_e, y_lt_e, y_lt_e, y_cl (by omega), hg.2.1 k hk, y_add, y_a1, ySg, if_pos (by rw [y_all_t]; exact decide_eq_true hk)]
    · rintro x rfl
      refine ⟨_, ?_, rfl⟩
      show fX10_weights_L4 g (nI (ySg (fun f => if (2 ^ a 0 0 - 1).testBit f then a 1 f else 0) (a 0 0)), nI (a 0 0)) = _
      unfold fX10_weights_L4
      rw [y_u2, hg.1.1, y_le_t (by omega) (by omega)]
      rfl
  obtain ⟨r, e, rfl⟩ := key
  unfold fX10_weights
  have e' : zLp (fX10_weights_L4 g) zFU (0, 0) = some (nI (yW a (2 ^ a 0 0 - 1))) := e
  rw [e', y_b1, y_u1]
/-! ===== what is seen ===== -/
def yShK (a : yA) (s : Nat) : Nat → Bool
  | 0 => true
  | p + 1 => yShK a s p && (decide (a 2 p = 0) || decide (a 2 p = 1 + (if s.testBit p then 1 else 0)))
theorem yShK_f {a : yA} {s p q : Nat} (h : p ≤ q) (hf : yShK a s p = false) : yShK a s q = false := by
  induction q with
  | zero =>
    have : p = 0 := by omega
    subst this; exact hf
  | succ q ih =>
    by_cases e : p = q + 1
    · subst e; exact hf
    · unfold yShK; rw [ih (by omega)]; rfl
theorem s8_isAsShown {w : zM} {a : yA} (ok : yOk a) (hc : yC w a) {s : Nat} (hs : s < 2 ^ 10) : fX8_isAsShown w (nI s) = some (yBl (yShK a s (a 0 0))) := by
  have h0 := ok.1
  have key : ∃ r, zLp (fX8_isAsShown_L2 (nI s) w) zFU (nI 0) = some r ∧ (r = .inl () ∧ yShK a s (a 0 0) = true ∨ r = .inr () ∧ yShK a s (a 0 0) = false) := by
    refine y_lp (fun v => ∃ k, k ≤ a 0 0 ∧ v = nI k ∧ yShK a s k = true) (fun v => a 0 0 - v.toNatClampNeg) _ ?_ zFU (nI 0) ⟨0, by omega, rfl, rfl⟩ (by unfold zFU; omega)
    rintro v ⟨k, hk, rfl, hk2⟩
    unfold fX8_isAsShown_L2 fX8_isAsShown_L2J35
    rw [y_u1, hc.1.1]
    by_cases q : a 0 0 ≤ k
    · rw [y_le_t q (by omega)]
      have : k = a 0 0 := by omega
      subst this
      exact ⟨_, rfl, Or.inl ⟨rfl, hk2⟩⟩
    · have h2 := (ok.2.1 k (by omega)).2
      rw [y_le_f (by omega) (by omega), y_gin (by omega) (by omega), y_lt_e, y_lt_e, y_gin (by omega) (by omega), y_lt_e, y_cl (by omega), hc.2.2.1 k (by omega), y_bit (by omega) (by omega), y_a1]
      have go : yShK a s (k + 1) = true → ∃ z : Int32 ⊕ (Unit ⊕ Unit), (some (.inl (nI (k + 1))) : Option (Int32 ⊕ (Unit ⊕ Unit))) = some z ∧ zSm z (fun a' => (∃ k, k ≤ a 0 0 ∧ a' = nI k ∧ yShK a s k = true) ∧ a 0 0 - a'.toNatClampNeg < a 0 0 - k) (fun b => b = .inl () ∧ yShK a s (a 0 0) = true ∨ b = .inr () ∧ yShK a s (a 0 0) = false) := fun h => ⟨_, rfl, ⟨k + 1, by omega, rfl, h⟩, by
        rw [y_cl (by omega)]; omega⟩
      have no : yShK a s (k + 1) = false → ∃ z : Int32 ⊕ (Unit ⊕ Unit), (some (.inr (.inr ())) : Option (Int32 ⊕ (Unit ⊕ Unit))) = some z ∧ zSm z (fun a' => (∃ k, k ≤ a 0 0 ∧ a' = nI k ∧ yShK a s k = true) ∧ a 0 0 - a'.toNatClampNeg < a 0 0 - k) (fun b => b = .inl () ∧ yShK a s (a 0 0) = true ∨ b = .inr () ∧ yShK a s (a 0 0) = false) := fun h => ⟨_, rfl, Or.inr ⟨rfl, yShK_f (by omega) h⟩⟩
      have c3 : a 2 k = 0 ∨ a 2 k = 1 ∨ a 2 k = 2 := by omega
      rcases c3 with c | c | c
      · rw [c, if_pos (show (nI 0 - 1 : Int32) < 0 by decide)]
        exact go (by unfold yShK; rw [hk2, c]; rfl)
      · rw [c, if_neg (show ¬ (nI 1 - 1 : Int32) < 0 by decide)]
        cases t : s.testBit k
        · rw [if_pos (by decide)]; exact go (by unfold yShK; rw [hk2, c, t]; rfl)
        · rw [if_neg (by decide)]; exact no (by unfold yShK; rw [hk2, c, t]; rfl)
      · rw [c, if_neg (show ¬ (nI 2 - 1 : Int32) < 0 by decide)]
        cases t : s.testBit k
        · rw [if_neg (by decide)]; exact no (by unfold yShK; rw [hk2, c, t]; rfl)
        · rw [if_pos (by decide)]; exact go (by unfold yShK; rw [hk2, c, t]; rfl)
  obtain ⟨r, e, hr⟩ := key
  unfold fX8_isAsShown
  rw [show (0 : Int32) = nI 0 from rfl, e, y_b1]
  rcases hr with ⟨rfl, h⟩ | ⟨rfl, h⟩
  · rw [y_sml, y_u0, h]; rfl
  · rw [y_smr, y_u0, h]; rfl
theorem s10_isSeen {g : zM} {gl : zL} {a : yA} (ok : yOk a) (hg : yG g a) {s : Nat} (hs : s < 2 ^ 10) : fX10_isSeen g gl (nI s) = some (yBl (yShK a s (a 0 0))) := by
  have h0 := ok.1
  have key : ∃ r, zLp (fX10_isSeen_L2 (nI s) g) zFU (nI 0) = some r ∧ (r = .inl () ∧ yShK a s (a 0 0) = true ∨ r = .inr () ∧ yShK a s (a 0 0) = false) := by
    refine y_lp (fun v => ∃ k, k ≤ a 0 0 ∧ v = nI k ∧ yShK a s k = true) (fun v => a 0 0 - v.toNatClampNeg) _ ?_ zFU (nI 0) ⟨0, by omega, rfl, rfl⟩ (by unfold zFU; omega)
    rintro v ⟨k, hk, rfl, hk2⟩
    unfold fX10_isSeen_L2 fX10_isSeen_L2J37
    rw [y_u1, hg.1.1]
    by_cases q : a 0 0 ≤ k
    · rw [y_le_t q (by omega)]
      have : k = a 0 0 := by omega
      subst this
      exact ⟨_, rfl, Or.inl ⟨rfl, hk2⟩⟩
    · have h2 := (ok.2.1 k (by omega)).2
      rw [y_le_f (by omega) (by omega), y_gin (by omega) (by omega), y_lt_e, y_lt_e, y_gin (by omega) (by omega), y_lt_e, y_cl (by omega), hg.2.2.1 k (by omega), y_bit (by omega) (by omega), y_a1]
      have go : yShK a s (k + 1) = true → ∃ z : Int32 ⊕ (Unit ⊕ Unit), (some (.inl (nI (k + 1))) : Option (Int32 ⊕ (Unit ⊕ Unit))) = some z ∧ zSm z (fun a' => (∃ k, k ≤ a 0 0 ∧ a' = nI k ∧ yShK a s k = true) ∧ a 0 0 - a'.toNatClampNeg < a 0 0 - k) (fun b => b = .inl () ∧ yShK a s (a 0 0) = true ∨ b = .inr () ∧ yShK a s (a 0 0) = false) := fun h => ⟨_, rfl, ⟨k + 1, by omega, rfl, h⟩, by
        rw [y_cl (by omega)]; omega⟩
      have no : yShK a s (k + 1) = false → ∃ z : Int32 ⊕ (Unit ⊕ Unit), (some (.inr (.inr ())) : Option (Int32 ⊕ (Unit ⊕ Unit))) = some z ∧ zSm z (fun a' => (∃ k, k ≤ a 0 0 ∧ a' = nI k ∧ yShK a s k = true) ∧ a 0 0 - a'.toNatClampNeg < a 0 0 - k) (fun b => b = .inl () ∧ yShK a s (a 0 0) = true ∨ b = .inr () ∧ yShK a s (a 0 0) = false) := fun h => ⟨_, rfl, Or.inr ⟨rfl, yShK_f (by omega) h⟩⟩
      have c3 : a 2 k = 0 ∨ a 2 k = 1 ∨ a 2 k = 2 := by omega
      rcases c3 with c | c | c
      · rw [c, if_pos (show (nI 0 : Int32) ≤ 0 by decide)]
        exact go (by unfold yShK; rw [hk2, c]; rfl)
      · rw [c, if_neg (show ¬ (nI 1 : Int32) ≤ 0 by decide)]
        cases t : s.testBit k
        · rw [if_pos (by decide)]; exact go (by unfold yShK; rw [hk2, c, t]; rfl)
        · rw [if_neg (by decide)]; exact no (by unfold yShK; rw [hk2, c, t]; rfl)
      · rw [c, if_neg (show ¬ (nI 2 : Int32) ≤ 0 by decide)]
        cases t : s.testBit k
        · rw [if_neg (by decide)]; exact no (by unfold yShK; rw [hk2, c, t]; rfl)
        · rw [if_pos (by decide)]; exact go (by unfold yShK; rw [hk2, c, t]; rfl)
  obtain ⟨r, e, hr⟩ := key
  unfold fX10_isSeen
  rw [show (0 : Int32) = nI 0 from rfl, e, y_b1]
  rcases hr with ⟨rfl, h⟩ | ⟨rfl, h⟩
  · rw [y_sml, y_u0, h]; rfl
  · rw [y_smr, y_u0, h]; rfl
