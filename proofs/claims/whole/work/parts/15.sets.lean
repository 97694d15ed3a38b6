/-! ===== arguments ===== -/
def yEi (x : Int32) : Bool := decide (x = 0) || decide (x = 1)
theorem y_zin (x : Int32) {n : Nat} (hn : n < 2147483648) : (zIn x n = true ∧ ∃ k, k < n ∧ x = nI k) ∨ (zIn x n = false ∧ (x < 0 ∨ nI n ≤ x)) := by
  rcases pk_ix x (n := n) hn with h | h | ⟨k, hk, rfl⟩
  · right
    refine ⟨?_, Or.inl h⟩
    cases e : zIn x n
    · rfl
    · exact absurd (Or.inl h) (zIn_ok e)
  · right
    refine ⟨?_, Or.inr h⟩
    cases e : zIn x n
    · rfl
    · obtain ⟨k, hk, rfl⟩ := vp_in_of (zIn_ok e) hn
      exact absurd h (nI_ge hk hn)
  · left
    exact ⟨y_in hk (by omega), k, hk, rfl⟩
theorem y_bo (b : Bool) : zBo (yBl b) = true := by cases b <;> decide
theorem y_1n0 : ¬ yBl true = 0 := by decide
theorem y_0is0 : yBl false = 0 := by decide
theorem y_bl_t {α : Type} {b : Bool} {hd : Decidable (yBl b = 0)} {x y : α} (h : b = true) : (@ite _ (yBl b = 0) hd x y) = y := by subst h; exact if_neg y_1n0
theorem y_bl_f {α : Type} {b : Bool} {hd : Decidable (yBl b = 0)} {x y : α} (h : b = false) : (@ite _ (yBl b = 0) hd x y) = x := by subst h; exact if_pos y_0is0
theorem s8_hasPerson {w : zM} {a : yA} (ok : yOk a) (hc : yC w a) (x : Int32) : fX8_hasPerson w x = some (yBl (zIn x (a 0 0))) := by
  have h0 := ok.1
  unfold fX8_hasPerson
  rw [hc.1.1]
  rcases y_zin x (n := a 0 0) (by omega) with ⟨h, k, hk, rfl⟩ | ⟨h, h2⟩
  · rw [h, if_neg (nI_pos (by omega)), y_le_f hk (by omega)]; rfl
  · rw [h]
    by_cases q : x < 0
    · rw [if_pos q]; rfl
    · rw [if_neg q, if_pos (h2.resolve_left q)]; rfl
theorem s8_hasTie {w : zM} {a : yA} (ok : yOk a) (hc : yC w a) (x : Int32) : fX8_hasTie w x = some (yBl (zIn x (a 0 1))) := by
  have h0 := ok.1
  unfold fX8_hasTie
  rw [hc.1.2.1]
  rcases y_zin x (n := a 0 1) (by omega) with ⟨h, k, hk, rfl⟩ | ⟨h, h2⟩
  · rw [h, if_neg (nI_pos (by omega)), y_le_f hk (by omega)]; rfl
  · rw [h]
    by_cases q : x < 0
    · rw [if_pos q]; rfl
    · rw [if_neg q, if_pos (h2.resolve_left q)]; rfl
theorem s8_hasCut {w : zM} {a : yA} (ok : yOk a) (hc : yC w a) (x : Int32) : fX8_hasCut w x = some (yBl (zIn x (a 0 2))) := by
  have h0 := ok.1
  unfold fX8_hasCut
  rw [hc.1.2.2]
  rcases y_zin x (n := a 0 2) (by omega) with ⟨h, k, hk, rfl⟩ | ⟨h, h2⟩
  · rw [h, if_neg (nI_pos (by omega)), y_le_f hk (by omega)]; rfl
  · rw [h]
    by_cases q : x < 0
    · rw [if_pos q]; rfl
    · rw [if_neg q, if_pos (h2.resolve_left q)]; rfl
theorem s8_everybody {w : zM} {a : yA} (ok : yOk a) (hc : yC w a) : fX8_everybody w = some (nI (2 ^ a 0 0 - 1)) := by
  have h0 := ok.1
  unfold fX8_everybody
  rw [hc.1.1, y_all (by omega)]
theorem y_i32 (x : Int32) : -2147483648 ≤ x.toInt ∧ x.toInt < 2147483648 := ⟨Int32.le_toInt x, Int32.toInt_lt x⟩
theorem s10_in {x y z : Int32} : fX10_in x y z = some (yBl (decide (y.toInt ≤ x.toInt) && decide (x.toInt ≤ z.toInt))) := by
  unfold fX10_in
  by_cases h1 : x < y
  · rw [if_pos h1]
    have := Int32.lt_iff_toInt_lt.mp h1
    rw [decide_eq_false (by omega)]; rfl
  · rw [if_neg h1]
    have e1 : y.toInt ≤ x.toInt := by
      have : ¬ x.toInt < y.toInt := fun q => h1 (Int32.lt_iff_toInt_lt.mpr q)
      omega
    by_cases h2 : z < x
    · rw [if_pos h2]
      have := Int32.lt_iff_toInt_lt.mp h2
      rw [decide_eq_true e1, decide_eq_false (by omega)]; rfl
    · rw [if_neg h2]
      have e2 : x.toInt ≤ z.toInt := by
        have : ¬ z.toInt < x.toInt := fun q => h2 (Int32.lt_iff_toInt_lt.mpr q)
        omega
      rw [decide_eq_true e1, decide_eq_true e2]; rfl
theorem y_zinI (x : Int32) {n : Nat} (hn : n < 2147483648) : zIn x n = (decide (0 ≤ x.toInt) && decide (x.toInt < n)) := by
  rcases y_zin x hn with ⟨h, k, hk, rfl⟩ | ⟨h, h2⟩
  · rw [h, nI_toInt (by omega), decide_eq_true (by omega), decide_eq_true (by omega)]; rfl
  · rw [h]
    rcases h2 with h2 | h2
    · have := Int32.lt_iff_toInt_lt.mp h2
      rw [decide_eq_false (show ¬ 0 ≤ x.toInt by simpa using this)]; rfl
    · have := Int32.le_iff_toInt_le.mp h2
      rw [nI_toInt hn] at this
      rw [decide_eq_false (show ¬ x.toInt < n by omega), Bool.and_false]
theorem s10_in0 (x : Int32) {n : Nat} (hn : n < 2147483648) : fX10_in x 0 (nI n - 1) = some (yBl (zIn x n)) := by
  rw [s10_in, y_zinI x hn]
  have e : (nI n - 1).toInt = (n : Int) - 1 := by
    by_cases h : n = 0
    · subst h; decide
    · rw [y_s1 (by omega), nI_toInt (by omega)]; omega
  rw [e, show (0 : Int32).toInt = 0 from rfl]
  congr 3
  exact decide_eq_decide.mpr (by omega)
theorem s10_isPerson {g : zM} {gl : zL} {a : yA} (ok : yOk a) (hg : yG g a) (x : Int32) : fX10_isPerson g gl x = some (yBl (zIn x (a 0 0))) := by
  have h0 := ok.1
  unfold fX10_isPerson
  rw [hg.1.1, s10_in0 x (by omega), y_b1, y_gd (y_bo _)]
theorem s10_isTie {g : zM} {gl : zL} {a : yA} (ok : yOk a) (hg : yG g a) (x : Int32) : fX10_isTie g gl x = some (yBl (zIn x (a 0 1))) := by
  have h0 := ok.1
  unfold fX10_isTie
  rw [hg.1.2.1, s10_in0 x (by omega), y_b1, y_gd (y_bo _)]
theorem s10_isCut {g : zM} {gl : zL} {a : yA} (ok : yOk a) (hg : yG g a) (x : Int32) : fX10_isCut g gl x = some (yBl (zIn x (a 0 2))) := by
  have h0 := ok.1
  unfold fX10_isCut
  rw [hg.1.2.2, s10_in0 x (by omega), y_b1, y_gd (y_bo _)]
theorem s10_all {g : zM} {gl : zL} {a : yA} (ok : yOk a) (hg : yG g a) : fX10_all g gl = some (nI (2 ^ a 0 0 - 1)) := by
  have h0 := ok.1
  unfold fX10_all
  rw [hg.1.1, y_all (by omega)]
theorem s9_isEither (x : Int32) : fX9_isEither x = some (yBl (yEi x)) := by
  unfold fX9_isEither yEi
  by_cases h : x = 0
  · rw [if_pos h, decide_eq_true h]; rfl
  · rw [if_neg h, decide_eq_false h]
    by_cases h2 : x = 1
    · rw [if_pos h2, decide_eq_true h2]; rfl
    · rw [if_neg h2, decide_eq_false h2]; rfl
theorem s10_isSide (x : Int32) : fX10_isSide x = some (yBl (yEi x)) := by
  unfold fX10_isSide
  rw [s10_in, y_b1, y_gd (y_bo _)]
  congr 2
  unfold yEi
  rw [Bool.eq_iff_iff]
  simp only [Bool.and_eq_true, Bool.or_eq_true, decide_eq_true_eq]
  rw [show (0 : Int32).toInt = 0 from rfl, show (1 : Int32).toInt = 1 from rfl]
  constructor
  · rintro ⟨h1, h2⟩
    have : x.toInt = 0 ∨ x.toInt = 1 := by omega
    rcases this with h | h
    · exact Or.inl (Int32.toInt_inj.mp h)
    · exact Or.inr (Int32.toInt_inj.mp h)
  · rintro (rfl | rfl) <;> decide
theorem y_ei {x : Int32} (h : yEi x = true) : x = 0 ∨ x = 1 := by
  unfold yEi at h
  simpa using h
/-! ===== counts ===== -/
theorem yPopK_mono : ∀ (k x y : Nat), (∀ i, x.testBit i = true → y.testBit i = true) → yPopK k x ≤ yPopK k y
  | 0, _, _, _ => Nat.le_refl _
  | k + 1, x, y, h => by
    unfold yPopK
    have h1 : yPopK k (x / 2) ≤ yPopK k (y / 2) := yPopK_mono k (x / 2) (y / 2) (fun i hi => by
      rw [← Nat.testBit_succ] at hi ⊢
      exact h (i + 1) hi)
    have h2 := h 0
    rw [Nat.testBit_zero, Nat.testBit_zero] at h2
    have h3 : x % 2 ≤ y % 2 := by
      rcases Nat.mod_two_eq_zero_or_one x with e | e
      · omega
      · have : y % 2 = 1 := by simpa using h2 (by simp [e])
        omega
    omega
theorem yPop_mono {x y : Nat} (h : ∀ i, x.testBit i = true → y.testBit i = true) : yPop x ≤ yPop y := yPopK_mono 14 x y h
theorem yPop_lt {x y p : Nat} (hy : y < 2 ^ 10) (h : ∀ i, x.testBit i = true → y.testBit i = true) (h1 : y.testBit p = true) (h2 : x.testBit p = false) : yPop x < yPop y := by
  have hp : p < 10 := by
    rcases Nat.lt_or_ge p 10 with e | e
    · exact e
    · rw [y_tf hy e] at h1; cases h1
  have hx : x < 2 ^ 10 := Nat.lt_of_le_of_lt (y_sub_le h) hy
  have := yPop_add1 (x := x) (p := p) (by omega) hp h2
  have h3 : yPop (x ||| 2 ^ p) ≤ yPop y := yPop_mono (fun i hi => by
    rw [Nat.testBit_or, Bool.or_eq_true, Nat.testBit_two_pow] at hi
    rcases hi with hi | hi
    · exact h i hi
    · have : p = i := by simpa using hi
      exact this ▸ h1)
  omega
theorem y_all_t (n p : Nat) : (2 ^ n - 1).testBit p = decide (p < n) := Nat.testBit_two_pow_sub_one n p
theorem y_all_lt {n : Nat} (h : n ≤ 10) : 2 ^ n - 1 < 2 ^ 10 := by
  have := Nat.pow_le_pow_right (show 0 < 2 by omega) h
  have := Nat.one_le_two_pow (n := n)
  omega
theorem y_lpl {α β : Type} {body : α → Option (α ⊕ β)} {s s' : α} {N : Nat} (h : body s = some (.inl s')) : zLp body (N + 1) s = zLp body N s' := by
  show (body s).bind _ = _
  rw [h]; rfl
theorem y_lpr {α β : Type} {body : α → Option (α ⊕ β)} {s : α} {b : β} {N : Nat} (h : body s = some (.inr b)) : zLp body (N + 1) s = some b := by
  show (body s).bind _ = _
  rw [h]; rfl
/-! ===== the joined sets, one behind the other ===== -/
noncomputable def ySets (a : yA) (b m : Nat) : Nat → Nat → Nat → Nat → Nat × Nat
  | 0, _, c, t => (c, t)
  | n + 1, left, c, t => if left = 0 then (c, t) else ySets a b m n (ySd left (yFl a b (2 ^ yLb left) m)) (c + 1) (if t < yPop (yFl a b (2 ^ yLb left) m) then yPop (yFl a b (2 ^ yLb left) m) else t)
theorem ySets_bd (a : yA) (b m : Nat) : ∀ n left c t, c + n ≤ 1000 → t ≤ 14 → (ySets a b m n left c t).1 ≤ 1000 ∧ (ySets a b m n left c t).2 ≤ 14
  | 0, _, c, t, h1, h2 => ⟨h1, h2⟩
  | n + 1, left, c, t, h1, h2 => by
    unfold ySets
    split
    · exact ⟨by show c ≤ 1000; omega, h2⟩
    · refine ySets_bd a b m n _ (c + 1) _ (by omega) ?_
      split
      · exact yPop_le _
      · exact h2
theorem y_step {a : yA} {b m left : Nat} (hm : m < 2 ^ 10) (hl : ∀ i, left.testBit i = true → m.testBit i = true) (h0 : left ≠ 0) (hF : yLf a b (2 ^ yLb left) m (yFl a b (2 ^ yLb left) m)) : yPop (ySd left (yFl a b (2 ^ yLb left) m)) < yPop left ∧ (∀ i, (ySd left (yFl a b (2 ^ yLb left) m)).testBit i = true → m.testBit i = true) := by
  have hle : left < 2 ^ 10 := Nat.lt_of_le_of_lt (y_sub_le hl) hm
  have h1 := (y_lbf h0 (show left < 16384 by omega)).1
  refine ⟨yPop_lt hle (fun i hi => ?_) h1 ?_, fun i hi => ?_⟩
  · rw [ySd_t, Bool.and_eq_true] at hi; exact hi.1
  · rw [ySd_t, hF.1 (yLb left) (by rw [Nat.testBit_two_pow]; simp) (hl _ h1)]; simp
  · rw [ySd_t, Bool.and_eq_true] at hi; exact hl i hi.1
theorem y_lbp {left : Nat} (h0 : left ≠ 0) (hl : left < 2 ^ 10) : 2 ^ yLb left < 2 ^ 10 := Nat.pow_lt_pow_right (by omega) (y_lb10 h0 (by omega))
theorem s3_sets1 {gn : zM} {a : yA} {b m : Nat} (ok : yOk a) (hn : yNet a b gn) (hm : m < 2 ^ 10) : ∀ (n left c i t N : Nat), (∀ j, left.testBit j = true → m.testBit j = true) → yPop left ≤ n → i + yPop left ≤ 10 → n < N → zLp (fX3_howManySets_L7 (nI m) gn) N (nI left, nI c, nI i) = some (nI (ySets a b m n left c t).1) := by
  intro n
  induction n with
  | zero =>
    intro left c i t N hl hp hi hN
    have hle : left < 2 ^ 10 := Nat.lt_of_le_of_lt (y_sub_le hl) hm
    have h0 : left = 0 := by
      rcases Nat.eq_zero_or_pos left with h | h
      · exact h
      · have := yPop_pos (a := left) (by omega) (by omega); omega
    obtain ⟨N, rfl⟩ : ∃ M, N = M + 1 := ⟨N - 1, by omega⟩
    refine y_lpr ?_
    unfold fX3_howManySets_L7
    rw [y_u3, show (10 : Int32) = nI 10 from rfl, y_0_t h0]
    show (if _ then _ else _) = _
    split <;> rfl
  | succ n ih =>
    intro left c i t N hl hp hi hN
    have hle : left < 2 ^ 10 := Nat.lt_of_le_of_lt (y_sub_le hl) hm
    obtain ⟨N, rfl⟩ : ∃ M, N = M + 1 := ⟨N - 1, by omega⟩
    unfold ySets
    by_cases h0 : left = 0
    · rw [if_pos h0]
      refine y_lpr ?_
      unfold fX3_howManySets_L7
      rw [y_u3, show (10 : Int32) = nI 10 from rfl, y_0_t h0]
      show (if _ then _ else _) = _
      split <;> rfl
    · rw [if_neg h0]
      have hpp := yPop_pos h0 (show left < 16384 by omega)
      obtain ⟨e1, e2⟩ := s3_flood' (f := 2 ^ yLb left) ok hn (y_lbp h0 hle) hm
      obtain ⟨s1, s2⟩ := y_step hm hl h0 e2
      rw [y_lpl (s' := (nI (ySd left (yFl a b (2 ^ yLb left) m)), nI (c + 1), nI (i + 1)))]
      · exact ih _ _ _ _ _ s2 (by omega) (by omega) (by omega)
      · unfold fX3_howManySets_L7
        rw [y_u3, show (10 : Int32) = nI 10 from rfl, y_le_f (by omega) (by omega), y_0_f h0 (by omega), y_low h0 (by omega), e1, y_b1, y_andn, y_lt_e, y_a1, y_lt_e, y_a1, y_lt_e]
theorem s3_sets2 {gn : zM} {a : yA} {b m : Nat} (ok : yOk a) (hn : yNet a b gn) (hm : m < 2 ^ 10) : ∀ (n left c i t N : Nat), (∀ j, left.testBit j = true → m.testBit j = true) → yPop left ≤ n → i + yPop left ≤ 10 → t ≤ 100 → n < N → zLp (fX3_greatestSet_L7 (nI m) gn) N (nI left, nI t, nI i) = some (nI (ySets a b m n left c t).2) := by
  intro n
  induction n with
  | zero =>
    intro left c i t N hl hp hi hc hN
    have hle : left < 2 ^ 10 := Nat.lt_of_le_of_lt (y_sub_le hl) hm
    have h0 : left = 0 := by
      rcases Nat.eq_zero_or_pos left with h | h
      · exact h
      · have := yPop_pos (a := left) (by omega) (by omega); omega
    obtain ⟨N, rfl⟩ : ∃ M, N = M + 1 := ⟨N - 1, by omega⟩
    refine y_lpr ?_
    unfold fX3_greatestSet_L7
    rw [y_u3, show (10 : Int32) = nI 10 from rfl, y_0_t h0]
    show (if _ then _ else _) = _
    split <;> rfl
  | succ n ih =>
    intro left c i t N hl hp hi hc hN
    have hle : left < 2 ^ 10 := Nat.lt_of_le_of_lt (y_sub_le hl) hm
    obtain ⟨N, rfl⟩ : ∃ M, N = M + 1 := ⟨N - 1, by omega⟩
    unfold ySets
    by_cases h0 : left = 0
    · rw [if_pos h0]
      refine y_lpr ?_
      unfold fX3_greatestSet_L7
      rw [y_u3, show (10 : Int32) = nI 10 from rfl, y_0_t h0]
      show (if _ then _ else _) = _
      split <;> rfl
    · rw [if_neg h0]
      have hpp := yPop_pos h0 (show left < 16384 by omega)
      obtain ⟨e1, e2⟩ := s3_flood' (f := 2 ^ yLb left) ok hn (y_lbp h0 hle) hm
      obtain ⟨s1, s2⟩ := y_step hm hl h0 e2
      have hFlt := e2.lt hm
      have hp14 := yPop_le (yFl a b (2 ^ yLb left) m)
      rw [y_lpl (s' := (nI (ySd left (yFl a b (2 ^ yLb left) m)), nI (if t < yPop (yFl a b (2 ^ yLb left) m) then yPop (yFl a b (2 ^ yLb left) m) else t), nI (i + 1)))]
      · exact ih _ _ _ _ _ s2 (by omega) (by omega) (by split <;> omega) (by omega)
      · unfold fX3_greatestSet_L7
        rw [y_u3, show (10 : Int32) = nI 10 from rfl, y_le_f (by omega) (by omega), y_0_f h0 (by omega), y_low h0 (by omega), e1, y_b1, y_andn, y_lt_e, y_bc (by omega), y_b1, y_a1, y_lt_e, y_lt_e]
        by_cases q : t < yPop (yFl a b (2 ^ yLb left) m)
        · rw [y_lt_t q (by omega), if_pos q]
        · rw [y_lt_f (by omega) (by omega), if_neg q]
theorem s10_sets {gl : zL} {a : yA} {b m : Nat} {g0 : zM} (ok : yOk a) (hg : yG g0 a) (hb : b < 2 ^ 14) (hm : m < 2 ^ 10) : ∀ (n left c t N : Nat) (g : zM), yKs g0 g → g 0 22 = nI c → (∀ j, left.testBit j = true → m.testBit j = true) → yPop left ≤ n → t ≤ 100 → n < N → ∃ g', zLp (fX10_greatest_L10 (nI b) (nI m) gl) N (nI t, nI left, g) = some (nI (ySets a b m n left c t).2, g') ∧ yKs g0 g' ∧ g' 0 22 = nI (ySets a b m n left c t).1 := by
  intro n
  induction n with
  | zero =>
    intro left c t N g hk h22 hl hp hc hN
    have hle : left < 2 ^ 10 := Nat.lt_of_le_of_lt (y_sub_le hl) hm
    have h0 : left = 0 := by
      rcases Nat.eq_zero_or_pos left with h | h
      · exact h
      · have := yPop_pos (a := left) (by omega) (by omega); omega
    obtain ⟨N, rfl⟩ : ∃ M, N = M + 1 := ⟨N - 1, by omega⟩
    refine ⟨g, y_lpr ?_, hk, h22⟩
    unfold fX10_greatest_L10
    rw [y_u3, y_0_t h0]
    rfl
  | succ n ih =>
    intro left c t N g hk h22 hl hp hc hN
    have hle : left < 2 ^ 10 := Nat.lt_of_le_of_lt (y_sub_le hl) hm
    obtain ⟨N, rfl⟩ : ∃ M, N = M + 1 := ⟨N - 1, by omega⟩
    unfold ySets
    by_cases h0 : left = 0
    · rw [if_pos h0]
      refine ⟨g, y_lpr ?_, hk, h22⟩
      unfold fX10_greatest_L10
      rw [y_u3, y_0_t h0]
    · rw [if_neg h0]
      have hpp := yPop_pos h0 (show left < 16384 by omega)
      obtain ⟨e1, e2⟩ := s10_joinedBy' (gl := gl) (f := 2 ^ yLb left) ok (hg.ks hk) (y_lbp h0 hle) hb hm
      obtain ⟨s1, s2⟩ := y_step hm hl h0 e2
      have hFlt := e2.lt hm
      have hp14 := yPop_le (yFl a b (2 ^ yLb left) m)
      obtain ⟨g', r1, r2, r3⟩ := ih (ySd left (yFl a b (2 ^ yLb left) m)) (c + 1) (if t < yPop (yFl a b (2 ^ yLb left) m) then yPop (yFl a b (2 ^ yLb left) m) else t) N (zPu g 0 22 (nI (c + 1))) (hk.pu0 (by decide)) zPu_s s2 (by omega) (by split <;> omega) (by omega)
      refine ⟨g', ?_, r2, r3⟩
      rw [y_lpl (s' := (nI (if t < yPop (yFl a b (2 ^ yLb left) m) then yPop (yFl a b (2 ^ yLb left) m) else t), nI (ySd left (yFl a b (2 ^ yLb left) m)), zPu g 0 22 (nI (c + 1))))]
      · exact r1
      · unfold fX10_greatest_L10 fX10_greatest_L10J47
        rw [y_u3, y_0_f h0 (by omega), y_low h0 (by omega), e1, y_b1, s10_ones (by omega), y_b1]
        by_cases q : t < yPop (yFl a b (2 ^ yLb left) m)
        · rw [y_le_f q (by omega), y_b1, y_andn, y_lt_e, h22, y_a1, y_lt_e, y_lt_e, if_pos q]
        · rw [y_le_t (by omega) (by omega), y_andn, y_lt_e, h22, y_a1, y_lt_e, y_lt_e, if_neg q]
noncomputable def yHm (a : yA) (b m : Nat) : Nat := (ySets a b m 10 m 0 0).1
noncomputable def yGr (a : yA) (b m : Nat) : Nat := (ySets a b m 10 m 0 0).2
theorem yGr_le (a : yA) (b m : Nat) : yGr a b m ≤ 14 := (ySets_bd a b m 10 m 0 0 (by omega) (by omega)).2
theorem s3_howManySets {gn : zM} {a : yA} {b m : Nat} (ok : yOk a) (hn : yNet a b gn) (hm : m < 2 ^ 10) : fX3_howManySets gn (nI m) = some (nI (yHm a b m)) := by
  have hp := yPop_10 (x := m) (by omega)
  unfold fX3_howManySets
  rw [show (0 : Int32) = nI 0 from rfl, s3_sets1 ok hn hm 10 m 0 0 0 zFU (fun _ h => h) hp (by omega) (by unfold zFU; omega), y_b1, y_u1]
  rfl
theorem s3_greatestSet {gn : zM} {a : yA} {b m : Nat} (ok : yOk a) (hn : yNet a b gn) (hm : m < 2 ^ 10) : fX3_greatestSet gn (nI m) = some (nI (yGr a b m)) := by
  have hp := yPop_10 (x := m) (by omega)
  unfold fX3_greatestSet
  rw [show (0 : Int32) = nI 0 from rfl, s3_sets2 ok hn hm 10 m 0 0 0 zFU (fun _ h => h) hp (by omega) (by omega) (by unfold zFU; omega), y_b1, y_u1]
  rfl
theorem s10_greatest {g : zM} {gl : zL} {a : yA} {b m : Nat} (ok : yOk a) (hg : yG g a) (hb : b < 2 ^ 14) (hm : m < 2 ^ 10) : ∃ g', fX10_greatest g gl (nI b) (nI m) = some (nI (yGr a b m), g') ∧ yKs g g' ∧ g' 0 22 = nI (yHm a b m) := by
  have hp := yPop_10 (x := m) (by omega)
  obtain ⟨g', h1, h2, h3⟩ := s10_sets (gl := gl) ok hg hb hm 10 m 0 0 zFU (zPu g 0 22 0) ((yKs.rf g).pu0 (by decide)) zPu_s (fun _ h => h) hp (by omega) (by unfold zFU; omega)
  refine ⟨g', ?_, h2, h3⟩
  unfold fX10_greatest
  rw [y_lt_e, show ((0, nI m, zPu g 0 22 0) : Int32 × Int32 × zM) = (nI 0, nI m, zPu g 0 22 0) from rfl, h1, y_b1, y_u2]
  rfl
theorem s9_layOpenTies {gx w gn : zM} {a : yA} (ok : yOk a) (hc : yC w a) : ∃ gn', fX9_layOpenTies gx w gn = some gn' ∧ yNet a (yOs a 0) gn' := by
  obtain ⟨gn', h1, h2⟩ := s3_lay (gn := gn) ok hc (yOs_lt ok 0)
  refine ⟨gn', ?_, h2⟩
  unfold fX9_layOpenTies
  rw [show (0 : Int32) = nI 0 from rfl, s8_openTies ok hc (by omega), y_b1, h1, y_b1]
/-! ===== joined, sets ===== -/
theorem m_joined {gx w gn g : zM} {gl : zL} {a : yA} (ok : yOk a) (hc : yC w a) (hg : yG g a) (x : Int32) : ∃ r gn', fX9_joined gx w gn x = some (r, gn') ∧ fX10_joined g gl x = some r := by
  have h0 := ok.1
  have hall := y_all_lt (n := a 0 0) (by omega)
  unfold fX9_joined fX10_joined
  rw [s8_hasPerson ok hc, y_b1, s10_isPerson ok hg, y_b1]
  rcases y_zin x (n := a 0 0) (by omega) with ⟨h, k, hk, rfl⟩ | ⟨h, -⟩
  · rw [y_bl_t h, y_bl_t h]
    obtain ⟨gn', e1, e2⟩ := s9_layOpenTies (gx := gx) (gn := gn) ok hc
    have hk2 : 2 ^ k < 2 ^ 10 := Nat.pow_lt_pow_right (by omega) (by omega)
    rw [e1, y_b1, s8_everybody ok hc, y_b1, y_one (by omega), (s3_flood' ok e2 hk2 hall).1, y_b1, show (0 : Int32) = nI 0 from rfl, s10_openOn ok hg (by omega), y_b1, s10_all ok hg, y_b1, (s10_joinedBy' ok hg hk2 (yOs_lt ok 0) hall).1, y_b1]
    exact ⟨_, _, rfl, rfl⟩
  · rw [y_bl_f h, y_bl_f h]
    exact ⟨_, _, rfl, rfl⟩
theorem m_sets {gx w gn g : zM} {gl : zL} {a : yA} (ok : yOk a) (hc : yC w a) (hg : yG g a) (x : Int32) : ∃ r gn' g', fX9_sets gx w gn x = some (r, gn') ∧ fX10_sets g gl x = some (r, g') ∧ yKs g g' := by
  have h0 := ok.1
  have hall := y_all_lt (n := a 0 0) (by omega)
  unfold fX9_sets fX10_sets
  rw [s9_isEither, y_b1, s10_isSide, y_b1]
  cases h : yEi x
  · rw [y_bl_f rfl, y_bl_f rfl]
    exact ⟨_, _, _, rfl, rfl, yKs.rf g⟩
  · rw [y_bl_t rfl, y_bl_t rfl]
    obtain ⟨gn', e1, e2⟩ := s9_layOpenTies (gx := gx) (gn := gn) ok hc
    obtain ⟨g', q1, q2, q3⟩ := s10_greatest (gl := gl) ok hg (yOs_lt ok 0) hall
    rw [e1, y_b1, s8_everybody ok hc, y_b1, y_b1, s3_howManySets ok e2 hall, s3_greatestSet ok e2 hall, y_b1, y_b1]
    rcases y_ei h with rfl | rfl
    · rw [if_pos rfl, show (0 : Int32) = nI 0 from rfl, s10_openOn ok hg (by omega), y_b1, s10_all ok hg, y_b1, q1, y_b2, if_pos rfl, q3]
      exact ⟨_, _, _, rfl, rfl, q2⟩
    · rw [if_neg (by decide), show (0 : Int32) = nI 0 from rfl, s10_openOn ok hg (by omega), y_b1, s10_all ok hg, y_b1, q1, y_b2, if_neg (by decide)]
      exact ⟨_, _, _, rfl, rfl, q2⟩
