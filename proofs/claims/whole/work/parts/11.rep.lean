/-! ===== branches over numbers ===== -/
theorem y_le_t {α : Type} {a b : Nat} {hd : Decidable (nI a ≤ nI b)} {x y : α} (h : a ≤ b) (hb : b < 2147483648) : (@ite _ (nI a ≤ nI b) hd x y) = x := if_pos (nI_le h hb)
theorem y_le_f {α : Type} {a b : Nat} {hd : Decidable (nI a ≤ nI b)} {x y : α} (h : b < a) (hb : a < 2147483648) : (@ite _ (nI a ≤ nI b) hd x y) = y := if_neg (nI_ge h hb)
theorem y_lt_t {α : Type} {a b : Nat} {hd : Decidable (nI a < nI b)} {x y : α} (h : a < b) (hb : b < 2147483648) : (@ite _ (nI a < nI b) hd x y) = x := if_pos (nI_lt h hb)
theorem y_lt_f {α : Type} {a b : Nat} {hd : Decidable (nI a < nI b)} {x y : α} (h : b ≤ a) (hb : a < 2147483648) : (@ite _ (nI a < nI b) hd x y) = y := if_neg (nI_nlt h hb)
theorem y_eq_t {α : Type} {a b : Nat} {hd : Decidable (nI a = nI b)} {x y : α} (h : a = b) : (@ite _ (nI a = nI b) hd x y) = x := if_pos (by rw [h])
theorem y_eq_f {α : Type} {a b : Nat} {hd : Decidable (nI a = nI b)} {x y : α} (h : a ≠ b) (ha : a < 2147483648) (hb : b < 2147483648) : (@ite _ (nI a = nI b) hd x y) = y := if_neg (fun z => h ((nI_eq ha hb).mp z))
theorem y_0_t {α : Type} {a : Nat} {hd : Decidable (nI a = 0)} {x y : α} (h : a = 0) : (@ite _ (nI a = 0) hd x y) = x := if_pos (by rw [h]; rfl)
theorem y_0_f {α : Type} {a : Nat} {hd : Decidable (nI a = 0)} {x y : α} (h : a ≠ 0) (ha : a < 2147483648) : (@ite _ (nI a = 0) hd x y) = y := if_neg (fun z => h ((nI_eq ha (by omega)).mp z))
theorem y_bl0 {α : Type} {b : Bool} {hd : Decidable ((if b then 1 else 0 : Int32) = 0)} {x y : α} : (@ite _ ((if b then 1 else 0 : Int32) = 0) hd x y) = (if b then y else x) := by cases b <;> simp
/-! ===== what the memories mean: a works a : yA (row, place): 0: people, ties, cuts; 1 weight; 2 seen + 1; 3 low; 4 high; 5 worth; 6 odds; 7 must; 8 kind; 9 A; 10 B ===== -/
abbrev yA : Type := Nat → Nat → Nat
def yOk (a : yA) : Prop := (1 ≤ a 0 0 ∧ a 0 0 ≤ 10 ∧ a 0 1 ≤ 14 ∧ a 0 2 ≤ 8) ∧ (∀ p, p < a 0 0 → a 1 p ≤ 9 ∧ a 2 p ≤ 2) ∧ (∀ i, i < a 0 1 → a 3 i < a 4 i ∧ a 4 i < a 0 0 ∧ a 5 i ≤ 99 ∧ 1 ≤ a 6 i ∧ a 6 i ≤ 4 ∧ a 7 i ≤ 1) ∧ (∀ k, k < a 0 2 → 1 ≤ a 8 k ∧ a 8 k ≤ 6 ∧ a 9 k < 2 ^ 10 ∧ a 10 k ≤ 99 ∧ ((a 8 k = 1 ∨ a 8 k = 4) → a 9 k < a 0 1)) ∧ (∀ i j, i < a 0 1 → j < a 0 1 → a 3 i = a 3 j → a 4 i = a 4 j → i = j)
def yC (w : zM) (a : yA) : Prop := (w 0 0 = nI (a 0 0) ∧ w 0 3 = nI (a 0 1) ∧ w 0 9 = nI (a 0 2)) ∧ (∀ p, p < a 0 0 → w 1 p = nI (a 1 p)) ∧ (∀ p, p < a 0 0 → w 2 p = nI (a 2 p) - 1) ∧ (∀ i, i < a 0 1 → w 3 i = nI (a 3 i)) ∧ (∀ i, i < a 0 1 → w 4 i = nI (a 4 i)) ∧ (∀ i, i < a 0 1 → w 5 i = nI (a 5 i)) ∧ (∀ i, i < a 0 1 → w 6 i = nI (a 6 i)) ∧ (∀ i, i < a 0 1 → w 7 i = nI (a 7 i)) ∧ (∀ k, k < a 0 2 → w 8 k = nI (a 8 k)) ∧ (∀ k, k < a 0 2 → w 9 k = nI (a 9 k)) ∧ (∀ k, k < a 0 2 → w 10 k = nI (a 10 k))
def yG (g : zM) (a : yA) : Prop := (g 0 0 = nI (a 0 0) ∧ g 0 2 = nI (a 0 1) ∧ g 0 4 = nI (a 0 2)) ∧ (∀ p, p < a 0 0 → g 1 p = nI (a 1 p)) ∧ (∀ p, p < a 0 0 → g 4 p = nI (a 2 p)) ∧ (∀ i, i < a 0 1 → g 2 (5 * i) = nI (a 3 i)) ∧ (∀ i, i < a 0 1 → g 2 (5 * i + 1) = nI (a 4 i)) ∧ (∀ i, i < a 0 1 → g 2 (5 * i + 2) = nI (a 5 i)) ∧ (∀ i, i < a 0 1 → g 2 (5 * i + 3) = nI (a 6 i)) ∧ (∀ i, i < a 0 1 → g 2 (5 * i + 4) = nI (a 7 i)) ∧ (∀ k, k < a 0 2 → g 3 (3 * k) = nI (a 8 k)) ∧ (∀ k, k < a 0 2 → g 3 (3 * k + 1) = nI (a 9 k)) ∧ (∀ k, k < a 0 2 → g 3 (3 * k + 2) = nI (a 10 k))
/-! ===== masks ===== -/
def yMk (f : Nat → Bool) : Nat → Nat
  | 0 => 0
  | k + 1 => yMk f k ||| (if f k then 2 ^ k else 0)
theorem yMk_t (f : Nat → Bool) (n i : Nat) : (yMk f n).testBit i = (decide (i < n) && f i) := by
  induction n with
  | zero => simp [yMk]
  | succ n ih =>
    unfold yMk
    rw [Nat.testBit_or, ih]
    by_cases h : f n = true
    · rw [if_pos h, Nat.testBit_two_pow]
      by_cases h2 : i = n
      · subst h2; simp [h]
      · have h3 : decide (n = i) = false := decide_eq_false (fun e => h2 e.symm)
        have h4 : decide (i < n + 1) = decide (i < n) := decide_eq_decide.mpr (by omega)
        rw [h3, h4, Bool.or_false]
    · rw [if_neg h, Nat.zero_testBit, Bool.or_false]
      by_cases h2 : i = n
      · subst h2
        have : f i = false := by simpa using h
        simp [this]
      · have h4 : decide (i < n + 1) = decide (i < n) := decide_eq_decide.mpr (by omega)
        rw [h4]
theorem y_ltp {a n : Nat} (h : ∀ i, n ≤ i → a.testBit i = false) : a < 2 ^ n := by
  rcases Nat.lt_or_ge a (2 ^ n) with h1 | h1
  · exact h1
  · obtain ⟨i, hi, ht⟩ := Nat.exists_ge_and_testBit_of_ge_two_pow h1
    rw [h i hi] at ht
    cases ht
theorem yMk_lt (f : Nat → Bool) (n : Nat) : yMk f n < 2 ^ n := y_ltp (fun i hi => by rw [yMk_t]; simp; omega)
theorem y_tf {a n i : Nat} (h : a < 2 ^ n) (hi : n ≤ i) : a.testBit i = false := Nat.testBit_lt_two_pow (Nat.lt_of_lt_of_le h (Nat.pow_le_pow_right (by omega) hi))
theorem y_or_lt {a b n : Nat} (ha : a < 2 ^ n) (hb : b < 2 ^ n) : a ||| b < 2 ^ n := Nat.or_lt_two_pow ha hb
theorem y_and_lt {a b n : Nat} (ha : a < 2 ^ n) : a &&& b < 2 ^ n := by rw [Nat.and_comm]; exact Nat.and_lt_two_pow _ ha
theorem y_and_lt2 {a b n : Nat} (hb : b < 2 ^ n) : a &&& b < 2 ^ n := Nat.and_lt_two_pow _ hb
theorem y_sd_lt {a b n : Nat} (ha : a < 2 ^ n) : ySd a b < 2 ^ n := y_ltp (fun i hi => by rw [ySd_t, y_tf ha hi]; rfl)
/-! ===== ends of ties, cuts ===== -/
def yEn (a : yA) (i : Nat) : Nat := 2 ^ a 3 i ||| 2 ^ a 4 i
theorem yEn_lt {a : yA} (ok : yOk a) {i : Nat} (hi : i < a 0 1) : yEn a i < 2 ^ 10 := by
  obtain ⟨h1, h2, -⟩ := ok.2.2.1 i hi
  have := ok.1
  exact y_or_lt (Nat.pow_lt_pow_right (by omega) (by omega)) (Nat.pow_lt_pow_right (by omega) (by omega))
def yIn (a : yA) (i s : Nat) : Nat := yPop (yEn a i &&& s)
def yCut (a : yA) (k i day : Nat) : Bool := if a 8 k = 1 then decide (a 9 k = i) else if a 8 k = 2 then decide (yIn a i (a 9 k) = 1) && decide (a 7 i = 0) else if a 8 k = 3 then decide (yIn a i (a 9 k) = 1) else if a 8 k = 4 then decide (a 9 k = i) && decide (a 10 k ≤ day) else if a 8 k = 5 then decide (0 < yIn a i (a 9 k)) else decide (yIn a i (a 9 k) = 2)
def yOpenK (a : yA) (i day : Nat) : Nat → Bool
  | 0 => true
  | k + 1 => yOpenK a i day k && !yCut a k i day
def yOpen (a : yA) (i day : Nat) : Bool := yOpenK a i day (a 0 2)
def yOs (a : yA) (day : Nat) : Nat := yMk (fun i => yOpen a i day) (a 0 1)
theorem yOs_lt {a : yA} (ok : yOk a) (day : Nat) : yOs a day < 2 ^ 14 := Nat.lt_of_lt_of_le (yMk_lt _ _) (Nat.pow_le_pow_right (by omega) ok.1.2.2.1)
def yBl (b : Bool) : Int32 := if b then 1 else 0
/-- two ends and a set: which of them are in it -/
def yTwoOk (x y : Nat) : Bool := decide (y ≤ x) || (decide (yPop (2 ^ x ||| 2 ^ y) = 2) && decide (yPop (2 ^ x) = 1) && decide (yPop (2 ^ y) = 1) && decide (2 ^ x ≠ (2 ^ x ||| 2 ^ y)) && decide (2 ^ y ≠ (2 ^ x ||| 2 ^ y)) && decide ((2 ^ x ||| 2 ^ y) ≠ 0))
theorem y_two {x y : Nat} (hx : x < 10) (hy : y < 10) (h : x < y) : yPop (2 ^ x ||| 2 ^ y) = 2 ∧ yPop (2 ^ x) = 1 ∧ yPop (2 ^ y) = 1 ∧ 2 ^ x ≠ (2 ^ x ||| 2 ^ y) ∧ 2 ^ y ≠ (2 ^ x ||| 2 ^ y) ∧ (2 ^ x ||| 2 ^ y) ≠ 0 := by
  have hk : (List.range 10).all (fun x => (List.range 10).all (fun y => yTwoOk x y)) = true := by decide +kernel
  have h1 := List.all_eq_true.mp (List.all_eq_true.mp hk x (List.mem_range.mpr hx)) y (List.mem_range.mpr hy)
  unfold yTwoOk at h1
  simp only [Bool.or_eq_true, Bool.and_eq_true, decide_eq_true_eq] at h1
  rcases h1 with h1 | ⟨⟨⟨⟨⟨a, b⟩, c⟩, d⟩, e⟩, f⟩
  · omega
  · exact ⟨a, b, c, d, e, f⟩
theorem y_two_and (x y s : Nat) : (2 ^ x ||| 2 ^ y) &&& s = (if s.testBit x then 2 ^ x else 0) ||| (if s.testBit y then 2 ^ y else 0) := by
  apply Nat.eq_of_testBit_eq
  intro i
  rw [Nat.testBit_and, Nat.testBit_or, Nat.testBit_or, Nat.testBit_two_pow, Nat.testBit_two_pow]
  by_cases hx : x = i <;> by_cases hy : y = i
  · subst hx; subst hy; cases h : s.testBit y <;> simp
  · subst hx
    cases h : s.testBit x <;> cases h2 : s.testBit y <;> simp [h, Nat.testBit_two_pow, hy]
  · subst hy
    cases h : s.testBit y <;> cases h2 : s.testBit x <;> simp [h, Nat.testBit_two_pow, hx]
  · cases h : s.testBit y <;> cases h2 : s.testBit x <;> simp [Nat.testBit_two_pow, hx, hy]
/-- how many of a tie's two are in s, by s's bits -/
theorem yIn_eq {a : yA} (ok : yOk a) {i : Nat} (hi : i < a 0 1) (s : Nat) : yIn a i s = (if s.testBit (a 3 i) then 1 else 0) + (if s.testBit (a 4 i) then 1 else 0) ∧ (yEn a i &&& s = 0 ↔ yIn a i s = 0) ∧ (yEn a i &&& s = yEn a i ↔ yIn a i s = 2) := by
  obtain ⟨h1, h2, -⟩ := ok.2.2.1 i hi
  have h0 := ok.1
  obtain ⟨t1, t2, t3, t7, t8, t6⟩ := y_two (x := a 3 i) (y := a 4 i) (by omega) (by omega) h1
  have p0 : yPop 0 = 0 := by decide
  unfold yIn yEn
  rw [y_two_and]
  cases hx : s.testBit (a 3 i) <;> cases hy : s.testBit (a 4 i)
  · simp [p0, Ne.symm t6]
  · simp [t3, t8]
  · simp [t2, t7]
  · simp [t1, t6]
theorem yCut_1 {a : yA} {k i d : Nat} (e : a 8 k = 1) : yCut a k i d = decide (a 9 k = i) := by unfold yCut; simp [e]
theorem yCut_2 {a : yA} {k i d : Nat} (e : a 8 k = 2) : yCut a k i d = (decide (yIn a i (a 9 k) = 1) && decide (a 7 i = 0)) := by unfold yCut; simp [e]
theorem yCut_3 {a : yA} {k i d : Nat} (e : a 8 k = 3) : yCut a k i d = decide (yIn a i (a 9 k) = 1) := by unfold yCut; simp [e]
theorem yCut_4 {a : yA} {k i d : Nat} (e : a 8 k = 4) : yCut a k i d = (decide (a 9 k = i) && decide (a 10 k ≤ d)) := by unfold yCut; simp [e]
theorem yCut_5 {a : yA} {k i d : Nat} (e : a 8 k = 5) : yCut a k i d = decide (0 < yIn a i (a 9 k)) := by unfold yCut; simp [e]
theorem yCut_6 {a : yA} {k i d : Nat} (e : a 8 k = 6) : yCut a k i d = decide (yIn a i (a 9 k) = 2) := by unfold yCut; simp [e]
/-! ===== the class's works: ends, cuts, open ===== -/
theorem s8_bothOf {w : zM} {a : yA} (ok : yOk a) (hc : yC w a) {i : Nat} (hi : i < a 0 1) : fX8_bothOf w (nI i) = some (nI (yEn a i)) := by
  have h0 := ok.1
  obtain ⟨h1, h2, -⟩ := ok.2.2.1 i hi
  unfold fX8_bothOf
  rw [y_gin (by omega) (by omega), y_lt_e, y_cl (by omega), hc.2.2.2.1 i hi, y_gin (by omega) (by omega), y_lt_e, hc.2.2.2.2.1 i hi, y_one (by omega), y_one (by omega), y_or]
  rfl
theorem s8_isCutBy {w : zM} {a : yA} (ok : yOk a) (hc : yC w a) {i k d : Nat} (hi : i < a 0 1) (hk : k < a 0 2) (hd : d < 2147483648) : fX8_isCutBy w (nI k) (nI i) (nI d) = some (yBl (yCut a k i d)) := by
  have h0 := ok.1
  have hE := yEn_lt ok hi
  obtain ⟨g1, g2, g3, g4, g5⟩ := ok.2.2.2.1 k hk
  obtain ⟨i1, i2, i3⟩ := yIn_eq ok hi (a 9 k)
  have i4 : (yEn a i &&& a 9 k) < 2 ^ 10 := y_and_lt hE
  have hm := (ok.2.2.1 i hi).2.2.2.2.2
  unfold fX8_isCutBy
  rw [s8_bothOf ok hc hi, y_b1, y_gin (by omega) (by omega), y_lt_e, y_cl (by omega), hc.2.2.2.2.2.2.2.2.2.1 k hk, y_lt_e, y_and, y_gin (by omega) (by omega), y_lt_e, hc.2.2.2.2.2.2.2.2.1 k hk]
  have hbc : fJ6_bitCount_0f7a4 (nI (yEn a i &&& a 9 k)) = some (nI (yIn a i (a 9 k))) := y_bc (by omega)
  have hp : yIn a i (a 9 k) ≤ 2 := by rw [i1]; split <;> split <;> omega
  have hcase : a 8 k = 1 ∨ a 8 k = 2 ∨ a 8 k = 3 ∨ a 8 k = 4 ∨ a 8 k = 5 ∨ a 8 k = 6 := by omega
  rcases hcase with e | e | e | e | e | e
  · rw [yCut_1 e, e, if_pos (show nI 1 = 1 from rfl), y_gin (by omega) (by omega), y_lt_e]
    by_cases q : a 9 k = i
    · rw [q, if_pos rfl]; simp [yBl]
    · rw [if_neg (by rw [y_eq (by omega) (by omega)]; exact q)]; simp [yBl, q]
  · rw [yCut_2 e, e, if_neg (by decide), if_pos (show nI 2 = 2 from rfl), hbc, y_b1]
    by_cases q : yIn a i (a 9 k) = 1
    · rw [q, if_pos (show nI 1 = 1 from rfl), y_gin (by omega) (by omega), y_lt_e, y_cl (by omega), hc.2.2.2.2.2.2.2.1 i hi]
      by_cases q2 : a 7 i = 0
      · rw [q2, if_pos (show nI 0 = 0 from rfl)]; simp [yBl]
      · rw [if_neg (by rw [show (0 : Int32) = nI 0 from rfl, y_eq (by omega) (by omega)]; exact q2)]; simp [yBl, q2]
    · rw [if_neg (by rw [show (1 : Int32) = nI 1 from rfl, y_eq (by omega) (by omega)]; exact q)]; simp [yBl, q]
  · rw [yCut_3 e, e, if_neg (by decide), if_neg (by decide), if_pos (show nI 3 = 3 from rfl), hbc, y_b1]
    by_cases q : yIn a i (a 9 k) = 1
    · rw [q, if_pos (show nI 1 = 1 from rfl)]; simp [yBl]
    · rw [if_neg (by rw [show (1 : Int32) = nI 1 from rfl, y_eq (by omega) (by omega)]; exact q)]; simp [yBl, q]
  · rw [yCut_4 e, e, if_neg (by decide), if_neg (by decide), if_neg (by decide), if_pos (show nI 4 = 4 from rfl), y_gin (by omega) (by omega), y_lt_e]
    by_cases q : a 9 k = i
    · rw [q, if_pos rfl, y_gin (by omega) (by omega), y_lt_e, hc.2.2.2.2.2.2.2.2.2.2 k hk]
      by_cases q2 : a 10 k ≤ d
      · rw [y_lt_f q2 hd]; simp [yBl, q2]
      · rw [y_lt_t (by omega) (by omega)]; simp [yBl, q2]
    · rw [if_neg (by rw [y_eq (by omega) (by omega)]; exact q)]; simp [yBl, q]
  · rw [yCut_5 e, e, if_neg (by decide), if_neg (by decide), if_neg (by decide), if_neg (by decide), if_pos (show nI 5 = 5 from rfl)]
    by_cases q : yIn a i (a 9 k) = 0
    · rw [i2.mpr q, if_pos (show nI 0 = 0 from rfl)]; simp [yBl, q]
    · rw [if_neg (by rw [show (0 : Int32) = nI 0 from rfl, y_eq (by omega) (by omega)]; exact fun z => q (i2.mp z))]
      have : 0 < yIn a i (a 9 k) := by omega
      simp [yBl, this]
  · rw [yCut_6 e, e, if_neg (by decide), if_neg (by decide), if_neg (by decide), if_neg (by decide), if_neg (by decide), if_pos (show nI 6 = 6 from rfl)]
    by_cases q : yIn a i (a 9 k) = 2
    · rw [i3.mpr q, if_pos rfl]; simp [yBl, q]
    · rw [if_neg (by rw [y_eq (by omega) (by omega)]; exact fun z => q (i3.mp z))]; simp [yBl, q]
theorem s8_isOpen {w : zM} {a : yA} (ok : yOk a) (hc : yC w a) {i d : Nat} (hi : i < a 0 1) (hd : d < 2147483648) : fX8_isOpen w (nI i) (nI d) = some (yBl (yOpen a i d)) := by
  have h0 := ok.1
  have key : ∃ b, zLp (fX8_isOpen_L2 (nI i) (nI d) w) zFU (nI 0) = some b ∧ (b = .inl () ∧ yOpen a i d = true ∨ b = .inr () ∧ yOpen a i d = false) := by
    refine y_lp (fun v => ∃ k, k ≤ a 0 2 ∧ v = nI k ∧ yOpenK a i d k = true) (fun v => a 0 2 - v.toNatClampNeg) _ ?_ zFU (nI 0) ⟨0, by omega, rfl, rfl⟩ (by unfold zFU; omega)
    rintro v ⟨k, hk, rfl, ho⟩
    unfold fX8_isOpen_L2
    rw [y_u1, hc.1.2.2]
    by_cases q : a 0 2 ≤ k
    · rw [y_le_t q (by omega)]
      refine ⟨_, rfl, Or.inl ⟨rfl, ?_⟩⟩
      have : k = a 0 2 := by omega
      subst this
      exact ho
    · rw [y_le_f (by omega) (by omega), s8_isCutBy ok hc hi (by omega) hd, y_b1]
      cases hcut : yCut a k i d
      · rw [if_pos (by rfl), y_lt_e, show (1 : Int32) = nI 1 from rfl, y_add]
        refine ⟨_, rfl, ⟨k + 1, by omega, rfl, ?_⟩, ?_⟩
        · unfold yOpenK; rw [ho, hcut]; rfl
        · rw [y_cl (by omega), y_cl (by omega)]; omega
      · rw [if_neg (by decide)]
        refine ⟨_, rfl, Or.inr ⟨rfl, ?_⟩⟩
        have mono : ∀ j, k + 1 ≤ j → yOpenK a i d j = false := by
          intro j hj
          induction j with
          | zero => omega
          | succ j ih =>
            by_cases e : j = k
            · subst e; unfold yOpenK; rw [hcut]; simp
            · unfold yOpenK; rw [ih (by omega)]; rfl
        exact mono _ (by omega)
  obtain ⟨b, hb, hq⟩ := key
  unfold fX8_isOpen
  rw [show (0 : Int32) = nI 0 from rfl, hb, y_b1]
  rcases hq with ⟨rfl, h⟩ | ⟨rfl, h⟩
  · rw [y_sml, y_u0, h]; rfl
  · rw [y_smr, y_u0, h]; rfl
theorem s8_openTies {w : zM} {a : yA} (ok : yOk a) (hc : yC w a) {d : Nat} (hd : d < 2147483648) : fX8_openTies w (nI d) = some (nI (yOs a d)) := by
  have h0 := ok.1
  have key : ∃ b, zLp (fX8_openTies_L4 (nI d) w) zFU ((fun k (x : Nat) => (nI x, nI k)) 0 0) = some b ∧ b = nI (yOs a d) := by
    refine y_for (fun k (x : Nat) => (nI x, nI k)) (a 0 1) (fun k x => x = yMk (fun i => yOpen a i d) k) _ ?_ ?_ zFU 0 0 (by omega) rfl (by unfold zFU; omega)
    · intro k x hk hx
      refine ⟨x ||| (if yOpen a k d then 2 ^ k else 0), ?_, by rw [hx]; rfl⟩
      unfold fX8_openTies_L4 fX8_openTies_L4J27
      rw [y_u2, hc.1.2.1, y_le_f (by omega) (by omega), s8_isOpen ok hc hk hd, y_b1]
      cases ho : yOpen a k d
      · rw [if_pos (by rfl), y_lt_e, show (1 : Int32) = nI 1 from rfl, y_add]; simp
      · rw [if_neg (by decide), y_lt_e, y_lt_e, y_one (by omega), y_or, show (1 : Int32) = nI 1 from rfl, y_add]; simp
    · intro x hx
      refine ⟨_, ?_, rfl⟩
      unfold fX8_openTies_L4
      rw [y_u2, hc.1.2.1, y_le_t (by omega) (by omega), hx]
      rfl
  obtain ⟨b, hb, rfl⟩ := key
  unfold fX8_openTies
  rw [show ((0, 0) : Int32 × Int32) = (fun k (x : Nat) => (nI x, nI k)) 0 0 from rfl, hb, y_b1, y_u1]
