/-! ===== the lowest bit ===== -/
theorem y_neg {a : Nat} (h : a ≤ 4294967296) : -(nI a) = nI (4294967296 - a) := by
  have h1 : nI a + nI (4294967296 - a) = 0 := by
    rw [y_add, show a + (4294967296 - a) = 4294967296 by omega]
    decide
  have h2 : -(nI a) + (nI a + nI (4294967296 - a)) = nI (4294967296 - a) := by
    rw [← Int32.add_assoc, Int32.add_left_neg, Int32.zero_add]
  rw [h1, Int32.add_zero] at h2
  exact h2
theorem y_lbf {a : Nat} (h0 : a ≠ 0) (h : a < 16384) : a.testBit (yLb a) = true ∧ yLb a < 14 ∧ a &&& (a - 1) = ySd a (2 ^ yLb a) ∧ yPop (ySd a (2 ^ yLb a)) + 1 = yPop a ∧ a &&& (4294967296 - a) = 2 ^ yLb a ∧ ∀ j, j < yLb a → a.testBit j = false := by
  have h1 := List.all_eq_true.mp y_lbK a (List.mem_range.mpr h)
  unfold yLbOk at h1
  simp only [Bool.or_eq_true, Bool.and_eq_true, decide_eq_true_eq, List.all_eq_true, List.mem_range, Bool.not_eq_true'] at h1
  rcases h1 with h1 | ⟨⟨⟨⟨⟨a1, a2⟩, a3⟩, a4⟩, a5⟩, a6⟩
  · exact absurd (Nat.eq_of_beq_eq_true h1) h0
  · exact ⟨a1, a2, Nat.eq_of_beq_eq_true a4, Nat.eq_of_beq_eq_true a5, Nat.eq_of_beq_eq_true a6, a3⟩
theorem y_low {a : Nat} (h0 : a ≠ 0) (h : a < 16384) : nI a &&& (-(nI a)) = nI (2 ^ yLb a) := by
  rw [y_neg (by omega), y_and, (y_lbf h0 h).2.2.2.2.1]
theorem y_drop {a : Nat} (h0 : a ≠ 0) (h : a < 16384) : nI a &&& (nI a - 1) = nI (ySd a (2 ^ yLb a)) := by
  rw [show (1 : Int32) = nI 1 from rfl, y_sub (by omega), y_and, (y_lbf h0 h).2.2.1]
theorem yPop_0 : yPop 0 = 0 := by decide
theorem yPop_pos {a : Nat} (h0 : a ≠ 0) (h : a < 16384) : 0 < yPop a := by have := (y_lbf h0 h).2.2.2.1; omega
theorem yPopK_le : ∀ (k a : Nat), yPopK k a ≤ k
  | 0, _ => Nat.le_refl _
  | k + 1, a => by
    unfold yPopK
    have := yPopK_le k (a / 2)
    omega
theorem yPop_le (a : Nat) : yPop a ≤ 14 := yPopK_le 14 a
/-! ===== the model's words ===== -/
theorem s10_ones {a : Nat} (h : a < 16384) : fX10_ones (nI a) = some (nI (yPop a)) := by
  have key : ∃ b, zLp fX10_ones_L4 zFU (nI 0, nI a) = some b ∧ b = nI (yPop a) := by
    refine y_lp (fun v => ∃ c x, x < 16384 ∧ c + yPop x = yPop a ∧ v = (nI c, nI x)) (fun v => yPop v.2.toNatClampNeg) _ ?_ zFU _ ⟨0, a, h, by omega, rfl⟩ (by show yPop (nI a).toNatClampNeg < _; rw [y_cl (by omega)]; have := yPop_le a; unfold zFU; omega)
    rintro v ⟨c, x, hx, hs, rfl⟩
    unfold fX10_ones_L4
    rw [y_u2]
    by_cases q : x = 0
    · rw [y_0_t q]
      refine ⟨_, rfl, ?_⟩
      rw [q, yPop_0] at hs
      show nI c = _
      rw [← hs]; rfl
    · rw [y_0_f q (by omega), y_lt_e, y_lt_e, y_drop q hx, show (1 : Int32) = nI 1 from rfl, y_add]
      have h1 := (y_lbf q hx).2.2.2.1
      have h2 : ySd x (2 ^ yLb x) < 2 ^ 14 := y_sd_lt (by omega)
      refine ⟨_, rfl, ⟨c + 1, _, by omega, by omega, rfl⟩, ?_⟩
      show yPop (nI _).toNatClampNeg < yPop (nI _).toNatClampNeg
      rw [y_cl (by omega), y_cl (by omega)]
      omega
  obtain ⟨b, hb, rfl⟩ := key
  unfold fX10_ones
  rw [show (0 : Int32) = nI 0 from rfl, hb, y_b1, y_u1]
theorem s10_its {g : zM} {gl : zL} {i j : Nat} (hi : i < 14) (hj : j < 5) : fX10_its g gl (nI i) (nI j) = some (g 2 (5 * i + j)) := by
  unfold fX10_its
  rw [show (5 : Int32) = nI 5 from rfl, y_mul, y_add, y_gin (by omega) (by omega), y_lt_e, y_cl (by omega)]
theorem s10_ends {g : zM} {gl : zL} {a : yA} (ok : yOk a) (hg : yG g a) {i : Nat} (hi : i < a 0 1) : fX10_ends g gl (nI i) = some (nI (yEn a i)) := by
  have h0 := ok.1
  obtain ⟨h1, h2, -⟩ := ok.2.2.1 i hi
  unfold fX10_ends
  rw [show (0 : Int32) = nI 0 from rfl, s10_its (by omega) (by omega), y_b1, show (1 : Int32) = nI 1 from rfl, s10_its (by omega) (by omega), y_b1, Nat.add_zero, hg.2.2.2.1 i hi, hg.2.2.2.2.1 i hi, show nI 1 = (1 : Int32) from rfl, y_one (by omega), y_one (by omega), y_or]
  rfl
theorem s10_inSet {g : zM} {gl : zL} {a : yA} (ok : yOk a) (hg : yG g a) {i : Nat} (hi : i < a 0 1) (s : Nat) : fX10_inSet g gl (nI i) (nI s) = some (nI (yIn a i s)) := by
  have h1 : yEn a i &&& s < 2 ^ 10 := y_and_lt (yEn_lt ok hi)
  unfold fX10_inSet
  rw [s10_ends ok hg hi, y_b1, y_and, s10_ones (by omega), y_b1]
  rfl
theorem s10_cutsIt {g : zM} {gl : zL} {a : yA} (ok : yOk a) (hg : yG g a) {i k d : Nat} (hi : i < a 0 1) (hk : k < a 0 2) (hd : d < 2147483648) : fX10_cutsIt g gl (nI k) (nI i) (nI d) = some (yBl (yCut a k i d)) := by
  have h0 := ok.1
  obtain ⟨g1, g2, g3, g4, g5⟩ := ok.2.2.2.1 k hk
  obtain ⟨i1, i2, i3⟩ := yIn_eq ok hi (a 9 k)
  have hm := (ok.2.2.1 i hi).2.2.2.2.2
  have hp : yIn a i (a 9 k) ≤ 2 := by rw [i1]; split <;> split <;> omega
  have hbc := s10_inSet (gl := gl) ok hg hi (a 9 k)
  unfold fX10_cutsIt
  rw [show (3 : Int32) * nI k = nI (3 * k) from y_mul 3 k, show nI (3 * k) + 1 = nI (3 * k + 1) from y_add _ 1, y_gin (by omega) (by omega), y_lt_e, y_cl (k := 3 * k + 1) (by omega), hg.2.2.2.2.2.2.2.2.2.1 k hk, y_gin (by omega) (by omega), y_lt_e, y_cl (k := 3 * k) (by omega), hg.2.2.2.2.2.2.2.2.1 k hk]
  have hcase : a 8 k = 1 ∨ a 8 k = 2 ∨ a 8 k = 3 ∨ a 8 k = 4 ∨ a 8 k = 5 ∨ a 8 k = 6 := by omega
  rcases hcase with e | e | e | e | e | e
  · rw [yCut_1 e, e, if_pos (show nI 1 = 1 from rfl)]
    by_cases q : a 9 k = i
    · rw [y_eq_t q]; simp [yBl, q]
    · rw [y_eq_f q (by omega) (by omega)]; simp [yBl, q]
  · rw [yCut_2 e, e, if_neg (by decide), if_pos (show nI 2 = 2 from rfl), hbc, y_b1, show (1 : Int32) = nI 1 from rfl]
    by_cases q : yIn a i (a 9 k) = 1
    · rw [y_eq_t q, show (4 : Int32) = nI 4 from rfl, s10_its (by omega) (by omega), y_b1, hg.2.2.2.2.2.2.2.1 i hi]
      by_cases q2 : a 7 i = 0
      · rw [y_0_t q2]; simp [yBl, q, q2]; rfl
      · rw [y_0_f q2 (by omega)]; simp [yBl, q2]
    · rw [y_eq_f q (by omega) (by omega)]; simp [yBl, q]
  · rw [yCut_3 e, e, if_neg (by decide), if_neg (by decide), if_pos (show nI 3 = 3 from rfl), hbc, y_b1, show (1 : Int32) = nI 1 from rfl]
    by_cases q : yIn a i (a 9 k) = 1
    · rw [y_eq_t q]; simp [yBl, q]; rfl
    · rw [y_eq_f q (by omega) (by omega)]; simp [yBl, q]
  · rw [yCut_4 e, e, if_neg (by decide), if_neg (by decide), if_neg (by decide), if_pos (show nI 4 = 4 from rfl)]
    by_cases q : a 9 k = i
    · rw [y_eq_t q, show nI (3 * k) + 2 = nI (3 * k + 2) from y_add _ 2, y_gin (by omega) (by omega), y_lt_e, y_cl (by omega), hg.2.2.2.2.2.2.2.2.2.2 k hk]
      by_cases q2 : a 10 k ≤ d
      · rw [y_lt_f q2 hd]; simp [yBl, q, q2]
      · rw [y_lt_t (by omega) (by omega)]; simp [yBl, q2]
    · rw [y_eq_f q (by omega) (by omega)]; simp [yBl, q]
  · rw [yCut_5 e, e, if_neg (by decide), if_neg (by decide), if_neg (by decide), if_neg (by decide), if_pos (show nI 5 = 5 from rfl), hbc, y_b1, show (0 : Int32) = nI 0 from rfl]
    by_cases q : yIn a i (a 9 k) = 0
    · rw [y_le_t (by omega) (by omega)]; simp [yBl, q]; rfl
    · rw [y_le_f (by omega) (by omega)]
      have : 0 < yIn a i (a 9 k) := by omega
      simp [yBl, this]
  · rw [yCut_6 e, e, if_neg (by decide), if_neg (by decide), if_neg (by decide), if_neg (by decide), if_neg (by decide), hbc, y_b1, show (2 : Int32) = nI 2 from rfl]
    by_cases q : yIn a i (a 9 k) = 2
    · rw [y_eq_t q]; simp [yBl, q]
    · rw [y_eq_f q (by omega) (by omega)]; simp [yBl, q]
theorem s10_isOpen {g : zM} {gl : zL} {a : yA} (ok : yOk a) (hg : yG g a) {i d : Nat} (hi : i < a 0 1) (hd : d < 2147483648) : fX10_isOpen g gl (nI i) (nI d) = some (yBl (yOpen a i d)) := by
  have h0 := ok.1
  have key : ∃ b, zLp (fX10_isOpen_L2 (nI i) (nI d) g gl) zFU (nI 0) = some b ∧ (b = .inl () ∧ yOpen a i d = true ∨ b = .inr () ∧ yOpen a i d = false) := by
    refine y_lp (fun v => ∃ k, k ≤ a 0 2 ∧ v = nI k ∧ yOpenK a i d k = true) (fun v => a 0 2 - v.toNatClampNeg) _ ?_ zFU (nI 0) ⟨0, by omega, rfl, rfl⟩ (by unfold zFU; omega)
    rintro v ⟨k, hk, rfl, ho⟩
    unfold fX10_isOpen_L2
    rw [y_u1, hg.1.2.2]
    by_cases q : a 0 2 ≤ k
    · rw [y_le_t q (by omega)]
      refine ⟨_, rfl, Or.inl ⟨rfl, ?_⟩⟩
      have : k = a 0 2 := by omega
      subst this
      exact ho
    · rw [y_le_f (by omega) (by omega), s10_cutsIt ok hg hi (by omega) hd, y_b1]
      cases hcut : yCut a k i d
      · rw [if_pos (by rfl), y_lt_e, show (1 : Int32) = nI 1 from rfl, y_add]
        refine ⟨_, rfl, ⟨k + 1, by omega, rfl, ?_⟩, ?_⟩
        · unfold yOpenK; rw [ho, hcut]; rfl
        · rw [y_cl (by omega), y_cl (by omega)]; omega
      · rw [if_neg (by decide)]
        refine ⟨_, rfl, Or.inr ⟨rfl, ?_⟩⟩
        have mono : ∀ j, k + 1 ≤ j → yOpenK a i d j = false := by
          intro j hj
          induction j with
          | zero => omega
          | succ j ih =>
            by_cases e : j = k
            · subst e; unfold yOpenK; rw [hcut]; simp
            · unfold yOpenK; rw [ih (by omega)]; rfl
        exact mono _ (by omega)
  obtain ⟨b, hb, hq⟩ := key
  unfold fX10_isOpen
  rw [show (0 : Int32) = nI 0 from rfl, hb, y_b1]
  rcases hq with ⟨rfl, h⟩ | ⟨rfl, h⟩
  · rw [y_sml, y_u0, h]; rfl
  · rw [y_smr, y_u0, h]; rfl
theorem s10_openOn {g : zM} {gl : zL} {a : yA} (ok : yOk a) (hg : yG g a) {d : Nat} (hd : d < 2147483648) : fX10_openOn g gl (nI d) = some (nI (yOs a d)) := by
  have h0 := ok.1
  have key : ∃ b, zLp (fX10_openOn_L4 (nI d) g gl) zFU ((fun k (x : Nat) => (nI x, nI k)) 0 0) = some b ∧ b = nI (yOs a d) := by
    refine y_for (fun k (x : Nat) => (nI x, nI k)) (a 0 1) (fun k x => x = yMk (fun i => yOpen a i d) k) _ ?_ ?_ zFU 0 0 (by omega) rfl (by unfold zFU; omega)
    · intro k x hk hx
      refine ⟨x ||| (if yOpen a k d then 2 ^ k else 0), ?_, by rw [hx]; rfl⟩
      unfold fX10_openOn_L4 fX10_openOn_L4J29
      rw [y_u2, hg.1.2.1, y_le_f (by omega) (by omega), s10_isOpen ok hg hk hd, y_b1]
      cases ho : yOpen a k d
      · rw [if_pos (by rfl), y_lt_e, y_lt_e, show (0 : Int32) = nI 0 from rfl, y_or, show (1 : Int32) = nI 1 from rfl, y_add]; simp
      · rw [if_neg (by decide), y_lt_e, y_lt_e, y_one (by omega), y_or, show (1 : Int32) = nI 1 from rfl, y_add]; simp
    · intro x hx
      refine ⟨_, ?_, rfl⟩
      unfold fX10_openOn_L4
      rw [y_u2, hg.1.2.1, y_le_t (by omega) (by omega), hx]
      rfl
  obtain ⟨b, hb, rfl⟩ := key
  unfold fX10_openOn
  rw [show ((0, 0) : Int32 × Int32) = (fun k (x : Nat) => (nI x, nI k)) 0 0 from rfl, hb, y_b1, y_u1]
