/-! ===== prove ===== -/
theorem yTd_adj {a : yA} (ok : yOk a) {p q d : Nat} : yTd a p q d = true ↔ yAdj a (yOs a d) p q := by
  rw [yTd_i]
  unfold yAdj
  constructor
  · rintro ⟨i, hi, h1, h2, h3⟩
    refine ⟨i, hi, by rw [yOs_t, h3]; simp [hi], ?_⟩
    by_cases c : p < q
    · rw [if_pos c] at h1 h2; exact Or.inl ⟨h1, h2⟩
    · rw [if_neg c] at h1 h2; exact Or.inr ⟨h1, h2⟩
  · rintro ⟨i, hi, h1, h2⟩
    have o := ok.2.2.1 i hi
    rw [yOs_t] at h1
    simp [hi] at h1
    refine ⟨i, hi, ?_⟩
    rcases h2 with ⟨e1, e2⟩ | ⟨e1, e2⟩
    · rw [if_pos (by omega), if_pos (by omega)]; exact ⟨e1, e2, h1⟩
    · rw [if_neg (by omega), if_neg (by omega)]; exact ⟨e1, e2, h1⟩
theorem yTd_mono {a : yA} {p q d e : Nat} (h : d ≤ e) (ht : yTd a p q e = true) : yTd a p q d = true := by
  obtain ⟨i, hi, h1, h2, h3⟩ := yTd_i.mp ht
  exact yTd_i.mpr ⟨i, hi, h1, h2, yOpen_mono h h3⟩
/-- early: known behind so many days, not before -/
def yEy (a : yA) (f q e : Nat) : Prop := (yKn a (2 ^ f) e).testBit q = true ∧ ∀ j, j < e → (yKn a (2 ^ f) j).testBit q = false
theorem yEy_lt {a : yA} (ok : yOk a) {f q e : Nat} (hf : f < a 0 0) (h : yEy a f q e) : q < a 0 0 := by
  rcases Nat.lt_or_ge q (a 0 0) with c | c
  · exact c
  · exfalso
    have : ∀ d p, (yKn a (2 ^ f) d).testBit p = true → p < a 0 0 := by
      intro d
      induction d with
      | zero =>
        intro p hp
        unfold yKn at hp
        rw [Nat.testBit_two_pow] at hp
        have := of_decide_eq_true hp
        omega
      | succ d ih =>
        intro p hp
        unfold yKn at hp
        rcases (yAr_t ok _ _ _).mp hp with h | ⟨r, _, had⟩
        · exact ih p h
        · exact (had.lt ok).2
    have := this e q h.1
    omega
/-- the teller: one who has known just the day before -/
theorem yEy_by {a : yA} (ok : yOk a) {f q e : Nat} (h : yEy a f q (e + 1)) : (∃ p, p < a 0 0 ∧ (yKn a (2 ^ f) e).testBit p = true ∧ yTd a p q e = true) ∧ ∀ p, (yKn a (2 ^ f) e).testBit p = true → yTd a p q e = true → yEy a f p e := by
  constructor
  · have h1 := h.1
    unfold yKn at h1
    rcases (yAr_t ok _ _ _).mp h1 with hq | ⟨p, hp, had⟩
    · rw [h.2 e (by omega)] at hq; cases hq
    · exact ⟨p, (had.lt ok).1, hp, (yTd_adj ok).mpr had⟩
  · intro p hp ht
    refine ⟨hp, fun j hj => ?_⟩
    cases c : (yKn a (2 ^ f) j).testBit p
    · rfl
    · exfalso
      have : (yKn a (2 ^ f) (j + 1)).testBit q = true := by
        unfold yKn
        exact (yAr_t ok _ _ _).mpr (Or.inr ⟨p, c, (yTd_adj ok).mp (yTd_mono (by omega) ht)⟩)
      rw [h.2 (j + 1) (by omega)] at this; cases this
theorem yPop10K : (List.range 1024).all (fun x => Nat.ble (yPop x) 10) = true := by decide +kernel
theorem yPop10 {x : Nat} (h : x < 2 ^ 10) : yPop x ≤ 10 := Nat.le_of_ble_eq_true (List.all_eq_true.mp yPop10K x (List.mem_range.mpr h))
theorem yEy_le {a : yA} (ok : yOk a) {f q e : Nat} (hf : f < a 0 0) (h : yEy a f q e) : e ≤ 9 := by
  have h0 := ok.1
  have hf10 : 2 ^ f < 2 ^ 10 := y_pow_lt (by omega)
  have grow : ∀ d, d ≤ e → d + 1 ≤ yPop (yKn a (2 ^ f) d) := by
    intro d
    induction d with
    | zero =>
      intro _
      unfold yKn
      have : (List.range 10).all (fun f => Nat.ble 1 (yPop (2 ^ f))) = true := by decide +kernel
      exact Nat.le_of_ble_eq_true (List.all_eq_true.mp this f (List.mem_range.mpr (by omega)))
    | succ d ih =>
      intro hd
      have i1 := ih (by omega)
      rcases Nat.lt_or_ge (yPop (yKn a (2 ^ f) d)) (yPop (yKn a (2 ^ f) (d + 1))) with c | c
      · omega
      · exfalso
        have e1 := y_sub_eq (yKn_lt ok hf10 (d + 1)) (fun i hi => yKn_up ok (Nat.le_succ d) hi) c
        have e2 := yKn_stop ok e1.symm e (by omega)
        have := h.1
        rw [e2, h.2 d (by omega)] at this; cases this
  have := grow e (by omega)
  have := yPop10 (yKn_lt ok hf10 e)
  omega
/-- the least teller -/
def yBy (a : yA) (f q e p : Nat) : Prop := p < a 0 0 ∧ (yKn a (2 ^ f) e).testBit p = true ∧ yTd a p q e = true ∧ ∀ r, r < p → ¬ ((yKn a (2 ^ f) e).testBit r = true ∧ yTd a r q e = true)
theorem yBy_e {a : yA} (ok : yOk a) {f q e : Nat} (h : yEy a f q (e + 1)) : ∃ p, yBy a f q e p := by
  obtain ⟨p, h1, h2, h3⟩ := (yEy_by ok h).1
  have : ∀ n p, p ≤ n → p < a 0 0 → (yKn a (2 ^ f) e).testBit p = true → yTd a p q e = true → ∃ p, yBy a f q e p := by
    intro n
    induction n with
    | zero =>
      intro p hp g1 g2 g3
      exact ⟨p, g1, g2, g3, fun r hr => absurd hr (by omega)⟩
    | succ n ih =>
      intro p hp g1 g2 g3
      by_cases c : ∃ r, r < p ∧ (yKn a (2 ^ f) e).testBit r = true ∧ yTd a r q e = true
      · obtain ⟨r, r1, r2, r3⟩ := c
        exact ih r (by omega) (by omega) r2 r3
      · exact ⟨p, g1, g2, g3, fun r hr hh => c ⟨r, hr, hh.1, hh.2⟩⟩
  exact this p p (Nat.le_refl _) h1 h2 h3
theorem s5_leastTeller {w : zM} {a : yA} (ok : yOk a) (hc : yC w a) {f q e p : Nat} (hf : f < a 0 0) (hq : q < a 0 0) (he : e < 100) (h : yBy a f q e p) : fX5_leastTeller w (nI (yKn a (2 ^ f) e)) (nI q) (nI e) = some (nI p) := by
  have h0 := ok.1
  have hK := yKn_lt ok (show 2 ^ f < 2 ^ 10 from y_pow_lt (by omega)) e
  obtain ⟨h1, h2, h3, h4⟩ := h
  have key : ∃ b, zLp (fX5_leastTeller_L3 (nI (yKn a (2 ^ f) e)) (nI q) (nI e) w) zFU 0 = some b ∧ b = .inr (nI p) := by
    refine y_lp (fun s => ∃ n, s = nI n ∧ n ≤ p) (fun s => 20 - s.toNatClampNeg) _ ?_ zFU 0 ⟨0, rfl, by omega⟩ (by unfold zFU; omega)
    rintro s ⟨n, rfl, hn⟩
    have hnx : ¬ n = p → ∃ z, (some (.inl (nI (n + 1))) : Option (Int32 ⊕ (Unit ⊕ Int32))) = some z ∧ zSm z (fun a' => (∃ n, a' = nI n ∧ n ≤ p) ∧ 20 - a'.toNatClampNeg < 20 - (nI n).toNatClampNeg) (fun b => b = .inr (nI p)) := fun c => ⟨_, rfl, ⟨n + 1, rfl, by omega⟩, by rw [y_cl (by omega), y_cl (by omega)]; omega⟩
    unfold fX5_leastTeller_L3 fX5_leastTeller_L3J35
    rw [y_u1, hc.1.1, y_le_f (by omega) (by omega), y_lt_e, y_a1]
    simp only [y_bit0 (show yKn a (2 ^ f) e < 2147483648 by omega) (show n < 31 by omega)]
    have told := s5_isTold ok hc (show n < a 0 0 by omega) he (nI q)
    have told2 : fX5_isTold w (nI n) (nI q) (nI e) = some (yBl (yTd a n q e)) := by
      rcases told with ⟨q', hq', e1, e2⟩ | ⟨e1, -⟩
      · rw [e2, (nI_eq (by omega) (by omega)).mp e1]
      · rw [y_in hq (by omega)] at e1; cases e1
    rw [told2, y_b1]
    by_cases c : n = p
    · subst c
      rw [h2, h3, if_neg (by decide), y_bl_t rfl]
      exact ⟨_, rfl, rfl⟩
    · cases b1 : (yKn a (2 ^ f) e).testBit n
      · rw [if_pos rfl]; exact hnx c
      · rw [if_neg (by decide)]
        cases b2 : yTd a n q e
        · rw [y_bl_f rfl]; exact hnx c
        · exact absurd ⟨b1, b2⟩ (h4 n (by omega))
  obtain ⟨b, e1, rfl⟩ := key
  unfold fX5_leastTeller
  rw [e1, y_b1, y_smr, y_u1]
theorem s10_by {g : zM} {gl : zL} {a : yA} (ok : yOk a) (hg : yG g a) {f q e p : Nat} (hf : f < a 0 0) (hq : q < a 0 0) (he : e < 100) (hk : ∀ d, d ≤ 100 → g 13 d = nI (yKn a (2 ^ f) d)) (h : yBy a f q e p) : zLp (fX10_prove_L60 gl (nI q) g (nI e)) zFU 0 = some (nI p) := by
  have h0 := ok.1
  have hK := yKn_lt ok (show 2 ^ f < 2 ^ 10 from y_pow_lt (by omega)) e
  obtain ⟨h1, h2, h3, h4⟩ := h
  have key : ∃ b, zLp (fX10_prove_L60 gl (nI q) g (nI e)) zFU 0 = some b ∧ b = nI p := by
    refine y_lp (fun s => ∃ n, s = nI n ∧ n ≤ p) (fun s => 20 - s.toNatClampNeg) _ ?_ zFU 0 ⟨0, rfl, by omega⟩ (by unfold zFU; omega)
    rintro s ⟨n, rfl, hn⟩
    have hnx : ¬ n = p → ∃ z, (some (.inl (nI (n + 1))) : Option (Int32 ⊕ Int32)) = some z ∧ zSm z (fun a' => (∃ n, a' = nI n ∧ n ≤ p) ∧ 20 - a'.toNatClampNeg < 20 - (nI n).toNatClampNeg) (fun b => b = nI p) := fun c => ⟨_, rfl, ⟨n + 1, rfl, by omega⟩, by rw [y_cl (by omega), y_cl (by omega)]; omega⟩
    unfold fX10_prove_L60 fX10_prove_L60J88
    have ec : (nI e).toNatClampNeg = e := y_cl (by omega)
    rw [y_u1, y_gin (by omega) (by omega), y_lt_e, y_lt_e, y_a1, ec, hk e (by omega), s10_areOpen ok hg (by omega) hq he, y_b1]
    simp only [y_bit0 (show yKn a (2 ^ f) e < 2147483648 by omega) (show n < 31 by omega)]
    by_cases c : n = p
    · subst c
      rw [h2, h3, if_neg (by decide), y_bl_t rfl]
      exact ⟨_, rfl, rfl⟩
    · cases b1 : (yKn a (2 ^ f) e).testBit n
      · rw [if_pos rfl]; exact hnx c
      · rw [if_neg (by decide)]
        cases b2 : yTd a n q e
        · rw [y_bl_f rfl]; exact hnx c
        · exact absurd ⟨b1, b2⟩ (h4 n (by omega))
  obtain ⟨b, e1, rfl⟩ := key
  exact e1
