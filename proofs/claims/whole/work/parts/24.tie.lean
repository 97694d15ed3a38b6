/-! ===== ties come ===== -/
theorem yC.n1 {w : zM} {a : yA} (hc : yC w a) {n : Nat} {x : Int32} (hx : x = nI n) (h : ∀ k, k < n → ¬ k < a 0 1 → w 3 k = nI (a 3 k) ∧ w 4 k = nI (a 4 k) ∧ w 5 k = nI (a 5 k) ∧ w 6 k = nI (a 6 k) ∧ w 7 k = nI (a 7 k)) : yC (zPu w 0 3 x) (ySt a 0 1 n) := by
  obtain ⟨⟨c1, c2, c3⟩, c4, c5, c6, c7, c8, c9, c10, c11, c12, c13⟩ := hc
  refine ⟨⟨c1, hx, c3⟩, c4, c5, ?_, ?_, ?_, ?_, ?_, c11, c12, c13⟩
  · intro k hk; by_cases c : k < a 0 1
    · exact c6 k c
    · exact (h k hk c).1
  · intro k hk; by_cases c : k < a 0 1
    · exact c7 k c
    · exact (h k hk c).2.1
  · intro k hk; by_cases c : k < a 0 1
    · exact c8 k c
    · exact (h k hk c).2.2.1
  · intro k hk; by_cases c : k < a 0 1
    · exact c9 k c
    · exact (h k hk c).2.2.2.1
  · intro k hk; by_cases c : k < a 0 1
    · exact c10 k c
    · exact (h k hk c).2.2.2.2
theorem yG.n1 {g : zM} {a : yA} (hg : yG g a) {n : Nat} {x : Int32} (hx : x = nI n) (h : ∀ k, k < n → ¬ k < a 0 1 → g 2 (5 * k) = nI (a 3 k) ∧ g 2 (5 * k + 1) = nI (a 4 k) ∧ g 2 (5 * k + 2) = nI (a 5 k) ∧ g 2 (5 * k + 3) = nI (a 6 k) ∧ g 2 (5 * k + 4) = nI (a 7 k)) : yG (zPu g 0 2 x) (ySt a 0 1 n) := by
  obtain ⟨⟨c1, c2, c3⟩, c4, c5, c6, c7, c8, c9, c10, c11, c12, c13⟩ := hg
  refine ⟨⟨c1, hx, c3⟩, c4, c5, ?_, ?_, ?_, ?_, ?_, c11, c12, c13⟩
  · intro k hk; by_cases c : k < a 0 1
    · exact c6 k c
    · exact (h k hk c).1
  · intro k hk; by_cases c : k < a 0 1
    · exact c7 k c
    · exact (h k hk c).2.1
  · intro k hk; by_cases c : k < a 0 1
    · exact c8 k c
    · exact (h k hk c).2.2.1
  · intro k hk; by_cases c : k < a 0 1
    · exact c9 k c
    · exact (h k hk c).2.2.2.1
  · intro k hk; by_cases c : k < a 0 1
    · exact c10 k c
    · exact (h k hk c).2.2.2.2
def yAddT (a : yA) (p q wo od mu : Nat) : yA := ySt (ySt (ySt (ySt (ySt (ySt a 3 (a 0 1) p) 4 (a 0 1) q) 5 (a 0 1) wo) 6 (a 0 1) od) 7 (a 0 1) mu) 0 1 (a 0 1 + 1)
theorem yAddT_0 (a : yA) (p q wo od mu : Nat) : yAddT a p q wo od mu 0 1 = a 0 1 + 1 := ySt_s _ _ _ _
theorem yAddT_o (a : yA) (p q wo od mu r k : Nat) (hr : r ≠ 0) (e : k ≠ a 0 1) : yAddT a p q wo od mu r k = a r k := by
  unfold yAddT
  rw [ySt_r _ _ _ _ _ _ hr, ySt_j _ _ _ _ _ _ e, ySt_j _ _ _ _ _ _ e, ySt_j _ _ _ _ _ _ e, ySt_j _ _ _ _ _ _ e, ySt_j _ _ _ _ _ _ e]
theorem yAddT_n (a : yA) (p q wo od mu : Nat) : yAddT a p q wo od mu 3 (a 0 1) = p ∧ yAddT a p q wo od mu 4 (a 0 1) = q ∧ yAddT a p q wo od mu 5 (a 0 1) = wo ∧ yAddT a p q wo od mu 6 (a 0 1) = od ∧ yAddT a p q wo od mu 7 (a 0 1) = mu := by
  unfold yAddT
  refine ⟨?_, ?_, ?_, ?_, ?_⟩
  · rw [ySt_r _ _ _ _ _ _ (by omega), ySt_r _ _ _ _ _ _ (by omega), ySt_r _ _ _ _ _ _ (by omega), ySt_r _ _ _ _ _ _ (by omega), ySt_r _ _ _ _ _ _ (by omega), ySt_s]
  · rw [ySt_r _ _ _ _ _ _ (by omega), ySt_r _ _ _ _ _ _ (by omega), ySt_r _ _ _ _ _ _ (by omega), ySt_r _ _ _ _ _ _ (by omega), ySt_s]
  · rw [ySt_r _ _ _ _ _ _ (by omega), ySt_r _ _ _ _ _ _ (by omega), ySt_r _ _ _ _ _ _ (by omega), ySt_s]
  · rw [ySt_r _ _ _ _ _ _ (by omega), ySt_r _ _ _ _ _ _ (by omega), ySt_s]
  · rw [ySt_r _ _ _ _ _ _ (by omega), ySt_s]
theorem yOk.addT {a : yA} (ok : yOk a) {p q wo od mu : Nat} (h14 : a 0 1 < 14) (hp : p < q) (hq : q < a 0 0) (hw : wo ≤ 99) (ho : 1 ≤ od ∧ od ≤ 4) (hm : mu ≤ 1) (hn : ∀ i, i < a 0 1 → ¬ (a 3 i = p ∧ a 4 i = q)) : yOk (yAddT a p q wo od mu) := by
  obtain ⟨o1, o2, o3, o4, o5⟩ := ok
  obtain ⟨n3, n4, n5, n6, n7⟩ := yAddT_n a p q wo od mu
  have e0 := yAddT_0 a p q wo od mu
  refine ⟨⟨o1.1, o1.2.1, by rw [e0]; omega, o1.2.2.2⟩, o2, ?_, ?_, ?_⟩
  · intro i hi
    rw [e0] at hi
    by_cases e : i = a 0 1
    · subst e; rw [n3, n4, n5, n6, n7]; exact ⟨hp, hq, hw, ho.1, ho.2, hm⟩
    · rw [yAddT_o _ _ _ _ _ _ _ _ (by omega) e, yAddT_o _ _ _ _ _ _ _ _ (by omega) e, yAddT_o _ _ _ _ _ _ _ _ (by omega) e, yAddT_o _ _ _ _ _ _ _ _ (by omega) e, yAddT_o _ _ _ _ _ _ _ _ (by omega) e]
      exact o3 i (by omega)
  · intro k hk
    obtain ⟨q1, q2, q3, q4, q5⟩ := o4 k hk
    exact ⟨q1, q2, q3, q4, fun h => by rw [e0]; exact Nat.lt_succ_of_lt (q5 h)⟩
  · intro i j hi hj h1 h2
    rw [e0] at hi hj
    by_cases e : i = a 0 1
    · by_cases f : j = a 0 1
      · omega
      · rw [yAddT_o _ _ _ _ _ _ _ _ (by omega) f, e, n3] at h1
        rw [yAddT_o _ _ _ _ _ _ _ _ (by omega) f, e, n4] at h2
        exact absurd ⟨h1.symm, h2.symm⟩ (hn j (by omega))
    · rw [yAddT_o _ _ _ _ _ _ _ _ (by omega) e] at h1 h2
      by_cases f : j = a 0 1
      · rw [f, n3] at h1
        rw [f, n4] at h2
        exact absurd ⟨h1, h2⟩ (hn i (by omega))
      · rw [yAddT_o _ _ _ _ _ _ _ _ (by omega) f] at h1 h2
        exact o5 i j (by omega) (by omega) h1 h2
theorem yC.addT {w : zM} {a : yA} (hc : yC w a) {p q wo od mu : Nat} : yC (zPu (zPu (zPu (zPu (zPu (zPu w 3 (a 0 1) (nI p)) 4 (a 0 1) (nI q)) 5 (a 0 1) (nI wo)) 6 (a 0 1) (nI od)) 7 (a 0 1) (nI mu)) 0 3 (nI (a 0 1 + 1))) (yAddT a p q wo od mu) := by
  have h1 := ((((hc.st (r := 3) (j := a 0 1) (v := p) (x := nI p) (by omega) rfl).st (r := 4) (j := a 0 1) (v := q) (x := nI q) (by omega) rfl).st (r := 5) (j := a 0 1) (v := wo) (x := nI wo) (by omega) rfl).st (r := 6) (j := a 0 1) (v := od) (x := nI od) (by omega) rfl).st (r := 7) (j := a 0 1) (v := mu) (x := nI mu) (by omega) rfl
  refine h1.n1 rfl ?_
  intro k hk hk2
  have e : k = a 0 1 := by
    have : ¬ k < a 0 1 := hk2
    omega
  subst e
  refine ⟨?_, ?_, ?_, ?_, ?_⟩
  · rw [zPu_k (by omega), zPu_k (by omega), zPu_k (by omega), zPu_k (by omega), zPu_s, ySt_r _ _ _ _ _ _ (by omega), ySt_r _ _ _ _ _ _ (by omega), ySt_r _ _ _ _ _ _ (by omega), ySt_r _ _ _ _ _ _ (by omega), ySt_s]
  · rw [zPu_k (by omega), zPu_k (by omega), zPu_k (by omega), zPu_s, ySt_r _ _ _ _ _ _ (by omega), ySt_r _ _ _ _ _ _ (by omega), ySt_r _ _ _ _ _ _ (by omega), ySt_s]
  · rw [zPu_k (by omega), zPu_k (by omega), zPu_s, ySt_r _ _ _ _ _ _ (by omega), ySt_r _ _ _ _ _ _ (by omega), ySt_s]
  · rw [zPu_k (by omega), zPu_s, ySt_r _ _ _ _ _ _ (by omega), ySt_s]
  · rw [zPu_s, ySt_s]
theorem yG.addT {g : zM} {a : yA} (hg : yG g a) {p q wo od mu : Nat} : yG (zPu (zPu (zPu (zPu (zPu (zPu g 2 (5 * a 0 1) (nI p)) 2 (5 * a 0 1 + 1) (nI q)) 2 (5 * a 0 1 + 2) (nI wo)) 2 (5 * a 0 1 + 3) (nI od)) 2 (5 * a 0 1 + 4) (nI mu)) 0 2 (nI (a 0 1 + 1))) (yAddT a p q wo od mu) := by
  have h1 := ((((hg.st (r := 3) (j := a 0 1) (v := p) (k := 2) (i := 5 * a 0 1) (by omega) rfl rfl rfl).st (r := 4) (j := a 0 1) (v := q) (k := 2) (i := 5 * a 0 1 + 1) (by omega) rfl rfl rfl).st (r := 5) (j := a 0 1) (v := wo) (k := 2) (i := 5 * a 0 1 + 2) (by omega) rfl rfl rfl).st (r := 6) (j := a 0 1) (v := od) (k := 2) (i := 5 * a 0 1 + 3) (by omega) rfl rfl rfl).st (r := 7) (j := a 0 1) (v := mu) (k := 2) (i := 5 * a 0 1 + 4) (by omega) rfl rfl rfl
  refine h1.n1 rfl ?_
  intro k hk hk2
  have e : k = a 0 1 := by
    have : ¬ k < a 0 1 := hk2
    omega
  subst e
  refine ⟨?_, ?_, ?_, ?_, ?_⟩
  · rw [zPu_j (by omega), zPu_j (by omega), zPu_j (by omega), zPu_j (by omega), zPu_s, ySt_r _ _ _ _ _ _ (by omega), ySt_r _ _ _ _ _ _ (by omega), ySt_r _ _ _ _ _ _ (by omega), ySt_r _ _ _ _ _ _ (by omega), ySt_s]
  · rw [zPu_j (by omega), zPu_j (by omega), zPu_j (by omega), zPu_s, ySt_r _ _ _ _ _ _ (by omega), ySt_r _ _ _ _ _ _ (by omega), ySt_r _ _ _ _ _ _ (by omega), ySt_s]
  · rw [zPu_j (by omega), zPu_j (by omega), zPu_s, ySt_r _ _ _ _ _ _ (by omega), ySt_r _ _ _ _ _ _ (by omega), ySt_s]
  · rw [zPu_j (by omega), zPu_s, ySt_r _ _ _ _ _ _ (by omega), ySt_s]
  · rw [zPu_s, ySt_s]
/-- a row told anew -/
theorem yAddT_a (a : yA) (p q : Nat) {wo od mu wo' od' mu' : Nat} : ySt (ySt (ySt (yAddT a p q wo od mu) 5 (a 0 1) wo') 6 (a 0 1) od') 7 (a 0 1) mu' = yAddT a p q wo' od' mu' := by
  funext r j
  unfold yAddT
  by_cases h7 : r = 7 ∧ j = a 0 1
  · obtain ⟨rfl, rfl⟩ := h7; simp [ySt]
  by_cases h6 : r = 6 ∧ j = a 0 1
  · obtain ⟨rfl, rfl⟩ := h6; simp [ySt]
  by_cases h5 : r = 5 ∧ j = a 0 1
  · obtain ⟨rfl, rfl⟩ := h5; simp [ySt]
  · unfold ySt
    simp only [if_neg h7, if_neg h6, if_neg h5]
/-! ===== the tie of two ===== -/
theorem s8_tieBetween {w : zM} {a : yA} (ok : yOk a) (hc : yC w a) (x y : Int32) : (∃ i, i < a 0 1 ∧ nI (a 3 i) = (if y < x then y else x) ∧ nI (a 4 i) = (if x < y then y else x) ∧ fX8_tieBetween w x y = some (nI i)) ∨ ((∀ i, i < a 0 1 → ¬ (nI (a 3 i) = (if y < x then y else x) ∧ nI (a 4 i) = (if x < y then y else x))) ∧ fX8_tieBetween w x y = some (-1)) := by
  have h0 := ok.1
  have key : ∃ b, zLp (fX8_tieBetween_L2 x y w) zFU 0 = some b ∧ ((∃ i, i < a 0 1 ∧ nI (a 3 i) = (if y < x then y else x) ∧ nI (a 4 i) = (if x < y then y else x) ∧ b = .inr (nI i)) ∨ ((∀ i, i < a 0 1 → ¬ (nI (a 3 i) = (if y < x then y else x) ∧ nI (a 4 i) = (if x < y then y else x))) ∧ b = .inl ())) := by
    refine y_lp (fun s => ∃ n, s = nI n ∧ n ≤ a 0 1 ∧ ∀ i, i < n → ¬ (nI (a 3 i) = (if y < x then y else x) ∧ nI (a 4 i) = (if x < y then y else x))) (fun s => 20 - s.toNatClampNeg) _ ?_ zFU 0 ⟨0, rfl, by omega, fun i hi => absurd hi (by omega)⟩ (by unfold zFU; omega)
    rintro s ⟨n, rfl, hn, hI⟩
    unfold fX8_tieBetween_L2 fX8_tieBetween_L2J40
    rw [y_u1, hc.1.2.1]
    by_cases c : n < a 0 1
    · rw [y_le_f (by omega) (by omega), y_gin (by omega) (by omega), y_lt_e, y_lt_e, y_cl (by omega), hc.2.2.2.1 n c, y_lt_e, y_gin (by omega) (by omega), y_lt_e, y_lt_e, hc.2.2.2.2.1 n c, y_a1]
      have next : (¬ (nI (a 3 n) = (if y < x then y else x) ∧ nI (a 4 n) = (if x < y then y else x))) → ∃ n', nI (n + 1) = nI n' ∧ n' ≤ a 0 1 ∧ ∀ i, i < n' → ¬ (nI (a 3 i) = (if y < x then y else x) ∧ nI (a 4 i) = (if x < y then y else x)) := fun h => ⟨n + 1, rfl, by omega, fun i hi => by
        by_cases e : i = n
        · rw [e]; exact h
        · exact hI i (by omega)⟩
      have mu : 20 - (nI (n + 1)).toNatClampNeg < 20 - n := by rw [y_cl (by omega)]; omega
      by_cases e1 : nI (a 3 n) = (if y < x then y else x)
      · rw [if_pos e1]
        by_cases e2 : nI (a 4 n) = (if x < y then y else x)
        · rw [if_pos e2]; exact ⟨_, rfl, Or.inl ⟨n, c, e1, e2, rfl⟩⟩
        · rw [if_neg e2]; exact ⟨_, rfl, next (fun h => e2 h.2), mu⟩
      · rw [if_neg e1]; exact ⟨_, rfl, next (fun h => e1 h.1), mu⟩
    · rw [y_le_t (by omega) (by omega)]
      exact ⟨_, rfl, Or.inr ⟨fun i hi => hI i (by omega), rfl⟩⟩
  obtain ⟨b, e, h⟩ := key
  unfold fX8_tieBetween
  rw [e, y_b1]
  rcases h with ⟨i, h1, h2, h3, rfl⟩ | ⟨h1, rfl⟩
  · exact Or.inl ⟨i, h1, h2, h3, rfl⟩
  · exact Or.inr ⟨h1, rfl⟩
theorem y_mn {p q : Nat} (hp : p < 2147483648) (hq : q < 2147483648) : (if nI q < nI p then nI q else nI p) = nI (if p < q then p else q) := by
  by_cases c : q < p
  · rw [y_lt_t c hp, if_neg (by omega)]
  · rw [y_lt_f (by omega) hq]
    by_cases d : p < q
    · rw [if_pos d]
    · rw [if_neg d, show p = q by omega]
theorem y_mx {p q : Nat} (hp : p < 2147483648) (hq : q < 2147483648) : (if nI p < nI q then nI q else nI p) = nI (if p < q then q else p) := by
  by_cases d : p < q
  · rw [y_lt_t d hq, if_pos d]
  · rw [y_lt_f (by omega) hp, if_neg d]
theorem y_ends {a : yA} (ok : yOk a) {i p q : Nat} (hi : i < a 0 1) (hp : p < 10) (hq : q < 10) (hpq : p ≠ q) : (yEn a i = 2 ^ p ||| 2 ^ q) ↔ (a 3 i = (if p < q then p else q) ∧ a 4 i = (if p < q then q else p)) := by
  obtain ⟨o1, o2, -⟩ := ok.2.2.1 i hi
  have h0 := ok.1
  unfold yEn
  constructor
  · intro h
    have t : ∀ k, (k = a 3 i ∨ k = a 4 i) ↔ (k = p ∨ k = q) := fun k => by
      have := congrArg (fun n => Nat.testBit n k) h
      simp only [Nat.testBit_or, Nat.testBit_two_pow] at this
      have := Bool.eq_iff_iff.mp this
      simp only [Bool.or_eq_true, decide_eq_true_eq] at this
      omega
    have t1 := (t (a 3 i)).mp (Or.inl rfl)
    have t2 := (t (a 4 i)).mp (Or.inr rfl)
    by_cases c : p < q
    · rw [if_pos c, if_pos c]; omega
    · rw [if_neg c, if_neg c]; omega
  · rintro ⟨h1, h2⟩
    rw [h1, h2]
    by_cases c : p < q
    · rw [if_pos c, if_pos c]
    · rw [if_neg c, if_neg c, Nat.or_comm]
