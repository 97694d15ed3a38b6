/-! ===== sums ===== -/
def ySg (f : Nat → Nat) : Nat → Nat
  | 0 => 0
  | n + 1 => ySg f n + f n
theorem ySg_c {f g : Nat → Nat} : ∀ n, (∀ i, i < n → f i = g i) → ySg f n = ySg g n
  | 0, _ => rfl
  | n + 1, h => by
    unfold ySg
    rw [ySg_c n (fun i hi => h i (by omega)), h n (by omega)]
theorem ySg_a (f g : Nat → Nat) : ∀ n, ySg (fun i => f i + g i) n = ySg f n + ySg g n
  | 0 => rfl
  | n + 1 => by
    unfold ySg
    rw [ySg_a f g n]
    omega
theorem ySg_m (c : Nat) (f : Nat → Nat) : ∀ n, ySg (fun i => c * f i) n = c * ySg f n
  | 0 => rfl
  | n + 1 => by
    unfold ySg
    rw [ySg_m c f n, Nat.mul_add]
theorem ySg_0 : ∀ n, ySg (fun _ => 0) n = 0
  | 0 => rfl
  | n + 1 => by unfold ySg; rw [ySg_0 n]
theorem ySg_s (f : Nat → Nat) (m : Nat) : ∀ n, ySg f (m + n) = ySg f m + ySg (fun i => f (m + i)) n
  | 0 => rfl
  | n + 1 => by
    show ySg f (m + n) + f (m + n) = ySg f m + (ySg (fun i => f (m + i)) n + f (m + n))
    rw [ySg_s f m n]
    omega
theorem ySg_x (f : Nat → Nat → Nat) (m : Nat) : ∀ n, ySg (fun i => ySg (fun j => f i j) m) n = ySg (fun j => ySg (fun i => f i j) n) m
  | 0 => by
    show 0 = ySg (fun _ => 0) m
    rw [ySg_0]
  | n + 1 => by
    show ySg (fun i => ySg (fun j => f i j) m) n + ySg (fun j => f n j) m = ySg (fun j => ySg (fun i => f i j) n + f n j) m
    rw [ySg_x f m n, ySg_a]
theorem ySg_b {f : Nat → Nat} {c : Nat} : ∀ n, (∀ i, i < n → f i ≤ c) → ySg f n ≤ c * n
  | 0, _ => Nat.zero_le _
  | n + 1, h => by
    have h1 := ySg_b n (fun i hi => h i (by omega))
    have h2 := h n (by omega)
    unfold ySg
    rw [Nat.mul_succ]
    omega
/-! ===== sums over the subsets of a set ===== -/
def ySb (U : Nat) : Nat → (Nat → Nat) → Nat
  | 0, F => F 0
  | k + 1, F => ySb U k F + (if U.testBit k then ySb U k (fun s => F (2 ^ k + s)) else 0)
theorem ySb_a (U : Nat) : ∀ (k : Nat) (F G : Nat → Nat), ySb U k (fun s => F s + G s) = ySb U k F + ySb U k G
  | 0, _, _ => rfl
  | k + 1, F, G => by
    unfold ySb
    rw [ySb_a U k F G]
    by_cases c : U.testBit k = true
    · rw [if_pos c, if_pos c, if_pos c, ySb_a U k (fun s => F (2 ^ k + s)) (fun s => G (2 ^ k + s))]
      omega
    · rw [if_neg c, if_neg c, if_neg c]
      omega
theorem ySb_0 (U : Nat) : ∀ k, ySb U k (fun _ => 0) = 0
  | 0 => rfl
  | k + 1 => by
    unfold ySb
    rw [ySb_0 U k]
    by_cases c : U.testBit k = true
    · rw [if_pos c]
    · rw [if_neg c]
theorem ySb_g (U k : Nat) (F : Nat → Nat → Nat) : ∀ n, ySg (fun p => ySb U k (fun s => F s p)) n = ySb U k (fun s => ySg (fun p => F s p) n)
  | 0 => (ySb_0 U k).symm
  | n + 1 => by
    show ySg (fun p => ySb U k (fun s => F s p)) n + ySb U k (fun s => F s n) = ySb U k (fun s => ySg (fun p => F s p) n + F s n)
    rw [ySb_g U k F n, ySb_a]
theorem ySb_e {U : Nat} {F G : Nat → Nat} (h : ∀ s, F s = G s) (k : Nat) : ySb U k F = ySb U k G := by
  rw [show F = G from funext h]
theorem ySb_b {U c : Nat} : ∀ (k : Nat) (F : Nat → Nat), (∀ s, F s ≤ c) → ySb U k F ≤ c * 2 ^ k
  | 0, F, h => by
    have := h 0
    unfold ySb
    omega
  | k + 1, F, h => by
    have h1 := ySb_b (U := U) k F h
    have h2 := ySb_b (U := U) k (fun s => F (2 ^ k + s)) (fun s => h _)
    unfold ySb
    rw [Nat.pow_succ, ← Nat.mul_assoc]
    split <;> omega
theorem yPopK_s : ∀ (k U : Nat), yPopK (k + 1) U = yPopK k U + (if U.testBit k then 1 else 0)
  | 0, U => by
    unfold yPopK yPopK
    rw [Nat.testBit_zero]
    rcases Nat.mod_two_eq_zero_or_one U with h | h <;> simp [h, yPopK]
  | k + 1, U => by
    have ih := yPopK_s k (U / 2)
    rw [Nat.testBit_add_one]
    rw [show yPopK (k + 1 + 1) U = U % 2 + yPopK (k + 1) (U / 2) from rfl, show yPopK (k + 1) U = U % 2 + yPopK k (U / 2) from rfl, ih]
    omega
theorem yPopK_g (U : Nat) : ∀ k, yPopK k U = ySg (fun i => if U.testBit i then 1 else 0) k
  | 0 => rfl
  | k + 1 => by rw [yPopK_s, yPopK_g U k]; rfl
theorem yPopK_up {U j : Nat} : ∀ k, j ≤ k → yPopK j U ≤ yPopK k U
  | 0, h => by
    have : j = 0 := by omega
    subst this; exact Nat.le_refl _
  | k + 1, h => by
    rcases Nat.lt_or_ge j (k + 1) with c | c
    · have := yPopK_up (U := U) (j := j) k (by omega)
      rw [yPopK_s]; omega
    · have : j = k + 1 := by omega
      subst this; exact Nat.le_refl _
theorem ySg_hi {f : Nat → Nat} {n : Nat} (h : ∀ i, n ≤ i → f i = 0) : ∀ m, n ≤ m → ySg f m = ySg f n
  | 0, hm => by
    have : n = 0 := by omega
    subst this; rfl
  | m + 1, hm => by
    rcases Nat.lt_or_ge n (m + 1) with c | c
    · rw [show ySg f (m + 1) = ySg f m + f m from rfl, ySg_hi h m (by omega), h m (by omega), Nat.add_zero]
    · have : n = m + 1 := by omega
      subst this; rfl
theorem yPop_g {U n : Nat} (hU : U < 2 ^ n) (hn : n ≤ 14) : yPop U = ySg (fun i => if U.testBit i then 1 else 0) n := by
  unfold yPop
  rw [yPopK_g, ySg_hi (fun i hi => by rw [y_tf hU hi]; rfl) 14 hn]
theorem yPopK_hi {U n : Nat} (hU : U < 2 ^ n) (hn : n ≤ 14) : yPopK n U = yPop U := by rw [yPop_g hU hn, yPopK_g]
/-! ===== the ways ===== -/
def yWy (U way k : Nat) : Nat := yMk (fun j => U.testBit j && way.testBit (yPopK j U)) k
theorem yWy_lt (U way k : Nat) : yWy U way k < 2 ^ k := yMk_lt _ _
theorem yMk_c {f g : Nat → Bool} : ∀ n, (∀ i, i < n → f i = g i) → yMk f n = yMk g n
  | 0, _ => rfl
  | n + 1, h => by
    unfold yMk
    rw [yMk_c n (fun i hi => h i (by omega)), h n (by omega)]
theorem yWy_s (U way k : Nat) : yWy U way (k + 1) = yWy U way k ||| (if U.testBit k && way.testBit (yPopK k U) then 2 ^ k else 0) := rfl
theorem yWy_sum (U : Nat) : ∀ (k : Nat) (F : Nat → Nat), ySg (fun way => F (yWy U way k)) (2 ^ yPopK k U) = ySb U k F
  | 0, F => by
    show ySg (fun way => F (yWy U way 0)) 1 = F 0
    unfold ySg ySg yWy yMk
    omega
  | k + 1, F => by
    unfold ySb
    rw [yPopK_s]
    by_cases c : U.testBit k = true
    · rw [if_pos c, if_pos c, Nat.pow_succ, Nat.mul_two, ySg_s, ← yWy_sum U k F, ← yWy_sum U k (fun s => F (2 ^ k + s))]
      congr 1
      · apply ySg_c
        intro way hw
        rw [yWy_s, c, Nat.testBit_lt_two_pow hw]
        simp
      · apply ySg_c
        intro way hw
        have e : yWy U (2 ^ yPopK k U + way) k = yWy U way k := by
          apply yMk_c
          intro j hj
          cases cj : U.testBit j
          · rfl
          · have : yPopK j U < yPopK k U := by
              have h1 := yPopK_s j U
              have h2 := yPopK_up (U := U) (j := j + 1) k (by omega)
              rw [if_pos cj] at h1
              omega
            rw [Nat.testBit_two_pow_add_gt this]
        have hb : (2 ^ yPopK k U + way).testBit (yPopK k U) = true := by
          rw [Nat.testBit_two_pow_add_eq, Nat.testBit_lt_two_pow hw]; rfl
        rw [yWy_s, c, hb, e, if_pos (by rfl), Nat.or_two_pow_eq_add_of_lt (yWy_lt U way k), Nat.add_comm]
    · rw [if_neg c, if_neg c, Nat.add_zero, Nat.add_zero, ← yWy_sum U k F]
      apply ySg_c
      intro way hw
      rw [yWy_s, Bool.eq_false_iff.mpr c]
      simp
def yOf (a : yA) (U T : Nat) : Nat → Nat
  | 0 => 1
  | t + 1 => if U.testBit t then yOf a U T t * (if T.testBit t then a 6 t else 4 - a 6 t) else yOf a U T t
theorem yOf_b {a : yA} (ok : yOk a) (U T : Nat) : ∀ k, k ≤ a 0 1 → yOf a U T k ≤ 4 ^ yPopK k U
  | 0, _ => Nat.le_refl _
  | k + 1, hk => by
    have ih := yOf_b ok U T k (by omega)
    have h := ok.2.2.1 k (by omega)
    unfold yOf
    rw [yPopK_s]
    by_cases c : U.testBit k = true
    · rw [if_pos c, if_pos c, Nat.pow_succ]
      exact Nat.mul_le_mul ih (by split <;> omega)
    · rw [if_neg c, if_neg c]; exact ih
theorem yOf_c {a : yA} {U T T' : Nat} : ∀ k, (∀ i, i < k → U.testBit i = true → T.testBit i = T'.testBit i) → yOf a U T k = yOf a U T' k
  | 0, _ => rfl
  | k + 1, h => by
    unfold yOf
    rw [yOf_c k (fun i hi => h i (by omega))]
    by_cases c : U.testBit k = true
    · rw [if_pos c, if_pos c, h k (by omega) c]
    · rw [if_neg c, if_neg c]
theorem yWy_t (U way k j : Nat) : (yWy U way k).testBit j = (decide (j < k) && (U.testBit j && way.testBit (yPopK j U))) := yMk_t _ _ _
/-! ===== loops that stand still now and then ===== -/
theorem y_stut {α β : Type} {body : α → Option (α ⊕ β)} (S : Nat → α) (n : Nat) (h : ∀ k, k < n → S (k + 1) = S k ∨ body (S k) = some (.inl (S (k + 1)))) : ∀ k, k ≤ n → ∃ j, j ≤ k ∧ ∀ N, zLp body (N + j) (S 0) = zLp body N (S k)
  | 0, _ => ⟨0, by omega, fun N => rfl⟩
  | k + 1, hk => by
    obtain ⟨j, j1, j2⟩ := y_stut S n h k (by omega)
    rcases h k (by omega) with e | e
    · exact ⟨j, by omega, fun N => by rw [j2, e]⟩
    · refine ⟨j + 1, by omega, fun N => ?_⟩
      rw [show N + (j + 1) = (N + 1) + j by omega, j2, y_lpl e]
