/-! ===== the tale in the model ===== -/
theorem s10_oftenOf {g : zM} {gl : zL} {a : yA} (ok : yOk a) (hg : yG g a) {T U : Nat} (hT : T < 2 ^ 14) (hU : U < 2 ^ 14) : fX10_oftenOf g gl (nI T) (nI U) = some (lN (yOf a U T (a 0 1))) := by
  have h0 := ok.1
  have key : ∃ r, zLp (fX10_oftenOf_L5 (nI T) (nI U) g gl) zFU ((fun k (x : Nat) => (lN x, nI k)) 0 1) = some r ∧ r = lN (yOf a U T (a 0 1)) := by
    refine y_for (fun k (x : Nat) => (lN x, nI k)) (a 0 1) (fun k x => x = yOf a U T k) _ ?_ ?_ zFU 0 1 (by omega) rfl (by unfold zFU; omega)
    · rintro k x hk rfl
      refine ⟨yOf a U T (k + 1), ?_, rfl⟩
      have ho := ok.2.2.1 k hk
      show fX10_oftenOf_L5 (nI T) (nI U) g gl (lN (yOf a U T k), nI k) = _
      unfold fX10_oftenOf_L5 fX10_oftenOf_L5J56 fX10_oftenOf_L5J58
      rw [y_u2, hg.1.2.1, y_le_f hk (by omega), yOf, show (3 : Int32) = nI 3 from rfl, s10_its (by omega) (by omega), y_b1, y_b1, hg.2.2.2.2.2.2.1 k hk]
      cases c : U.testBit k
      · rw [if_neg (fun h => by rw [y_bit1 (by omega) (by omega), c] at h; cases h), y_lt_e, y_a1, if_neg (show ¬ false = true by decide)]
      · rw [if_pos ((y_bit1 (by omega) (by omega)).mpr c), if_pos (show true = true from rfl)]
        cases d : T.testBit k
        · rw [if_neg (fun h => by rw [y_bit1 (by omega) (by omega), d] at h; cases h), if_neg (show ¬ false = true by decide), show (4 : Int32) = nI 4 from rfl, y_sub (by omega), nI_l (by omega), lN_mul, y_lt_e, y_lt_e, y_a1]
        · rw [if_pos ((y_bit1 (by omega) (by omega)).mpr d), if_pos (show true = true from rfl), nI_l (by omega), lN_mul, y_lt_e, y_lt_e, y_a1]
    · rintro x rfl
      refine ⟨_, ?_, rfl⟩
      show fX10_oftenOf_L5 (nI T) (nI U) g gl (lN (yOf a U T (a 0 1)), nI (a 0 1)) = _
      unfold fX10_oftenOf_L5
      rw [y_u2, hg.1.2.1, y_le_t (by omega) (by omega)]
  obtain ⟨r, e, rfl⟩ := key
  unfold fX10_oftenOf
  have e' : zLp (fX10_oftenOf_L5 (nI T) (nI U) g gl) zFU (1, 0) = some (lN (yOf a U T (a 0 1))) := e
  rw [e', y_b1, y_u1]
theorem s10_taleP {g : zM} {gl : zL} {a : yA} {K : Nat → Nat} {O s f : Nat} (ok : yOk a) (hg : yG g a) (hs : s < 2 ^ 10) (hf : f < a 0 0) (hK : ∀ p, p < a 0 0 → gl 9 p = lN (K p)) : ∃ gl', zLp (fX10_findTale_L95 g (lN O) (nI f) (nI s)) zFU (0, gl) = some gl' ∧ (∀ p, p < a 0 0 → gl' 9 p = lN (K p + if s.testBit p then O * a 1 f else 0)) ∧ ∀ k, k ≠ 9 → gl' k = gl k := by
  have h0 := ok.1
  have hw := (ok.2.1 f hf).1
  have key : ∃ r, zLp (fX10_findTale_L95 g (lN O) (nI f) (nI s)) zFU ((fun k (x : zL) => (nI k, x)) 0 gl) = some r ∧ ((∀ p, p < a 0 0 → p < a 0 0 → r 9 p = lN (K p + if s.testBit p then O * a 1 f else 0)) ∧ ∀ k, k ≠ 9 → r k = gl k) := by
    refine y_for (fun k (x : zL) => (nI k, x)) (a 0 0) (fun k x => (∀ p, p < k → p < a 0 0 → x 9 p = lN (K p + if s.testBit p then O * a 1 f else 0)) ∧ (∀ p, k ≤ p → p < a 0 0 → x 9 p = lN (K p)) ∧ ∀ k, k ≠ 9 → x k = gl k) _ ?_ ?_ zFU 0 gl (by omega) ⟨fun p hp => absurd hp (by omega), fun p _ hp => hK p hp, fun _ _ => rfl⟩ (by unfold zFU; omega)
    · rintro k x hk ⟨i1, i2, i3⟩
      have fin : ∀ v, v = lN (K k + if s.testBit k then O * a 1 f else 0) → ((∀ p, p < k + 1 → p < a 0 0 → zPuL x 9 k v 9 p = lN (K p + if s.testBit p then O * a 1 f else 0)) ∧ (∀ p, k + 1 ≤ p → p < a 0 0 → zPuL x 9 k v 9 p = lN (K p)) ∧ ∀ k', k' ≠ 9 → zPuL x 9 k v k' = gl k') := fun v hv => by
        refine ⟨fun p hp hpn => ?_, fun p hp hpn => ?_, fun k' hk' => ?_⟩
        · by_cases e : p = k
          · subst e; rw [zPuL_s, hv]
          · rw [zPuL_j e]; exact i1 p (by omega) hpn
        · rw [zPuL_j (by omega)]; exact i2 p (by omega) hpn
        · rw [zPuL_k hk']; exact i3 k' hk'
      show ∃ y, fX10_findTale_L95 g (lN O) (nI f) (nI s) (nI k, x) = _ ∧ _
      unfold fX10_findTale_L95 fX10_findTale_L95J138
      rw [y_u2, hg.1.1, y_le_f hk (by omega), y_gin (by omega) (by omega), y_lt_e, y_cl (k := k) (by omega), i2 k (Nat.le_refl _) hk]
      cases c : s.testBit k
      · rw [if_neg (fun h => by rw [y_bit1 (by omega) (by omega), c] at h; cases h), y_lt_e, y_gin (by omega) (by omega), y_lt_e, y_lt_e, y_a1]
        exact ⟨_, rfl, fin _ (by rw [c]; show lN (K k) + lN 0 = _; rw [lN_add]; rfl)⟩
      · rw [if_pos ((y_bit1 (by omega) (by omega)).mpr c), y_gin (by omega) (by omega), y_lt_e, y_lt_e, y_gin (by omega) (by omega), y_lt_e, y_lt_e, y_cl (k := f) (by omega), y_a1]
        exact ⟨_, rfl, fin _ (by rw [c, hg.2.1 f hf, nI_l (by omega), lN_mul, lN_add]; rfl)⟩
    · rintro x ⟨i1, i2, i3⟩
      refine ⟨x, ?_, i1, i3⟩
      show fX10_findTale_L95 g (lN O) (nI f) (nI s) (nI (a 0 0), x) = _
      unfold fX10_findTale_L95
      rw [y_u2, hg.1.1, y_le_t (by omega) (by omega)]
  obtain ⟨r, e, h1, h2⟩ := key
  exact ⟨r, e, fun p hp => h1 p hp hp, h2⟩
def yRl (a : yA) (gl0 gl : zL) (K9 K10 : Nat → Nat) : Prop := (∀ p, p < a 0 0 → gl 9 p = lN (K9 p)) ∧ (∀ p, p < a 0 0 → gl 10 p = lN (K10 p)) ∧ gl 20 = gl0 20
noncomputable def yD9 (a : yA) (T p : Nat) : Nat := ySg (fun f => if (yJ a (yBt a T) f).testBit p then yOd a T * a 1 f else 0) (a 0 0)
noncomputable def yDt (a : yA) (T p : Nat) : Nat := yOd a T * ySf a (yBt a T) p
theorem s10_taleF {g : zM} {gl0 gl : zL} {a : yA} {K9 K10 : Nat → Nat} {T : Nat} (ok : yOk a) (hg : yG g a) (hT : T < 2 ^ 14) (hR : yRl a gl0 gl K9 K10) : ∃ gl', zLp (fX10_findTale_L66 g (nI (ySd (yOs a 0) (yUn a))) (nI T) (lN (yOd a T))) zFU (0, gl) = some gl' ∧ yRl a gl0 gl' (fun p => K9 p + yD9 a T p) (fun p => K10 p + yDt a T p) := by
  have h0 := ok.1
  have hp10 : 2 ^ a 0 0 ≤ 2 ^ 10 := Nat.pow_le_pow_right (by omega) h0.2.1
  have hb : yBt a T < 2 ^ 14 := Nat.or_lt_two_pow (y_sd_lt (yOs_lt ok 0)) hT
  have key : ∃ r, zLp (fX10_findTale_L66 g (nI (ySd (yOs a 0) (yUn a))) (nI T) (lN (yOd a T))) zFU ((fun k (x : zL) => (nI k, x)) 0 gl) = some r ∧ ((∀ p, p < a 0 0 → r 9 p = lN (K9 p + ySg (fun f => if (yJ a (yBt a T) f).testBit p then yOd a T * a 1 f else 0) (a 0 0))) ∧ (∀ p, p < a 0 0 → r 10 p = lN (K10 p + if p < a 0 0 then yDt a T p else 0)) ∧ r 20 = gl0 20) := by
    refine y_for (fun k (x : zL) => (nI k, x)) (a 0 0) (fun k x => (∀ p, p < a 0 0 → x 9 p = lN (K9 p + ySg (fun f => if (yJ a (yBt a T) f).testBit p then yOd a T * a 1 f else 0) k)) ∧ (∀ p, p < a 0 0 → x 10 p = lN (K10 p + if p < k then yDt a T p else 0)) ∧ x 20 = gl0 20) _ ?_ ?_ zFU 0 gl (by omega) ⟨fun p hp => hR.1 p hp, fun p hp => by rw [if_neg (by omega)]; exact hR.2.1 p hp, hR.2.2⟩ (by unfold zFU; omega)
    · rintro k x hk ⟨i1, i2, i3⟩
      have hJ := yJ_lt ok (yBt a T) hk
      have hw := (ok.2.1 k hk).1
      obtain ⟨x2, p1, p2, p3⟩ := s10_taleP (s := yJ a (yBt a T) k) (O := yOd a T) ok hg (by omega) hk i1
      have hjb : fX10_joinedBy g x (nI (2 ^ k)) (nI (yBt a T)) (nI (2 ^ a 0 0 - 1)) = some (nI (yJ a (yBt a T) k)) := (s10_joinedBy' ok hg (y_pow_lt (by omega)) hb (y_all_lt h0.2.1)).1
      have hx10 : x2 10 k = lN (K10 k) := by rw [p3 10 (by decide), i2 k hk, if_neg (by omega), Nat.add_zero]
      have fin : ∀ v, v = lN (K10 k + yDt a T k) → ((∀ p, p < a 0 0 → zPuL x2 10 k v 9 p = lN (K9 p + ySg (fun f => if (yJ a (yBt a T) f).testBit p then yOd a T * a 1 f else 0) (k + 1))) ∧ (∀ p, p < a 0 0 → zPuL x2 10 k v 10 p = lN (K10 p + if p < k + 1 then yDt a T p else 0)) ∧ zPuL x2 10 k v 20 = gl0 20) := fun v hv => by
        refine ⟨fun p hp => ?_, fun p hp => ?_, ?_⟩
        · rw [zPuL_k (by decide), p2 p hp, Nat.add_assoc]; rfl
        · by_cases e : p = k
          · subst e; rw [zPuL_s, hv, if_pos (by omega)]
          · rw [zPuL_j e, p3 10 (by decide), i2 p hp]
            by_cases d : p < k
            · rw [if_pos d, if_pos (by omega)]
            · rw [if_neg d, if_neg (by omega)]
        · rw [zPuL_k (by decide), p3 20 (by decide)]; exact i3
      show ∃ y, fX10_findTale_L66 g (nI (ySd (yOs a 0) (yUn a))) (nI T) (lN (yOd a T)) (nI k, x) = _ ∧ _
      unfold fX10_findTale_L66 fX10_findTale_L66J178
      rw [y_u2, hg.1.1, y_le_f hk (by omega), s10_all ok hg, y_b1, y_one (by omega), y_or]
      rw [show ySd (yOs a 0) (yUn a) ||| T = yBt a T from rfl, hjb, y_b1, p1, y_b1, y_u1, y_gin (by omega) (by omega), y_lt_e, y_cl (by omega), hx10, s10_isSeen ok hg (by omega), y_b1]
      cases c : yShK a (yJ a (yBt a T) k) (a 0 0)
      · rw [y_bl_f rfl, y_lt_e, y_gin (by omega) (by omega), y_lt_e, y_lt_e, y_a1]
        refine ⟨_, rfl, fin _ ?_⟩
        show lN (K10 k) + lN 0 = _
        unfold yDt ySf
        rw [lN_add, c, if_neg (by decide), Nat.zero_mul, Nat.mul_zero]
      · rw [y_bl_t rfl, y_gin (by omega) (by omega), y_lt_e, y_lt_e, y_gin (by omega) (by omega), y_lt_e, y_lt_e, y_a1]
        refine ⟨_, rfl, fin _ ?_⟩
        unfold yDt ySf
        rw [hg.2.1 k hk, nI_l (by omega), lN_mul, lN_add, c, if_pos rfl, Nat.one_mul]
    · rintro x ⟨i1, i2, i3⟩
      refine ⟨x, ?_, i1, i2, i3⟩
      show fX10_findTale_L66 g (nI (ySd (yOs a 0) (yUn a))) (nI T) (lN (yOd a T)) (nI (a 0 0), x) = _
      unfold fX10_findTale_L66
      rw [y_u2, hg.1.1, y_le_t (by omega) (by omega)]
  obtain ⟨r, e, h1, h2, h3⟩ := key
  exact ⟨r, e, h1, fun p hp => by rw [h2 p hp, if_pos hp], h3⟩
theorem y_mod2 (U k : Nat) : U % 2 ^ (k + 1) = U % 2 ^ k + (if U.testBit k then 2 ^ k else 0) := by
  rw [Nat.mod_pow_succ, Nat.testBit_eq_decide_div_mod_eq]
  rcases Nat.mod_two_eq_zero_or_one (U / 2 ^ k) with h | h <;> simp [h]
theorem y_nxt {U k q : Nat} (hq : ∀ i, (2 ^ (k + 1) * q).testBit i = true → U.testBit i = true) : (2 ^ k * (2 * q + 1) - 1) &&& U = 2 ^ k * (2 * q) + U % 2 ^ k := by
  have hpos : 1 ≤ 2 ^ k := Nat.one_le_two_pow
  have e1 : 2 ^ k * (2 * q + 1) - 1 = 2 ^ k * (2 * q) + (2 ^ k - 1) := by rw [Nat.mul_succ]; omega
  have e2 : 2 ^ (k + 1) * q = 2 ^ k * (2 * q) := by rw [Nat.pow_succ, Nat.mul_assoc]
  rw [e2] at hq
  rw [e1]
  apply Nat.eq_of_testBit_eq
  intro i
  rw [Nat.testBit_and, Nat.testBit_two_pow_mul_add _ (show 2 ^ k - 1 < 2 ^ k by omega), Nat.testBit_two_pow_mul_add _ (Nat.mod_lt _ (by omega))]
  by_cases c : i < k
  · rw [if_pos c, if_pos c, y_all_t, decide_eq_true c, Bool.true_and, Nat.testBit_mod_two_pow, decide_eq_true c, Bool.true_and]
  · rw [if_neg c, if_neg c]
    cases t : (2 * q).testBit (i - k)
    · rfl
    · rw [hq i (by rw [Nat.testBit_two_pow_mul, t, decide_eq_true (by omega)]; rfl)]; rfl
theorem y_up1 {U k q : Nat} (hk : U.testBit k = true) (hq : ∀ i, (2 ^ (k + 1) * q).testBit i = true → U.testBit i = true) : ∀ i, (2 ^ k * (2 * q + 1)).testBit i = true → U.testBit i = true := by
  intro i hi
  have e : 2 ^ k * (2 * q + 1) = 2 ^ (k + 1) * q + 2 ^ k := by rw [Nat.mul_succ, Nat.pow_succ, Nat.mul_assoc]
  rw [e, Nat.testBit_two_pow_mul_add _ (Nat.pow_lt_pow_right (by omega) (by omega))] at hi
  by_cases c : i < k + 1
  · rw [if_pos c, Nat.testBit_two_pow] at hi
    have := of_decide_eq_true hi
    subst this; exact hk
  · rw [if_neg c] at hi
    exact hq i (by rw [Nat.testBit_two_pow_mul, hi, decide_eq_true (by omega)]; rfl)
theorem s10_taleS {g : zM} {gl0 : zL} {a : yA} (ok : yOk a) (hg : yG g a) : ∀ (k q : Nat) (gl : zL) (K9 K10 : Nat → Nat), (∀ i, (2 ^ k * q).testBit i = true → (yUn a).testBit i = true) → yRl a gl0 gl K9 K10 → ∃ gl' j, j ≤ 2 ^ k ∧ yRl a gl0 gl' (fun p => K9 p + ySb (yUn a) k (fun s => yD9 a (2 ^ k * q + s) p)) (fun p => K10 p + ySb (yUn a) k (fun s => yDt a (2 ^ k * q + s) p)) ∧ ∀ N, zLp (fX10_findTale_L50 g (nI (yUn a)) (nI (ySd (yOs a 0) (yUn a)))) (N + j) (nI (2 ^ k * q + yUn a % 2 ^ k), 1, gl) = zLp (fX10_findTale_L50 g (nI (yUn a)) (nI (ySd (yOs a 0) (yUn a)))) N ((nI (2 ^ k * q) - 1) &&& nI (yUn a), if 2 ^ k * q = 0 then 0 else 1, gl') := by
  have hU := yUn_lt ok
  intro k
  induction k with
  | zero =>
    intro q gl K9 K10 hq hR
    rw [Nat.pow_zero, Nat.one_mul] at hq ⊢
    have hqU : q < 2 ^ 14 := Nat.lt_of_le_of_lt (y_sub_le hq) hU
    obtain ⟨gl', e, hR'⟩ := s10_taleF ok hg hqU hR
    refine ⟨gl', 1, by omega, hR', fun N => ?_⟩
    apply y_lpl
    unfold fX10_findTale_L50 fX10_findTale_L50J195
    rw [y_u3, if_neg (show ¬ (1 : Int32) = 0 by decide), Nat.mod_one, Nat.add_zero, s10_oftenOf ok hg hqU hU, y_b1, show yOf a (yUn a) q (a 0 1) = yOd a q from rfl, e, y_b1, y_u1]
    by_cases c : q = 0
    · rw [y_0_t c, y_lt_e, if_pos c]
    · rw [y_0_f c (by omega), y_lt_e, if_neg c]
  | succ k ih =>
    intro q gl K9 K10 hq hR
    have e2 : 2 ^ (k + 1) * q = 2 ^ k * (2 * q) := by rw [Nat.pow_succ, Nat.mul_assoc]
    have e3 : 2 ^ k * (2 * q + 1) = 2 ^ k * (2 * q) + 2 ^ k := Nat.mul_succ _ _
    have hpos : 1 ≤ 2 ^ k := Nat.one_le_two_pow
    have hq2 : ∀ i, (2 ^ k * (2 * q)).testBit i = true → (yUn a).testBit i = true := fun i hi => hq i (by rw [e2]; exact hi)
    cases c : (yUn a).testBit k
    · obtain ⟨gl', j, j1, j2, j3⟩ := ih (2 * q) gl K9 K10 hq2 hR
      refine ⟨gl', j, by rw [Nat.pow_succ]; omega, ?_, fun N => ?_⟩
      · rw [e2]
        unfold ySb
        rw [c]
        exact j2
      · rw [e2, y_mod2, c, if_neg (by decide), Nat.add_zero]
        exact j3 N
    · obtain ⟨gl1, j, j1, j2, j3⟩ := ih (2 * q + 1) gl K9 K10 (y_up1 c hq) hR
      obtain ⟨gl2, i, i1, i2, i3⟩ := ih (2 * q) gl1 _ _ hq2 j2
      refine ⟨gl2, i + j, by rw [Nat.pow_succ]; omega, ?_, fun N => ?_⟩
      · have fix : ∀ (D : Nat → Nat → Nat) (K : Nat → Nat), (fun p => K p + ySb (yUn a) k (fun s => D (2 ^ k * (2 * q + 1) + s) p) + ySb (yUn a) k (fun s => D (2 ^ k * (2 * q) + s) p)) = fun p => K p + ySb (yUn a) (k + 1) (fun s => D (2 ^ (k + 1) * q + s) p) := fun D K => by
          funext p
          rw [show ySb (yUn a) (k + 1) (fun s => D (2 ^ (k + 1) * q + s) p) = ySb (yUn a) k (fun s => D (2 ^ (k + 1) * q + s) p) + (if (yUn a).testBit k then ySb (yUn a) k (fun s => D (2 ^ (k + 1) * q + (2 ^ k + s)) p) else 0) from rfl, if_pos c, e2, e3, ySb_e (F := fun s => D (2 ^ k * (2 * q) + (2 ^ k + s)) p) (G := fun s => D (2 ^ k * (2 * q) + 2 ^ k + s) p) (fun s => by rw [Nat.add_assoc])]
          omega
        have h := i2
        rw [fix (yD9 a) K9, fix (yDt a) K10] at h
        exact h
      · rw [e2, y_mod2, c, if_pos rfl, show 2 ^ k * (2 * q) + (yUn a % 2 ^ k + 2 ^ k) = 2 ^ k * (2 * q + 1) + yUn a % 2 ^ k by omega, ← Nat.add_assoc, j3, if_neg (show ¬ 2 ^ k * (2 * q + 1) = 0 by omega), y_s1 (show 1 ≤ 2 ^ k * (2 * q + 1) by omega), y_and, y_nxt hq]
        exact i3 N
theorem s10_findTale {g : zM} {gl : zL} {a : yA} (ok : yOk a) (hg : yG g a) : ∃ gl', fX10_findTale g gl = some gl' ∧ yRl a gl gl' (fun p => ySb (yUn a) (a 0 1) (fun T => yD9 a T p)) (fun p => ySb (yUn a) (a 0 1) (fun T => yDt a T p)) := by
  have h0 := ok.1
  have key : ∃ r, zLp (fX10_findTale_L17 g) zFU ((fun k (x : zL) => (nI k, x)) 0 gl) = some r ∧ yRl a gl r (fun _ => 0) (fun _ => 0) := by
    refine y_for (fun k (x : zL) => (nI k, x)) (a 0 0) (fun k x => (∀ p, p < k → x 9 p = lN 0) ∧ (∀ p, p < k → x 10 p = lN 0) ∧ x 20 = gl 20) _ ?_ ?_ zFU 0 gl (by omega) ⟨fun p hp => absurd hp (by omega), fun p hp => absurd hp (by omega), rfl⟩ (by unfold zFU; omega)
    · rintro k x hk ⟨i1, i2, i3⟩
      refine ⟨zPuL (zPuL x 9 k 0) 10 k 0, ?_, fun p hp => ?_, fun p hp => ?_, ?_⟩
      · show fX10_findTale_L17 g (nI k, x) = _
        unfold fX10_findTale_L17
        rw [y_u2, hg.1.1, y_le_f hk (by omega), y_gin (by omega) (by omega), y_lt_e, y_gin (by omega) (by omega), y_lt_e, y_lt_e, y_cl (by omega), y_a1]
      · rw [zPuL_k (by decide)]
        by_cases e : p = k
        · subst e; rw [zPuL_s]; rfl
        · rw [zPuL_j e]; exact i1 p (by omega)
      · by_cases e : p = k
        · subst e; rw [zPuL_s]; rfl
        · rw [zPuL_j e, zPuL_k (by decide)]; exact i2 p (by omega)
      · rw [zPuL_k (by decide), zPuL_k (by decide)]; exact i3
    · rintro x hx
      refine ⟨x, ?_, hx⟩
      show fX10_findTale_L17 g (nI (a 0 0), x) = _
      unfold fX10_findTale_L17
      rw [y_u2, hg.1.1, y_le_t (by omega) (by omega)]
  obtain ⟨r, e, hr⟩ := key
  obtain ⟨gl2, j, j1, j2, j3⟩ := s10_taleS (gl0 := gl) ok hg (a 0 1) 0 r (fun _ => 0) (fun _ => 0) (fun i hi => by rw [Nat.mul_zero, Nat.zero_testBit] at hi; cases hi) hr
  have hjb : j ≤ 2 ^ 14 := Nat.le_trans j1 (Nat.pow_le_pow_right (by omega) h0.2.2.1)
  obtain ⟨M, hM⟩ : ∃ M, zFU = (M + 1) + j := ⟨zFU - 1 - j, by unfold zFU; omega⟩
  refine ⟨gl2, ?_, ?_⟩
  · have e' : zLp (fX10_findTale_L17 g) zFU (0, gl) = some r := e
    have e3 := j3 (M + 1)
    rw [Nat.mul_zero, Nat.zero_add, Nat.mod_eq_of_lt (yUn_ltn a), if_pos rfl, ← hM] at e3
    have e4 : zLp (fX10_findTale_L50 g (nI (yUn a)) (nI (ySd (yOs a 0) (yUn a)))) (M + 1) ((nI 0 - 1) &&& nI (yUn a), 0, gl2) = some gl2 := by
      apply y_lpr
      unfold fX10_findTale_L50
      rw [y_u3, if_pos rfl]
    unfold fX10_findTale
    rw [s10_unsure ok hg, y_b1, s10_openOn0 ok hg, y_b1, y_andn, y_lt_e, e', y_b1, y_u1, e3, e4, y_b1, y_u1]
  · have h := j2
    simp only [Nat.mul_zero, Nat.zero_add] at h
    exact h
