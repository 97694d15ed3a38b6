/-! ===== sums over joined sets ===== -/
def yVs (a : yA) (v : Nat → Nat) (s : Nat) : Nat := ySg (fun f => if s.testBit f then v f else 0) (a 0 0)
theorem yVs_split (a : yA) (v : Nat → Nat) (l C : Nat) : yVs a v l = yVs a v (ySd l C) + yVs a v (l &&& C) := by
  unfold yVs
  rw [← ySg_a]
  apply ySg_c
  intro i _
  rw [ySd_t, Nat.testBit_and]
  cases l.testBit i <;> cases C.testBit i <;> simp
theorem yVs_0 (a : yA) (v : Nat → Nat) : yVs a v 0 = 0 := by
  unfold yVs
  rw [ySg_c (g := fun _ => 0) _ (fun i _ => by rw [Nat.zero_testBit, if_neg (by decide)]), ySg_0]
theorem yVs_k {a : yA} {v : Nat → Nat} {c s : Nat} (h : ∀ f, f < a 0 0 → s.testBit f = true → v f = c * a 1 f) : yVs a v s = c * yW a s := by
  unfold yVs yW
  rw [← ySg_m]
  apply ySg_c
  intro i hi
  cases t : s.testBit i
  · rw [if_neg (by decide), if_neg (by decide), Nat.mul_zero]
  · rw [if_pos rfl, if_pos rfl, h i hi t]
theorem s6_meanL {w gn : zM} {a : yA} {b : Nat} (ok : yOk a) (hc : yC w a) (hn : yNet a b gn) (O : Nat) : ∀ (n left acc i N : Nat), (∀ j, left.testBit j = true → (2 ^ a 0 0 - 1).testBit j = true) → (∀ f g, left.testBit f = true → (yJ a b f).testBit g = true → left.testBit g = true) → yPop left ≤ n → i + yPop left ≤ 10 → n < N → zLp (fX6_meanKnowing_L36 w gn (lN O)) N (lN acc, nI left, nI i) = some (lN (acc + O * yVs a (fun f => yPop (yJ a b f) * a 1 f) left)) := by
  have h0 := ok.1
  have hm := y_all_lt h0.2.1
  have hp10 : 2 ^ a 0 0 ≤ 2 ^ 10 := Nat.pow_le_pow_right (by omega) h0.2.1
  intro n
  induction n with
  | zero =>
    intro left acc i N hl hcl hp hi hN
    have hle : left < 2 ^ 10 := Nat.lt_of_le_of_lt (y_sub_le hl) hm
    have hz : left = 0 := by
      rcases Nat.eq_zero_or_pos left with h | h
      · exact h
      · have := yPop_pos (a := left) (by omega) (by omega); omega
    obtain ⟨N, rfl⟩ : ∃ M, N = M + 1 := ⟨N - 1, by omega⟩
    refine y_lpr ?_
    unfold fX6_meanKnowing_L36
    rw [y_u3, hz, yVs_0, Nat.mul_zero, Nat.add_zero, if_pos (show nI 0 = 0 from rfl)]
    show (if _ then _ else _) = _
    split <;> rfl
  | succ n ih =>
    intro left acc i N hl hcl hp hi hN
    have hle : left < 2 ^ 10 := Nat.lt_of_le_of_lt (y_sub_le hl) hm
    obtain ⟨N, rfl⟩ : ∃ M, N = M + 1 := ⟨N - 1, by omega⟩
    by_cases hz : left = 0
    · refine y_lpr ?_
      unfold fX6_meanKnowing_L36
      rw [y_u3, hz, yVs_0, Nat.mul_zero, Nat.add_zero, if_pos (show nI 0 = 0 from rfl)]
      show (if _ then _ else _) = _
      split <;> rfl
    · have hq := (y_lbf hz (show left < 16384 by omega)).1
      have hqn : yLb left < a 0 0 := by
        have := hl _ hq
        rw [y_all_t] at this
        exact of_decide_eq_true this
      have hpos := yPop_pos hz (by omega)
      obtain ⟨s1, s2⟩ := y_step (b := b) hm hl hz (yJ_lf ok b hqn)
      have hJ := yJ_lt ok b hqn
      have hW := yW_90 ok (yJ a b (yLb left))
      have hP := yPop_le (yJ a b (yLb left))
      have fl : fX3_flood gn (nI (2 ^ yLb left)) (nI (2 ^ a 0 0 - 1)) = some (nI (yJ a b (yLb left))) := (s3_flood' ok hn (y_lbp hz hle) hm).1
      have step : fX6_meanKnowing_L36 w gn (lN O) (lN acc, nI left, nI i) = some (.inl (lN (acc + O * yW a (yJ a b (yLb left)) * yPop (yJ a b (yLb left))), nI (ySd left (yJ a b (yLb left))), nI (i + 1))) := by
        unfold fX6_meanKnowing_L36
        rw [y_u3, show (10 : Int32) = nI 10 from rfl, y_le_f (by omega) (by omega), y_0_f hz (by omega), s8_everybody ok hc, y_b1, y_low hz (by omega), fl, y_b1, y_andn, y_lt_e, s8_weightOf ok hc (by omega), y_b1, y_bc (by omega), y_b1, y_lt_e, y_lt_e, nI_l (by omega), nI_l (by omega), lN_mul, lN_mul, lN_add, y_a1]
      rw [y_lpl step, ih (ySd left (yJ a b (yLb left))) _ (i + 1) N s2 (fun f g h1 h2 => ?_) (by show yPop (ySd left (yFl a b (2 ^ yLb left) (2 ^ a 0 0 - 1))) ≤ n; omega) (by show i + 1 + yPop (ySd left (yFl a b (2 ^ yLb left) (2 ^ a 0 0 - 1))) ≤ 10; omega) (by omega)]
      · rw [yVs_split a _ left (yJ a b (yLb left)), show left &&& yJ a b (yLb left) = yJ a b (yLb left) from ?_, yVs_k (c := yPop (yJ a b (yLb left))) (s := yJ a b (yLb left)) (fun f hf hb => by rw [yJ_eq ok b hqn f hb])]
        · congr 2
          rw [Nat.mul_add, Nat.mul_comm (yPop (yJ a b (yLb left))), ← Nat.mul_assoc]
          omega
        · apply Nat.eq_of_testBit_eq
          intro j
          rw [Nat.testBit_and]
          cases t : (yJ a b (yLb left)).testBit j
          · rw [Bool.and_false]
          · rw [hcl _ j hq t]; rfl
      · rw [ySd_t, Bool.and_eq_true, Bool.not_eq_true'] at h1
        rw [ySd_t, hcl f g h1.1 h2, Bool.true_and]
        cases t : (yJ a b (yLb left)).testBit g
        · rfl
        · exfalso
          have hfn : f < a 0 0 := by
            have := hl _ h1.1
            rw [y_all_t] at this
            exact of_decide_eq_true this
          have e1 := yJ_eq ok b hqn g t
          have e2 := yJ_eq ok b hfn g h2
          have := yJ_me ok b hfn
          rw [← e2, e1, h1.2] at this
          cases this
theorem s6_meanKnowing {gt w gn : zM} {a : yA} (ok : yOk a) (hc : yC w a) (h9 : yPop (yUn a) ≤ 9) (ht : yTg a gt) : ∃ gn', fX6_meanKnowing gt w gn = some (lN (ySb (yUn a) (a 0 1) (fun T => yOd a T * yVs a (fun f => yPop (yJ a (yBt a T) f) * a 1 f) (2 ^ a 0 0 - 1))), gn') := by
  have h0 := ok.1
  have hm : 2 ^ yPop (yUn a) ≤ 2 ^ 9 := Nat.pow_le_pow_right (by omega) h9
  have hma := y_all_lt h0.2.1
  have key : ∃ r, zLp (fX6_meanKnowing_L5 gt w) zFU ((fun k (x : Nat × zM) => (lN x.1, nI k, x.2)) 0 (0, gn)) = some r ∧ r.1 = lN (ySb (yUn a) (a 0 1) (fun T => yOd a T * yVs a (fun f => yPop (yJ a (yBt a T) f) * a 1 f) (2 ^ a 0 0 - 1))) := by
    refine y_for (fun k (x : Nat × zM) => (lN x.1, nI k, x.2)) (2 ^ yPop (yUn a)) (fun k x => x.1 = ySg (fun way => (fun T => yOd a T * yVs a (fun f => yPop (yJ a (yBt a T) f) * a 1 f) (2 ^ a 0 0 - 1)) (yWy (yUn a) way (a 0 1))) k) _ ?_ ?_ zFU 0 (0, gn) (Nat.zero_le _) rfl (by unfold zFU; omega)
    · rintro k ⟨x, gn1⟩ hk hx
      have hx' : x = ySg (fun way => (fun T => yOd a T * yVs a (fun f => yPop (yJ a (yBt a T) f) * a 1 f) (2 ^ a 0 0 - 1)) (yWy (yUn a) way (a 0 1))) k := hx
      obtain ⟨gn2, l1, l2⟩ := s6_layWay (gn := gn1) ok hc h9 ht (way := k) (by omega)
      refine ⟨(ySg (fun way => (fun T => yOd a T * yVs a (fun f => yPop (yJ a (yBt a T) f) * a 1 f) (2 ^ a 0 0 - 1)) (yWy (yUn a) way (a 0 1))) (k + 1), gn2), ?_, rfl⟩
      have hO := yOd_b ok h9 (yWy (yUn a) k (a 0 1))
      have hL := s6_meanL ok hc l2 (yOd a (yWy (yUn a) k (a 0 1))) 10 (2 ^ a 0 0 - 1) x 0 zFU (fun _ h => h) (fun f g h1 h2 => by
        rw [y_all_t] at h1 ⊢
        exact decide_eq_true (yJ_in ok _ (of_decide_eq_true h1) h2)) (yPop10 hma) (by have := yPop10 hma; omega) (by unfold zFU; omega)
      show fX6_meanKnowing_L5 gt w (lN x, nI k, gn1) = _
      unfold fX6_meanKnowing_L5
      rw [y_u3, ht.1, y_one (by omega), y_le_f hk (by omega), l1, y_b2, y_lt_e, s8_everybody ok hc, y_b1, nI_l (by omega), show (0 : Int32) = nI 0 from rfl, hL, y_b1, y_u1, y_lt_e, y_a1, hx']
      rfl
    · rintro ⟨x, gn1⟩ hx
      have hx' : x = ySg (fun way => (fun T => yOd a T * yVs a (fun f => yPop (yJ a (yBt a T) f) * a 1 f) (2 ^ a 0 0 - 1)) (yWy (yUn a) way (a 0 1))) (2 ^ yPop (yUn a)) := hx
      refine ⟨(lN x, gn1), ?_, ?_⟩
      · show fX6_meanKnowing_L5 gt w (lN x, nI (2 ^ yPop (yUn a)), gn1) = _
        unfold fX6_meanKnowing_L5
        rw [y_u3, ht.1, y_one (by omega), y_le_t (Nat.le_refl _) (by omega)]
      · show lN x = _
        rw [hx']; exact congrArg lN (y_sumW ok (fun T => yOd a T * yVs a (fun f => yPop (yJ a (yBt a T) f) * a 1 f) (2 ^ a 0 0 - 1)))
  obtain ⟨⟨r1, r2⟩, e, hr⟩ := key
  have hr' : r1 = _ := hr
  have e' : zLp (fX6_meanKnowing_L5 gt w) zFU (0, 0, gn) = some (r1, r2) := e
  refine ⟨r2, ?_⟩
  unfold fX6_meanKnowing
  rw [e', y_b1, y_u2, hr']
noncomputable def ySf (a : yA) (b f : Nat) : Nat := (if yShK a (yJ a b f) (a 0 0) = true then 1 else 0) * a 1 f
theorem s6_shownL {w gn : zM} {a : yA} {b F : Nat} (ok : yOk a) (hc : yC w a) (hn : yNet a b gn) (O : Nat) (hF : F < 2 ^ a 0 0) : ∀ (n left acc i N : Nat), (∀ j, left.testBit j = true → F.testBit j = true) → (∀ f g, left.testBit f = true → (yJ a b f).testBit g = true → F.testBit g = true → left.testBit g = true) → yPop left ≤ n → i + yPop left ≤ 10 → n < N → zLp (fX6_oddsShown_L34 (nI F) w gn (lN O)) N (lN acc, nI left, nI i) = some (lN (acc + O * yVs a (ySf a b) left)) := by
  have h0 := ok.1
  have hm := y_all_lt h0.2.1
  have hp10 : 2 ^ a 0 0 ≤ 2 ^ 10 := Nat.pow_le_pow_right (by omega) h0.2.1
  have hFn : ∀ j, F.testBit j = true → j < a 0 0 := fun j hj => by
    rcases Nat.lt_or_ge j (a 0 0) with h | h
    · exact h
    · rw [y_tf hF h] at hj; cases hj
  intro n
  induction n with
  | zero =>
    intro left acc i N hl hcl hp hi hN
    have hle : left < 2 ^ 10 := Nat.lt_of_le_of_lt (y_sub_le hl) (by omega)
    have hz : left = 0 := by
      rcases Nat.eq_zero_or_pos left with h | h
      · exact h
      · have := yPop_pos (a := left) (by omega) (by omega); omega
    obtain ⟨N, rfl⟩ : ∃ M, N = M + 1 := ⟨N - 1, by omega⟩
    refine y_lpr ?_
    unfold fX6_oddsShown_L34
    rw [y_u3, hz, yVs_0, Nat.mul_zero, Nat.add_zero, if_pos (show nI 0 = 0 from rfl)]
    show (if _ then _ else _) = _
    split <;> rfl
  | succ n ih =>
    intro left acc i N hl hcl hp hi hN
    have hle : left < 2 ^ 10 := Nat.lt_of_le_of_lt (y_sub_le hl) (by omega)
    obtain ⟨N, rfl⟩ : ∃ M, N = M + 1 := ⟨N - 1, by omega⟩
    by_cases hz : left = 0
    · refine y_lpr ?_
      unfold fX6_oddsShown_L34
      rw [y_u3, hz, yVs_0, Nat.mul_zero, Nat.add_zero, if_pos (show nI 0 = 0 from rfl)]
      show (if _ then _ else _) = _
      split <;> rfl
    · have hq := (y_lbf hz (show left < 16384 by omega)).1
      have hqn : yLb left < a 0 0 := hFn _ (hl _ hq)
      have hlm : ∀ j, left.testBit j = true → (2 ^ a 0 0 - 1).testBit j = true := fun j hj => by
        rw [y_all_t]; exact decide_eq_true (hFn _ (hl _ hj))
      have hpos := yPop_pos hz (by omega)
      obtain ⟨s1, s2⟩ := y_step (b := b) hm hlm hz (yJ_lf ok b hqn)
      have hJ := yJ_lt ok b hqn
      have fl : fX3_flood gn (nI (2 ^ yLb left)) (nI (2 ^ a 0 0 - 1)) = some (nI (yJ a b (yLb left))) := (s3_flood' ok hn (y_lbp hz hle) hm).1
      have hand : left &&& yJ a b (yLb left) = yJ a b (yLb left) &&& F := by
        apply Nat.eq_of_testBit_eq
        intro j
        rw [Nat.testBit_and, Nat.testBit_and]
        cases t : (yJ a b (yLb left)).testBit j
        · rw [Bool.and_false]; rfl
        · rw [Bool.and_true, Bool.true_and]
          apply Bool.eq_iff_iff.mpr
          exact ⟨hl j, fun h => hcl _ j hq t h⟩
      have hWl : yJ a b (yLb left) &&& F < 2 ^ 10 := y_and_lt (by omega)
      have hW := yW_90 ok (yJ a b (yLb left) &&& F)
      have step : fX6_oddsShown_L34 (nI F) w gn (lN O) (lN acc, nI left, nI i) = some (.inl (lN (acc + O * yVs a (ySf a b) (left &&& yJ a b (yLb left))), nI (ySd left (yJ a b (yLb left))), nI (i + 1))) := by
        have hv : yVs a (ySf a b) (left &&& yJ a b (yLb left)) = (if yShK a (yJ a b (yLb left)) (a 0 0) = true then 1 else 0) * yW a (left &&& yJ a b (yLb left)) := yVs_k (fun f hf hb => by
          rw [Nat.testBit_and, Bool.and_eq_true] at hb
          unfold ySf
          rw [yJ_eq ok b hqn f hb.2])
        unfold fX6_oddsShown_L34 fX6_oddsShown_L34J88
        rw [y_u3, show (10 : Int32) = nI 10 from rfl, y_le_f (by omega) (by omega), y_0_f hz (by omega), s8_everybody ok hc, y_b1, y_low hz (by omega), fl, y_b1, s8_isAsShown ok hc (by omega), y_b1, y_and, y_andn, hv, hand]
        cases t : yShK a (yJ a b (yLb left)) (a 0 0)
        · rw [y_bl_f rfl, y_lt_e, y_lt_e, y_a1, if_neg (by decide), Nat.zero_mul, Nat.mul_zero]; rfl
        · rw [y_bl_t rfl, s8_weightOf ok hc hWl, y_b1, y_lt_e, y_lt_e, y_lt_e, nI_l (by omega), lN_mul, lN_add, y_a1, if_pos rfl, Nat.one_mul]
      rw [y_lpl step, ih (ySd left (yJ a b (yLb left))) _ (i + 1) N (fun j hj => ?_) (fun f g h1 h2 h3 => ?_) (by show yPop (ySd left (yFl a b (2 ^ yLb left) (2 ^ a 0 0 - 1))) ≤ n; omega) (by show i + 1 + yPop (ySd left (yFl a b (2 ^ yLb left) (2 ^ a 0 0 - 1))) ≤ 10; omega) (by omega)]
      · rw [yVs_split a _ left (yJ a b (yLb left))]
        congr 2
        rw [Nat.mul_add]
        omega
      · rw [ySd_t, Bool.and_eq_true] at hj
        exact hl j hj.1
      · rw [ySd_t, Bool.and_eq_true, Bool.not_eq_true'] at h1
        rw [ySd_t, hcl f g h1.1 h2 h3, Bool.true_and]
        cases t : (yJ a b (yLb left)).testBit g
        · rfl
        · exfalso
          have hfn : f < a 0 0 := hFn _ (hl _ h1.1)
          have e1 := yJ_eq ok b hqn g t
          have e2 := yJ_eq ok b hfn g h2
          have := yJ_me ok b hfn
          rw [← e2, e1, h1.2] at this
          cases this
theorem s6_oddsShown {gt w gn : zM} {a : yA} {F : Nat} (ok : yOk a) (hc : yC w a) (h9 : yPop (yUn a) ≤ 9) (ht : yTg a gt) (hF : F < 2 ^ a 0 0) : ∃ gn', fX6_oddsShown gt w gn (nI F) = some (lN (ySb (yUn a) (a 0 1) (fun T => yOd a T * yVs a (ySf a (yBt a T)) F)), gn') := by
  have h0 := ok.1
  have hm : 2 ^ yPop (yUn a) ≤ 2 ^ 9 := Nat.pow_le_pow_right (by omega) h9
  have hp10 : 2 ^ a 0 0 ≤ 2 ^ 10 := Nat.pow_le_pow_right (by omega) h0.2.1
  have key : ∃ r, zLp (fX6_oddsShown_L6 (nI F) gt w) zFU ((fun k (x : Nat × zM) => (lN x.1, nI k, x.2)) 0 (0, gn)) = some r ∧ r.1 = lN (ySb (yUn a) (a 0 1) (fun T => yOd a T * yVs a (ySf a (yBt a T)) F)) := by
    refine y_for (fun k (x : Nat × zM) => (lN x.1, nI k, x.2)) (2 ^ yPop (yUn a)) (fun k x => x.1 = ySg (fun way => (fun T => yOd a T * yVs a (ySf a (yBt a T)) F) (yWy (yUn a) way (a 0 1))) k) _ ?_ ?_ zFU 0 (0, gn) (Nat.zero_le _) rfl (by unfold zFU; omega)
    · rintro k ⟨x, gn1⟩ hk hx
      have hx' : x = ySg (fun way => (fun T => yOd a T * yVs a (ySf a (yBt a T)) F) (yWy (yUn a) way (a 0 1))) k := hx
      obtain ⟨gn2, l1, l2⟩ := s6_layWay (gn := gn1) ok hc h9 ht (way := k) (by omega)
      refine ⟨(ySg (fun way => (fun T => yOd a T * yVs a (ySf a (yBt a T)) F) (yWy (yUn a) way (a 0 1))) (k + 1), gn2), ?_, rfl⟩
      have hO := yOd_b ok h9 (yWy (yUn a) k (a 0 1))
      have hP := yPop10 (x := F) (by omega)
      have hL := s6_shownL ok hc l2 (yOd a (yWy (yUn a) k (a 0 1))) hF 10 F x 0 zFU (fun _ h => h) (fun f g h1 h2 h3 => h3) hP (by omega) (by unfold zFU; omega)
      show fX6_oddsShown_L6 (nI F) gt w (lN x, nI k, gn1) = _
      unfold fX6_oddsShown_L6
      rw [y_u3, ht.1, y_one (by omega), y_le_f hk (by omega), l1, y_b2, y_lt_e, nI_l (by omega), show (0 : Int32) = nI 0 from rfl, hL, y_b1, y_u1, y_lt_e, y_a1, hx']
      rfl
    · rintro ⟨x, gn1⟩ hx
      have hx' : x = ySg (fun way => (fun T => yOd a T * yVs a (ySf a (yBt a T)) F) (yWy (yUn a) way (a 0 1))) (2 ^ yPop (yUn a)) := hx
      refine ⟨(lN x, gn1), ?_, ?_⟩
      · show fX6_oddsShown_L6 (nI F) gt w (lN x, nI (2 ^ yPop (yUn a)), gn1) = _
        unfold fX6_oddsShown_L6
        rw [y_u3, ht.1, y_one (by omega), y_le_t (Nat.le_refl _) (by omega)]
      · show lN x = _
        rw [hx']; exact congrArg lN (y_sumW ok (fun T => yOd a T * yVs a (ySf a (yBt a T)) F))
  obtain ⟨⟨r1, r2⟩, e, hr⟩ := key
  have hr' : r1 = _ := hr
  have e' : zLp (fX6_oddsShown_L6 (nI F) gt w) zFU (0, 0, gn) = some (r1, r2) := e
  refine ⟨r2, ?_⟩
  unfold fX6_oddsShown
  rw [e', y_b1, y_u2, hr']
