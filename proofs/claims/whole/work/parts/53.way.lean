/-! ===== the tale in the class: ways ===== -/
def yTg (a : yA) (gt : zM) : Prop := gt 0 1 = nI (yPop (yUn a)) ∧ gt 0 2 = nI (ySd (yOs a 0) (yUn a)) ∧ ∀ j, j < a 0 1 → (yUn a).testBit j = true → gt 1 (yPopK j (yUn a)) = nI j
theorem yUn_ltn (a : yA) : yUn a < 2 ^ a 0 1 := yMk_lt _ _
theorem yUn_pk {a : yA} (ok : yOk a) : yPopK (a 0 1) (yUn a) = yPop (yUn a) := yPopK_hi (yUn_ltn a) ok.1.2.2.1
theorem yUn_r {a : yA} (ok : yOk a) {j : Nat} (hj : j < a 0 1) (h : (yUn a).testBit j = true) : yPopK j (yUn a) + 1 ≤ yPop (yUn a) := by
  have h1 := yPopK_s j (yUn a)
  have h2 := yPopK_up (U := yUn a) (j := j + 1) (a 0 1) (by omega)
  rw [if_pos h] at h1
  rw [yUn_pk ok] at h2
  omega
theorem s6_gather {gt w : zM} {a : yA} (ok : yOk a) (hc : yC w a) (h9 : yPop (yUn a) ≤ 9) : ∃ gt', fX6_gather gt w = some gt' ∧ yTg a gt' := by
  have h0 := ok.1
  have hU := yUn_lt ok
  have key : ∃ r, zLp (fX6_gather_L25 w (nI (yUn a))) zFU ((fun k (x : zM) => (nI k, x)) 0 (zPu (zPu gt 0 2 (nI (ySd (yOs a 0) (yUn a)))) 0 1 0)) = some r ∧ yTg a r := by
    refine y_for (fun k (x : zM) => (nI k, x)) (a 0 1) (fun k x => x 0 1 = nI (yPopK k (yUn a)) ∧ x 0 2 = nI (ySd (yOs a 0) (yUn a)) ∧ ∀ j, j < k → (yUn a).testBit j = true → x 1 (yPopK j (yUn a)) = nI j) _ ?_ ?_ zFU 0 _ (by omega) ⟨zPu_s, by rw [zPu_j (by decide), zPu_s], fun j hj => absurd hj (by omega)⟩ (by unfold zFU; omega)
    · rintro k x hk ⟨i1, i2, i3⟩
      have hr := yPopK_s k (yUn a)
      show ∃ y, fX6_gather_L25 w (nI (yUn a)) (nI k, x) = _ ∧ _
      unfold fX6_gather_L25 fX6_gather_L25J70
      rw [y_u2, hc.1.2.1, y_le_f hk (by omega)]
      cases c : (yUn a).testBit k
      · rw [if_pos ((y_bit0 (by omega) (by omega)).mpr c), y_lt_e, y_a1]
        rw [c] at hr
        refine ⟨x, rfl, by rw [i1, hr]; rfl, i2, fun j hj hb => ?_⟩
        by_cases e : j = k
        · subst e; rw [c] at hb; cases hb
        · exact i3 j (by omega) hb
      · have hk9 := yUn_r ok hk c
        rw [if_pos c] at hr
        rw [if_neg (fun h => by rw [y_bit0 (by omega) (by omega), c] at h; cases h), i1, show (9 : Int32) = nI 9 from rfl, y_le_f (by omega) (by omega), y_gin (by omega) (by omega), y_lt_e, y_lt_e, y_lt_e, y_lt_e, y_cl (by omega), zPu_k (by decide), i1, y_a1, y_a1]
        refine ⟨zPu (zPu x 1 (yPopK k (yUn a)) (nI k)) 0 1 (nI (yPopK k (yUn a) + 1)), rfl, by rw [zPu_s, hr], by rw [zPu_j (by decide), zPu_k (by decide)]; exact i2, fun j hj hb => ?_⟩
        rw [zPu_k (by decide)]
        by_cases e : j = k
        · subst e; rw [zPu_s]
        · have h1 := yPopK_s j (yUn a)
          have h2 := yPopK_up (U := yUn a) (j := j + 1) k (by omega)
          rw [if_pos hb] at h1
          rw [zPu_j (by omega)]
          exact i3 j (by omega) hb
    · rintro x ⟨i1, i2, i3⟩
      refine ⟨x, ?_, by rw [i1, yUn_pk ok], i2, i3⟩
      show fX6_gather_L25 w (nI (yUn a)) (nI (a 0 1), x) = _
      unfold fX6_gather_L25
      rw [y_u2, hc.1.2.1, y_le_t (by omega) (by omega)]
  obtain ⟨r, e, hr⟩ := key
  refine ⟨r, ?_, hr⟩
  unfold fX6_gather
  rw [s8_unsureTies ok hc, y_b1, s8_openTies0 ok hc, y_b1, y_andn, y_lt_e, y_lt_e, y_lt_e]
  have e' : zLp (fX6_gather_L25 w (nI (yUn a))) zFU (0, zPu (zPu gt 0 2 (nI (ySd (yOs a 0) (yUn a)))) 0 1 0) = some r := e
  rw [e', y_b1, y_u1]
def yBt (a : yA) (T : Nat) : Nat := ySd (yOs a 0) (yUn a) ||| T
def yOd (a : yA) (T : Nat) : Nat := yOf a (yUn a) T (a 0 1)
theorem yOd_b {a : yA} (ok : yOk a) (h9 : yPop (yUn a) ≤ 9) (T : Nat) : yOd a T ≤ 262144 := by
  have h := yOf_b ok (yUn a) T (a 0 1) (Nat.le_refl _)
  rw [yUn_pk ok] at h
  have : 4 ^ yPop (yUn a) ≤ 4 ^ 9 := Nat.pow_le_pow_right (by omega) h9
  unfold yOd
  omega
theorem yBt_lt {a : yA} (ok : yOk a) (way : Nat) : yBt a (yWy (yUn a) way (a 0 1)) < 2 ^ 14 := Nat.or_lt_two_pow (y_sd_lt (yOs_lt ok 0)) (Nat.lt_of_lt_of_le (yWy_lt _ _ _) (Nat.pow_le_pow_right (by omega) ok.1.2.2.1))
theorem s6_layWay {gt w gn : zM} {a : yA} (ok : yOk a) (hc : yC w a) (h9 : yPop (yUn a) ≤ 9) (ht : yTg a gt) {way : Nat} (hw : way < 2 ^ 9) : ∃ gn', fX6_layWay gt w gn (nI way) = some (nI (yOd a (yWy (yUn a) way (a 0 1))), gn') ∧ yNet a (yBt a (yWy (yUn a) way (a 0 1))) gn' := by
  have h0 := ok.1
  obtain ⟨t1, t2, t3⟩ := ht
  obtain ⟨j, j1, j2⟩ := y_stut (body := fX6_layWay_L12 (nI way) gt w) (fun k => (nI (yBt a (yWy (yUn a) way k)), nI (yOf a (yUn a) (yWy (yUn a) way k) k), nI (yPopK k (yUn a)))) (a 0 1) (fun k hk => by
    have hr := yPopK_s k (yUn a)
    have hodd := ok.2.2.1 k hk
    have hlt := yWy_lt (yUn a) way k
    have hO := yOf_b ok (yUn a) (yWy (yUn a) way k) k (by omega)
    cases c : (yUn a).testBit k
    · left
      rw [c] at hr
      rw [yWy_s, c, Bool.false_and, if_neg (by decide), Nat.or_zero, hr, if_neg (by decide), yOf, c, if_neg (by decide)]; rfl
    · right
      rw [if_pos c] at hr
      have hk9 := yUn_r ok hk c
      unfold fX6_layWay_L12 fX6_layWay_L12J77
      rw [y_u3, t1, y_le_f (by omega) (by omega), y_gin (by omega) (by omega), y_lt_e, y_cl (by omega), t3 k hk c, hr, yWy_s, c, Bool.true_and, yOf, if_pos c]
      cases d : way.testBit (yPopK k (yUn a))
      · rw [if_pos ((y_bit0 (by omega) (by omega)).mpr d), y_gin (by omega) (by omega), y_lt_e, y_lt_e, y_lt_e, y_cl (by omega), hc.2.2.2.2.2.2.1 k hk, show (4 : Int32) = nI 4 from rfl, y_sub (by omega), y_mul, y_a1, if_neg (show ¬ false = true by decide), Nat.or_zero, Nat.testBit_lt_two_pow hlt, if_neg (show ¬ false = true by decide)]
      · have e1 : yOf a (yUn a) (yWy (yUn a) way k ||| 2 ^ k) k = yOf a (yUn a) (yWy (yUn a) way k) k := yOf_c k (fun i hi _ => by
          rw [Nat.testBit_or, Nat.testBit_two_pow, decide_eq_false (by omega), Bool.or_false])
        have e2 : (yWy (yUn a) way k ||| 2 ^ k).testBit k = true := by rw [Nat.testBit_or, Nat.testBit_two_pow_self, Bool.or_true]
        rw [if_neg (fun h => by rw [y_bit0 (by omega) (by omega), d] at h; cases h), y_one (by omega), y_or, y_lt_e, y_gin (by omega) (by omega), y_lt_e, y_lt_e, y_lt_e, y_cl (by omega), hc.2.2.2.2.2.2.1 k hk, y_mul, y_a1, if_pos (show true = true from rfl), e1, e2, if_pos (show true = true from rfl)]
        unfold yBt
        rw [Nat.or_assoc]) (a 0 1) (Nat.le_refl _)
  obtain ⟨M, hM⟩ : ∃ M, zFU = (M + 1) + j := ⟨zFU - 1 - j, by unfold zFU; omega⟩
  obtain ⟨gn', l1, l2⟩ := s3_lay (gn := gn) ok hc (yBt_lt ok way)
  refine ⟨gn', ?_, l2⟩
  have hend : zLp (fX6_layWay_L12 (nI way) gt w) zFU (nI (ySd (yOs a 0) (yUn a)), 1, 0) = some (nI (yBt a (yWy (yUn a) way (a 0 1))), nI (yOf a (yUn a) (yWy (yUn a) way (a 0 1)) (a 0 1))) := by
    have e0 : (nI (ySd (yOs a 0) (yUn a)), (1 : Int32), (0 : Int32)) = (fun k => (nI (yBt a (yWy (yUn a) way k)), nI (yOf a (yUn a) (yWy (yUn a) way k) k), nI (yPopK k (yUn a)))) 0 := by
      show _ = (nI (yBt a 0), nI 1, nI 0)
      unfold yBt
      rw [Nat.or_zero]; rfl
    rw [e0, hM, j2]
    apply y_lpr
    unfold fX6_layWay_L12
    rw [y_u3, t1, yUn_pk ok, y_le_t (Nat.le_refl _) (by omega)]
  unfold fX6_layWay
  rw [y_lt_e, t2, hend, y_b1, y_u2, l1, y_b1]
  rfl
/-! ===== sums over the ways ===== -/
theorem y_sumW {a : yA} (ok : yOk a) (F : Nat → Nat) : ySg (fun way => F (yWy (yUn a) way (a 0 1))) (2 ^ yPop (yUn a)) = ySb (yUn a) (a 0 1) F := by
  rw [← yWy_sum, yUn_pk ok]
theorem s6_oddsToKnow {gt w gn : zM} {a : yA} (ok : yOk a) (hc : yC w a) (h9 : yPop (yUn a) ≤ 9) (ht : yTg a gt) {p : Nat} (hp : p < a 0 0) : ∃ gn', fX6_oddsToKnow gt w gn (nI p) = some (lN (ySb (yUn a) (a 0 1) (fun T => yOd a T * yW a (yJ a (yBt a T) p))), gn') := by
  have h0 := ok.1
  have hm : 2 ^ yPop (yUn a) ≤ 2 ^ 9 := Nat.pow_le_pow_right (by omega) h9
  have hp10 : 2 ^ a 0 0 ≤ 2 ^ 10 := Nat.pow_le_pow_right (by omega) h0.2.1
  have key : ∃ r, zLp (fX6_oddsToKnow_L6 (nI p) gt w) zFU ((fun k (x : Nat × zM) => (lN x.1, nI k, x.2)) 0 (0, gn)) = some r ∧ r.1 = lN (ySb (yUn a) (a 0 1) (fun T => yOd a T * yW a (yJ a (yBt a T) p))) := by
    refine y_for (fun k (x : Nat × zM) => (lN x.1, nI k, x.2)) (2 ^ yPop (yUn a)) (fun k x => x.1 = ySg (fun way => (fun T => yOd a T * yW a (yJ a (yBt a T) p)) (yWy (yUn a) way (a 0 1))) k) _ ?_ ?_ zFU 0 (0, gn) (Nat.zero_le _) rfl (by unfold zFU; omega)
    · rintro k ⟨x, gn1⟩ hk hx
      have hx' : x = ySg (fun way => (fun T => yOd a T * yW a (yJ a (yBt a T) p)) (yWy (yUn a) way (a 0 1))) k := hx
      obtain ⟨gn2, l1, l2⟩ := s6_layWay (gn := gn1) ok hc h9 ht (way := k) (by omega)
      refine ⟨(ySg (fun way => (fun T => yOd a T * yW a (yJ a (yBt a T) p)) (yWy (yUn a) way (a 0 1))) (k + 1), gn2), ?_, rfl⟩
      have hO := yOd_b ok h9 (yWy (yUn a) k (a 0 1))
      have hJ := yJ_lt ok (yBt a (yWy (yUn a) k (a 0 1))) hp
      have hW := yW_90 ok (yJ a (yBt a (yWy (yUn a) k (a 0 1))) p)
      have fl : fX3_flood gn2 (nI (2 ^ p)) (nI (2 ^ a 0 0 - 1)) = some (nI (yJ a (yBt a (yWy (yUn a) k (a 0 1))) p)) := (s3_flood' ok l2 (y_pow_lt (by omega)) (y_all_lt h0.2.1)).1
      show fX6_oddsToKnow_L6 (nI p) gt w (lN x, nI k, gn1) = _
      unfold fX6_oddsToKnow_L6
      rw [y_u3, ht.1, y_one (by omega), y_le_f hk (by omega), l1, y_b2, y_lt_e, s8_everybody ok hc, y_b1, y_one (by omega), fl, y_b1, s8_weightOf ok hc (by omega), y_b1, y_lt_e, y_lt_e, nI_l (by omega), nI_l (by omega), lN_mul, lN_add, y_a1, hx']
      rfl
    · rintro ⟨x, gn1⟩ hx
      have hx' : x = ySg (fun way => (fun T => yOd a T * yW a (yJ a (yBt a T) p)) (yWy (yUn a) way (a 0 1))) (2 ^ yPop (yUn a)) := hx
      refine ⟨(lN x, gn1), ?_, ?_⟩
      · show fX6_oddsToKnow_L6 (nI p) gt w (lN x, nI (2 ^ yPop (yUn a)), gn1) = _
        unfold fX6_oddsToKnow_L6
        rw [y_u3, ht.1, y_one (by omega), y_le_t (Nat.le_refl _) (by omega)]
      · show lN x = _
        rw [hx']; exact congrArg lN (y_sumW ok (fun T => yOd a T * yW a (yJ a (yBt a T) p)))
  obtain ⟨⟨r1, r2⟩, e, hr⟩ := key
  have hr' : r1 = _ := hr
  have e' : zLp (fX6_oddsToKnow_L6 (nI p) gt w) zFU (0, 0, gn) = some (r1, r2) := e
  refine ⟨r2, ?_⟩
  unfold fX6_oddsToKnow
  rw [e', y_b1, y_u2, hr']
