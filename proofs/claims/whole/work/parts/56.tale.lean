/-! ===== chance, reach, who ===== -/
theorem ySg_one {v : Nat → Nat} {p : Nat} : ∀ n, p < n → ySg (fun f => if (2 ^ p).testBit f then v f else 0) n = v p
  | 0, h => absurd h (by omega)
  | n + 1, h => by
    unfold ySg
    rw [Nat.testBit_two_pow]
    by_cases e : p = n
    · subst e
      rw [decide_eq_true rfl, if_pos rfl, ySg_c (g := fun _ => 0) p (fun i hi => by rw [Nat.testBit_two_pow, decide_eq_false (by omega), if_neg (by decide)]), ySg_0, Nat.zero_add]
    · rw [decide_eq_false e, if_neg (by decide), Nat.add_zero, ySg_one n (by omega)]
theorem yD9_e {a : yA} (ok : yOk a) {T p : Nat} (hp : p < a 0 0) : yD9 a T p = yOd a T * yW a (yJ a (yBt a T) p) := by
  unfold yD9 yW
  rw [← ySg_m]
  apply ySg_c
  intro f hf
  rw [yJ_sy ok (yBt a T) hf hp]
  cases (yJ a (yBt a T) p).testBit f
  · rw [if_neg (by decide), if_neg (by decide), Nat.mul_zero]
  · rw [if_pos rfl, if_pos rfl]
theorem yVs_all (a : yA) (v : Nat → Nat) : yVs a v (2 ^ a 0 0 - 1) = ySg v (a 0 0) := by
  unfold yVs
  apply ySg_c
  intro i hi
  rw [y_all_t, decide_eq_true hi, if_pos rfl]
theorem yD9_r {a : yA} (ok : yOk a) (T : Nat) : ySg (fun p => yD9 a T p) (a 0 0) = yOd a T * yVs a (fun f => yPop (yJ a (yBt a T) f) * a 1 f) (2 ^ a 0 0 - 1) := by
  have h0 := ok.1
  unfold yD9
  rw [ySg_x, yVs_all, ← ySg_m]
  apply ySg_c
  intro f hf
  rw [yPop_g (yJ_lt ok (yBt a T) hf) (by omega), Nat.mul_comm (ySg (fun i => if (yJ a (yBt a T) f).testBit i then 1 else 0) (a 0 0)) (a 1 f), ← Nat.mul_assoc, ← ySg_m]
  apply ySg_c
  intro p _
  cases (yJ a (yBt a T) f).testBit p
  · rw [if_neg (by decide), if_neg (by decide), Nat.mul_zero]
  · rw [if_pos rfl, if_pos rfl, Nat.mul_one]
theorem yDt_r (a : yA) (T : Nat) : ySg (fun p => yDt a T p) (a 0 0) = yOd a T * yVs a (ySf a (yBt a T)) (2 ^ a 0 0 - 1) := by
  unfold yDt
  rw [ySg_m, yVs_all]
theorem yDt_p {a : yA} {T p : Nat} (hp : p < a 0 0) : yDt a T p = yOd a T * yVs a (ySf a (yBt a T)) (2 ^ p) := by
  unfold yDt yVs
  rw [ySg_one _ hp]
theorem s8_refusal {gx w g : zM} {gl : zL} {a : yA} (ok : yOk a) (hc : yC w a) (hg : yG g a) : (yW a (2 ^ a 0 0 - 1) = 0 ∧ fX9_taleRefusal gx w = some (-3) ∧ fX10_lacksTale g gl = some (-3)) ∨ (yW a (2 ^ a 0 0 - 1) ≠ 0 ∧ 9 < yPop (yUn a) ∧ fX9_taleRefusal gx w = some (-4) ∧ fX10_lacksTale g gl = some (-4)) ∨ (yW a (2 ^ a 0 0 - 1) ≠ 0 ∧ yPop (yUn a) ≤ 9 ∧ fX9_taleRefusal gx w = some 0 ∧ fX10_lacksTale g gl = some 0) := by
  have h0 := ok.1
  have hW := yW_90 ok (2 ^ a 0 0 - 1)
  have hP := yPop_le (yUn a)
  have hU := yUn_lt ok
  unfold fX9_taleRefusal fX10_lacksTale
  rw [s8_everybody ok hc, y_b1, s8_weightOf ok hc (y_all_lt h0.2.1), y_b1, s10_weights ok hg, y_b1, s8_unsureTies ok hc, y_b1, y_bc (by omega), y_b1, s10_unsure ok hg, y_b1, s10_ones (by omega), y_b1, show (9 : Int32) = nI 9 from rfl]
  by_cases c : yW a (2 ^ a 0 0 - 1) = 0
  · left; rw [y_0_t c]; exact ⟨c, rfl, rfl⟩
  · right
    rw [y_0_f c (by omega)]
    by_cases d : yPop (yUn a) ≤ 9
    · right; rw [y_le_t d (by omega)]; exact ⟨c, d, rfl, rfl⟩
    · left; rw [y_le_f (show 9 < yPop (yUn a) by omega) (by omega)]; exact ⟨c, by omega, rfl, rfl⟩
theorem y_allOdds {gt w g : zM} {gl : zL} {a : yA} (ok : yOk a) (hc : yC w a) (hg : yG g a) (ht : yTg a gt) (h9 : yPop (yUn a) ≤ 9) (hW0 : yW a (2 ^ a 0 0 - 1) ≠ 0) : ∃ y, y ≠ 0 ∧ y < 2 ^ 50 ∧ fX6_allOdds gt w = some (lN y) ∧ fX10_often g gl = some (lN y) := by
  have h0 := ok.1
  have hW := yW_90 ok (2 ^ a 0 0 - 1)
  have hU := yUn_lt ok
  have hp : 2 ^ (2 * yPop (yUn a)) ≤ 2 ^ 18 := Nat.pow_le_pow_right (by omega) (by omega)
  have hp1 : 1 ≤ 2 ^ (2 * yPop (yUn a)) := Nat.one_le_two_pow
  refine ⟨yW a (2 ^ a 0 0 - 1) * 2 ^ (2 * yPop (yUn a)), Nat.mul_ne_zero hW0 (by omega), ?_, ?_, ?_⟩
  · have := Nat.mul_le_mul hW hp
    omega
  · unfold fX6_allOdds
    rw [s8_everybody ok hc, y_b1, s8_weightOf ok hc (y_all_lt h0.2.1), y_b1, ht.1, show (2 : Int32) = nI 2 from rfl, y_mul, nI_l (by omega), wb_shl _ (by omega)]
  · unfold fX10_often
    rw [s10_weights ok hg, y_b1, s10_unsure ok hg, y_b1, s10_ones (by omega), y_b1, show (2 : Int32) = nI 2 from rfl, y_mul, nI_l (by omega), wb_shl _ (by omega)]
theorem y_bd {a : yA} (ok : yOk a) (h9 : yPop (yUn a) ≤ 9) {v : Nat → Nat} (hv : ∀ T, v T ≤ 1260) : ySb (yUn a) (a 0 1) (fun T => yOd a T * v T) < 2 ^ 50 := by
  have h := ySb_b (U := yUn a) (c := 262144 * 1260) (a 0 1) (fun T => yOd a T * v T) (fun T => Nat.mul_le_mul (yOd_b ok h9 T) (hv T))
  have hp : 2 ^ a 0 1 ≤ 2 ^ 14 := Nat.pow_le_pow_right (by omega) ok.1.2.2.1
  have := Nat.mul_le_mul (Nat.le_refl (262144 * 1260)) hp
  omega
theorem yVs_b {a : yA} (ok : yOk a) {v : Nat → Nat} {c : Nat} (hv : ∀ f, f < a 0 0 → v f ≤ c) (s : Nat) : yVs a v s ≤ c * 10 := by
  have h : yVs a v s ≤ c * a 0 0 := ySg_b _ (fun i hi => by
    have := hv i hi
    split <;> omega)
  have := Nat.mul_le_mul (Nat.le_refl c) ok.1.2.1
  omega
theorem m_chance {gx w gn gt g : zM} {gl : zL} {a : yA} (ok : yOk a) (hc : yC w a) (hg : yG g a) (x y : Int32) : ∃ r gn' gt' gl', fX9_chance gx w gn gt x y = some (r, gn', gt') ∧ fX10_chance g gl x y = some (r, gl') ∧ gl' 20 = gl 20 := by
  have h0 := ok.1
  have hbad : ∀ {v : Int32}, ∃ r gn' gt' gl', some (v, gn, gt) = some (r, gn', gt') ∧ some (v, gl) = some (r, gl') ∧ gl' 20 = gl 20 := fun {v} => ⟨v, gn, gt, gl, rfl, rfl, rfl⟩
  unfold fX9_chance fX10_chance
  rw [s8_hasPerson ok hc, y_b1, s10_isPerson ok hg, y_b1]
  rcases y_zin x (n := a 0 0) (by omega) with ⟨e1, p, hp, rfl⟩ | ⟨e1, -⟩
  · rw [y_bl_t e1, y_bl_t e1, s9_isEither, y_b1, s10_isSide, y_b1]
    cases hy : yEi y
    · rw [y_bl_f rfl, y_bl_f rfl]; exact hbad
    rw [y_bl_t rfl, y_bl_t rfl]
    rcases s8_refusal (gx := gx) (gl := gl) ok hc hg with ⟨-, r1, r2⟩ | ⟨-, -, r1, r2⟩ | ⟨hW, h9, r1, r2⟩
    · rw [r1, y_b1, r2, y_b1, if_neg (by decide), if_neg (by decide)]; exact hbad
    · rw [r1, y_b1, r2, y_b1, if_neg (by decide), if_neg (by decide)]; exact hbad
    · rw [r1, y_b1, r2, y_b1, if_pos rfl, if_pos rfl]
      obtain ⟨gt1, t1, t2⟩ := s6_gather (gt := gt) ok hc h9
      obtain ⟨gn1, k1⟩ := s6_oddsToKnow (gn := gn) ok hc h9 t2 hp
      obtain ⟨gl1, f1, f2⟩ := s10_findTale (gl := gl) ok hg
      obtain ⟨Y, y1, y2, y3, y4⟩ := y_allOdds (gl := gl1) ok hc hg t2 h9 hW
      have ex : ySb (yUn a) (a 0 1) (fun T => yD9 a T p) = ySb (yUn a) (a 0 1) (fun T => yOd a T * yW a (yJ a (yBt a T) p)) := ySb_e (fun T => yD9_e ok hp) _
      have hX := y_bd ok h9 (v := fun T => yW a (yJ a (yBt a T) p)) (fun T => by have := yW_90 ok (yJ a (yBt a T) p); omega)
      obtain ⟨u, v, gl2, q1, q2, q3, q4, q5⟩ := s9_partOf y hX y2 y1 g gl1
      rw [t1, y_b1, k1, y_b2, y3, y_b1, q1, y_b1, f1, y_b1, y_gin (by omega) (by omega), y_lt_e, y_cl (by omega), show gl1 9 p = lN (ySb (yUn a) (a 0 1) (fun T => yD9 a T p)) from f2.1 p hp, y4, y_b1, ex, q2, y_b1, q3, q4]
      refine ⟨_, gn1, gt1, gl2, rfl, ?_, by rw [q5 20 (by decide)]; exact f2.2.2⟩
      by_cases c : y = 0
      · rw [if_pos c, if_pos c]
      · rw [if_neg c, if_neg c]
  · rw [y_bl_f e1, y_bl_f e1]; exact hbad
theorem m_reach {gx w gn gt g : zM} {gl : zL} {a : yA} (ok : yOk a) (hc : yC w a) (hg : yG g a) (y : Int32) : ∃ r gn' gt' gl', fX9_reach gx w gn gt y = some (r, gn', gt') ∧ fX10_reach g gl y = some (r, gl') ∧ gl' 20 = gl 20 := by
  have h0 := ok.1
  have hbad : ∀ {v : Int64}, ∃ r gn' gt' gl', some (v, gn, gt) = some (r, gn', gt') ∧ some (v, gl) = some (r, gl') ∧ gl' 20 = gl 20 := fun {v} => ⟨v, gn, gt, gl, rfl, rfl, rfl⟩
  unfold fX9_reach fX10_reach
  rw [s9_isEither, y_b1, s10_isSide, y_b1]
  cases hy : yEi y
  · rw [y_bl_f rfl, y_bl_f rfl]; exact hbad
  rw [y_bl_t rfl, y_bl_t rfl]
  rcases s8_refusal (gx := gx) (gl := gl) ok hc hg with ⟨-, r1, r2⟩ | ⟨-, -, r1, r2⟩ | ⟨hW, h9, r1, r2⟩
  · rw [r1, y_b1, r2, y_b1, if_neg (by decide), if_neg (by decide)]; exact hbad
  · rw [r1, y_b1, r2, y_b1, if_neg (by decide), if_neg (by decide)]; exact hbad
  · rw [r1, y_b1, r2, y_b1, if_pos rfl, if_pos rfl]
    obtain ⟨gt1, t1, t2⟩ := s6_gather (gt := gt) ok hc h9
    obtain ⟨gn1, k1⟩ := s6_meanKnowing (gn := gn) ok hc h9 t2
    obtain ⟨gl1, f1, f2⟩ := s10_findTale (gl := gl) ok hg
    obtain ⟨Y, y1, y2, y3, y4⟩ := y_allOdds (gl := gl1) ok hc hg t2 h9 hW
    have hX := y_bd ok h9 (v := fun T => yVs a (fun f => yPop (yJ a (yBt a T) f) * a 1 f) (2 ^ a 0 0 - 1)) (fun T => yVs_b (c := 126) ok (fun f hf => by
      have h1 := yPop_le (yJ a (yBt a T) f)
      have h2 := (ok.2.1 f hf).1
      exact Nat.mul_le_mul h1 h2) _)
    obtain ⟨u, v, gl2, q1, q2, q3, q4, q5⟩ := s9_partOf y hX y2 y1 g gl1
    have key : ∃ r, zLp (fX10_reach_L32 g gl1) zFU ((fun k (x : Nat) => (lN x, nI k)) 0 0) = some r ∧ r = lN (ySg (fun p => ySb (yUn a) (a 0 1) (fun T => yD9 a T p)) (a 0 0)) := by
      refine y_for (fun k (x : Nat) => (lN x, nI k)) (a 0 0) (fun k x => x = ySg (fun p => ySb (yUn a) (a 0 1) (fun T => yD9 a T p)) k) _ ?_ ?_ zFU 0 0 (by omega) rfl (by unfold zFU; omega)
      · rintro k x hk rfl
        refine ⟨ySg (fun p => ySb (yUn a) (a 0 1) (fun T => yD9 a T p)) (k + 1), ?_, rfl⟩
        show fX10_reach_L32 g gl1 (lN _, nI k) = _
        unfold fX10_reach_L32
        rw [y_u2, hg.1.1, y_le_f hk (by omega), y_gin (by omega) (by omega), y_lt_e, y_lt_e, y_lt_e, y_cl (by omega), f2.1 k hk, lN_add, y_a1]
        rfl
      · rintro x rfl
        refine ⟨_, ?_, rfl⟩
        show fX10_reach_L32 g gl1 (lN _, nI (a 0 0)) = _
        unfold fX10_reach_L32
        rw [y_u2, hg.1.1, y_le_t (by omega) (by omega)]
    obtain ⟨r, e, rfl⟩ := key
    rw [ySb_g, ySb_e (fun T => yD9_r ok T)] at e
    have e' : zLp (fX10_reach_L32 g gl1) zFU (0, 0) = some (lN (ySb (yUn a) (a 0 1) (fun T => yOd a T * yVs a (fun f => yPop (yJ a (yBt a T) f) * a 1 f) (2 ^ a 0 0 - 1)))) := e
    rw [t1, y_b1, k1, y_b2, y3, y_b1, q1, y_b1, f1, y_b1, e', y_b1, y_u1, y4, y_b1, q2, y_b1, q3, q4]
    refine ⟨_, gn1, gt1, gl2, rfl, ?_, by rw [q5 20 (by decide)]; exact f2.2.2⟩
    by_cases c : y = 0
    · rw [if_pos c, if_pos c]
    · rw [if_neg c, if_neg c]
theorem m_who {gx w gn gt g : zM} {gl : zL} {a : yA} (ok : yOk a) (hc : yC w a) (hg : yG g a) (x y : Int32) : ∃ r gn' gt' gl', fX9_who gx w gn gt x y = some (r, gn', gt') ∧ fX10_who g gl x y = some (r, gl') ∧ gl' 20 = gl 20 := by
  have h0 := ok.1
  have hU := yUn_lt ok
  have hP := yPop_le (yUn a)
  have hbad : ∀ {v : Int32}, ∃ r gn' gt' gl', some (v, gn, gt) = some (r, gn', gt') ∧ some (v, gl) = some (r, gl') ∧ gl' 20 = gl 20 := fun {v} => ⟨v, gn, gt, gl, rfl, rfl, rfl⟩
  unfold fX9_who fX10_who
  rw [s8_hasPerson ok hc, y_b1, s10_isPerson ok hg, y_b1]
  rcases y_zin x (n := a 0 0) (by omega) with ⟨e1, p, hp, rfl⟩ | ⟨e1, -⟩
  · rw [y_bl_t e1, y_bl_t e1, s9_isEither, y_b1, s10_isSide, y_b1]
    cases hy : yEi y
    · rw [y_bl_f rfl, y_bl_f rfl]; exact hbad
    rw [y_bl_t rfl, y_bl_t rfl, s8_unsureTies ok hc, y_b1, y_bc (by omega), y_b1, s10_unsure ok hg, y_b1, s10_ones (by omega), y_b1, show (9 : Int32) = nI 9 from rfl]
    by_cases h9 : yPop (yUn a) ≤ 9
    · rw [y_le_t h9 (by omega), y_le_t h9 (by omega)]
      have hall : 2 ^ a 0 0 - 1 < 2 ^ a 0 0 := by
        have : 1 ≤ 2 ^ a 0 0 := Nat.one_le_two_pow
        omega
      obtain ⟨gt1, t1, t2⟩ := s6_gather (gt := gt) ok hc h9
      obtain ⟨gn1, k1⟩ := s6_oddsShown (gn := gn) ok hc h9 t2 hall
      obtain ⟨gn2, k2⟩ := s6_oddsShown (gn := gn1) ok hc h9 t2 (y_pow_lt hp)
      obtain ⟨gl1, f1, f2⟩ := s10_findTale (gl := gl) ok hg
      have hb : ∀ F T, yVs a (ySf a (yBt a T)) F ≤ 1260 := fun F T => by
        have := yVs_b (c := 9) ok (v := ySf a (yBt a T)) (fun f hf => by
          have := (ok.2.1 f hf).1
          unfold ySf
          split <;> omega) F
        omega
      have hX := y_bd ok h9 (v := fun T => yVs a (ySf a (yBt a T)) (2 ^ p)) (hb _)
      have hY := y_bd ok h9 (v := fun T => yVs a (ySf a (yBt a T)) (2 ^ a 0 0 - 1)) (hb _)
      have key : ∃ r, zLp (fX10_who_L41 g gl1) zFU ((fun k (x : Nat) => (lN x, nI k)) 0 0) = some r ∧ r = lN (ySg (fun p => ySb (yUn a) (a 0 1) (fun T => yDt a T p)) (a 0 0)) := by
        refine y_for (fun k (x : Nat) => (lN x, nI k)) (a 0 0) (fun k x => x = ySg (fun p => ySb (yUn a) (a 0 1) (fun T => yDt a T p)) k) _ ?_ ?_ zFU 0 0 (by omega) rfl (by unfold zFU; omega)
        · rintro k x hk rfl
          refine ⟨ySg (fun p => ySb (yUn a) (a 0 1) (fun T => yDt a T p)) (k + 1), ?_, rfl⟩
          show fX10_who_L41 g gl1 (lN _, nI k) = _
          unfold fX10_who_L41
          rw [y_u2, hg.1.1, y_le_f hk (by omega), y_gin (by omega) (by omega), y_lt_e, y_lt_e, y_lt_e, y_cl (by omega), f2.2.1 k hk, lN_add, y_a1]
          rfl
        · rintro x rfl
          refine ⟨_, ?_, rfl⟩
          show fX10_who_L41 g gl1 (lN _, nI (a 0 0)) = _
          unfold fX10_who_L41
          rw [y_u2, hg.1.1, y_le_t (by omega) (by omega)]
      obtain ⟨r, e, rfl⟩ := key
      rw [ySb_g, ySb_e (fun T => yDt_r a T)] at e
      have e' : zLp (fX10_who_L41 g gl1) zFU (0, 0) = some (lN (ySb (yUn a) (a 0 1) (fun T => yOd a T * yVs a (ySf a (yBt a T)) (2 ^ a 0 0 - 1)))) := e
      have ex : ySb (yUn a) (a 0 1) (fun T => yDt a T p) = ySb (yUn a) (a 0 1) (fun T => yOd a T * yVs a (ySf a (yBt a T)) (2 ^ p)) := ySb_e (fun T => yDt_p hp) _
      rw [t1, y_b1, s8_everybody ok hc, y_b1, k1, y_b2, f1, y_b1, e', y_b1, y_u1]
      by_cases c0 : ySb (yUn a) (a 0 1) (fun T => yOd a T * yVs a (ySf a (yBt a T)) (2 ^ a 0 0 - 1)) = 0
      · rw [y_cmp_t c0, y_cmp_t c0]
        exact ⟨_, gn1, gt1, gl1, rfl, rfl, f2.2.2⟩
      · obtain ⟨u, v, gl2, q1, q2, q3, q4, q5⟩ := s9_partOf y hX hY c0 g gl1
        rw [y_cmp_f c0 (by omega), y_cmp_f c0 (by omega), y_one (by omega), k2, y_b2, q1, y_b1, y_gin (by omega) (by omega), y_lt_e, y_cl (by omega), show gl1 10 p = lN (ySb (yUn a) (a 0 1) (fun T => yDt a T p)) from f2.2.1 p hp, ex, q2, y_b1, q3, q4]
        refine ⟨_, gn2, gt1, gl2, rfl, ?_, by rw [q5 20 (by decide)]; exact f2.2.2⟩
        by_cases c : y = 0
        · rw [if_pos c, if_pos c]
        · rw [if_neg c, if_neg c]
    · rw [y_le_f (by omega) (by omega), y_le_f (by omega) (by omega)]; exact hbad
  · rw [y_bl_f e1, y_bl_f e1]; exact hbad
