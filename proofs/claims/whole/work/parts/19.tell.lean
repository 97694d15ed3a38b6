/-! ===== to tell first ===== -/
def yRb (a : yA) (d s : Nat) : Nat → Nat
  | 0 => 0
  | k + 1 => yRb a d s k ||| (if s.testBit k = true then yKn a (2 ^ k) d else 0)
theorem yRb_lt {a : yA} (ok : yOk a) (d s : Nat) : ∀ k, k ≤ 10 → yRb a d s k < 2 ^ 10
  | 0, _ => by show 0 < 2 ^ 10; omega
  | k + 1, h => by
    unfold yRb
    refine y_or_lt (yRb_lt ok d s k (by omega)) ?_
    split
    · exact yKn_lt ok (y_pow_lt (by omega)) d
    · omega
theorem yRb_hi {a : yA} {d s n : Nat} (hs : s < 2 ^ n) : ∀ k, n ≤ k → yRb a d s k = yRb a d s n
  | 0, h => by have : n = 0 := by omega
               rw [this]
  | k + 1, h => by
    by_cases e : n = k + 1
    · rw [e]
    · unfold yRb
      rw [y_tf hs (show n ≤ k by omega), if_neg (by decide), Nat.or_zero]
      have := yRb_hi (a := a) (d := d) hs k (by omega)
      rw [this]
      cases n with
      | zero => rfl
      | succ n => rfl
theorem yRb_t (a : yA) (d s q : Nat) : ∀ k, (yRb a d s k).testBit q = true ↔ ∃ p, p < k ∧ s.testBit p = true ∧ (yKn a (2 ^ p) d).testBit q = true
  | 0 => by simp [yRb]
  | k + 1 => by
    unfold yRb
    rw [Nat.testBit_or, Bool.or_eq_true, yRb_t a d s q k]
    constructor
    · rintro (⟨p, h1, h2, h3⟩ | h)
      · exact ⟨p, by omega, h2, h3⟩
      · by_cases c : s.testBit k = true
        · rw [if_pos c] at h; exact ⟨k, by omega, c, h⟩
        · rw [if_neg c, Nat.zero_testBit] at h; cases h
    · rintro ⟨p, h1, h2, h3⟩
      by_cases e : p = k
      · subst e; right; rw [if_pos h2]; exact h3
      · exact Or.inl ⟨p, by omega, h2, h3⟩
theorem s1_fillReached {gd w : zM} {a : yA} (ok : yOk a) (hc : yC w a) {d : Nat} (hd : d ≤ 100) : ∃ r, fX1_fillReached gd w (nI d) = some r ∧ ∀ p, p < a 0 0 → r 2 p = nI (yKn a (2 ^ p) d) := by
  have h0 := ok.1
  have key : ∃ r, zLp (fX1_fillReached_L2 (nI d) w) zFU ((fun k (x : zM) => (nI k, x)) 0 gd) = some r ∧ ∀ p, p < a 0 0 → r 2 p = nI (yKn a (2 ^ p) d) := by
    refine y_for (fun k (x : zM) => (nI k, x)) (a 0 0) (fun k x => ∀ p, p < k → x 2 p = nI (yKn a (2 ^ p) d)) _ ?_ ?_ zFU 0 gd (by omega) (fun p hp => by omega) (by unfold zFU; omega)
    · intro k x hk hx
      obtain ⟨r, r1, r2, r3⟩ := s1_follow (gd := x) ok hc hk
      refine ⟨zPu r 2 k (nI (yKn a (2 ^ k) d)), ?_, ?_⟩
      · unfold fX1_fillReached_L2
        rw [y_u2, hc.1.1, y_le_f hk (by omega), r1, y_b1, s1_knowingBehind ok hk hd r2, y_b1, y_gin (by omega) (by omega), y_lt_e, y_cl (by omega), y_lt_e, y_a1]
      · intro p hp
        by_cases e : p = k
        · subst e; exact zPu_s
        · rw [zPu_j e, r3]; exact hx p (by omega)
    · intro x hx
      refine ⟨x, ?_, hx⟩
      unfold fX1_fillReached_L2
      rw [y_u2, hc.1.1, y_le_t (by omega) (by omega)]
  obtain ⟨r, hr, hq⟩ := key
  refine ⟨r, ?_, hq⟩
  unfold fX1_fillReached
  rw [show ((0, gd) : Int32 × zM) = (fun k (x : zM) => (nI k, x)) 0 gd from rfl, hr, y_b1, y_u1]
theorem s1_reachedBy {gd : zM} {a : yA} (ok : yOk a) {d s : Nat} (hs : s < 2 ^ a 0 0) (h : ∀ p, p < a 0 0 → gd 2 p = nI (yKn a (2 ^ p) d)) : fX1_reachedBy gd (nI s) = some (nI (yRb a d s (a 0 0))) := by
  have h0 := ok.1
  have hs10 : s < 2 ^ 10 := Nat.lt_of_lt_of_le hs (Nat.pow_le_pow_right (by omega) (by omega))
  have key : ∃ r, zLp (fX1_reachedBy_L4 (nI s) gd) zFU ((fun k (x : Nat) => (nI x, nI k)) 0 0) = some r ∧ r = nI (yRb a d s 10) := by
    refine y_for (fun k (x : Nat) => (nI x, nI k)) 10 (fun k x => x = yRb a d s k) _ ?_ ?_ zFU 0 0 (by omega) rfl (by unfold zFU; omega)
    · intro k x hk hx
      refine ⟨x ||| (if s.testBit k = true then yKn a (2 ^ k) d else 0), ?_, by rw [hx]; rfl⟩
      unfold fX1_reachedBy_L4 fX1_reachedBy_L4J27
      rw [y_u2, show (10 : Int32) = nI 10 from rfl, y_le_f hk (by omega)]
      by_cases c : s.testBit k = true
      · have hkn : k < a 0 0 := by
          rcases Nat.lt_or_ge k (a 0 0) with q | q
          · exact q
          · rw [y_tf hs q] at c; cases c
        rw [if_neg (by rw [y_bit0 (by omega) (by omega), c]; decide), y_gin (by omega) (by omega), y_lt_e, y_cl (k := k) (by omega), h k hkn, y_or, y_lt_e, y_a1, y_lt_e, if_pos c]
      · rw [if_pos (by rw [y_bit0 (by omega) (by omega)]; simpa using c), y_a1, y_lt_e, if_neg c, Nat.or_zero]
    · intro x hx
      refine ⟨_, ?_, rfl⟩
      unfold fX1_reachedBy_L4
      rw [y_u2, show (10 : Int32) = nI 10 from rfl, y_le_t (by omega) (by omega), hx]
  obtain ⟨r, hr, rfl⟩ := key
  unfold fX1_reachedBy
  rw [show ((0, 0) : Int32 × Int32) = (fun k (x : Nat) => (nI x, nI k)) 0 0 from rfl, hr, y_b1, y_u1, yRb_hi hs 10 (by omega)]
def yTl (a : yA) (d : Nat) : Nat → Option Nat
  | 0 => none
  | k + 1 => if yRb a d k (a 0 0) = 2 ^ a 0 0 - 1 ∧ (∀ v, yTl a d k = some v → yPop k < yPop v) then some k else yTl a d k
theorem yTl_lt (a : yA) (d : Nat) : ∀ k v, yTl a d k = some v → v < k
  | 0, v, h => by cases h
  | k + 1, v, h => by
    unfold yTl at h
    split at h
    · cases h; omega
    · have := yTl_lt a d k v h; omega
theorem yRb_0 (a : yA) (d : Nat) : ∀ k, yRb a d 0 k = 0
  | 0 => rfl
  | k + 1 => by unfold yRb; rw [Nat.zero_testBit, if_neg (by decide), yRb_0 a d k]; rfl
theorem yTl_1 {a : yA} (ok : yOk a) (d : Nat) : yTl a d 1 = none := by
  have h0 := ok.1
  have h2 : 2 ≤ 2 ^ a 0 0 := Nat.pow_le_pow_right (show 0 < 2 by omega) h0.1
  show (if _ then _ else _) = _
  rw [if_neg (fun z => by rw [yRb_0] at z; omega)]
  rfl
theorem yRb_all {a : yA} (ok : yOk a) (d : Nat) : yRb a d (2 ^ a 0 0 - 1) (a 0 0) = 2 ^ a 0 0 - 1 := by
  apply Nat.eq_of_testBit_eq
  intro q
  rw [y_all_t]
  by_cases hq : q < a 0 0
  · rw [decide_eq_true hq]
    exact (yRb_t a d _ q _).mpr ⟨q, hq, by rw [y_all_t, decide_eq_true hq], yKn_up ok (Nat.zero_le d) (by show (2 ^ q).testBit q = true; rw [Nat.testBit_two_pow]; simp)⟩
  · rw [decide_eq_false hq]
    cases e : (yRb a d (2 ^ a 0 0 - 1) (a 0 0)).testBit q
    · rfl
    · obtain ⟨p, h1, -, h3⟩ := (yRb_t a d _ q _).mp e
      have key : ∀ j, (yKn a (2 ^ p) j).testBit q = false := by
        intro j
        induction j with
        | zero => show (2 ^ p).testBit q = false; rw [Nat.testBit_two_pow]; exact decide_eq_false (by omega)
        | succ j ih =>
          cases e : (yKn a (2 ^ p) (j + 1)).testBit q
          · rfl
          · rcases (yAr_t ok _ _ _).mp e with h | ⟨r, -, h⟩
            · rw [ih] at h; cases h
            · have := (h.lt ok).2; omega
      rw [key d] at h3; cases h3
theorem m_tell {gx w gd g : zM} {gl : zL} {a : yA} (ok : yOk a) (hc : yC w a) (hg : yG g a) (x z : Int32) : ∃ r gd' g', fX9_tell gx w gd x z = some (r, gd') ∧ fX10_tell g gl x z = some (r, g') ∧ yKs g g' := by
  have h0 := ok.1
  have hall := y_all_lt (n := a 0 0) (by omega)
  have h1 := Nat.one_le_two_pow (n := a 0 0)
  unfold fX9_tell fX10_tell
  rw [s10_in, y_b1, show (100 : Int32) = nI 100 from rfl, y_days x 100 (by omega)]
  rcases y_zin x (n := 101) (by omega) with ⟨hx, d, hd, rfl⟩ | ⟨hx, hx2⟩
  · rw [y_bl_t hx, if_neg (y_nn (by omega)), y_lt_f (by omega) (by omega), s9_isEither, y_b1, s10_isSide, y_b1]
    cases h : yEi z
    · rw [y_bl_f rfl, y_bl_f rfl]
      exact ⟨_, _, _, rfl, rfl, yKs.rf g⟩
    · rw [y_bl_t rfl, y_bl_t rfl]
      obtain ⟨gd', c1, c2⟩ := s1_fillReached (gd := gd) ok hc (d := d) (by omega)
      generalize hF : 2 ^ a 0 0 - 1 = F at *
      have k1 : ∃ r, zLp (fX9_tell_L45 (nI F) gd') zFU ((fun k (x : Nat) => (nI x, nI k)) 0 F) = some r ∧ r = nI ((yTl a d (2 ^ a 0 0)).getD F) := by
        refine y_for (fun k (x : Nat) => (nI x, nI k)) (2 ^ a 0 0) (fun j x => x = (yTl a d j).getD F) _ ?_ ?_ zFU 0 _ (by omega) rfl (by unfold zFU; omega)
        · intro j x hj hx
          have sp : yTl a d (j + 1) = some j → (yTl a d (j + 1)).getD F = j := fun e => by rw [e]; rfl
          have sq : yTl a d (j + 1) = yTl a d j → (yTl a d (j + 1)).getD F = x := fun e => by rw [e, hx]
          have hx10 : x < 2 ^ 10 := by
            rw [hx]
            cases hB : yTl a d j with
            | none => exact hall
            | some v => have := yTl_lt a d j v hB; show v < 2 ^ 10; omega
          have hR := yRb_lt ok d j (a 0 0) (by omega)
          have hp2 := yPop_le j
          have hpx := yPop_le x
          refine ⟨(yTl a d (j + 1)).getD F, ?_, rfl⟩
          unfold fX9_tell_L45 fX9_tell_L45J69 fX9_tell_L45J93
          rw [y_u2, y_lt_f (by omega) (by omega), y_bc (a := j) (by omega), y_b1, y_bc (a := x) (by omega), y_b1, s1_reachedBy ok hj c2, y_b1, y_a1]
          by_cases c4 : yPop j < yPop x
          · rw [y_le_f c4 (by omega), if_neg (show ¬ (1 : Int32) = 0 by decide)]
            have hlt : ∀ v, yTl a d j = some v → yPop j < yPop v := fun v hv => by rw [hx, hv] at c4; exact c4
            by_cases c3 : yRb a d j (a 0 0) = F
            · rw [y_eq_t c3, y_lt_e, sp (by rw [yTl]; exact if_pos ⟨by rw [hF]; exact c3, hlt⟩)]
            · rw [y_eq_f c3 (by omega) (by omega), y_lt_e, sq (by rw [yTl]; exact if_neg (fun zz => c3 (by rw [← hF]; exact zz.1)))]
          · rw [y_le_t (by omega) (by omega), if_pos rfl, y_lt_e]
            by_cases c5 : yRb a d j (a 0 0) = 2 ^ a 0 0 - 1 ∧ (∀ v, yTl a d j = some v → yPop j < yPop v)
            · cases hB : yTl a d j with
              | some v => have := c5.2 v hB; rw [hx, hB] at c4; exact absurd this c4
              | none =>
                rw [hB] at hx
                have hxF : x = F := hx
                have hjF : j = F := y_sub_eq hall (fun i hi => by
                  rw [← hF, y_all_t]
                  rcases Nat.lt_or_ge i (a 0 0) with q | q
                  · exact decide_eq_true q
                  · rw [y_tf hj q] at hi; cases hi) (by rw [← hxF]; omega)
                rw [sp (by rw [yTl]; exact if_pos c5), hxF, hjF]
            · rw [sq (by rw [yTl]; exact if_neg c5)]
        · intro x hx
          refine ⟨_, ?_, by rw [← hx]⟩
          unfold fX9_tell_L45
          rw [y_u2, y_lt_t (by omega) (by omega)]
      have k2 : ∃ r, zLp (fX10_tell_L21 (nI d) gl) zFU ((fun k (x : zM) => (nI k, x)) 0 g) = some r ∧ yKs g r ∧ ∀ p, p < a 0 0 → r 17 p = nI (yKn a (2 ^ p) d) := by
        refine y_for (fun k (x : zM) => (nI k, x)) (a 0 0) (fun k x => yKs g x ∧ ∀ p, p < k → x 17 p = nI (yKn a (2 ^ p) d)) _ ?_ ?_ zFU 0 g (by omega) ⟨yKs.rf g, fun p hp => by omega⟩ (by unfold zFU; omega)
        · rintro k x hk ⟨hks, hx⟩
          have hgx := hg.ks hks
          obtain ⟨g', q1, q2, q3, q4⟩ := s10_findDays (gl := gl) ok hgx (y_pow_lt hk)
          refine ⟨zPu g' 17 k (nI (yKn a (2 ^ k) d)), ?_, (hks.tr q2).pu (by decide), ?_⟩
          · unfold fX10_tell_L21
            rw [y_u2, hgx.1.1, y_le_f hk (by omega), y_one (by omega), q1, y_b1, y_gin (by omega) (by omega), y_lt_e, y_cl (k := d) (by omega), q3 d (by omega), y_gin (by omega) (by omega), y_lt_e, y_cl (k := k) (by omega), y_lt_e, y_a1]
          · intro p hp
            by_cases e : p = k
            · subst e; exact zPu_s
            · rw [zPu_j e, q4]; exact hx p (by omega)
        · rintro x ⟨hks, hx⟩
          refine ⟨x, ?_, hks, hx⟩
          unfold fX10_tell_L21
          rw [y_u2, (hg.ks hks).1.1, y_le_t (by omega) (by omega)]
      obtain ⟨g5, hr5, hks5, h17⟩ := k2
      have hg5 := hg.ks hks5
      have k3 : ∀ s, s < 2 ^ a 0 0 → ∃ r, zLp (fX10_tell_L74 g5 (nI s)) zFU ((fun k (x : Nat) => (nI x, nI k)) 0 0) = some r ∧ r = nI (yRb a d s (a 0 0)) := by
        intro s hs
        have hs10 : s < 2 ^ 10 := Nat.lt_of_lt_of_le hs (Nat.pow_le_pow_right (by omega) (by omega))
        refine y_for (fun k (x : Nat) => (nI x, nI k)) (a 0 0) (fun k x => x = yRb a d s k) _ ?_ ?_ zFU 0 0 (by omega) rfl (by unfold zFU; omega)
        · intro k x hk hx
          refine ⟨x ||| (if s.testBit k = true then yKn a (2 ^ k) d else 0), ?_, by rw [hx]; rfl⟩
          unfold fX10_tell_L74 fX10_tell_L74J107
          rw [y_u2, hg5.1.1, y_le_f hk (by omega)]
          by_cases c : s.testBit k = true
          · rw [if_pos (by rw [y_bit1 (by omega) (by omega)]; exact c), y_gin (by omega) (by omega), y_lt_e, y_cl (k := k) (by omega), h17 k hk, y_or, y_lt_e, y_a1, y_lt_e, if_pos c]
          · rw [if_neg (by rw [y_bit1 (by omega) (by omega)]; exact c), show (0 : Int32) = nI 0 from rfl, y_or, y_lt_e, y_a1, y_lt_e, if_neg c]
        · intro x hx
          refine ⟨_, ?_, rfl⟩
          unfold fX10_tell_L74
          rw [y_u2, hg5.1.1, y_le_t (by omega) (by omega), hx]
      have k4 : ∃ r, zLp (fX10_tell_L59 gl g5) zFU ((fun k (x : Int32) => (x, nI k)) 1 (-1)) = some r ∧ r = (match yTl a d (2 ^ a 0 0) with | none => -1 | some v => nI v) := by
        refine y_for (fun k (x : Int32) => (x, nI k)) (2 ^ a 0 0) (fun j x => x = (match yTl a d j with | none => -1 | some v => nI v)) _ ?_ ?_ zFU 1 _ (by omega) (by rw [yTl_1 ok]) (by unfold zFU; omega)
        · intro j x hj hx
          have sp : yTl a d (j + 1) = some j → (match yTl a d (j + 1) with | none => (-1 : Int32) | some v => nI v) = nI j := fun e => by rw [e]
          have sq : yTl a d (j + 1) = yTl a d j → (match yTl a d (j + 1) with | none => (-1 : Int32) | some v => nI v) = x := fun e => by rw [e, hx]
          have hR := yRb_lt ok d j (a 0 0) (by omega)
          have hp2 := yPop_le j
          obtain ⟨r3, hr3, rfl⟩ := k3 j hj
          refine ⟨(match yTl a d (j + 1) with | none => (-1 : Int32) | some v => nI v), ?_, rfl⟩
          unfold fX10_tell_L59 fX10_tell_L59J146 fX10_tell_L59J141 fX10_tell_L59J147
          rw [y_u2, s10_all ok hg5, y_b1, hF, y_lt_f (by omega) (by omega), show ((0, 0) : Int32 × Int32) = (fun k (x : Nat) => (nI x, nI k)) 0 0 from rfl, hr3, y_b1, y_u1, y_b1, s10_ones (a := j) (by omega), y_b1, y_a1]
          by_cases c3 : yRb a d j (a 0 0) = F
          · rw [y_eq_t c3]
            cases hB : yTl a d j with
            | none =>
              have hxn : x < 0 := by rw [hx, hB]; exact y_n1
              rw [if_pos hxn, y_lt_e, sp (by rw [yTl]; exact if_pos ⟨by rw [hF]; exact c3, fun v hv => by rw [hB] at hv; cases hv⟩)]
            | some v =>
              have hv1 := yTl_lt a d j v hB
              have hpv := yPop_le v
              have hxe : x = nI v := by rw [hx, hB]
              rw [if_neg (by rw [hxe]; exact y_nn (by omega)), show fX10_ones x = some (nI (yPop v)) from by rw [hxe]; exact s10_ones (by omega), y_b1]
              by_cases c4 : yPop j < yPop v
              · rw [y_le_f c4 (by omega), y_lt_e, sp (by rw [yTl]; exact if_pos ⟨by rw [hF]; exact c3, fun v' hv => by rw [hB] at hv; cases hv; exact c4⟩)]
              · rw [y_le_t (by omega) (by omega), y_lt_e, sq (by rw [yTl]; exact if_neg (fun zz => c4 (zz.2 v hB)))]
          · rw [y_eq_f c3 (by omega) (by omega), y_lt_e, sq (by rw [yTl]; exact if_neg (fun zz => c3 (by rw [← hF]; exact zz.1)))]
        · intro x hx
          refine ⟨_, ?_, by rw [← hx]⟩
          unfold fX10_tell_L59
          rw [y_u2, s10_all ok hg5, y_b1, y_lt_t (by omega) (by omega)]
      obtain ⟨r1, hr1, rfl⟩ := k1
      obtain ⟨r4, hr4, hr4e⟩ := k4
      have hsome : ∃ v, yTl a d (2 ^ a 0 0) = some v := by
        cases hB : yTl a d (2 ^ a 0 0 - 1) with
        | some v =>
          by_cases c : yRb a d (2 ^ a 0 0 - 1) (a 0 0) = 2 ^ a 0 0 - 1 ∧ (∀ v, yTl a d (2 ^ a 0 0 - 1) = some v → yPop (2 ^ a 0 0 - 1) < yPop v)
          · exact ⟨_, by rw [show 2 ^ a 0 0 = (2 ^ a 0 0 - 1) + 1 by omega, yTl]; exact if_pos c⟩
          · exact ⟨v, by rw [show 2 ^ a 0 0 = (2 ^ a 0 0 - 1) + 1 by omega, yTl, if_neg c]; exact hB⟩
        | none =>
          exact ⟨_, by rw [show 2 ^ a 0 0 = (2 ^ a 0 0 - 1) + 1 by omega, yTl]; exact if_pos ⟨yRb_all ok d, fun v hv => by rw [hB] at hv; cases hv⟩⟩
      obtain ⟨v, hv⟩ := hsome
      have hvl := yTl_lt a d _ v hv
      rw [hv] at hr4e hr1
      have hr4e : r4 = nI v := hr4e
      have hr1 : zLp (fX9_tell_L45 (nI F) gd') zFU ((fun k (x : Nat) => (nI x, nI k)) 0 F) = some (nI v) := hr1
      subst hr4e
      rw [s8_everybody ok hc, y_b1, hF, c1, y_b1, show ((nI F, 0) : Int32 × Int32) = (fun k (x : Nat) => (nI x, nI k)) 0 F from rfl, hr1, y_b1, y_u1, s9_countOrSet (by omega) h, y_b1, show ((0, g) : Int32 × zM) = (fun k (x : zM) => (nI k, x)) 0 g from rfl, hr5, y_b1, y_u1, show ((-1, 1) : Int32 × Int32) = (fun k (x : Int32) => (x, nI k)) 1 (-1) from rfl, hr4, y_b1, y_u1]
      rcases y_ei h with rfl | rfl
      · rw [if_pos rfl, if_pos rfl, s10_ones (by omega), y_b1]
        exact ⟨_, _, _, rfl, rfl, hks5⟩
      · rw [if_neg (by decide), if_neg (by decide)]
        exact ⟨_, _, _, rfl, rfl, hks5⟩
  · rw [y_bl_f hx]
    by_cases c : x < 0
    · rw [if_pos c]
      exact ⟨_, _, _, rfl, rfl, yKs.rf g⟩
    · rw [if_neg c, if_pos (by
        have := hx2.resolve_left c
        obtain ⟨j, hj, rfl⟩ := nI_of c
        rw [y_le (by omega) hj] at this
        rw [y_lt (by omega) hj]; omega)]
      exact ⟨_, _, _, rfl, rfl, yKs.rf g⟩
