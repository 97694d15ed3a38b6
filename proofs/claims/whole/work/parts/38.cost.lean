/-! ===== what is cut between ===== -/
def yCc (a : yA) (c : Nat → Bool) : Nat → Nat × Nat × Bool
  | 0 => (0, 0, false)
  | k + 1 => if c k then ((yCc a c k).1 + 1, (yCc a c k).2.1 + a 5 k, (yCc a c k).2.2 || decide (a 7 k = 1)) else yCc a c k
theorem yCc_bd {a : yA} (ok : yOk a) (c : Nat → Bool) : ∀ k, k ≤ a 0 1 → (yCc a c k).1 ≤ k ∧ (yCc a c k).2.1 ≤ 99 * k
  | 0, _ => ⟨Nat.le_refl _, Nat.le_refl _⟩
  | k + 1, hk => by
    have ih := yCc_bd ok c k (by omega)
    have o := ok.2.2.1 k (by omega)
    unfold yCc
    by_cases h : c k = true
    · rw [if_pos h]
      refine ⟨?_, ?_⟩
      · show (yCc a c k).1 + 1 ≤ k + 1; omega
      · show (yCc a c k).2.1 + a 5 k ≤ 99 * (k + 1); omega
    · rw [if_neg h]; omega
theorem yCc_must {a : yA} {c : Nat → Bool} {k m : Nat} (h : k ≤ m) (hm : (yCc a c k).2.2 = true) : (yCc a c m).2.2 = true := by
  induction m with
  | zero => have : k = 0 := by omega
            subst this; exact hm
  | succ m ih =>
    by_cases e : k = m + 1
    · subst e; exact hm
    · have := ih (by omega)
      unfold yCc
      by_cases hc : c m = true
      · rw [if_pos hc]; show ((yCc a c m).2.2 || _) = true; rw [this]; rfl
      · rw [if_neg hc]; exact this
theorem s4_cost {gp w : zM} {a : yA} (ok : yOk a) (hc : yC w a) {o : Nat} (hO : o < 2 ^ 14) (W : Nat → Bool) (hW : ∀ i, i < a 0 1 → fX4_isWithin gp w (nI i) = some (yBl (W i))) : fX4_cost gp w (nI o) = some (if (yCc a (fun i => o.testBit i && !W i) (a 0 1)).2.2 = true then -3 else nI (2048 * (yCc a (fun i => o.testBit i && !W i) (a 0 1)).1 + (yCc a (fun i => o.testBit i && !W i) (a 0 1)).2.1)) := by
  have h0 := ok.1
  generalize hcc : (fun i => o.testBit i && !W i) = cc
  have hcc' : ∀ i, cc i = (o.testBit i && !W i) := fun i => by rw [← hcc]
  have key : ∃ b, zLp (fX4_cost_L5 (nI o) gp w) zFU (0, 0) = some b ∧ (((yCc a cc (a 0 1)).2.2 = false ∧ b = .inl (nI (2048 * (yCc a cc (a 0 1)).1 + (yCc a cc (a 0 1)).2.1))) ∨ ((yCc a cc (a 0 1)).2.2 = true ∧ b = .inr ())) := by
    refine y_lp (fun s => ∃ k, k ≤ a 0 1 ∧ (yCc a cc k).2.2 = false ∧ s = (nI (2048 * (yCc a cc k).1 + (yCc a cc k).2.1), nI k)) (fun s => 20 - s.2.toNatClampNeg) _ ?_ zFU _ ⟨0, by omega, rfl, rfl⟩ (by unfold zFU; show 20 - _ < _; omega)
    rintro s ⟨k, hk, hm, rfl⟩
    unfold fX4_cost_L5 fX4_cost_L5J63
    rw [y_u2, hc.1.2.1]
    by_cases c : k < a 0 1
    · have o' := ok.2.2.1 k c
      have step : ∀ x, x = nI (2048 * (yCc a cc (k + 1)).1 + (yCc a cc (k + 1)).2.1) → (yCc a cc (k + 1)).2.2 = false → ∃ z, (zLt (nI k + 1) fun v5 => some (Sum.inl (x, v5)) : Option ((Int32 × Int32) ⊕ (Int32 ⊕ Unit))) = some z ∧ zSm z (fun a' => (∃ k, k ≤ a 0 1 ∧ (yCc a cc k).2.2 = false ∧ a' = (nI (2048 * (yCc a cc k).1 + (yCc a cc k).2.1), nI k)) ∧ 20 - a'.2.toNatClampNeg < 20 - (nI k).toNatClampNeg) (fun b => ((yCc a cc (a 0 1)).2.2 = false ∧ b = .inl (nI (2048 * (yCc a cc (a 0 1)).1 + (yCc a cc (a 0 1)).2.1))) ∨ ((yCc a cc (a 0 1)).2.2 = true ∧ b = .inr ())) := by
        intro x hx hm2
        rw [y_lt_e, y_a1]
        refine ⟨_, rfl, ⟨k + 1, by omega, hm2, by rw [hx]⟩, ?_⟩
        show 20 - (nI (k + 1)).toNatClampNeg < _
        rw [y_cl (by omega), y_cl (by omega)]; omega
      simp only [y_le_f c (show a 0 1 < 2147483648 by omega), y_bit0 (show o < 2147483648 by omega) (show k < 31 by omega), hW k c, y_b1]
      have hck := hcc' k
      cases b1 : o.testBit k
      · rw [if_pos rfl]
        rw [b1, Bool.false_and] at hck
        have e : yCc a cc (k + 1) = yCc a cc k := by rw [yCc, if_neg (by rw [hck]; decide)]
        exact step _ (by rw [e]) (by rw [e]; exact hm)
      · rw [if_neg (by decide)]
        rw [b1, Bool.true_and] at hck
        cases b2 : W k
        · rw [b2] at hck
          rw [y_bl_f rfl, y_gin (by omega) (by omega), y_lt_e, y_cl (by omega), hc.2.2.2.2.2.2.2.1 k c]
          have e : yCc a cc (k + 1) = ((yCc a cc k).1 + 1, (yCc a cc k).2.1 + a 5 k, (yCc a cc k).2.2 || decide (a 7 k = 1)) := by rw [yCc, if_pos (by rw [hck]; rfl)]
          by_cases m : a 7 k = 0
          · rw [y_0_t m, y_gin (by omega) (by omega), y_lt_e, y_lt_e, hc.2.2.2.2.2.1 k c, show (2048 : Int32) = nI 2048 from rfl, y_add, y_add]
            have := step (nI (2048 * (yCc a cc k).1 + (yCc a cc k).2.1 + (2048 + a 5 k))) (by rw [e]; show nI _ = nI (2048 * ((yCc a cc k).1 + 1) + ((yCc a cc k).2.1 + a 5 k)); congr 1; omega) (by rw [e]; show ((yCc a cc k).2.2 || decide (a 7 k = 1)) = false; rw [hm, m]; rfl)
            rw [y_cl (by omega)] at this
            exact this
          · rw [y_0_f m (by omega)]
            refine ⟨_, rfl, Or.inr ⟨?_, rfl⟩⟩
            refine yCc_must (k := k + 1) (by omega) ?_
            rw [e]
            show ((yCc a cc k).2.2 || decide (a 7 k = 1)) = true
            rw [show a 7 k = 1 by omega]; simp
        · rw [b2] at hck
          rw [y_bl_t rfl]
          have e : yCc a cc (k + 1) = yCc a cc k := by rw [yCc, if_neg (by rw [hck]; decide)]
          exact step _ (by rw [e]) (by rw [e]; exact hm)
    · have e : k = a 0 1 := by omega
      subst e
      rw [y_le_t (by omega) (by omega)]
      exact ⟨_, rfl, Or.inl ⟨hm, rfl⟩⟩
  obtain ⟨b, e, h⟩ := key
  unfold fX4_cost
  rw [e, y_b1]
  rcases h with ⟨h, rfl⟩ | ⟨h, rfl⟩
  · rw [h, if_neg (by decide)]; rfl
  · rw [h, if_pos rfl]; rfl
def yCt (g : zM) (t : Nat × Nat × Bool) : Prop := g 0 27 = nI t.1 ∧ g 0 28 = nI t.2.1 ∧ g 0 29 = yBl t.2.2
theorem s10_beginCut (g : zM) (gl : zL) : ∃ g', fX10_beginCut g gl = some g' ∧ yKs g g' ∧ yCt g' (0, 0, false) ∧ g' 11 = g 11 := by
  unfold fX10_beginCut
  rw [y_lt_e, y_lt_e, y_lt_e]
  refine ⟨_, rfl, (((yKs.rf g).pu0 (by decide)).pu0 (by decide)).pu0 (by decide), ⟨?_, ?_, ?_⟩, ?_⟩
  · rw [zPu_j (by omega), zPu_j (by omega), zPu_s]; rfl
  · rw [zPu_j (by omega), zPu_s]; rfl
  · rw [zPu_s]; rfl
  · rw [zPu_k (by omega), zPu_k (by omega), zPu_k (by omega)]
theorem s10_countCut {g : zM} {gl : zL} {a : yA} (ok : yOk a) (hg : yG g a) {i : Nat} (hi : i < a 0 1) {t : Nat × Nat × Bool} (ht : yCt g t) : ∃ g', fX10_countCut g gl (nI i) = some g' ∧ yKs g g' ∧ yCt g' (t.1 + 1, t.2.1 + a 5 i, t.2.2 || decide (a 7 i = 1)) ∧ g' 11 = g 11 := by
  have h0 := ok.1
  have o := ok.2.2.1 i hi
  obtain ⟨t1, t2, t3⟩ := ht
  unfold fX10_countCut fX10_countCut_J43 fX10_countCut_J48
  have i2 : ∀ G : zM, fX10_its G gl (nI i) 2 = some (G 2 (5 * i + 2)) := fun G => s10_its (j := 2) (by omega) (by omega)
  have i4 : ∀ G : zM, fX10_its G gl (nI i) 4 = some (G 2 (5 * i + 4)) := fun G => s10_its (j := 4) (by omega) (by omega)
  rw [t1, y_lt_e, y_lt_e, i2, y_b1, y_lt_e, y_lt_e, zPu_k (show 2 ≠ 0 by omega), zPu_j (show 28 ≠ 27 by omega), t2, hg.2.2.2.2.2.1 i hi, y_a1, y_add, zPu_j (show 29 ≠ 28 by omega), zPu_j (show 29 ≠ 27 by omega), t3, i4, y_b1, zPu_k (show 2 ≠ 0 by omega), zPu_k (show 2 ≠ 0 by omega), hg.2.2.2.2.2.2.2.1 i hi]
  have fin : ∀ b : Bool, b = (t.2.2 || decide (a 7 i = 1)) → ∃ g', some (zPu (zPu (zPu g 0 27 (nI (t.1 + 1))) 0 28 (nI (t.2.1 + a 5 i))) 0 29 (yBl b)) = some g' ∧ yKs g g' ∧ yCt g' (t.1 + 1, t.2.1 + a 5 i, t.2.2 || decide (a 7 i = 1)) ∧ g' 11 = g 11 := by
    rintro b rfl
    refine ⟨_, rfl, (((yKs.rf g).pu0 (by decide)).pu0 (by decide)).pu0 (by decide), ⟨?_, ?_, ?_⟩, ?_⟩
    · rw [zPu_j (by omega), zPu_j (by omega), zPu_s]
    · rw [zPu_j (by omega), zPu_s]
    · rw [zPu_s]
    · rw [zPu_k (by omega), zPu_k (by omega), zPu_k (by omega)]
  rw [y_gd (show zBo 1 = true from rfl), y_gd (show zBo 0 = true from rfl), y_lt_e, y_lt_e]
  cases hm : t.2.2
  · rw [y_bl_f rfl]
    by_cases e : a 7 i = 1
    · rw [e, if_pos (show nI 1 = 1 from rfl)]
      have := fin true (by rw [hm, e]; rfl)
      rw [hm, e] at this; exact this
    · have e0 : a 7 i = 0 := by omega
      rw [e0, if_neg (by decide)]
      have := fin false (by rw [hm, e0]; rfl)
      rw [hm, e0] at this; exact this
  · rw [y_bl_t rfl]
    have := fin true (by rw [hm]; rfl)
    rw [hm] at this; exact this
theorem s10_fewL {g : zM} {gl : zL} {a : yA} (ok : yOk a) (hg : yG g a) {o s : Nat} (hO : o < 2 ^ 14) (hs : s < 2 ^ 10) : ∃ g1 g', fX10_beginCut g gl = some g1 ∧ zLp (fX10_fewest_L70 gl (nI o) (nI s)) zFU (0, g1) = some g' ∧ yKs g g' ∧ yCt g' (yCc a (fun i => o.testBit i && !(s.testBit (a 3 i) == s.testBit (a 4 i))) (a 0 1)) := by
  have h0 := ok.1
  obtain ⟨g1, b1, b2, b3, -⟩ := s10_beginCut g gl
  generalize hcc : (fun i => o.testBit i && !(s.testBit (a 3 i) == s.testBit (a 4 i))) = cc
  have hcc' : ∀ i, cc i = (o.testBit i && !(s.testBit (a 3 i) == s.testBit (a 4 i))) := fun i => by rw [← hcc]
  have key : ∃ b, zLp (fX10_fewest_L70 gl (nI o) (nI s)) zFU ((fun k (x : zM) => (nI k, x)) 0 g1) = some b ∧ (yKs g b ∧ yCt b (yCc a cc (a 0 1))) := by
    refine y_for (fun k (x : zM) => (nI k, x)) (a 0 1) (fun k b => yKs g b ∧ yCt b (yCc a cc k)) _ ?_ ?_ zFU 0 g1 (by omega) ⟨b2, b3⟩ (by unfold zFU; omega)
    · rintro k x hk ⟨i1, i2⟩
      have hg' := hg.ks i1
      obtain ⟨g', c1, c2, c3, -⟩ := s10_countCut (gl := gl) ok hg' hk i2
      have hy := (yIn_eq ok hk s).1
      have hck := hcc' k
      by_cases q : cc k = true
      · refine ⟨g', ?_, i1.tr c2, by rw [yCc, if_pos q]; exact c3⟩
        rw [hck, Bool.and_eq_true] at q
        obtain ⟨q1, q2⟩ := q
        have hy1 : yIn a k s = 1 := by
          rw [hy]
          revert q2
          cases s.testBit (a 3 k) <;> cases s.testBit (a 4 k) <;> simp
        show fX10_fewest_L70 gl (nI o) (nI s) (nI k, x) = _
        unfold fX10_fewest_L70 fX10_fewest_L70J108
        simp only [y_u2, hg'.1.2.1, y_le_f hk (show a 0 1 < 2147483648 by omega), y_bit1 (show o < 2147483648 by omega) (show k < 31 by omega)]
        rw [if_pos q1, s10_inSet ok hg' hk, y_b1, hy1, if_pos (show nI 1 = 1 from rfl), c1, y_b1, y_lt_e, y_a1]
      · refine ⟨x, ?_, i1, by rw [yCc, if_neg q]; exact i2⟩
        show fX10_fewest_L70 gl (nI o) (nI s) (nI k, x) = _
        unfold fX10_fewest_L70 fX10_fewest_L70J108
        simp only [y_u2, hg'.1.2.1, y_le_f hk (show a 0 1 < 2147483648 by omega), y_bit1 (show o < 2147483648 by omega) (show k < 31 by omega)]
        cases b1 : o.testBit k
        · rw [if_neg (by decide), y_lt_e, y_a1]
        · rw [hck, b1, Bool.true_and] at q
          have hy1 : yIn a k s ≠ 1 := by
            rw [hy]
            revert q
            cases s.testBit (a 3 k) <;> cases s.testBit (a 4 k) <;> simp
          have hle : yIn a k s ≤ 2 := by rw [hy]; split <;> split <;> omega
          rw [if_pos rfl, s10_inSet ok hg' hk, y_b1, if_neg (show ¬ nI (yIn a k s) = 1 from fun e => hy1 ((nI_eq (b := 1) (by omega) (by omega)).mp e)), y_lt_e, y_a1]
    · intro x hx
      refine ⟨x, ?_, hx⟩
      show fX10_fewest_L70 gl (nI o) (nI s) (nI (a 0 1), x) = _
      unfold fX10_fewest_L70
      rw [y_u2, (hg.ks hx.1).1.2.1, y_le_t (by omega) (by omega)]
  obtain ⟨b, e, h⟩ := key
  exact ⟨g1, b, b1, e, h.1, h.2⟩
theorem s4_halve {gp : zM} {s : Nat} (hs : s < 2 ^ 10) : ∃ gp', fX4_halve gp (nI s) = some gp' ∧ ∀ p, p < 10 → gp' 1 p = nI (if s.testBit p then 1 else 0) := by
  have key : ∃ b, zLp (fX4_halve_L2 (nI s)) zFU ((fun k (x : zM) => (nI k, x)) 0 gp) = some b ∧ ∀ p, p < 10 → b 1 p = nI (if s.testBit p then 1 else 0) := by
    refine y_for (fun k (x : zM) => (nI k, x)) 10 (fun k b => ∀ p, p < k → b 1 p = nI (if s.testBit p then 1 else 0)) _ ?_ ?_ zFU 0 gp (by omega) (fun p hp => absurd hp (by omega)) (by unfold zFU; omega)
    · intro k x hk i1
      refine ⟨zPu x 1 k (nI (if s.testBit k then 1 else 0)), ?_, fun p hp => ?_⟩
      · show fX4_halve_L2 (nI s) (nI k, x) = _
        unfold fX4_halve_L2
        rw [y_u2, show (10 : Int32) = nI 10 from rfl, y_le_f (by omega) (by omega), y_lt_e, y_bit (by omega) (by omega), y_gin (by omega) (by omega), y_lt_e, y_lt_e, y_cl (by omega), y_a1]
      · by_cases e : p = k
        · subst e; rw [zPu_s]
        · rw [zPu_j e]; exact i1 p (by omega)
    · intro x hx
      refine ⟨x, ?_, hx⟩
      show fX4_halve_L2 (nI s) (nI 10, x) = _
      unfold fX4_halve_L2
      rw [y_u2, show (10 : Int32) = nI 10 from rfl, y_le_t (by omega) (by omega)]
  obtain ⟨b, e, h⟩ := key
  refine ⟨b, ?_, h⟩
  unfold fX4_halve
  show zB1 (zLp (fX4_halve_L2 (nI s)) zFU ((fun k (x : zM) => (nI k, x)) 0 gp)) _ = _
  rw [e, y_b1, y_u1]
theorem s4_isWithin {gp w : zM} {a : yA} (ok : yOk a) (hc : yC w a) {i : Nat} (hi : i < a 0 1) : fX4_isWithin gp w (nI i) = some (yBl (decide (gp 1 (a 3 i) = gp 1 (a 4 i)))) := by
  have h0 := ok.1
  have o := ok.2.2.1 i hi
  unfold fX4_isWithin
  rw [y_gin (by omega) (by omega), y_lt_e, y_cl (by omega), hc.2.2.2.1 i hi, y_gin (by omega) (by omega), y_lt_e, y_cl (by omega), y_gin (by omega) (by omega), y_lt_e, hc.2.2.2.2.1 i hi, y_gin (by omega) (by omega), y_lt_e, y_cl (by omega)]
  by_cases e : gp 1 (a 3 i) = gp 1 (a 4 i)
  · rw [if_pos e, decide_eq_true e]; rfl
  · rw [if_neg e, decide_eq_false e]; rfl
