theorem yPop8K : (List.range 256).all (fun x => Nat.ble (yPop x) 8) = true := by decide +kernel
theorem yPop8 {x : Nat} (h : x < 2 ^ 8) : yPop x ≤ 8 := Nat.le_of_ble_eq_true (List.all_eq_true.mp yPop8K x (List.mem_range.mpr h))
theorem y_dj {s w p : Nat} (A : Nat) : ∀ i, (ySd A (w ||| 2 ^ p)).testBit i = true → (w ||| 2 ^ p).testBit i = false := fun i h => by
  rw [ySd_t, Bool.and_eq_true, Bool.not_eq_true'] at h
  exact h.2
theorem s9_without {gx W gn : zM} {a : yA} {b s w p : Nat} {d : Int32} (ok : yOk a) (hn : yNet a b gn) (h8 : a 0 0 ≤ 8) (hs : s < 2 ^ a 0 0) (hw : w < 2 ^ a 0 0) (hsw : ∀ i, s.testBit i = true → w.testBit i = false) (hp : p < a 0 0) (hps : s.testBit p = false) {lk : zM → zM → zM → Int32 → Int32 → Int32 → Option Int32} {R : Nat} (hlk : lk gx W gn (nI (ySd (yAr a b s) (w ||| 2 ^ p))) (nI (w ||| 2 ^ p)) (d + 1) = some (nI R)) : fX9_knowingWithout_B lk gx W gn (nI p) (nI s) (nI w) d = some (nI R) := by
  have h0 := ok.1
  have hp10 : 2 ^ a 0 0 ≤ 2 ^ 10 := Nat.pow_le_pow_right (by omega) (by omega)
  have hsw' : ∀ i, s.testBit i = true → (w ||| 2 ^ p).testBit i = false := fun i hi => by
    rw [Nat.testBit_or, hsw i hi, Nat.testBit_two_pow, Bool.false_or]
    apply decide_eq_false
    intro e
    rw [← e, hps] at hi; cases hi
  unfold fX9_knowingWithout_B
  rw [y_one (by omega), y_or, y_lt_e, s3_around ok hn (by omega), y_b1, y_andn, y_or, yAu_ar ok b (by omega) hsw', hlk, y_b1]
theorem y_or_lt2 {w p n : Nat} (hw : w < 2 ^ n) (hp : p < n) : w ||| 2 ^ p < 2 ^ n := Nat.or_lt_two_pow hw (y_pow_lt hp)
theorem yAr_ltn {a : yA} (ok : yOk a) {b s : Nat} (hs : s < 2 ^ a 0 0) : yAr a b s < 2 ^ a 0 0 := y_ltp (fun i hi => by
  cases e : (yAr a b s).testBit i
  · rfl
  · rcases (yAr_t ok b s i).mp e with h | ⟨p, -, h⟩
    · rw [y_tf hs hi] at h; cases h
    · have := (h.lt ok).2
      omega)
theorem s9_lk {gx W gn : zM} {a : yA} {b : Nat} (ok : yOk a) (hc : yC W a) (hn : yNet a b gn) (h8 : a 0 0 ≤ 8) : ∀ (k s w : Nat), yPop w + k = 9 → s < 2 ^ a 0 0 → w < 2 ^ a 0 0 → (∀ i, s.testBit i = true → w.testBit i = false) → fX9_leastKnowing (k + 4) gx W gn (nI s) (nI w) (nI (9 - k)) = some (nI (yEd a b k s w)) := by
  have h0 := ok.1
  have hp8 : 2 ^ a 0 0 ≤ 2 ^ 8 := Nat.pow_le_pow_right (by omega) h8
  intro k
  induction k with
  | zero =>
    intro s w hk hs hw hsw
    have := yPop8 (x := w) (by omega)
    omega
  | succ k ih =>
    intro s w hk hs hw hsw
    rw [show fX9_leastKnowing (k + 1 + 4) gx W gn (nI s) (nI w) (nI (9 - (k + 1))) = fX9_leastKnowing_B (fX9_leastKnowing (k + 4)) gx W gn (nI s) (nI w) (nI (9 - (k + 1))) from rfl]
    unfold fX9_leastKnowing_B fX9_leastKnowing_B_J18
    rw [if_neg (show ¬ (10 : Int32) < nI (9 - (k + 1)) from fun e => by have : nI 10 < nI (9 - (k + 1)) := e; rw [y_lt (by omega) (by omega)] at this; omega), s3_isThreatened ok hn (by omega) hsw, y_b1, y_bc (by omega), y_b1, yEd]
    by_cases c : ySd (yAr a b s) w = s
    · rw [decide_eq_true c, y_bl_f (show (!true) = false from rfl), if_pos c]
    · rw [decide_eq_false c, y_bl_t (show (!false) = true from rfl), if_neg c]
      have key : ∃ r, zLp (fX9_leastKnowing_B_L30 (nI s) (nI w) (nI (9 - (k + 1))) gx W gn (fX9_leastKnowing (k + 4))) zFU ((fun j (x : Nat) => (nI x, nI j)) 0 11) = some r ∧ r = nI (yMn (fun p => yEd a b k (ySd (yAr a b s) (w ||| 2 ^ p)) (w ||| 2 ^ p)) (fun p => !(s ||| w).testBit p) (a 0 0)) := by
        refine y_for (fun j (x : Nat) => (nI x, nI j)) (a 0 0) (fun j x => x = yMn (fun p => yEd a b k (ySd (yAr a b s) (w ||| 2 ^ p)) (w ||| 2 ^ p)) (fun p => !(s ||| w).testBit p) j) _ ?_ ?_ zFU 0 11 (by omega) rfl (by unfold zFU; omega)
        · intro p x hp hx
          refine ⟨yMn (fun p => yEd a b k (ySd (yAr a b s) (w ||| 2 ^ p)) (w ||| 2 ^ p)) (fun p => !(s ||| w).testBit p) (p + 1), ?_, rfl⟩
          have hx11 : x ≤ 11 := by rw [hx]; exact yMn_le _ _ p
          show fX9_leastKnowing_B_L30 (nI s) (nI w) (nI (9 - (k + 1))) gx W gn (fX9_leastKnowing (k + 4)) (nI x, nI p) = _
          unfold fX9_leastKnowing_B_L30 fX9_leastKnowing_B_L30J69
          have hor : s ||| w < 2147483648 := by
            have := Nat.or_lt_two_pow hs hw
            omega
          rw [y_or]
          simp only [y_u2, hc.1.1, y_le_f hp (show a 0 0 < 2147483648 by omega), y_bit0 hor (show p < 31 by omega)]
          rw [yMn, ← hx]
          cases t : (s ||| w).testBit p
          · have t' := t
            rw [Nat.testBit_or, Bool.or_eq_false_iff] at t'
            have hw2 : w ||| 2 ^ p < 2 ^ a 0 0 := y_or_lt2 hw hp
            have hpop := yPop_add1 (x := w) (p := p) (by omega) (by omega) t'.2
            have hrec := ih (ySd (yAr a b s) (w ||| 2 ^ p)) (w ||| 2 ^ p) (by omega) (y_sd_lt (yAr_ltn ok hs)) hw2 (y_dj (s := s) _)
            have hle := yEd_le a b k (ySd (yAr a b s) (w ||| 2 ^ p)) (w ||| 2 ^ p)
            rw [if_pos rfl, s9_without ok hn h8 hs hw hsw hp t'.1 (by rw [y_a1, show 9 - (k + 1) + 1 = 9 - k by omega]; exact hrec), y_b1, y_lt_e, y_lt_e, y_a1, if_pos (show (!false) = true from rfl)]
            by_cases d : yEd a b k (ySd (yAr a b s) (w ||| 2 ^ p)) (w ||| 2 ^ p) < x
            · rw [y_lt_t d (by omega), if_pos d]
            · rw [y_lt_f (by omega) (by omega), if_neg d]
          · rw [if_neg (show ¬ true = false by decide), y_lt_e, y_a1, if_neg (show ¬ (!true) = true by decide)]
        · intro x hx
          refine ⟨_, ?_, rfl⟩
          show fX9_leastKnowing_B_L30 (nI s) (nI w) (nI (9 - (k + 1))) gx W gn (fX9_leastKnowing (k + 4)) (nI x, nI (a 0 0)) = _
          unfold fX9_leastKnowing_B_L30
          rw [y_u2, hc.1.1, y_le_t (by omega) (by omega), hx]
      obtain ⟨r, e, rfl⟩ := key
      have e' : zLp (fX9_leastKnowing_B_L30 (nI s) (nI w) (nI (9 - (k + 1))) gx W gn (fX9_leastKnowing (k + 4))) zFU (11, 0) = some (nI (yMn (fun p => yEd a b k (ySd (yAr a b s) (w ||| 2 ^ p)) (w ||| 2 ^ p)) (fun p => !(s ||| w).testBit p) (a 0 0))) := e
      rw [e', y_b1, y_u1]
