/-! ===== guards: the table of the model ===== -/
theorem y_shlK : ∀ G, G < 256 → nI G <<< ((8 : Int32) &&& 31) = nI (256 * G) := by decide +kernel
theorem y_shl8 {G R : Nat} (hG : G < 256) (hR : R < 256) : nI G <<< ((8 : Int32) &&& 31) ||| nI R = nI (256 * G + R) := by
  rw [y_shlK G hG, y_or, show (256 : Nat) * G + R = 2 ^ 8 * G + R from rfl, Nat.two_pow_add_eq_or_of_lt (show R < 2 ^ 8 from hR) G]
def yWo : Option Nat → Int32
  | none => -9
  | some q => nI q
def yGf (a : yA) (b k s w : Nat) : Nat → Nat := fun p => yEd a b k (ySd (yAr a b s) (w ||| 2 ^ p)) (w ||| 2 ^ p)
def yGc (s w : Nat) : Nat → Bool := fun p => !(s ||| w).testBit p
theorem yEd_t {a : yA} {b k s w : Nat} (h : ySd (yAr a b s) w ≠ s) : yEd a b (k + 1) s w = yMn (yGf a b k s w) (yGc s w) (a 0 0) := by
  rw [yEd, if_neg h]; rfl
theorem yEd_n {a : yA} {b k s w : Nat} (h : ySd (yAr a b s) w = s) : yEd a b k s w = yPop s := by
  cases k with
  | zero => rfl
  | succ k => rw [yEd, if_pos h]
theorem yGf_8 {a : yA} (ok : yOk a) {b k s w : Nat} (h8 : a 0 0 ≤ 8) (hs : s < 2 ^ a 0 0) (p : Nat) : yGf a b k s w p ≤ 8 := yEd_8 ok h8 k _ _ (y_sd_lt (yAr_ltn ok hs)) (y_dj (s := s) _)
theorem y_wor {w p : Nat} : w ||| 2 ^ p = w ↔ w.testBit p = true := by
  constructor
  · intro h
    rw [← h, Nat.testBit_or, Nat.testBit_two_pow_self, Bool.or_true]
  · intro h
    apply Nat.eq_of_testBit_eq
    intro i
    rw [Nat.testBit_or, Nat.testBit_two_pow]
    by_cases e : p = i
    · subst e; rw [h]; rfl
    · rw [decide_eq_false e, Bool.or_false]
theorem s10_gL143 {g : zM} {gl : zL} {a : yA} {b s w k : Nat} (ok : yOk a) (hg : yG g a) (h8 : a 0 0 ≤ 8) (hn : yNe a b g) (hs : s < 2 ^ a 0 0) (hw : w < 2 ^ a 0 0) (hsw : ∀ i, s.testBit i = true → w.testBit i = false) (hT : ∀ p, p < a 0 0 → (s ||| w).testBit p = false → g 14 (256 * (w ||| 2 ^ p) + ySd (yAr a b s) (w ||| 2 ^ p)) = nI (yGf a b k s w p)) (hth : ySd (yAr a b s) w ≠ s) : zLp (fX10_guards_L143 gl (nI w) (nI s) g) zFU (nI (yPop s), -9, 0) = some (nI (yMn (yGf a b k s w) (yGc s w) (a 0 0)), yWo (yWm (yGf a b k s w) (yGc s w) (a 0 0))) := by
  have h0 := ok.1
  have hp8 : 2 ^ a 0 0 ≤ 2 ^ 8 := Nat.pow_le_pow_right (by omega) h8
  have hF := fun p => yGf_8 (b := b) (k := k) (w := w) ok h8 hs p
  have key : ∃ r, zLp (fX10_guards_L143 gl (nI w) (nI s) g) zFU ((fun k (x : Int32 × Int32) => (x.1, x.2, nI k)) 0 (nI (yPop s), -9)) = some r ∧ ((yWm (yGf a b k s w) (yGc s w) (a 0 0) = none ∧ r = (nI (yPop s), -9)) ∨ ∃ q, yWm (yGf a b k s w) (yGc s w) (a 0 0) = some q ∧ r = (nI (yMn (yGf a b k s w) (yGc s w) (a 0 0)), nI q)) := by
    refine y_for (fun k (x : Int32 × Int32) => (x.1, x.2, nI k)) (a 0 0) (fun p x => (yWm (yGf a b k s w) (yGc s w) p = none ∧ x = (nI (yPop s), -9)) ∨ ∃ q, yWm (yGf a b k s w) (yGc s w) p = some q ∧ x = (nI (yMn (yGf a b k s w) (yGc s w) p), nI q)) _ ?_ ?_ zFU 0 (nI (yPop s), -9) (by omega) (Or.inl ⟨rfl, rfl⟩) (by unfold zFU; omega)
    · intro p x hp hx
      have hWM := yWm_mn (f := yGf a b k s w) (c := yGc s w) p (fun p _ _ => hF p)
      have step : ∀ x' : Int32 × Int32, ((yWm (yGf a b k s w) (yGc s w) (p + 1) = none ∧ x' = (nI (yPop s), -9)) ∨ ∃ q, yWm (yGf a b k s w) (yGc s w) (p + 1) = some q ∧ x' = (nI (yMn (yGf a b k s w) (yGc s w) (p + 1)), nI q)) → fX10_guards_L143 gl (nI w) (nI s) g (x.1, x.2, nI p) = some (.inl (x'.1, x'.2, nI (p + 1))) → ∃ y : Int32 × Int32, fX10_guards_L143 gl (nI w) (nI s) g ((fun k (x : Int32 × Int32) => (x.1, x.2, nI k)) p x) = some (.inl ((fun k (x : Int32 × Int32) => (x.1, x.2, nI k)) (p + 1) y)) ∧ ((yWm (yGf a b k s w) (yGc s w) (p + 1) = none ∧ y = (nI (yPop s), -9)) ∨ ∃ q, yWm (yGf a b k s w) (yGc s w) (p + 1) = some q ∧ y = (nI (yMn (yGf a b k s w) (yGc s w) (p + 1)), nI q)) := fun x' h1 h2 => ⟨x', h2, h1⟩
      have hw2 : w ||| 2 ^ p < 2 ^ a 0 0 := y_or_lt2 hw hp
      have same : yGc s w p = false → ((yWm (yGf a b k s w) (yGc s w) (p + 1) = none ∧ x = (nI (yPop s), -9)) ∨ ∃ q, yWm (yGf a b k s w) (yGc s w) (p + 1) = some q ∧ x = (nI (yMn (yGf a b k s w) (yGc s w) (p + 1)), nI q)) := fun hc => by
        rw [yWm, yMn, hc, if_neg (fun h => by cases h.1), if_neg (by decide)]
        exact hx
      by_cases c1 : w.testBit p = true
      · refine step x (same (by unfold yGc; rw [Nat.testBit_or, c1, Bool.or_true]; rfl)) ?_
        unfold fX10_guards_L143 fX10_guards_L143J223
        rw [y_u3, hg.1.1, y_le_f hp (by omega), y_one (by omega), y_or, y_lt_e, y_wor.mpr c1, if_pos rfl, y_lt_e, y_a1]
      · have c1' : ¬ w ||| 2 ^ p = w := fun h => c1 (y_wor.mp h)
        by_cases c2 : s.testBit p = true
        · refine step x (same (by unfold yGc; rw [Nat.testBit_or, c2, Bool.true_or]; rfl)) ?_
          unfold fX10_guards_L143 fX10_guards_L143J223
          rw [y_u3, hg.1.1, y_le_f hp (by omega), y_one (by omega), y_or, y_lt_e, y_eq_f c1' (by omega) (by omega), if_pos ((y_bit1 (by omega) (by omega)).mpr c2), y_lt_e, y_a1]
        · have hor : (s ||| w).testBit p = false := by rw [Nat.testBit_or, Bool.eq_false_iff.mpr c1, Bool.eq_false_iff.mpr c2]; rfl
          have hC : yGc s w p = true := by unfold yGc; rw [hor]; rfl
          have hR : ySd (yAr a b s) (w ||| 2 ^ p) < 2 ^ a 0 0 := y_sd_lt (yAr_ltn ok hs)
          have hv := hT p hp hor
          have hFp := hF p
          have body : fX10_guards_L143 gl (nI w) (nI s) g (x.1, x.2, nI p) = (if x.2 < 0 then some (.inl (nI (yGf a b k s w p), nI p, nI (p + 1))) else if x.1 ≤ nI (yGf a b k s w p) then some (.inl (x.1, x.2, nI (p + 1))) else some (.inl (nI (yGf a b k s w p), nI p, nI (p + 1)))) := by
            unfold fX10_guards_L143 fX10_guards_L143J215 fX10_guards_L143J223
            rw [y_u3, hg.1.1, y_le_f hp (by omega), y_one (by omega), y_or, y_lt_e, y_eq_f c1' (by omega) (by omega), if_neg (fun h => c2 ((y_bit1 (by omega) (by omega)).mp h)), s10_tells ok hg h8 hn hs, y_b1, y_shl8 (by omega) (by omega), y_gin (by omega) (by omega), y_lt_e, y_cl (by omega), hv]
            simp only [y_lt_e, y_a1]
          rcases hx with ⟨i1, rfl⟩ | ⟨q, i1, rfl⟩
          · rcases hWM with ⟨j1, j2, -⟩ | ⟨q, -, j1, -⟩
            · refine step (nI (yGf a b k s w p), nI p) (Or.inr ⟨p, by rw [yWm, hC, j2, if_pos ⟨rfl, by omega⟩], by rw [yMn, hC, j2, if_pos rfl, if_pos (by omega)]⟩) ?_
              rw [body, if_pos (show (-9 : Int32) < 0 by decide)]
            · rw [i1] at j1; cases j1
          · rcases hWM with ⟨j1, -, -⟩ | ⟨q', j0, j1, j2⟩
            · rw [i1] at j1; cases j1
            · rw [i1] at j1
              have := Option.some.inj j1
              subst this
              by_cases d : yGf a b k s w p < yMn (yGf a b k s w) (yGc s w) p
              · refine step (nI (yGf a b k s w p), nI p) (Or.inr ⟨p, by rw [yWm, hC, if_pos ⟨rfl, d⟩], by rw [yMn, hC, if_pos rfl, if_pos d]⟩) ?_
                rw [body, if_neg (y_nn (by omega)), y_le_f d (by omega)]
              · refine step (nI (yMn (yGf a b k s w) (yGc s w) p), nI q) (Or.inr ⟨q, by rw [yWm, if_neg (fun h => d h.2)]; exact i1, by rw [yMn, hC, if_pos rfl, if_neg d]⟩) ?_
                rw [body, if_neg (y_nn (by omega)), y_le_t (by omega) (by omega)]
    · intro x hx
      refine ⟨x, ?_, hx⟩
      show fX10_guards_L143 gl (nI w) (nI s) g (x.1, x.2, nI (a 0 0)) = _
      unfold fX10_guards_L143
      rw [y_u3, hg.1.1, y_le_t (by omega) (by omega)]
  obtain ⟨r, e, hr⟩ := key
  have e' : zLp (fX10_guards_L143 gl (nI w) (nI s) g) zFU (nI (yPop s), -9, 0) = some r := e
  rw [e']
  rcases hr with ⟨i1, -⟩ | ⟨q, i1, rfl⟩
  · exfalso
    obtain ⟨q, q1, q2⟩ := y_cand ok hs hsw hth
    rcases yWm_mn (f := yGf a b k s w) (c := yGc s w) (a 0 0) (fun p _ _ => hF p) with ⟨-, -, j⟩ | ⟨q', -, j, -⟩
    · have := j q q1
      unfold yGc at this
      rw [q2] at this; cases this
    · rw [i1] at j; cases j
  · rw [i1]; rfl
