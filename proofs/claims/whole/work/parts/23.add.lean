/-! ===== ranges ===== -/
theorem y_rng (x : Int32) {L M : Int32} {l m : Nat} (hL : L = nI l) (hM : M = nI m) (hlm : l ≤ m) (hm : m < 2147483648) : (∃ k, l ≤ k ∧ k ≤ m ∧ x = nI k ∧ fX10_in x L M = some 1 ∧ ¬ x < L ∧ ¬ M < x ∧ x ≤ M) ∨ (fX10_in x L M = some 0 ∧ (x < L ∨ (¬ x < L ∧ M < x ∧ ¬ x ≤ M))) := by
  subst hL; subst hM
  have e1 : (nI l).toInt = (l : Int) := nI_toInt (by omega)
  have e2 : (nI m).toInt = (m : Int) := nI_toInt (by omega)
  rw [s10_in, e1, e2]
  by_cases c1 : (l : Int) ≤ x.toInt
  · by_cases c2 : x.toInt ≤ (m : Int)
    · have hx : ¬ x < 0 := by
        rw [Int32.lt_iff_toInt_lt]; have : (0 : Int32).toInt = 0 := rfl; omega
      obtain ⟨k, hk, rfl⟩ := nI_of hx
      have e3 : (nI k).toInt = (k : Int) := nI_toInt (by omega)
      rw [e3] at c1 c2
      refine Or.inl ⟨k, by omega, by omega, rfl, ?_, ?_, ?_, ?_⟩
      · rw [e3, decide_eq_true c1, decide_eq_true c2]; rfl
      · rw [y_lt (by omega) (by omega)]; omega
      · rw [y_lt (by omega) (by omega)]; omega
      · rw [y_le (by omega) (by omega)]; omega
    · refine Or.inr ⟨by rw [decide_eq_false c2, Bool.and_false]; rfl, Or.inr ⟨?_, ?_, ?_⟩⟩
      · rw [Int32.lt_iff_toInt_lt, e1]; omega
      · rw [Int32.lt_iff_toInt_lt, e2]; omega
      · rw [Int32.le_iff_toInt_le, e2]; omega
  · refine Or.inr ⟨by rw [decide_eq_false c1, Bool.false_and]; rfl, Or.inl ?_⟩
    rw [Int32.lt_iff_toInt_lt, e1]; omega
/-! ===== seen, seed ===== -/
theorem m_seed {gx w g : zM} {gl : zL} {a : yA} (ok : yOk a) (hc : yC w a) (hg : yG g a) (hz : w 0 13 = g 0 7) (x : Int32) : ∃ r w' g' , fX9_seed gx w x = some (r, w') ∧ fX10_seed g gl x = some (r, g') ∧ yC w' a ∧ yG g' a ∧ w' 0 13 = g' 0 7 ∧ w' 7 = w 7 ∧ eqO g g' := by
  unfold fX9_seed fX10_seed
  refine ⟨_, _, _, rfl, by rw [y_lt_e, y_lt_e, ← hz], ?_, ?_, ?_, zPu_k (by omega), (eqO.rf g).pu0 (by decide)⟩
  · exact hc
  · exact hg
  · rw [zPu_s, zPu_s]
theorem m_seen {gx w g : zM} {gl : zL} {a : yA} (ok : yOk a) (hc : yC w a) (hg : yG g a) (x y : Int32) : ∃ r w' g' a', fX9_seen gx w x y = some (r, w') ∧ fX10_seen g gl x y = some (r, g') ∧ yOk a' ∧ yC w' a' ∧ yG g' a' ∧ w' 0 = w 0 ∧ g' 0 = g 0 ∧ w' 7 = w 7 ∧ eqO g g' := by
  have h0 := ok.1
  unfold fX9_seen fX10_seen
  rw [s8_hasPerson ok hc, y_b1, s10_isPerson ok hg, y_b1, s10_in, y_b1]
  have em : (-1 : Int32).toInt = -1 := rfl
  have e1 : (1 : Int32).toInt = 1 := rfl
  rcases y_zin x (n := a 0 0) (by omega) with ⟨h, k, hk, rfl⟩ | ⟨h, -⟩
  · rw [y_bl_t h, y_bl_t h, em, e1]
    by_cases c1 : -1 ≤ y.toInt
    · rw [if_neg (by rw [Int32.lt_iff_toInt_lt, em]; omega), decide_eq_true c1]
      by_cases c2 : y.toInt ≤ 1
      · have hy : y = nI 0 - 1 ∨ y = nI 1 - 1 ∨ y = nI 2 - 1 := by
          have : y.toInt = -1 ∨ y.toInt = 0 ∨ y.toInt = 1 := by omega
          rcases this with e | e | e
          · left; exact Int32.toInt_inj.mp (by rw [e]; rfl)
          · right; left; exact Int32.toInt_inj.mp (by rw [e]; rfl)
          · right; right; exact Int32.toInt_inj.mp (by rw [e]; rfl)
        obtain ⟨v, hv, rfl⟩ : ∃ v, v ≤ 2 ∧ y = nI v - 1 := by
          rcases hy with e | e | e
          · exact ⟨0, by omega, e⟩
          · exact ⟨1, by omega, e⟩
          · exact ⟨2, by omega, e⟩
        have ev : nI v - 1 + 1 = nI v := by
          have : v = 0 ∨ v = 1 ∨ v = 2 := by omega
          rcases this with rfl | rfl | rfl <;> decide
        rw [if_pos (by rw [Int32.le_iff_toInt_le, e1]; omega), decide_eq_true c2, ev]
        have hb := (ok.2.1 k hk).2
        rw [y_bl_t (show (true && true) = true from rfl), y_gin (by omega) (by omega), y_gin (by omega) (by omega), y_lt_e, y_lt_e, y_lt_e, y_lt_e, y_lt_e, y_cl (by omega), hc.2.2.1 k hk, y_gin (by omega) (by omega), y_gin (by omega) (by omega), hg.2.2.1 k hk]
        have h2 : a 2 k = 0 ∨ a 2 k = 1 ∨ a 2 k = 2 := by omega
        rcases h2 with e | e | e
        · rw [e, if_neg (by decide), if_pos (by decide)]
          exact ⟨_, _, _, ySt a 2 k v, rfl, rfl, ok.st2 hv, hc.st (by omega) rfl, hg.st (r := 2) (by omega) rfl rfl rfl, zPu_k (by omega), zPu_k (by omega), zPu_k (by omega), (eqO.rf g).pu (by decide)⟩
        · rw [e, if_pos (by decide), if_neg (by decide)]
          exact ⟨_, _, _, ySt a 2 k v, rfl, rfl, ok.st2 hv, hc.st (by omega) rfl, hg.st (r := 2) (by omega) rfl rfl rfl, zPu_k (by omega), zPu_k (by omega), zPu_k (by omega), (eqO.rf g).pu (by decide)⟩
        · rw [e, if_pos (by decide), if_neg (by decide)]
          exact ⟨_, _, _, ySt a 2 k v, rfl, rfl, ok.st2 hv, hc.st (by omega) rfl, hg.st (r := 2) (by omega) rfl rfl rfl, zPu_k (by omega), zPu_k (by omega), zPu_k (by omega), (eqO.rf g).pu (by decide)⟩
      · rw [if_neg (by rw [Int32.le_iff_toInt_le, e1]; omega), decide_eq_false c2, y_bl_f (show (true && false) = false from rfl)]
        exact ⟨_, w, g, a, rfl, rfl, ok, hc, hg, rfl, rfl, rfl, eqO.rf g⟩
    · rw [if_pos (by rw [Int32.lt_iff_toInt_lt, em]; omega), decide_eq_false c1, Bool.false_and, y_bl_f rfl]
      exact ⟨_, w, g, a, rfl, rfl, ok, hc, hg, rfl, rfl, rfl, eqO.rf g⟩
  · rw [y_bl_f h, y_bl_f h]; exact ⟨_, w, g, a, rfl, rfl, ok, hc, hg, rfl, rfl, rfl, eqO.rf g⟩
/-! ===== cuts come and go ===== -/
theorem yC.n2 {w : zM} {a : yA} (hc : yC w a) {n : Nat} {x : Int32} (hx : x = nI n) (h : ∀ k, k < n → ¬ k < a 0 2 → w 8 k = nI (a 8 k) ∧ w 9 k = nI (a 9 k) ∧ w 10 k = nI (a 10 k)) : yC (zPu w 0 9 x) (ySt a 0 2 n) := by
  obtain ⟨⟨c1, c2, c3⟩, c4, c5, c6, c7, c8, c9, c10, c11, c12, c13⟩ := hc
  refine ⟨⟨c1, c2, hx⟩, c4, c5, c6, c7, c8, c9, c10, ?_, ?_, ?_⟩
  · intro k hk; by_cases c : k < a 0 2
    · exact c11 k c
    · exact (h k hk c).1
  · intro k hk; by_cases c : k < a 0 2
    · exact c12 k c
    · exact (h k hk c).2.1
  · intro k hk; by_cases c : k < a 0 2
    · exact c13 k c
    · exact (h k hk c).2.2
theorem yG.n2 {g : zM} {a : yA} (hg : yG g a) {n : Nat} {x : Int32} (hx : x = nI n) (h : ∀ k, k < n → ¬ k < a 0 2 → g 3 (3 * k) = nI (a 8 k) ∧ g 3 (3 * k + 1) = nI (a 9 k) ∧ g 3 (3 * k + 2) = nI (a 10 k)) : yG (zPu g 0 4 x) (ySt a 0 2 n) := by
  obtain ⟨⟨c1, c2, c3⟩, c4, c5, c6, c7, c8, c9, c10, c11, c12, c13⟩ := hg
  refine ⟨⟨c1, c2, hx⟩, c4, c5, c6, c7, c8, c9, c10, ?_, ?_, ?_⟩
  · intro k hk; by_cases c : k < a 0 2
    · exact c11 k c
    · exact (h k hk c).1
  · intro k hk; by_cases c : k < a 0 2
    · exact c12 k c
    · exact (h k hk c).2.1
  · intro k hk; by_cases c : k < a 0 2
    · exact c13 k c
    · exact (h k hk c).2.2
def yAddC (a : yA) (K A B : Nat) : yA := ySt (ySt (ySt (ySt a 8 (a 0 2) K) 9 (a 0 2) A) 10 (a 0 2) B) 0 2 (a 0 2 + 1)
theorem yOk.addC {a : yA} (ok : yOk a) {K A B : Nat} (h8 : a 0 2 < 8) (hK : 1 ≤ K ∧ K ≤ 6) (hA : A < 2 ^ 10) (hB : B ≤ 99) (hT : K = 1 ∨ K = 4 → A < a 0 1) : yOk (yAddC a K A B) := by
  obtain ⟨o1, o2, o3, o4, o5⟩ := ok
  unfold yAddC
  refine ⟨⟨o1.1, o1.2.1, o1.2.2.1, by rw [ySt_s]; omega⟩, o2, o3, ?_, o5⟩
  intro k hk
  rw [ySt_s] at hk
  by_cases e : k = a 0 2
  · subst e
    have e8 : ySt (ySt (ySt (ySt a 8 (a 0 2) K) 9 (a 0 2) A) 10 (a 0 2) B) 0 2 (a 0 2 + 1) 8 (a 0 2) = K := by
      rw [ySt_r _ _ _ _ _ _ (by omega), ySt_r _ _ _ _ _ _ (by omega), ySt_r _ _ _ _ _ _ (by omega), ySt_s]
    have e9 : ySt (ySt (ySt (ySt a 8 (a 0 2) K) 9 (a 0 2) A) 10 (a 0 2) B) 0 2 (a 0 2 + 1) 9 (a 0 2) = A := by
      rw [ySt_r _ _ _ _ _ _ (by omega), ySt_r _ _ _ _ _ _ (by omega), ySt_s]
    have e10 : ySt (ySt (ySt (ySt a 8 (a 0 2) K) 9 (a 0 2) A) 10 (a 0 2) B) 0 2 (a 0 2 + 1) 10 (a 0 2) = B := by
      rw [ySt_r _ _ _ _ _ _ (by omega), ySt_s]
    rw [e8, e9, e10]
    exact ⟨hK.1, hK.2, hA, hB, hT⟩
  · have e8 : ∀ r, r ≠ 0 → ySt (ySt (ySt (ySt a 8 (a 0 2) K) 9 (a 0 2) A) 10 (a 0 2) B) 0 2 (a 0 2 + 1) r k = a r k := fun r hr => by
      rw [ySt_r _ _ _ _ _ _ hr, ySt_j _ _ _ _ _ _ e, ySt_j _ _ _ _ _ _ e, ySt_j _ _ _ _ _ _ e]
    rw [e8 8 (by omega), e8 9 (by omega), e8 10 (by omega)]
    exact o4 k (by omega)
theorem yC.addC {w : zM} {a : yA} (hc : yC w a) {K A B : Nat} : yC (zPu (zPu (zPu (zPu w 8 (a 0 2) (nI K)) 9 (a 0 2) (nI A)) 10 (a 0 2) (nI B)) 0 9 (nI (a 0 2 + 1))) (yAddC a K A B) := by
  have h1 := ((hc.st (r := 8) (j := a 0 2) (v := K) (x := nI K) (by omega) rfl).st (r := 9) (j := a 0 2) (v := A) (x := nI A) (by omega) rfl).st (r := 10) (j := a 0 2) (v := B) (x := nI B) (by omega) rfl
  refine h1.n2 rfl ?_
  intro k hk hk2
  have e : k = a 0 2 := by
    have : ¬ k < a 0 2 := hk2
    omega
  subst e
  refine ⟨?_, ?_, ?_⟩
  · rw [zPu_k (by omega), zPu_k (by omega), zPu_s, ySt_r _ _ _ _ _ _ (by omega), ySt_r _ _ _ _ _ _ (by omega), ySt_s]
  · rw [zPu_k (by omega), zPu_s, ySt_r _ _ _ _ _ _ (by omega), ySt_s]
  · rw [zPu_s, ySt_s]
theorem yG.addC {g : zM} {a : yA} (hg : yG g a) {K A B : Nat} : yG (zPu (zPu (zPu (zPu g 3 (3 * a 0 2) (nI K)) 3 (3 * a 0 2 + 1) (nI A)) 3 (3 * a 0 2 + 2) (nI B)) 0 4 (nI (a 0 2 + 1))) (yAddC a K A B) := by
  have h1 := ((hg.st (r := 8) (j := a 0 2) (v := K) (k := 3) (i := 3 * a 0 2) (by omega) rfl rfl rfl).st (r := 9) (j := a 0 2) (v := A) (k := 3) (i := 3 * a 0 2 + 1) (by omega) rfl rfl rfl).st (r := 10) (j := a 0 2) (v := B) (k := 3) (i := 3 * a 0 2 + 2) (by omega) rfl rfl rfl
  refine h1.n2 rfl ?_
  intro k hk hk2
  have e : k = a 0 2 := by
    have : ¬ k < a 0 2 := hk2
    omega
  subst e
  refine ⟨?_, ?_, ?_⟩
  · rw [zPu_j (by omega), zPu_j (by omega), zPu_s, ySt_r _ _ _ _ _ _ (by omega), ySt_r _ _ _ _ _ _ (by omega), ySt_s]
  · rw [zPu_j (by omega), zPu_s, ySt_r _ _ _ _ _ _ (by omega), ySt_s]
  · rw [zPu_s, ySt_s]
theorem s8_addCut {w : zM} {a : yA} (ok : yOk a) (hc : yC w a) (h8 : a 0 2 < 8) (K A B : Nat) : fX8_addCut w (nI K) (nI A) (nI B) = some (nI (a 0 2), zPu (zPu (zPu (zPu w 8 (a 0 2) (nI K)) 9 (a 0 2) (nI A)) 10 (a 0 2) (nI B)) 0 9 (nI (a 0 2 + 1))) := by
  unfold fX8_addCut
  rw [hc.1.2.2, show (8 : Int32) = nI 8 from rfl, y_lt_t h8 (by omega), y_lt_e, y_gin h8 (by omega), y_lt_e, y_gin h8 (by omega), y_lt_e, y_gin h8 (by omega), y_lt_e, y_lt_e, y_lt_e, y_cl (by omega), zPu_k (by omega), zPu_k (by omega), zPu_k (by omega), hc.1.2.2, y_a1]
theorem m_uncut {gx w g : zM} {gl : zL} {a : yA} (ok : yOk a) (hc : yC w a) (hg : yG g a) : ∃ r w' g' a', fX9_uncut gx w = some (r, w') ∧ fX10_uncut g gl = some (r, g') ∧ yOk a' ∧ yC w' a' ∧ yG g' a' ∧ w' 0 13 = w 0 13 ∧ g' 0 7 = g 0 7 ∧ w' 7 = w 7 ∧ eqO g g' := by
  have h0 := ok.1
  unfold fX9_uncut fX10_uncut
  rw [hc.1.2.2, hg.1.2.2]
  by_cases e : a 0 2 = 0
  · rw [y_0_t e, y_0_t e]; exact ⟨_, w, g, a, rfl, rfl, ok, hc, hg, rfl, rfl, rfl, eqO.rf g⟩
  · rw [y_0_f e (by omega), y_0_f e (by omega), y_s1 (by omega), y_lt_e, y_lt_e, y_lt_e, y_lt_e, zPu_s, zPu_s]
    refine ⟨_, _, _, ySt a 0 2 (a 0 2 - 1), rfl, rfl, ?_, hc.n2 rfl (fun k h1 h2 => absurd h1 (by omega)), hg.n2 rfl (fun k h1 h2 => absurd h1 (by omega)), zPu_j (by omega), zPu_j (by omega), zPu_k (by omega), (eqO.rf g).pu0 (by decide)⟩
    obtain ⟨o1, o2, o3, o4, o5⟩ := ok
    exact ⟨⟨o1.1, o1.2.1, o1.2.2.1, by rw [ySt_s]; omega⟩, o2, o3, fun k hk => o4 k (by rw [ySt_s] at hk; omega), o5⟩
theorem m_cut {gx w g : zM} {gl : zL} {a : yA} (ok : yOk a) (hc : yC w a) (hg : yG g a) (x y z : Int32) : ∃ r w' g' a', fX9_cut gx w x y z = some (r, w') ∧ fX10_cut g gl x y z = some (r, g') ∧ yOk a' ∧ yC w' a' ∧ yG g' a' ∧ w' 0 13 = w 0 13 ∧ g' 0 7 = g 0 7 ∧ w' 7 = w 7 ∧ eqO g g' := by
  have h0 := ok.1
  have hp : 2 ^ a 0 0 ≤ 2 ^ 10 := Nat.pow_le_pow_right (by omega) h0.2.1
  have hbad : ∀ {v : Int32}, ∃ r w' g' a', some (v, w) = some (r, w') ∧ some (v, g) = some (r, g') ∧ yOk a' ∧ yC w' a' ∧ yG g' a' ∧ w' 0 13 = w 0 13 ∧ g' 0 7 = g 0 7 ∧ w' 7 = w 7 ∧ eqO g g' := fun {v} => ⟨v, w, g, a, rfl, rfl, ok, hc, hg, rfl, rfl, rfl, eqO.rf g⟩
  unfold fX9_cut fX10_cut
  rcases y_rng x (L := 1) (M := 6) (l := 1) (m := 6) rfl rfl (by omega) (by omega) with ⟨K, k1, k2, hx, e1, e2, e3, e4⟩ | ⟨e1, e2⟩
  · rw [e1, y_b1, if_neg (show ¬ (1 : Int32) = 0 by decide), if_neg e2, if_neg e3]
    have good : ∀ A B, y = nI A → z = nI B → A < 2 ^ 10 → B ≤ 99 → (K = 1 ∨ K = 4 → A < a 0 1) → ∃ r w' g' a', fX9_cut_J72 x y z w = some (r, w') ∧ (if g 0 4 = 8 then some ((-2 : Int32), g) else (zGd (zIn (3 * (g 0 4)) 24) <| zLt (zPu g 3 (3 * (g 0 4)).toNatClampNeg x) fun gm_4 => zGd (zIn ((3 * (gm_4 0 4)) + 1) 24) <| zLt (zPu gm_4 3 ((3 * (gm_4 0 4)) + 1).toNatClampNeg y) fun gm_5 => zGd (zIn ((3 * (gm_5 0 4)) + 2) 24) <| zLt (zPu gm_5 3 ((3 * (gm_5 0 4)) + 2).toNatClampNeg z) fun gm_6 => zLt ((gm_6 0 4) + 1) fun v7 => zLt (zPu gm_6 0 4 v7) fun gm_8 => some ((gm_8 0 4) - 1, gm_8))) = some (r, g') ∧ yOk a' ∧ yC w' a' ∧ yG g' a' ∧ w' 0 13 = w 0 13 ∧ g' 0 7 = g 0 7 ∧ w' 7 = w 7 ∧ eqO g g' := by
      intro A B hA hB hA2 hB2 hT
      subst hx; subst hA; subst hB
      unfold fX9_cut_J72
      rw [hc.1.2.2, show (8 : Int32) = nI 8 from rfl]
      by_cases c : a 0 2 < 8
      · rw [y_lt_t c (by omega), s8_addCut ok hc c, y_b2, hg.1.2.2, y_eq_f (by omega) (by omega) (by omega), show (3 : Int32) = nI 3 from rfl, y_mul, y_gin (by omega) (by omega), y_lt_e, y_cl (by omega), zPu_k (show 0 ≠ 3 by omega), hg.1.2.2, y_mul, y_a1, y_gin (by omega) (by omega), y_lt_e, y_cl (by omega), zPu_k (show 0 ≠ 3 by omega), zPu_k (show 0 ≠ 3 by omega), hg.1.2.2, y_mul, show (2 : Int32) = nI 2 from rfl, y_add, y_gin (by omega) (by omega), y_lt_e, y_cl (by omega), zPu_k (show 0 ≠ 3 by omega), zPu_k (show 0 ≠ 3 by omega), zPu_k (show 0 ≠ 3 by omega), hg.1.2.2, y_a1, y_lt_e, y_lt_e, zPu_s, y_s1 (by omega)]
        refine ⟨_, _, _, yAddC a K A B, rfl, rfl, ok.addC c ⟨k1, k2⟩ hA2 hB2 hT, hc.addC, hg.addC, ?_, ?_, ?_, ((((eqO.rf g).pu (by decide)).pu (by decide)).pu (by decide)).pu0 (by decide)⟩
        · rw [zPu_j (by omega), zPu_k (by omega), zPu_k (by omega), zPu_k (by omega)]
        · rw [zPu_j (by omega), zPu_k (by omega), zPu_k (by omega), zPu_k (by omega)]
        · rw [zPu_k (by omega), zPu_k (by omega), zPu_k (by omega), zPu_k (by omega)]
      · rw [y_lt_f (by omega) (by omega), hg.1.2.2, y_eq_t (by omega)]; exact hbad
    have hwhat : ∃ b, fX10_isWhat g gl x y = some (yBl b) ∧ (b = true → ∃ A, y = nI A ∧ A < 2 ^ 10 ∧ (K = 1 ∨ K = 4 → A < a 0 1)) ∧ (if x = 1 then fX9_cut_J33 x y z w else if x = 4 then fX9_cut_J33 x y z w else fX9_cut_J38 x y z w 0) = (if yBl b = 0 then some ((-1 : Int32), w) else fX9_cut_J72 x y z w) := by
      have tie : K = 1 ∨ K = 4 → ∃ b, fX10_isWhat_J10 y g gl = some (yBl b) ∧ (b = true → ∃ A, y = nI A ∧ A < 2 ^ 10 ∧ (K = 1 ∨ K = 4 → A < a 0 1)) ∧ fX9_cut_J33 x y z w = (if yBl b = 0 then some ((-1 : Int32), w) else fX9_cut_J72 x y z w) := by
        intro _
        refine ⟨zIn y (a 0 1), ?_, ?_, ?_⟩
        · unfold fX10_isWhat_J10; rw [s10_isTie ok hg, y_b1]; cases zIn y (a 0 1) <;> rfl
        · intro h
          obtain ⟨A, hA, rfl⟩ := vp_in_of (zIn_ok h) (by omega)
          exact ⟨A, rfl, by omega, fun _ => hA⟩
        · unfold fX9_cut_J33 fX9_cut_J38; rw [if_neg (show ¬ (1 : Int32) = 0 by decide), s8_hasTie ok hc, y_b1]
      unfold fX10_isWhat
      by_cases c1 : K = 1
      · subst c1; subst hx; rw [if_pos (by decide), if_pos (by decide)]; exact tie (Or.inl rfl)
      · by_cases c4 : K = 4
        · subst c4; subst hx; rw [if_neg (by decide), if_pos (by decide), if_neg (by decide), if_pos (by decide)]; exact tie (Or.inr rfl)
        · have n1 : ¬ x = 1 := by rw [hx]; exact fun e => c1 ((nI_eq (by omega) (by omega)).mp (e.trans (show (1 : Int32) = nI 1 from rfl)))
          have n4 : ¬ x = 4 := by rw [hx]; exact fun e => c4 ((nI_eq (by omega) (by omega)).mp (e.trans (show (4 : Int32) = nI 4 from rfl)))
          rw [if_neg n1, if_neg n4, if_neg n1, if_neg n4]
          refine ⟨zIn y (2 ^ a 0 0), ?_, ?_, ?_⟩
          · have h1 := Nat.one_le_two_pow (n := a 0 0)
            rw [s10_all ok hg, y_b1, y_inN y _ (by omega), y_b1, Nat.sub_add_cancel h1]; cases zIn y (2 ^ a 0 0) <;> rfl
          · intro h
            obtain ⟨A, hA, rfl⟩ := vp_in_of (zIn_ok h) (by omega)
            exact ⟨A, rfl, by omega, fun h => absurd h (by omega)⟩
          · unfold fX9_cut_J38; rw [if_pos rfl, s8_hasSet ok hc, y_b1]
    obtain ⟨b, w1, w2, w3⟩ := hwhat
    rw [w1, y_b1]
    rcases y_rng z (L := 0) (M := 99) (l := 0) (m := 99) rfl rfl (by omega) (by omega) with ⟨B, -, b2, hz, f1, f2, f3, f4⟩ | ⟨f1, f2⟩
    · rw [if_neg f2, if_pos f4, w3, f1, y_b1, if_neg (show ¬ (1 : Int32) = 0 by decide)]
      cases b
      · rw [y_bl_f rfl, y_bl_f rfl]; exact hbad
      · rw [y_bl_t rfl, y_bl_t rfl]
        obtain ⟨A, hA, hA2, hT⟩ := w2 rfl
        exact good A B hA hz hA2 b2 hT
    · rw [f1, y_b1, if_pos (show (0 : Int32) = 0 from rfl), ite_self]
      rcases f2 with f2 | ⟨f2, f3, f4⟩
      · rw [if_pos f2]; exact hbad
      · rw [if_neg f2, if_neg f4]; exact hbad
  · rw [e1, y_b1, if_pos (show (0 : Int32) = 0 from rfl)]
    rcases e2 with e2 | ⟨e2, e3, e4⟩
    · rw [if_pos e2]; exact hbad
    · rw [if_neg e2, if_pos e3]; exact hbad
