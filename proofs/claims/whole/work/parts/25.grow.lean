/-! ===== tie ===== -/
theorem s8_addTie {w : zM} {a : yA} (ok : yOk a) (hc : yC w a) (h14 : a 0 1 < 14) {p q : Nat} (hp : p < 10) (hq : q < 10) : fX8_addTie w (nI p) (nI q) = some (nI (a 0 1), zPu (zPu (zPu (zPu (zPu (zPu w 3 (a 0 1) (nI (if p < q then p else q))) 4 (a 0 1) (nI (if p < q then q else p))) 5 (a 0 1) (nI 1)) 6 (a 0 1) (nI 4)) 7 (a 0 1) (nI 0)) 0 3 (nI (a 0 1 + 1))) := by
  unfold fX8_addTie
  rw [hc.1.2.1, show (14 : Int32) = nI 14 from rfl, y_lt_t h14 (by omega), y_lt_e, y_lt_e, y_gin h14 (by omega), y_lt_e, y_lt_e, y_gin h14 (by omega), y_lt_e, y_gin h14 (by omega), y_lt_e, y_gin h14 (by omega), y_lt_e, y_gin h14 (by omega), y_lt_e, y_lt_e, y_lt_e, y_cl (by omega), y_mn (by omega) (by omega), y_mx (by omega) (by omega), zPu_k (by omega), zPu_k (by omega), zPu_k (by omega), zPu_k (by omega), zPu_k (by omega), hc.1.2.1, y_a1]
  rfl
theorem s10_tieL {g : zM} {gl : zL} {a : yA} (ok : yOk a) (hg : yG g a) {p q : Nat} (hp : p < 10) (hq : q < 10) (hpq : p ≠ q) : ∃ b, zLp (fX10_tie_L46 (nI p) (nI q) g gl) zFU 0 = some b ∧ ((∃ i, i < a 0 1 ∧ a 3 i = (if p < q then p else q) ∧ a 4 i = (if p < q then q else p) ∧ b = .inr ()) ∨ ((∀ i, i < a 0 1 → ¬ (a 3 i = (if p < q then p else q) ∧ a 4 i = (if p < q then q else p))) ∧ b = .inl ())) := by
  have h0 := ok.1
  refine y_lp (fun s => ∃ n, s = nI n ∧ n ≤ a 0 1 ∧ ∀ i, i < n → ¬ (a 3 i = (if p < q then p else q) ∧ a 4 i = (if p < q then q else p))) (fun s => 20 - s.toNatClampNeg) _ ?_ zFU 0 ⟨0, rfl, by omega, fun i hi => absurd hi (by omega)⟩ (by unfold zFU; omega)
  rintro s ⟨n, rfl, hn, hI⟩
  unfold fX10_tie_L46
  rw [y_u1, hg.1.2.1]
  by_cases c : n < a 0 1
  · have hE := yEn_lt ok c
    have hb : 2 ^ p ||| 2 ^ q < 2 ^ 10 := y_or_lt (Nat.pow_lt_pow_right (by omega) hp) (Nat.pow_lt_pow_right (by omega) hq)
    rw [y_le_f (by omega) (by omega), s10_ends ok hg c, y_b1, y_one (by omega), y_one (by omega), y_or, y_a1, y_lt_e, y_cl (by omega)]
    by_cases e : yEn a n = 2 ^ p ||| 2 ^ q
    · rw [y_eq_t e]
      exact ⟨_, rfl, Or.inl ⟨n, c, ((y_ends ok c hp hq hpq).mp e).1, ((y_ends ok c hp hq hpq).mp e).2, rfl⟩⟩
    · rw [y_eq_f e (by omega) (by omega)]
      refine ⟨_, rfl, ⟨n + 1, rfl, by omega, fun i hi => ?_⟩, by rw [y_cl (by omega)]; omega⟩
      by_cases f : i = n
      · rw [f]; exact fun h => e ((y_ends ok c hp hq hpq).mpr h)
      · exact hI i (by omega)
  · rw [y_le_t (by omega) (by omega)]
    exact ⟨_, rfl, Or.inr ⟨fun i hi => hI i (by omega), rfl⟩⟩
theorem s10_tieE {g : zM} {a : yA} (ok : yOk a) (hg : yG g a) (h14 : a 0 1 < 14) {p q A B : Nat} {z : Int32} (hp : p < 10) (hq : q < 10) (hpq : p ≠ q) : (zLt (5 * nI (a 0 1)) fun v7 => if nI q ≤ nI p then (fX10_tie_J104 (nI p) (nI q) (nI A) (nI B) z g v7 (nI q) v7) else (fX10_tie_J104 (nI p) (nI q) (nI A) (nI B) z g v7 (nI p) v7)) = some (nI (a 0 1), zPu (zPu (zPu (zPu (zPu (zPu g 2 (5 * a 0 1) (nI (if p < q then p else q))) 2 (5 * a 0 1 + 1) (nI (if p < q then q else p))) 2 (5 * a 0 1 + 2) (nI A)) 2 (5 * a 0 1 + 3) (nI B)) 2 (5 * a 0 1 + 4) (nI (if z = 0 then 0 else 1))) 0 2 (nI (a 0 1 + 1))) := by
  rw [show (5 : Int32) = nI 5 from rfl, y_mul, y_lt_e]
  have step : ∀ u v, (fX10_tie_J123 (nI A) (nI B) z (nI (5 * a 0 1)) (zPu g 2 (5 * a 0 1) (nI u)) (nI v) (nI (5 * a 0 1) + 1)) = some (nI (a 0 1), zPu (zPu (zPu (zPu (zPu (zPu g 2 (5 * a 0 1) (nI u)) 2 (5 * a 0 1 + 1) (nI v)) 2 (5 * a 0 1 + 2) (nI A)) 2 (5 * a 0 1 + 3) (nI B)) 2 (5 * a 0 1 + 4) (nI (if z = 0 then 0 else 1))) 0 2 (nI (a 0 1 + 1))) := by
    intro u v
    have fin : ∀ t m, fX10_tie_J163 (zPu (zPu (zPu (zPu g 2 (5 * a 0 1) (nI u)) 2 (5 * a 0 1 + 1) (nI v)) 2 (5 * a 0 1 + 2) (nI A)) 2 (5 * a 0 1 + 3) (nI B)) (nI t) (nI m) = zGd (zIn (nI m) 70) (some (nI (a 0 1), zPu (zPu (zPu (zPu (zPu (zPu g 2 (5 * a 0 1) (nI u)) 2 (5 * a 0 1 + 1) (nI v)) 2 (5 * a 0 1 + 2) (nI A)) 2 (5 * a 0 1 + 3) (nI B)) 2 (nI m).toNatClampNeg (nI t)) 0 2 (nI (a 0 1 + 1)))) := by
      intro t m
      unfold fX10_tie_J163
      rw [y_lt_e, y_lt_e, y_lt_e, zPu_k (show 0 ≠ 2 by omega), zPu_k (show 0 ≠ 2 by omega), zPu_k (show 0 ≠ 2 by omega), zPu_k (show 0 ≠ 2 by omega), zPu_k (show 0 ≠ 2 by omega), hg.1.2.1, y_a1, zPu_s, y_s1 (by omega)]
      rfl
    unfold fX10_tie_J123
    rw [y_a1, show (2 : Int32) = nI 2 from rfl, show (3 : Int32) = nI 3 from rfl, show (4 : Int32) = nI 4 from rfl, y_add, y_add, y_add, y_gin (by omega) (by omega), y_lt_e, y_gin (by omega) (by omega), y_lt_e, y_gin (by omega) (by omega), y_lt_e, y_cl (by omega), y_cl (by omega), y_cl (by omega), show (0 : Int32) = nI 0 from rfl, show (1 : Int32) = nI 1 from rfl, fin, fin, y_gin (by omega) (by omega), y_gin (by omega) (by omega), y_cl (by omega)]
    by_cases c : z = nI 0
    · rw [if_pos c, if_pos c]
    · rw [if_neg c, if_neg c]
  unfold fX10_tie_J104
  rw [y_gin (by omega) (by omega), y_gin (by omega) (by omega), y_lt_e, y_lt_e, y_cl (by omega)]
  by_cases c : p < q
  · rw [y_le_f c (by omega), if_pos c, if_pos c, y_le_f c (by omega)]; exact step p q
  · rw [y_le_t (by omega) (by omega), if_neg c, if_neg c, y_le_t (by omega) (by omega)]; exact step q p
theorem zAllB_st {w : zM} {k j n : Nat} {v : Int32} (h : zAllB (w k) n = true) (hv : zBo v = true) : zAllB (zPu w k j v k) n = true := by
  unfold zAllB at h ⊢
  rw [List.all_eq_true] at h ⊢
  intro i hi
  by_cases e : i = j
  · subst e; rw [zPu_s]; exact hv
  · rw [zPu_j e]; exact h i hi
theorem m_tie {gx w g : zM} {gl : zL} {a : yA} (ok : yOk a) (hc : yC w a) (hg : yG g a) (hB : zAllB (w 7) 14 = true) (x y u v z : Int32) (hz : z = 0 ∨ z = 1) : ∃ r w' g' a', fX9_tie gx w x y u v z = some (r, w') ∧ fX10_tie g gl x y u v z = some (r, g') ∧ yOk a' ∧ yC w' a' ∧ yG g' a' ∧ w' 0 13 = w 0 13 ∧ g' 0 7 = g 0 7 ∧ zAllB (w' 7) 14 = true ∧ eqO g g' := by
  have h0 := ok.1
  have hbad : ∀ {v : Int32}, ∃ r w' g' a', some (v, w) = some (r, w') ∧ some (v, g) = some (r, g') ∧ yOk a' ∧ yC w' a' ∧ yG g' a' ∧ w' 0 13 = w 0 13 ∧ g' 0 7 = g 0 7 ∧ zAllB (w' 7) 14 = true ∧ eqO g g' := fun {v} => ⟨v, w, g, a, rfl, rfl, ok, hc, hg, rfl, rfl, hB, eqO.rf g⟩
  unfold fX9_tie fX10_tie
  rw [s9_isPair ok hc, y_b1, s10_areTwo ok hg, y_b1]
  cases h : (zIn x (a 0 0) && zIn y (a 0 0) && !decide (x = y))
  · rw [y_bl_f rfl, y_bl_f rfl]; exact hbad
  obtain ⟨p, q, hp, hq, hpq, rfl, rfl⟩ := y_pair (by omega) h
  rw [y_bl_t rfl, y_bl_t rfl]
  rcases y_rng u (L := 0) (M := 99) (l := 0) (m := 99) rfl rfl (by omega) (by omega) with ⟨A, a1, a2, rfl, e1, e2, e3, e4⟩ | ⟨e1, e2⟩
  · rw [e1, y_b1, if_neg (show ¬ (1 : Int32) = 0 by decide), if_neg e2, if_neg e3]
    rcases y_rng v (L := 1) (M := 4) (l := 1) (m := 4) rfl rfl (by omega) (by omega) with ⟨B, b1, b2, rfl, f1, f2, f3, f4⟩ | ⟨f1, f2⟩
    · rw [f1, y_b1, if_neg (show ¬ (1 : Int32) = 0 by decide), if_neg f2, if_pos f4, hc.1.2.1, hg.1.2.1, show (14 : Int32) = nI 14 from rfl]
      by_cases c : a 0 1 < 14
      · rw [y_lt_t c (by omega), y_eq_f (by omega) (by omega) (by omega)]
        obtain ⟨b, eb, hb⟩ := s10_tieL (gl := gl) ok hg (p := p) (q := q) (by omega) (by omega) hpq
        rw [eb, y_b1]
        have mine := s8_tieBetween ok hc (nI p) (nI q)
        rw [y_mn (by omega) (by omega), y_mx (by omega) (by omega)] at mine
        rcases hb with ⟨i, hi, i1, i2, rfl⟩ | ⟨hn, rfl⟩
        · rcases mine with ⟨j, hj, j1, j2, ej⟩ | ⟨hm, ej⟩
          · rw [ej, y_b1, if_neg (y_nn (by omega))]; exact hbad
          · exact absurd ⟨by rw [i1], by rw [i2]⟩ (hm i hi)
        · rcases mine with ⟨j, hj, j1, j2, ej⟩ | ⟨hm, ej⟩
          · have o := ok.2.2.1 j hj
            have m1 : (if p < q then p else q) < 2147483648 := by split <;> omega
            have m2 : (if p < q then q else p) < 2147483648 := by split <;> omega
            exact absurd ⟨(nI_eq (by omega) m1).mp j1, (nI_eq (by omega) m2).mp j2⟩ (hn j hj)
          · rw [ej, y_b1, if_pos (by decide), s8_addTie ok hc c (by omega) (by omega), y_b2, y_gin c (by omega), y_lt_e, y_gin c (by omega), y_lt_e, y_gin c (by omega), y_lt_e, y_cl (by omega)]
            have hmE : vp_nar .boolean z = nI (if z = 0 then 0 else 1) := by
              rcases hz with rfl | rfl <;> rfl
            have hO := ok.addT c (p := if p < q then p else q) (q := if p < q then q else p) (wo := A) (od := B) (mu := if z = 0 then 0 else 1) (by split <;> omega) (by split <;> omega) a2 ⟨b1, b2⟩ (by split <;> omega) hn
            have hC := ((hc.addT (p := if p < q then p else q) (q := if p < q then q else p) (wo := 1) (od := 4) (mu := 0)).st (r := 5) (j := a 0 1) (v := A) (x := nI A) (by omega) rfl |>.st (r := 6) (j := a 0 1) (v := B) (x := nI B) (by omega) rfl).st (r := 7) (j := a 0 1) (v := if z = 0 then 0 else 1) (x := nI (if z = 0 then 0 else 1)) (by omega) rfl
            rw [yAddT_a] at hC
            rw [hmE]
            refine ⟨_, _, _, _, rfl, s10_tieE ok hg c (by omega) (by omega) hpq, hO, hC, hg.addT, ?_, ?_, ?_, ((((((eqO.rf g).pu (by decide)).pu (by decide)).pu (by decide)).pu (by decide)).pu (by decide)).pu0 (by decide)⟩
            · rw [zPu_k (by omega), zPu_k (by omega), zPu_k (by omega), zPu_j (by omega), zPu_k (by omega), zPu_k (by omega), zPu_k (by omega), zPu_k (by omega), zPu_k (by omega)]
            · rw [zPu_j (by omega), zPu_k (by omega), zPu_k (by omega), zPu_k (by omega), zPu_k (by omega), zPu_k (by omega)]
            · refine zAllB_st ?_ (by rcases hz with rfl | rfl <;> rfl)
              rw [zPu_k (by omega), zPu_k (by omega), zPu_k (by omega)]
              refine zAllB_st ?_ rfl
              rw [zPu_k (by omega), zPu_k (by omega), zPu_k (by omega), zPu_k (by omega)]
              exact hB
      · rw [y_lt_f (by omega) (by omega), y_eq_t (by omega)]; exact hbad
    · rw [f1, y_b1, if_pos (show (0 : Int32) = 0 from rfl)]
      rcases f2 with f2 | ⟨f2, f3, f4⟩
      · rw [if_pos f2]; exact hbad
      · rw [if_neg f2, if_neg f4]; exact hbad
  · rw [e1, y_b1, if_pos (show (0 : Int32) = 0 from rfl)]
    rcases e2 with e2 | ⟨e2, e3, e4⟩
    · rw [if_pos e2]; exact hbad
    · rw [if_neg e2, if_pos e3]; exact hbad
