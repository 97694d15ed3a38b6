def pFa (g0 g : zM) : Prop := (∀ k, k ≠ 0 → k ≠ 24 → g k = g0 k) ∧ ∀ j, j ≠ 44 → j ≠ 45 → j ≠ 46 → j ≠ 48 → j ≠ 49 → g 0 j = g0 0 j
theorem pFa.g {g0 g : zM} {a : yA} (h : pFa g0 g) (hg : yG g0 a) : yG g a := by
  obtain ⟨h1, h2⟩ := h
  unfold yG at hg ⊢
  rw [h1 1 (by omega) (by omega), h1 2 (by omega) (by omega), h1 3 (by omega) (by omega), h1 4 (by omega) (by omega), h2 0 (by omega) (by omega) (by omega) (by omega) (by omega), h2 2 (by omega) (by omega) (by omega) (by omega) (by omega), h2 4 (by omega) (by omega) (by omega) (by omega) (by omega)]
  exact hg
theorem pFa.o {g0 g : zM} (h : pFa g0 g) : eqT g0 g ∧ eqR g0 g ∧ eqH g0 g ∧ eqK g0 g := by
  obtain ⟨h1, h2⟩ := h
  exact ⟨⟨h2 9 (by omega) (by omega) (by omega) (by omega) (by omega), h1 5 (by omega) (by omega)⟩, ⟨h2 36 (by omega) (by omega) (by omega) (by omega) (by omega), h1 16 (by omega) (by omega)⟩, ⟨h1 18 (by omega) (by omega), h1 19 (by omega) (by omega), h1 21 (by omega) (by omega), h1 22 (by omega) (by omega), h1 23 (by omega) (by omega)⟩, h2 50 (by omega) (by omega) (by omega) (by omega) (by omega), h1 25 (by omega) (by omega)⟩
theorem m_act {gx w gh ga g : zM} {gl : zL} {a : yA} (ok : yOk a) (hc : yC w a) (hg : yG g a) (h : pH gh g gl) (x y z : Int32) : ∃ r ga' g', fX9_act gx w gh ga x y z = some (r, ga') ∧ fX10_act g gl x y z = some (r, g') ∧ pA ga' g' ∧ pFa g g' := by
  have h0 := ok.1
  have f1 : pFa g (zPu g 0 48 0) := ⟨fun k hk _ => zPu_k hk, fun j _ _ _ hj _ => zPu_j hj⟩
  have a1 : pA (zPu (zPu ga 0 1 0) 0 2 0) (zPu g 0 48 0) := ⟨0, by omega, by rw [zPu_j (by omega), zPu_s]; rfl, zPu_s, fun i hi => absurd hi (by omega)⟩
  have hbad : ∀ {v : Int32}, ∃ r ga' g', some (v, zPu (zPu ga 0 1 0) 0 2 0) = some (r, ga') ∧ some (v, zPu g 0 48 0) = some (r, g') ∧ pA ga' g' ∧ pFa g g' := fun {v} => ⟨_, _, _, rfl, rfl, a1, f1⟩
  have hg1 := f1.g hg
  have hh1 := h.eq f1.o.2.2.1 (gl' := gl) rfl
  unfold fX9_act fX10_act fX0_forget
  rw [y_lt_e, y_lt_e, y_b1, y_lt_e, s2_hasPlace, y_b1, s10_isShelf, y_b1]
  unfold fX10_act_J21
  rcases y_zin x (n := 4) (by omega) with ⟨hx, s, hs, rfl⟩ | ⟨hx, -⟩
  · rw [y_bl_t hx, y_bl_t hx]
    rcases y_rng y (L := 0) (M := 3) (l := 0) (m := 3) rfl rfl (by omega) (by omega) with ⟨K, -, k2, hy, e1, e2, e3, e4⟩ | ⟨e1, e2⟩
    · rw [e1, if_neg e2, if_pos e4]
      rcases s_on ok hc hg1 hh1 hs with ⟨u, q1, q2, q3, q4⟩ | ⟨n, hn, q1, q2, q3, q4⟩ | ⟨q1, q2, q3, -⟩
      · rw [q2, y_b1, s8_hasCut ok hc, y_b1, y_bl_f q3, q4, y_b1, y_b1, if_neg (show ¬ (1 : Int32) = 0 by decide), show fX10_in (-1) 1 6 = some 0 from by decide, y_b1, if_pos (show (0 : Int32) = 0 from rfl)]
        exact hbad
      · have o := ok.2.2.2.1 n hn
        have hin : fX10_in (nI (a 8 n)) 1 6 = some 1 := by
          rcases y_rng (nI (a 8 n)) (L := 1) (M := 6) (l := 1) (m := 6) rfl rfl (by omega) (by omega) with ⟨_, _, _, _, e, _⟩ | ⟨_, e⟩
          · exact e
          · rcases e with e | ⟨-, e, -⟩
            · have : nI (a 8 n) < nI 1 := e
              rw [y_lt (by omega) (by omega)] at this; omega
            · have : nI 6 < nI (a 8 n) := e
              rw [y_lt (by omega) (by omega)] at this; omega
        have z9 : ∀ v, zPu (zPu g 0 48 0) 0 44 v 22 s = nI n := fun v => by rw [zPu_k (by omega)]; exact q4
        have z10 : ∀ v u, zPu (zPu (zPu g 0 48 0) 0 44 v) 0 45 u 3 (3 * n + 1) = nI (a 9 n) := fun v u => by rw [zPu_k (by omega), zPu_k (by omega), zPu_k (by omega)]; exact hg.2.2.2.2.2.2.2.2.2.1 n hn
        rw [q2, y_b1, s8_hasCut ok hc, y_b1, y_bl_t (y_in hn (by omega)), q3, y_b1, y_b1, if_neg (show ¬ (1 : Int32) = 0 by decide), hin, y_b1, if_neg (show ¬ (1 : Int32) = 0 by decide), y_lt_e, y_gin hs (by omega), y_lt_e, y_cl (by omega), z9, y_lt_e, zPu_s, show (3 : Int32) * nI n = nI (3 * n) from y_mul 3 n, y_a1, y_gin (by omega) (by omega), y_lt_e, y_cl (by omega), z10, y_lt_e, y_lt_e]
        unfold fX0_perform
        rw [y_gin (by omega) (by omega), y_lt_e, y_lt_e, y_lt_e, y_gin (by omega) (by omega), y_lt_e, y_lt_e, y_cl (by omega), hc.2.2.2.2.2.2.2.2.1 n hn, hc.2.2.2.2.2.2.2.2.2.1 n hn]
        have e3 : zPu (zPu (zPu (zPu (zPu ga 0 1 0) 0 2 0) 0 3 (nI (a 8 n))) 0 4 (nI n)) 0 5 (nI (a 9 n)) 0 3 = nI (a 8 n) := by rw [zPu_j (by omega), zPu_j (by omega), zPu_s]
        rw [e3]
        have hS : pSb 0 (zPu (zPu (zPu (zPu (zPu g 0 48 0) 0 44 (nI (a 8 n))) 0 45 (nI n)) 0 46 (nI (a 9 n))) 0 49 0) (nI (a 8 n)) (nI n) (nI (a 9 n)) (zPu (zPu (zPu (zPu (zPu ga 0 1 0) 0 2 0) 0 3 (nI (a 8 n))) 0 4 (nI n)) 0 5 (nI (a 9 n))) (zPu (zPu (zPu (zPu (zPu g 0 48 0) 0 44 (nI (a 8 n))) 0 45 (nI n)) 0 46 (nI (a 9 n))) 0 49 0) := by
          refine ⟨⟨0, by omega, ?_, ?_, fun i hi => absurd hi (by omega)⟩, ?_, zPu_s, ?_, ?_, zPu_s, ?_, ?_, ?_, ⟨fun _ _ _ => rfl, fun _ _ _ => rfl⟩⟩
          · rw [zPu_j (by omega), zPu_j (by omega), zPu_j (by omega), zPu_j (by omega), zPu_s]; rfl
          · rw [zPu_j (by omega), zPu_j (by omega), zPu_j (by omega), zPu_j (by omega), zPu_s]; rfl
          · rw [zPu_j (by omega), zPu_j (by omega), zPu_j (by omega), zPu_s]
          · rw [zPu_j (by omega), zPu_j (by omega), zPu_s]
          · rw [zPu_j (by omega), zPu_s]
          · rw [zPu_j (by omega), zPu_j (by omega), zPu_j (by omega), zPu_s]
          · rw [zPu_j (by omega), zPu_j (by omega), zPu_s]
          · rw [zPu_j (by omega), zPu_s]
        have hk : nI (a 8 n) = 1 ∨ nI (a 8 n) = 2 ∨ nI (a 8 n) = 3 ∨ nI (a 8 n) = 4 ∨ nI (a 8 n) = 5 ∨ nI (a 8 n) = 6 := by
          have : a 8 n = 1 ∨ a 8 n = 2 ∨ a 8 n = 3 ∨ a 8 n = 4 ∨ a 8 n = 5 ∨ a 8 n = 6 := by omega
          rcases this with e | e | e | e | e | e <;> rw [e]
          · exact Or.inl rfl
          · exact Or.inr (Or.inl rfl)
          · exact Or.inr (Or.inr (Or.inl rfl))
          · exact Or.inr (Or.inr (Or.inr (Or.inl rfl)))
          · exact Or.inr (Or.inr (Or.inr (Or.inr (Or.inl rfl))))
          · exact Or.inr (Or.inr (Or.inr (Or.inr (Or.inr rfl))))
        have fin : ∀ r r', pXx (zPu (zPu (zPu (zPu (zPu g 0 48 0) 0 44 (nI (a 8 n))) 0 45 (nI n)) 0 46 (nI (a 9 n))) 0 49 0) (nI (a 8 n)) (nI n) (nI (a 9 n)) r r' → ∃ q ga' g', (zB2 (zB2 r fun v8 ga_9 => fX0_perform_J88 v8 ga_9) fun v5 ga_6 => some (v5, ga_6)) = some (q, ga') ∧ (zB2 r' fun v14 gm_15 => fX10_act_J126 v14 gm_15) = some (q, g') ∧ pA ga' g' ∧ pFa g g' := by
          rintro r r' ⟨v, v', ga', g', rfl, rfl, hp⟩
          rw [y_b2, y_b2]
          have fr : ∀ b, pSb b (zPu (zPu (zPu (zPu (zPu g 0 48 0) 0 44 (nI (a 8 n))) 0 45 (nI n)) 0 46 (nI (a 9 n))) 0 49 0) (nI (a 8 n)) (nI n) (nI (a 9 n)) ga' g' → pFa g g' := by
            intro b hp
            refine ⟨fun k k1 k2 => ?_, fun j j1 j2 j3 j4 j5 => ?_⟩
            · rw [hp.2.2.2.2.2.2.2.2.2.1 k k1 k2, zPu_k k1, zPu_k k1, zPu_k k1, zPu_k k1, zPu_k k1]
            · rw [hp.2.2.2.2.2.2.2.2.2.2 j j4 j5, zPu_j j5, zPu_j j3, zPu_j j2, zPu_j j1, zPu_j j4]
          unfold fX0_perform_J88 fX10_act_J126
          rcases hp with ⟨hp, rfl⟩ | hp
          · rw [hp.2.1, hp.2.2.1, if_pos rfl, if_pos rfl, y_b2]
            exact ⟨_, _, _, rfl, rfl, hp.1, fr 0 hp⟩
          · rw [hp.2.1, hp.2.2.1, if_neg (by decide), if_neg (by decide), y_b2]
            exact ⟨_, _, _, rfl, rfl, hp.1, fr 1 hp⟩
        by_cases c0 : y = 0
        · rw [if_pos c0, if_pos c0]
          obtain ⟨v, ga', g', p1, p2, p3⟩ := s0_parts (gl := gl) hk hS z
          exact fin _ _ ⟨_, _, _, _, p1, p2, Or.inl ⟨p3, rfl⟩⟩
        · rw [if_neg c0, if_neg c0]
          by_cases c1 : y = 1
          · rw [if_pos c1, if_pos c1]; exact fin _ _ (s0_costs hk hS z)
          · rw [if_neg c1, if_neg c1]
            by_cases c2 : y = 2
            · rw [if_pos c2, if_pos c2]; exact fin _ _ (s0_shares hk hS z)
            · rw [if_neg c2, if_neg c2]; exact fin _ _ (s0_tells hk hS z)
      · rw [q2, y_b1, s8_hasCut ok hc, y_b1, y_bl_f (show zIn (-1) (a 0 2) = false from by unfold zIn; rw [show decide ((0 : Int32) ≤ -1) = false from by decide]; rfl), q3, y_b1, y_b1, if_neg (show ¬ (1 : Int32) = 0 by decide), show fX10_in 9 1 6 = some 0 from by decide, y_b1, if_pos (show (0 : Int32) = 0 from rfl)]
        exact hbad
    · have mdl : ∀ v3, (zB1 (fX10_in y 0 3) fun v4 => if v4 = 0 then some ((0 : Int32), zPu g 0 48 0) else zB1 (fX10_in v3 1 6) fun v5 => if v5 = 0 then some (0, zPu g 0 48 0) else (none : Option (Int32 × zM))) = some (0, zPu g 0 48 0) := fun v3 => by rw [e1, y_b1, if_pos rfl]
      obtain ⟨kk, hkk⟩ : ∃ kk, fX10_kindOn (zPu g 0 48 0) gl (nI s) = some kk := by
        rcases s_on ok hc hg1 hh1 hs with ⟨u, q1, q2, q3, q4⟩ | ⟨n, hn, q1, q2, q3, q4⟩ | ⟨q1, q2, q3, -⟩
        · exact ⟨_, q4⟩
        · exact ⟨_, q3⟩
        · exact ⟨_, q3⟩
      rw [hkk, y_b1, e1, y_b1, if_pos (show (0 : Int32) = 0 from rfl)]
      rcases e2 with e2 | ⟨e2, e3, e4⟩
      · rw [if_pos e2]; exact hbad
      · rw [if_neg e2, if_neg e4]; exact hbad
  · rw [y_bl_f hx, y_bl_f hx]
    rcases y_rng y (L := 0) (M := 3) (l := 0) (m := 3) rfl rfl (by omega) (by omega) with ⟨K, -, k2, hy, e1, -⟩ | ⟨e1, -⟩
    · rw [e1, y_b1, if_neg (show ¬ (1 : Int32) = 0 by decide), show fX10_in (-1) 1 6 = some 0 from by decide, y_b1, if_pos (show (0 : Int32) = 0 from rfl)]; exact hbad
    · rw [e1, y_b1, if_pos (show (0 : Int32) = 0 from rfl)]; exact hbad
theorem m_trace {gx ga g : zM} {gl : zL} (h : pA ga g) (x : Int32) : ∃ r, fX9_trace gx ga x = some r ∧ fX10_trace g gl x = some r := by
  obtain ⟨c, c1, c2, c3, c4⟩ := h
  unfold fX9_trace fX10_trace
  rw [c2, c3, s10_in0 x (by omega), y_b1]
  rcases y_zin x (n := c) (by omega) with ⟨hx, i, hi, rfl⟩ | ⟨hx, hx2⟩
  · rw [if_neg (y_nn (by omega)), y_le_f (by omega) (by omega), y_bl_t hx, y_gin (by omega) (by omega), y_gin (by omega) (by omega), y_lt_e, y_lt_e, y_cl (by omega), c4 i hi]
    exact ⟨_, rfl, rfl⟩
  · rw [y_bl_f hx]
    by_cases d : x < 0
    · rw [if_pos d]; exact ⟨_, rfl, rfl⟩
    · rw [if_neg d, if_pos (hx2.resolve_left d)]; exact ⟨_, rfl, rfl⟩
