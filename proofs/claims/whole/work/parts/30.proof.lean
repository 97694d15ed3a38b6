theorem y_m1 (x : Int32) : x + (-1) = x - 1 := (Int32.sub_eq_add_neg x 1).symm
theorem y_s1n (m : Nat) : nI (m + 1) - 1 = nI m := y_s1 (a := m + 1) (by omega)
theorem y_m1n : (nI 0 - 1 : Int32) < 0 := by decide
theorem s10_shift {g : zM} {n : Nat} (hn : n ≤ 9) : ∃ g', zLp fX10_prove_L101 zFU (nI (3 * n) - 1, g) = some g' ∧ (∀ k, k ≠ 16 → g' k = g k) ∧ ∀ k, k < 3 * n → g' 16 (k + 3) = g 16 k := by
  refine y_lp (fun s => ∃ m x, s = (nI m - 1, x) ∧ m ≤ 3 * n ∧ (∀ k, k ≠ 16 → x k = g k) ∧ (∀ k, m ≤ k → k < 3 * n → x 16 (k + 3) = g 16 k) ∧ (∀ k, k < m + 3 → x 16 k = g 16 k)) (fun s => (s.1 + 1).toNatClampNeg) _ ?_ zFU _ ⟨3 * n, g, rfl, Nat.le_refl _, fun _ _ => rfl, fun k h1 h2 => absurd h2 (by omega), fun _ _ => rfl⟩ ?_
  · rintro s ⟨m, x, rfl, hm, i1, i2, i3⟩
    unfold fX10_prove_L101
    rw [y_u2]
    match m, hm, i2, i3 with
    | 0, hm, i2, i3 =>
      rw [if_pos y_m1n]
      exact ⟨_, rfl, i1, fun k hk => i2 k (by omega) hk⟩
    | m + 1, hm, i2, i3 =>
      rw [y_s1n, if_neg (y_nn (by omega)), show (3 : Int32) = nI 3 from rfl, y_add, y_gin (by omega) (by omega), y_lt_e, y_gin (by omega) (by omega), y_lt_e, y_lt_e, y_cl (by omega), y_cl (by omega), y_m1]
      refine ⟨_, rfl, ⟨m, _, rfl, by omega, fun k hk => by rw [zPu_k hk]; exact i1 k hk, ?_, ?_⟩, ?_⟩
      · intro k h1 h2
        by_cases c : k = m
        · subst c; rw [zPu_s]; exact i3 k (by omega)
        · rw [zPu_j (by omega)]; exact i2 k (by omega) h2
      · intro k hk
        rw [zPu_j (by omega)]; exact i3 k (by omega)
      · show (nI m - 1 + 1).toNatClampNeg < (nI m + 1).toNatClampNeg
        rw [Int32.sub_add_cancel, y_a1, y_cl (by omega), y_cl (by omega)]; omega
  · show (nI (3 * n) - 1 + 1).toNatClampNeg < zFU
    rw [Int32.sub_add_cancel, y_cl (by omega)]; unfold zFU; omega
theorem yEy_0 {a : yA} {f q : Nat} (h : yEy a f q 0) : q = f := by
  have := h.1
  unfold yKn at this
  rw [Nat.testBit_two_pow] at this
  exact (of_decide_eq_true this).symm
theorem yEy_s {a : yA} {f q e : Nat} (h : yEy a f q (e + 1)) : q ≠ f := by
  intro c
  have := h.2 0 (by omega)
  unfold yKn at this
  rw [Nat.testBit_two_pow, c] at this
  simp at this
theorem yEy_ear {a : yA} {f q e : Nat} (he : e ≤ 100) (h : yEy a f q e) : yEar a (2 ^ f) q 101 = some e := yEar_is (by omega) h.1 h.2
theorem m_prove {gx w gd gr g : zM} {gl : zL} {a : yA} (ok : yOk a) (hc : yC w a) (hg : yG g a) (hr : pR gr g) (x y : Int32) : ∃ r gd' gr' g', fX9_prove gx w gd gr x y = some (r, gd', gr') ∧ fX10_prove g gl x y = some (r, g') ∧ yG g' a ∧ pR gr' g' ∧ g' 0 7 = g 0 7 ∧ eqT g g' ∧ eqH g g' ∧ eqA g g' ∧ eqK g g' := by
  have h0 := ok.1
  have eo := eqO.rf g
  have hbad : ∀ {v : Int32} {gd' : zM}, ∃ r gd'' gr' g', some (v, gd', gr) = some (r, gd'', gr') ∧ some (v, g) = some (r, g') ∧ yG g' a ∧ pR gr' g' ∧ g' 0 7 = g 0 7 ∧ eqT g g' ∧ eqH g g' ∧ eqA g g' ∧ eqK g g' := fun {v gd'} => ⟨v, gd', gr, g, rfl, rfl, hg, hr, rfl, eo.1, eo.2.2.1, eo.2.2.2.1, eo.2.2.2.2⟩
  unfold fX9_prove fX10_prove
  rw [s8_hasPerson ok hc, y_b1, s10_isPerson ok hg, y_b1, s8_hasPerson ok hc, y_b1, s10_isPerson ok hg, y_b1]
  rcases y_zin x (n := a 0 0) (by omega) with ⟨hx, f, hf, rfl⟩ | ⟨hx, -⟩
  · rw [y_bl_t hx, y_bl_t hx]
    rcases y_zin y (n := a 0 0) (by omega) with ⟨hy, t, ht, rfl⟩ | ⟨hy, -⟩
    · rw [y_bl_t hy, y_bl_t hy]
      obtain ⟨gd', e1, e2, -⟩ := s1_follow (gd := gd) ok hc hf
      have hf2 : 2 ^ f < 2 ^ a 0 0 := y_pow_lt hf
      have hf10 : 2 ^ f < 2 ^ 10 := y_pow_lt (by omega)
      obtain ⟨g1, d1, d2, d3, -⟩ := s10_findDays (gl := gl) ok hg hf2
      have hg1 := hg.ks d2
      have eks := eqO.ks d2
      rw [e1, y_b1, y_gin (by omega) (by omega), y_lt_e, y_cl (by omega), e2 t (by omega), y_one (by omega), d1, y_b1, s10_earlyOf ok hf10 (by omega) d3, y_b1]
      have h7 : g1 0 7 = g 0 7 := d2.1.2.2.2.1
      cases he : yEar a (2 ^ f) t 101 with
      | none =>
        rw [if_neg (show ¬ (0 : Int32) ≤ yOI none by decide), if_neg (show ¬ (0 : Int32) ≤ yOI none by decide)]
        refine ⟨_, _, gr, _, rfl, rfl, hg1, ?_, h7, eks.1, eks.2.2.1, eks.2.2.2.1, eks.2.2.2.2⟩
        obtain ⟨n, n1, n2, n3, n4⟩ := hr
        exact ⟨n, n1, n2, eks.2.1.1.trans n3, fun i j hi hj => by rw [eks.2.1.2]; exact n4 i j hi hj⟩
      | some e =>
        obtain ⟨s1, s2, s3⟩ := yEar_s he
        have hEy : yEy a f t e := ⟨s2, s3⟩
        have he9 := yEy_le ok hf hEy
        show ∃ r gd'' gr' g', (if (0 : Int32) ≤ nI e then _ else _) = _ ∧ (if (0 : Int32) ≤ nI e then _ else _) = _ ∧ _
        have hge : (0 : Int32) ≤ nI e := nI_le (a := 0) (by omega) (by omega)
        rw [if_pos hge, if_pos hge]
        unfold fX5_tellHow
        rw [y_gin (by omega) (by omega), y_lt_e, y_cl (by omega), e2 t (by omega), he, y_lt_e]
        have emin : (if (10 : Int32) < yOI (some e) then (10 : Int32) else yOI (some e)) = nI e := if_neg (show ¬ nI 10 < nI e by rw [y_lt (by omega) (by omega)]; omega)
        rw [emin, y_lt_e, y_lt_e, zPu_s]
        obtain ⟨b, b', q1, q2, q3, q4, q5, q6⟩ := y_lk (body := fX5_tellHow_L26 w gd') (body' := fX10_prove_L41 (nI f) gl) (fun s s' => ∃ m q gr' g', s = (nI q, nI m - 1, gr') ∧ s' = (nI (e - m), nI q, g') ∧ m ≤ e ∧ yEy a f q m ∧ gr' 0 = zPu gr 0 1 (nI e) 0 ∧ (∀ k, k ≠ 16 → g' k = g1 k) ∧ ∀ i j, i < e - m → j < 3 → gr' (2 + (m + i)) j = g' 16 (3 * i + j)) (fun s => (s.2.1 + 1).toNatClampNeg) (fun b b' => b 0 = zPu gr 0 1 (nI e) 0 ∧ b'.1 = nI e ∧ (∀ k, k ≠ 16 → b'.2 k = g1 k) ∧ ∀ i j, i < e → j < 3 → b (2 + i) j = b'.2 16 (3 * i + j)) (by
          rintro s s' ⟨m, q, gr', g', rfl, rfl, hm, hE, i1, i2, i3⟩
          have hq := yEy_lt ok hf hE
          unfold fX5_tellHow_L26 fX10_prove_L41
          rw [y_u3, y_u3]
          match m, hm, hE, i3 with
          | 0, hm, hE, i3 =>
            right
            rw [if_pos y_m1n, if_pos (by rw [yEy_0 hE])]
            exact ⟨_, _, rfl, rfl, i1, rfl, i2, fun i j hi hj => by
              have := i3 i j (by omega) hj
              rw [Nat.zero_add] at this; exact this⟩
          | m + 1, hm, hE, i3 =>
            left
            obtain ⟨p, hp⟩ := yBy_e ok hE
            have hEp := (yEy_by ok hE).2 p hp.2.1 hp.2.2.1
            have hg' : yG g' a := by
              have hk : ∀ k, k < 5 → g' k = g1 k := fun k hk => i2 k (by omega)
              unfold yG at hg1 ⊢
              rw [hk 0 (by omega), hk 1 (by omega), hk 2 (by omega), hk 3 (by omega), hk 4 (by omega)]
              exact hg1
            have d3' : ∀ d, d ≤ 100 → g' 13 d = nI (yKn a (2 ^ f) d) := fun d hd => by rw [i2 13 (by omega)]; exact d3 d hd
            obtain ⟨g2, w1, w2, w3⟩ := s10_shift (g := g') (n := e - (m + 1)) (by omega)
            have m3 : (3 : Int32) * nI (e - (m + 1)) = nI (3 * (e - (m + 1))) := y_mul 3 _
            rw [y_s1n, if_neg (y_nn (by omega)), s1_knowingBehind ok hf (by omega) e2, y_b1, s5_leastTeller ok hc hf hq (by omega) hp, y_b1, y_gin (by omega) (by omega), y_gd (show zIn 0 3 = true from rfl), y_lt_e, y_gin (by omega) (by omega), y_gd (show zIn 1 3 = true from rfl), y_lt_e, y_gin (by omega) (by omega), y_gd (show zIn 2 3 = true from rfl), y_lt_e, y_lt_e, y_cl (by omega), y_m1, y_eq_f (yEy_s hE) (by omega) (by omega), s10_earlyOf ok hf10 (by omega) d3', y_b1, yEy_ear (by omega) hE, show yOI (some (m + 1)) = nI (m + 1) from rfl, y_s1n, y_lt_e, s10_by ok hg' hf hq (by omega) d3' hp, y_b1, y_u1, y_lt_e, m3, w1, y_b1, y_u1, y_gd (show zIn 0 30 = true from rfl), y_lt_e, y_gd (show zIn 1 30 = true from rfl), y_lt_e, y_gd (show zIn 2 30 = true from rfl), y_lt_e, y_lt_e, y_a1]
            refine ⟨_, _, rfl, rfl, ⟨m, p, _, _, rfl, by rw [show e - (m + 1) + 1 = e - m by omega], by omega, hEp, ?_, ?_, ?_⟩, ?_⟩
            · rw [zPu_k (by omega), zPu_k (by omega), zPu_k (by omega)]; exact i1
            · intro k hk
              rw [zPu_k hk, zPu_k hk, zPu_k hk, w2 k hk]; exact i2 k hk
            · intro i j hi hj
              have t0 : (0 : Int32).toNatClampNeg = 0 := rfl
              have t1 : (1 : Int32).toNatClampNeg = 1 := rfl
              have t2 : (2 : Int32).toNatClampNeg = 2 := rfl
              rw [t0, t1, t2]
              match i, hi with
              | 0, hi =>
                rw [Nat.add_zero, Nat.mul_zero, Nat.zero_add]
                have : j = 0 ∨ j = 1 ∨ j = 2 := by omega
                rcases this with rfl | rfl | rfl
                · rw [zPu_j (by omega), zPu_j (by omega), zPu_s, zPu_j (by omega), zPu_j (by omega), zPu_s]
                · rw [zPu_j (by omega), zPu_s, zPu_j (by omega), zPu_s]
                · rw [zPu_s, zPu_s]
              | i + 1, hi =>
                rw [zPu_k (show 2 + (m + (i + 1)) ≠ 2 + m by omega), zPu_k (show 2 + (m + (i + 1)) ≠ 2 + m by omega), zPu_k (show 2 + (m + (i + 1)) ≠ 2 + m by omega), zPu_j (by omega), zPu_j (by omega), zPu_j (by omega), show 3 * (i + 1) + j = (3 * i + j) + 3 by omega, w3 _ (by omega), show 2 + (m + (i + 1)) = 2 + (m + 1 + i) by omega]
                exact i3 i j (by omega) hj
            · show (nI m - 1 + 1).toNatClampNeg < (nI m + 1).toNatClampNeg
              rw [Int32.sub_add_cancel, y_a1, y_cl (by omega), y_cl (by omega)]; omega) zFU (nI t, nI e - 1, zPu gr 0 1 (nI e)) (0, nI t, g1) ⟨e, t, _, g1, rfl, by rw [Nat.sub_self]; rfl, Nat.le_refl _, hEy, rfl, fun _ _ => rfl, fun i j hi => absurd hi (by omega)⟩ (by
            show (nI e - 1 + 1).toNatClampNeg < zFU
            rw [Int32.sub_add_cancel, y_cl (by omega)]; unfold zFU; omega)
        obtain ⟨n', g9⟩ := b'
        rw [q1, y_b1, y_u1, y_b1, q2, y_b1, y_u2, y_lt_e, zPu_s, q3, zPu_s]
        have q4 : n' = nI e := q4
        have q9 : ∀ k, k ≠ 16 → g9 k = g1 k := q5
        subst q4
        refine ⟨_, _, _, _, rfl, rfl, ?_, ⟨e, by omega, by rw [q3, zPu_s], zPu_s, ?_⟩, ?_, ?_, ?_, ?_, ?_⟩
        · have hk : ∀ k, k < 5 → k ≠ 0 → zPu g9 0 36 (nI e) k = g1 k := fun k hk hk0 => by rw [zPu_k hk0]; exact q9 k (by omega)
          have hk0 : ∀ j, j ≠ 36 → zPu g9 0 36 (nI e) 0 j = g1 0 j := fun j hj => by rw [zPu_j hj, q9 0 (by omega)]
          unfold yG at hg1 ⊢
          rw [hk0 0 (by omega), hk0 2 (by omega), hk0 4 (by omega), hk 1 (by omega) (by omega), hk 2 (by omega) (by omega), hk 3 (by omega) (by omega), hk 4 (by omega) (by omega)]
          exact hg1
        · intro i j hi hj
          rw [zPu_k (by omega)]; exact q6 i j hi hj
        · rw [zPu_j (by omega), q9 0 (by omega)]; exact h7
        · exact ⟨by rw [zPu_j (by omega), q9 0 (by omega)]; exact eks.1.1, by rw [zPu_k (by omega), q9 5 (by omega)]; exact eks.1.2⟩
        · exact ⟨by rw [zPu_k (by omega), q9 18 (by omega)]; exact eks.2.2.1.1, by rw [zPu_k (by omega), q9 19 (by omega)]; exact eks.2.2.1.2.1, by rw [zPu_k (by omega), q9 21 (by omega)]; exact eks.2.2.1.2.2.1, by rw [zPu_k (by omega), q9 22 (by omega)]; exact eks.2.2.1.2.2.2.1, by rw [zPu_k (by omega), q9 23 (by omega)]; exact eks.2.2.1.2.2.2.2⟩
        · exact ⟨by rw [zPu_j (by omega), q9 0 (by omega)]; exact eks.2.2.2.1.1, by rw [zPu_k (by omega), q9 24 (by omega)]; exact eks.2.2.2.1.2⟩
        · exact ⟨by rw [zPu_j (by omega), q9 0 (by omega)]; exact eks.2.2.2.2.1, by rw [zPu_k (by omega), q9 25 (by omega)]; exact eks.2.2.2.2.2⟩
    · rw [y_bl_f hy, y_bl_f hy]; exact hbad
  · rw [y_bl_f hx, y_bl_f hx]; exact hbad
