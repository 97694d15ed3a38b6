/-! ===== best ===== -/
theorem y_any (x : Int32) : ∃ u, x = nI u := ⟨x.toBitVec.toNat, by
  unfold nI
  rw [← Int32.toBitVec_inj]
  simp⟩
theorem m_best {gx w gn gh g : zM} {gl : zL} {a : yA} (ok : yOk a) (hc : yC w a) (hg : yG g a) (h : pH gh g gl) (x y : Int32) : ∃ r gn' g', fX9_best gx w gn gh x y = some (r, gn') ∧ fX10_best g gl x y = some (r, g') ∧ yKs g g' := by
  have h0 := ok.1
  have hall := y_all_lt (n := a 0 0) (by omega)
  have hO := yOs_lt ok 0
  have hbad : ∀ {v : Int32}, ∃ r gn' g', some (v, gn) = some (r, gn') ∧ some (v, g) = some (r, g') ∧ yKs g g' := fun {v} => ⟨v, gn, g, rfl, rfl, yKs.rf g⟩
  unfold fX9_best fX10_best
  rw [s2_hasPlace, y_b1, s10_isShelf, y_b1, s9_isEither, y_b1, s10_isSide, y_b1]
  rcases y_zin x (n := 4) (by omega) with ⟨hx, s, hs, rfl⟩ | ⟨hx, -⟩
  · rw [y_bl_t hx, y_bl_t hx]
    cases hy : yEi y
    · rw [y_bl_f rfl, y_bl_f rfl]; exact hbad
    · rw [y_bl_t rfl, y_bl_t rfl]
      obtain ⟨p1, p2, p3, ⟨n, hn, p4⟩, p5⟩ := h.1 s hs
      unfold fX2_refusalOf fX10_lacksSort
      simp only [y_gin hs (show s < 2147483648 by omega), y_lt_e, y_cl (show s < 2147483648 by omega), p1]
      rcases y_sort p3 with ⟨c1, c2⟩ | ⟨c1, c2⟩
      · rw [if_pos c1, if_neg c2, y_b1, y_b1, if_neg (show ¬ (-11 : Int32) = 0 by decide), if_neg (show ¬ (-11 : Int32) = 0 by decide)]; exact hbad
      · rw [if_neg c1, if_pos c2]
        by_cases d : g 18 s = 2
        · rw [if_pos d, y_b1, y_b1, if_pos (show (0 : Int32) = 0 from rfl), if_pos (show (0 : Int32) = 0 from rfl), s8_openTies0 ok hc, y_b1, s10_openOn0 ok hg, y_b1]
          obtain ⟨b, b', q1, q2, q3⟩ := y_lk (body := fX9_best_L53 (nI s) w gh (nI (yOs a 0))) (body' := fX10_best_L46 (nI s) gl (nI (yOs a 0))) (fun s s' => ∃ i gn' g', i ≤ n ∧ yKs g g' ∧ ((i = 0 ∧ s = (-3, 11, nI i, gn') ∧ s' = (-3, 0, nI i, g')) ∨ (∃ k t, k < 40 ∧ t ≤ 10 ∧ s = (nI k, nI t, nI i, gn') ∧ s' = (nI k, nI t, nI i, g')))) (fun s => 50 - s.2.2.1.toNatClampNeg) (fun b b' => yKs g b'.2.2 ∧ ((b.1 = -3 ∧ b'.1 = -3) ∨ ∃ k, k < 40 ∧ b.1 = nI k ∧ b'.1 = nI k ∧ b.2.1 = b'.2.1)) (by
            rintro S S' ⟨i, gn', g', hi, hks, hst⟩
            have hg' := hg.ks hks
            have e19 : g' 19 s = nI n := by rw [(eqO.ks hks).2.2.1.2.1]; exact p4
            by_cases c : i < n
            · obtain ⟨u, hu⟩ := y_any (gl 20 (40 * s + i)).toInt32
              have hb : ySd (yOs a 0) u < 2 ^ 14 := y_sd_lt hO
              obtain ⟨gn2, l1, l2⟩ := s3_lay (gn := gn') ok hc hb
              obtain ⟨g2, m1, m2, -⟩ := s10_greatest (gl := gl) (m := 2 ^ a 0 0 - 1) ok hg' hb hall
              have h10 := yGr_10 ok (b := ySd (yOs a 0) u) hall
              have st1 : ∀ v5 v6, fX9_best_L53 (nI s) w gh (nI (yOs a 0)) (v5, v6, nI i, gn') = if v6 ≤ nI (yGr a (ySd (yOs a 0) u) (2 ^ a 0 0 - 1)) then some (.inl (v5, v6, nI (i + 1), gn2)) else some (.inl (nI i, nI (yGr a (ySd (yOs a 0) u) (2 ^ a 0 0 - 1)), nI (i + 1), gn2)) := by
                intro v5 v6
                unfold fX9_best_L53 fX9_best_L53J126
                rw [y_u4, y_gin hs (by omega), y_lt_e, y_cl (by omega), p2, p4, y_le_f c (by omega), y_gin hs (by omega), y_gin (by omega) (by omega), y_lt_e, y_cl (by omega), h.2 s i hs (by omega), hu, y_andn, l1, y_b1, s8_everybody ok hc, y_b1, s3_greatestSet ok l2 hall, y_b1, y_a1]; rfl
              have st2 : ∀ v5 v6, fX10_best_L46 (nI s) gl (nI (yOs a 0)) (v5, v6, nI i, g') = if v5 < 0 then some (.inl (nI i, nI (yGr a (ySd (yOs a 0) u) (2 ^ a 0 0 - 1)), nI (i + 1), g2)) else if v6 ≤ nI (yGr a (ySd (yOs a 0) u) (2 ^ a 0 0 - 1)) then some (.inl (v5, v6, nI (i + 1), g2)) else some (.inl (nI i, nI (yGr a (ySd (yOs a 0) u) (2 ^ a 0 0 - 1)), nI (i + 1), g2)) := by
                intro v5 v6
                unfold fX10_best_L46 fX10_best_L46J97 fX10_best_L46J105
                rw [y_u4, y_gin hs (by omega), y_lt_e, y_cl (by omega), e19, y_le_f c (by omega), show (40 : Int32) = nI 40 from rfl, y_mul, y_add, y_gin (by omega) (by omega), y_lt_e, y_cl (by omega), hu, y_andn, s10_all ok hg', y_b1, m1, y_b2, y_a1]; rfl
              left
              have mu : ∀ v5 v6 : Int32, (fun s : Int32 × Int32 × Int32 × zM => 50 - s.2.2.1.toNatClampNeg) (v5, v6, nI (i + 1), gn2) < 50 - i := fun v5 v6 => by
                show 50 - (nI (i + 1)).toNatClampNeg < 50 - i
                rw [y_cl (by omega)]; omega
              have ei : (nI i).toNatClampNeg = i := y_cl (by omega)
              rcases hst with ⟨rfl, rfl, rfl⟩ | ⟨k, t, hk, ht, rfl, rfl⟩
              · rw [st1, st2, if_pos (show (-3 : Int32) < 0 by decide), if_neg (show ¬ (11 : Int32) ≤ nI (yGr a (ySd (yOs a 0) u) (2 ^ a 0 0 - 1)) from fun e => by
                  have : nI 11 ≤ nI (yGr a (ySd (yOs a 0) u) (2 ^ a 0 0 - 1)) := e
                  rw [y_le (by omega) (by omega)] at this; omega)]
                refine ⟨_, _, rfl, rfl, ⟨0 + 1, gn2, g2, by omega, hks.tr m2, Or.inr ⟨0, _, by omega, h10, rfl, rfl⟩⟩, ?_⟩
                rw [ei]; exact mu _ _
              · rw [st1, st2, if_neg (y_nn (by omega))]
                by_cases f : t ≤ yGr a (ySd (yOs a 0) u) (2 ^ a 0 0 - 1)
                · rw [y_le_t f (by omega), y_le_t f (by omega)]
                  refine ⟨_, _, rfl, rfl, ⟨i + 1, gn2, g2, by omega, hks.tr m2, Or.inr ⟨k, t, hk, ht, rfl, rfl⟩⟩, ?_⟩
                  rw [ei]; exact mu _ _
                · rw [y_le_f (by omega) (by omega), y_le_f (by omega) (by omega)]
                  refine ⟨_, _, rfl, rfl, ⟨i + 1, gn2, g2, by omega, hks.tr m2, Or.inr ⟨i, _, by omega, h10, rfl, rfl⟩⟩, ?_⟩
                  rw [ei]; exact mu _ _
            · right
              have st1 : ∀ v5 v6, fX9_best_L53 (nI s) w gh (nI (yOs a 0)) (v5, v6, nI i, gn') = some (.inr (v5, v6, gn')) := by
                intro v5 v6
                unfold fX9_best_L53
                rw [y_u4, y_gin hs (by omega), y_lt_e, y_cl (by omega), p2, p4, y_le_t (by omega) (by omega)]
              have st2 : ∀ v5 v6, fX10_best_L46 (nI s) gl (nI (yOs a 0)) (v5, v6, nI i, g') = some (.inr (v5, v6, g')) := by
                intro v5 v6
                unfold fX10_best_L46
                rw [y_u4, y_gin hs (by omega), y_lt_e, y_cl (by omega), e19, y_le_t (by omega) (by omega)]
              rcases hst with ⟨rfl, rfl, rfl⟩ | ⟨k, t, hk, ht, rfl, rfl⟩
              · rw [st1, st2]; exact ⟨_, _, rfl, rfl, hks, Or.inl ⟨rfl, rfl⟩⟩
              · rw [st1, st2]; exact ⟨_, _, rfl, rfl, hks, Or.inr ⟨k, hk, rfl, rfl, rfl⟩⟩) zFU (-3, 11, 0, gn) (-3, 0, 0, g) ⟨0, gn, g, by omega, yKs.rf g, Or.inl ⟨rfl, rfl, rfl⟩⟩ (by unfold zFU; show 50 - _ < _; omega)
          obtain ⟨b1, b2, b3⟩ := b
          obtain ⟨b1', b2', b3'⟩ := b'
          obtain ⟨q3, q4⟩ := q3
          have q3 : yKs g b3' := q3
          rw [q1, q2, y_b1, y_b1, y_u3, y_u3]
          rcases q4 with ⟨e1, e2⟩ | ⟨k, hk, e1, e2, e3⟩
          · have e1 : b1 = -3 := e1
            have e2 : b1' = -3 := e2
            subst e1; subst e2
            rw [if_neg (show ¬ (0 : Int32) ≤ -3 by decide), if_neg (show ¬ (0 : Int32) ≤ -3 by decide), ite_self]
            exact ⟨_, _, _, rfl, rfl, q3⟩
          · have e1 : b1 = nI k := e1
            have e2 : b1' = nI k := e2
            have e3 : b2 = b2' := e3
            subst e1; subst e2; subst e3
            rw [if_pos (show (0 : Int32) ≤ nI k from nI_le (a := 0) (by omega) (by omega)), if_pos (show (0 : Int32) ≤ nI k from nI_le (a := 0) (by omega) (by omega))]
            by_cases e : y = 0
            · rw [if_pos e, if_pos e]; exact ⟨_, _, _, rfl, rfl, q3⟩
            · rw [if_neg e, if_neg e]; exact ⟨_, _, _, rfl, rfl, q3⟩
        · rw [if_neg d, y_b1, y_b1, if_neg (show ¬ (-13 : Int32) = 0 by decide), if_neg (show ¬ (-13 : Int32) = 0 by decide)]; exact hbad
  · rw [y_bl_f hx, y_bl_f hx]; exact hbad
