/-! ===== sit ===== -/
theorem m_sit {gx w gp g : zM} {gl : zL} {a : yA} (ok : yOk a) (hc : yC w a) (hg : yG g a) (x y : Int32) : ∃ r gp' g', fX9_sit gx w gp x y = some (r, gp') ∧ fX10_sit g gl x y = some (r, g') ∧ yKs g g' := by
  have h0 := ok.1
  have hbad : ∀ {v : Int32}, ∃ r gp' g', some (v, gp) = some (r, gp') ∧ some (v, g) = some (r, g') ∧ yKs g g' := fun {v} => ⟨v, gp, g, rfl, rfl, yKs.rf g⟩
  unfold fX9_sit fX10_sit
  rcases y_rng x (L := 1) (M := 10) (l := 1) (m := 10) rfl rfl (by omega) (by omega) with ⟨m, m1, m2, rfl, e1, e2, e3, e4⟩ | ⟨e1, e2⟩
  · rw [e1, y_b1, if_neg (show ¬ (1 : Int32) = 0 by decide), if_neg e2, if_neg e3, s9_isEither, y_b1, s10_isSide, y_b1]
    cases hy : yEi y
    · rw [y_bl_f rfl, y_bl_f rfl]; exact hbad
    rw [y_bl_t rfl, y_bl_t rfl, hc.1.1, hg.1.1, show (7 : Int32) = nI 7 from rfl]
    by_cases h7 : a 0 0 ≤ 7
    · obtain ⟨gp1, p1, p2, p3⟩ := s4_begin (gp := gp) h7
      obtain ⟨g1, r1, r2, r3⟩ := s10_beginP (g := g) (gl := gl) h7
      have ks1 : yKs g g1 := (yKs.rf g).c r2 (by decide)
      rw [y_le_t h7 (by omega), y_le_t h7 (by omega), p1, y_b2, r1, y_b1]
      obtain ⟨b, b', q1, q2, q3⟩ := y_lk (body := fX9_sit_L59 (nI m) w) (body' := fX10_sit_L43 (nI m) gl) (fun s s' => ∃ L H H' mo i gp' g', s = (L, H, mo, nI i, gp') ∧ s' = (L, H', mo, g') ∧ yKs g g' ∧ yMo a i mo gp' g' ∧ ((L = -1 ∧ mo = 1) ∨ (H = H' ∧ ∃ t, t ≤ 1386 ∧ L = nI t))) (fun s => 900 - s.2.2.2.1.toNatClampNeg) (fun b b' => yKs g b'.2.2 ∧ b.1 = b'.1 ∧ b.2.1 = b'.2.1) (by
        rintro s s' ⟨L, H, H', mo, i, gp', g', rfl, rfl, hks, hmo, hv⟩
        have hg' := hg.ks hks
        unfold fX9_sit_L59 fX10_sit_L43
        rw [y_u5, y_u4]
        rcases hmo with ⟨rfl, hi⟩ | ⟨rfl, hi, l, hk, hm0, hm1, hm2⟩
        · right
          rw [if_pos (show (0 : Int32) = 0 from rfl), if_pos (show (0 : Int32) = 0 from rfl), ite_self]
          rcases hv with ⟨-, e⟩ | ⟨e, -⟩
          · exact absurd e (by decide)
          · exact ⟨_, _, rfl, rfl, hks, rfl, e⟩
        · left
          obtain ⟨f, ef, k1, k2, k3⟩ := yChk_s hk
          have hl : ∀ p, l.getD p 0 ≤ 7 := fun p => by rcases k1 p with h | h <;> omega
          have hln : ∀ p, p < a 0 0 → l.getD p 0 < a 0 0 := fun p hp => by rcases k1 p with h | h <;> omega
          obtain ⟨g3, d1, d2⟩ := s10_isSmall (gl := gl) (m := m) h7 m2 hln hg'.1.1 hm2
          have hpt3 : yPt g3 11 (a 0 0) l := fun p hp => by rw [d2 11 (by omega)]; exact hm2 p hp
          obtain ⟨mo2, gp2, g4, n1, n2, n3, n4, n5⟩ := yMo_nx (gl := gl) h0.1 h7 hi (by rw [d2 0 (by omega)]; exact hg'.1.1) hk hm0 hm1 hpt3
          obtain ⟨mo2', gp2', g4', n1', n2', n3', n4', n5'⟩ := yMo_nx (gl := gl) h0.1 h7 hi hg'.1.1 hk hm0 hm1 hm2
          have ks4 : yKs g g4 := (hks.c d2 (by decide)).c n3 (by decide)
          have ks4' : yKs g g4' := hks.c n3' (by decide)
          have bd := yWw_bd ok (yWi a l) (a 0 1) (Nat.le_refl _)
          have emo : mo2 = mo2' := by rw [n1] at n1'; exact (Prod.mk.inj (Option.some.inj n1')).1
          have egp : gp2 = gp2' := by rw [n1] at n1'; exact (Prod.mk.inj (Option.some.inj n1')).2
          subst emo; subst egp
          have mo01 : mo2 = 0 ∨ mo2 = 1 := by
            rcases n4 with h | h
            · exact Or.inl h.1
            · exact Or.inr h.1
          rw [show (877 : Int32) = nI 877 from rfl, y_le_f (by omega) (by omega), if_neg (show ¬ (1 : Int32) = 0 by decide), if_neg (show ¬ (1 : Int32) = 0 by decide), s4_holds h7 m2 hl hm0 hm1, y_b1, s4_worth ok hc (yWi a l) (fun j hj => s4_isWithinL ok hc hl hm1 hj), y_b1, s10_sitL ok hg' hl hm2, y_b1, y_u1, d1, y_b2]
          generalize yWw a (yWi a l) (a 0 1) = V at *
          unfold fX9_sit_L59J98 fX9_sit_L59J112 fX9_sit_L59J121 fX10_sit_L43J122 fX10_sit_L43J127
          simp only [n1, n2, n2', y_b2, y_lt_e, y_a1]
          have mu : ∀ (v u z : Int32) (G : zM), (fun s : Int32 × Int32 × Int32 × Int32 × zM => 900 - s.2.2.2.1.toNatClampNeg) (v, u, z, nI (i + 1), G) < (fun s : Int32 × Int32 × Int32 × Int32 × zM => 900 - s.2.2.2.1.toNatClampNeg) (L, H, 1, nI i, gp') := fun v u z G => by
            show 900 - (nI (i + 1)).toNatClampNeg < 900 - (nI i).toNatClampNeg
            rw [y_cl (by omega), y_cl (by omega)]; omega
          have go : ∀ (L2 A A' : Int32) (G : zM), yKs g G → yMo a (i + 1) mo2 gp2 G → ((L2 = -1 ∧ mo2 = 1) ∨ (A = A' ∧ ∃ t, t ≤ 1386 ∧ L2 = nI t)) → ∃ t t', (some (.inl (L2, A, mo2, nI (i + 1), gp2)) : Option ((Int32 × Int32 × Int32 × Int32 × zM) ⊕ (Int32 × Int32 × zM))) = some (.inl t) ∧ (some (.inl (L2, A', mo2, G)) : Option ((Int32 × Int32 × Int32 × zM) ⊕ (Int32 × Int32 × zM))) = some (.inl t') ∧ (∃ L H H' mo i gp' g', t = (L, H, mo, nI i, gp') ∧ t' = (L, H', mo, g') ∧ yKs g g' ∧ yMo a i mo gp' g' ∧ ((L = -1 ∧ mo = 1) ∨ (H = H' ∧ ∃ t, t ≤ 1386 ∧ L = nI t))) ∧ 900 - t.2.2.2.1.toNatClampNeg < 900 - (nI i).toNatClampNeg := fun L2 A A' G hG hM hh => ⟨_, _, rfl, rfl, ⟨L2, A, A', mo2, i + 1, gp2, G, rfl, rfl, hG, hM, hh⟩, mu _ _ _ _⟩
          cases hH : yHo l m (a 0 0)
          · have hmo1 : mo2 = 1 := by
              rcases mo01 with e | e
              · have := yHo_mono m1 _ (n5 e)
                rw [hH] at this; cases this
              · exact e
            simp only [y_bl_f rfl]
            rcases hv with ⟨rfl, -⟩ | ⟨e, t, ht, rfl⟩
            · rw [if_pos (show (-1 : Int32) ≤ -1 by decide), if_pos (show (-1 : Int32) = -1 from rfl), if_neg (show ¬ nI V < -1 from fun e => by
                rw [Int32.lt_iff_toInt_lt, nI_toInt (by omega)] at e
                have : (-1 : Int32).toInt = -1 := rfl
                omega)]
              exact go _ _ _ _ ks4 n4 (Or.inl ⟨rfl, hmo1⟩)
            · rw [if_pos (show (-1 : Int32) ≤ nI t from by
                rw [Int32.le_iff_toInt_le, nI_toInt (by omega)]
                have : (-1 : Int32).toInt = -1 := rfl
                omega), if_neg (show ¬ (-1 : Int32) = nI t from fun e => by
                have := congrArg Int32.toInt e
                rw [nI_toInt (by omega)] at this
                have e1 : (-1 : Int32).toInt = -1 := rfl
                omega)]
              by_cases c : nI V < nI t
              · rw [if_pos c]; exact go _ _ _ _ ks4' n4' (Or.inr ⟨e, t, ht, rfl⟩)
              · rw [if_neg c]; exact go _ _ _ _ ks4 n4 (Or.inr ⟨e, t, ht, rfl⟩)
          · simp only [y_bl_t rfl]
            rcases hv with ⟨rfl, -⟩ | ⟨e, t, ht, rfl⟩
            · have nle : ¬ nI V ≤ -1 := fun e => by
                rw [Int32.le_iff_toInt_le, nI_toInt (by omega)] at e
                have : (-1 : Int32).toInt = -1 := rfl
                omega
              have nlt : ¬ nI V < -1 := fun e => by
                rw [Int32.lt_iff_toInt_lt, nI_toInt (by omega)] at e
                have : (-1 : Int32).toInt = -1 := rfl
                omega
              rw [if_neg nle, if_neg nlt, if_neg nle, if_pos trivial]
              exact go _ _ _ _ ks4 n4 (Or.inr ⟨rfl, V, by omega, rfl⟩)
            · subst e
              by_cases c : V < t
              · rw [y_lt_t c (by omega), y_le_t (by omega) (by omega), y_eq_f (by omega) (by omega) (by omega)]
                exact go _ _ _ _ ks4' n4' (Or.inr ⟨rfl, t, ht, rfl⟩)
              · rw [y_lt_f (by omega) (by omega)]
                by_cases d : V = t
                · subst d
                  rw [y_le_t (by omega) (by omega), if_pos rfl, y_le_t (by omega) (by omega)]
                  exact go _ _ _ _ ks4 n4 (Or.inr ⟨rfl, V, ht, rfl⟩)
                · rw [y_le_f (by omega) (by omega), if_pos trivial, y_le_f (by omega) (by omega)]
                  exact go _ _ _ _ ks4 n4 (Or.inr ⟨rfl, V, by omega, rfl⟩)) zFU (-1, 0, 1, 0, gp1) (-1, 0, 1, g1) ⟨-1, 0, 0, 1, 0, gp1, g1, rfl, rfl, ks1, Or.inr ⟨rfl, by omega, _, yChk_0 h0.1 h7, p2, p3, r3⟩, Or.inl ⟨rfl, rfl⟩⟩ (by unfold zFU; show 900 - _ < _; omega)
      obtain ⟨b1, b2, b3⟩ := b
      obtain ⟨b1', b2', b3'⟩ := b'
      obtain ⟨w1, w2, w3⟩ := q3
      have w1 : yKs g b3' := w1
      have w2 : b1 = b1' := w2
      have w3 : b2 = b2' := w3
      subst w2; subst w3
      rw [q1, q2, y_b1, y_b1, y_u3, y_u3]
      by_cases e : y = 0
      · rw [if_pos e, if_pos e]; exact ⟨_, _, _, rfl, rfl, w1⟩
      · rw [if_neg e, if_neg e]; exact ⟨_, _, _, rfl, rfl, w1⟩
    · rw [y_le_f (by omega) (by omega), y_le_f (by omega) (by omega)]; exact hbad
  · rw [e1, y_b1, if_pos (show (0 : Int32) = 0 from rfl)]
    rcases e2 with e2 | ⟨e2, e3, e4⟩
    · rw [if_pos e2]; exact hbad
    · rw [if_neg e2, if_pos e3]; exact hbad
