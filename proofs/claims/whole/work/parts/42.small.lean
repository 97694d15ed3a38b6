/-! ===== small, sit ===== -/
theorem yKs.c {g g' g'' : zM} {c : Nat} (h : yKs g g') (e : ∀ k, k ≠ c → g'' k = g' k) (hc : (c == 11 || c == 12) = true) : yKs g g'' := by
  have hc2 : c = 11 ∨ c = 12 := by simp only [Bool.or_eq_true, beq_iff_eq] at hc; exact hc
  unfold yKs at h ⊢
  rw [e 0 (by omega), e 1 (by omega), e 2 (by omega), e 3 (by omega), e 4 (by omega), e 5 (by omega), e 16 (by omega), e 18 (by omega), e 19 (by omega), e 21 (by omega), e 22 (by omega), e 23 (by omega), e 24 (by omega), e 25 (by omega)]
  exact h
/-- both have the same parting in hand, or none is left -/
def yMo (a : yA) (i : Nat) (mo : Int32) (gp g' : zM) : Prop := (mo = 0 ∧ i ≤ 877) ∨ (mo = 1 ∧ i ≤ 876 ∧ ∃ l, yChk (a 0 0) (877 - i) l = true ∧ gp 0 1 = nI (a 0 0) ∧ yPt gp 1 (a 0 0) l ∧ yPt g' 11 (a 0 0) l)
theorem yMo_nx {a : yA} {i : Nat} {gp g' : zM} {gl : zL} {l : List Nat} (h1 : 1 ≤ a 0 0) (h7 : a 0 0 ≤ 7) (hi : i ≤ 876) (hg0 : g' 0 0 = nI (a 0 0)) (hk : yChk (a 0 0) (877 - i) l = true) (h0 : gp 0 1 = nI (a 0 0)) (hp : yPt gp 1 (a 0 0) l) (hq : yPt g' 11 (a 0 0) l) : ∃ mo gp2 g2, fX4_advance gp = some (mo, gp2) ∧ fX10_nextParting g' gl = some (mo, g2) ∧ (∀ k, k ≠ 11 → g2 k = g' k) ∧ yMo a (i + 1) mo gp2 g2 ∧ (mo = 0 → yHo l 1 (a 0 0) = true) := by
  obtain ⟨f, ef, k1, k2, k3⟩ := yChk_s hk
  have hl : ∀ p, l.getD p 0 ≤ 7 := fun p => by rcases k1 p with h | h <;> omega
  rcases s4_advance h1 h7 hl h0 hp with ⟨a1, a2⟩ | ⟨l', gp', a1, a2, a3, a4⟩
  · rcases s10_next (gl := gl) h1 h7 hl hg0 hq with ⟨b1, b2⟩ | ⟨l'', g2, b1, b2, b3, b4⟩
    · exact ⟨0, gp, g', a2, b2, fun _ _ => rfl, Or.inl ⟨rfl, by omega⟩, fun _ => k2 a1⟩
    · rw [a1] at b1; cases b1
  · rcases s10_next (gl := gl) h1 h7 hl hg0 hq with ⟨b1, b2⟩ | ⟨l'', g2, b1, b2, b3, b4⟩
    · rw [a1] at b1; cases b1
    · rw [a1] at b1; cases b1
      have hk' := k3 l' a1
      obtain ⟨f', ef', -⟩ := yChk_s hk'
      refine ⟨1, gp', g2, a2, b2, b3, Or.inr ⟨rfl, by omega, l', ?_, a3, a4, b4⟩, fun e => absurd e (by decide)⟩
      rw [show 877 - (i + 1) = f by omega]; exact hk'
theorem m_small {gx w gp g : zM} {gl : zL} {a : yA} (ok : yOk a) (hc : yC w a) (hg : yG g a) (x y : Int32) : ∃ r gp' g', fX9_small gx w gp x y = some (r, gp') ∧ fX10_small g gl x y = some (r, g') ∧ yKs g g' := by
  have h0 := ok.1
  have hO := yOs_lt ok 0
  have hbad : ∀ {v : Int32}, ∃ r gp' g', some (v, gp) = some (r, gp') ∧ some (v, g) = some (r, g') ∧ yKs g g' := fun {v} => ⟨v, gp, g, rfl, rfl, yKs.rf g⟩
  unfold fX9_small fX10_small
  rcases y_rng x (L := 1) (M := 10) (l := 1) (m := 10) rfl rfl (by omega) (by omega) with ⟨m, m1, m2, rfl, e1, e2, e3, e4⟩ | ⟨e1, e2⟩
  · rw [e1, y_b1, if_neg (show ¬ (1 : Int32) = 0 by decide), if_neg e2, if_neg e3, s9_isEither, y_b1, s10_isSide, y_b1]
    cases hy : yEi y
    · rw [y_bl_f rfl, y_bl_f rfl]; exact hbad
    rw [y_bl_t rfl, y_bl_t rfl, hc.1.1, hg.1.1, show (7 : Int32) = nI 7 from rfl]
    by_cases h7 : a 0 0 ≤ 7
    · obtain ⟨gp1, p1, p2, p3⟩ := s4_begin (gp := gp) h7
      obtain ⟨g1, r1, r2, r3⟩ := s10_beginP (g := g) (gl := gl) h7
      have ks1 : yKs g g1 := (yKs.rf g).c r2 (by decide)
      rw [y_le_t h7 (by omega), y_le_t h7 (by omega), s8_openTies0 ok hc, y_b1, s10_openOn0 ok hg, y_b1, p1, y_b2, r1, y_b1]
      obtain ⟨b, b', q1, q2, q3⟩ := y_lk (body := fX9_small_L67 (nI m) w (nI (yOs a 0))) (body' := fX10_small_L51 (nI m) gl (nI (yOs a 0))) (fun s s' => ∃ L F S mo i gp' g', s = (L, mo, nI i, gp') ∧ s' = (F, S, mo, g') ∧ yKs g g' ∧ yMo a i mo gp' g' ∧ ((L = -3 ∧ F = -3) ∨ ∃ C W, C ≤ 14 ∧ W ≤ 1386 ∧ L = nI (2048 * C + W) ∧ F = nI C ∧ S = nI W)) (fun s => 900 - s.2.2.1.toNatClampNeg) (fun b b' => yKs g b'.2.2 ∧ ((b.1 = -3 ∧ b'.1 = -3) ∨ ∃ C W, C ≤ 14 ∧ W ≤ 1386 ∧ b.1 = nI (2048 * C + W) ∧ b'.1 = nI C ∧ b'.2.1 = nI W)) (by
        rintro s s' ⟨L, F, S, mo, i, gp', g', rfl, rfl, hks, hmo, hv⟩
        have hg' := hg.ks hks
        unfold fX9_small_L67 fX10_small_L51
        rw [y_u4, y_u4]
        rcases hmo with ⟨rfl, hi⟩ | ⟨rfl, hi, l, hk, hm0, hm1, hm2⟩
        · right
          rw [if_pos (show (0 : Int32) = 0 from rfl), if_pos (show (0 : Int32) = 0 from rfl), ite_self]
          exact ⟨_, _, rfl, rfl, hks, hv⟩
        · left
          obtain ⟨f, ef, k1, k2, k3⟩ := yChk_s hk
          have hl : ∀ p, l.getD p 0 ≤ 7 := fun p => by rcases k1 p with h | h <;> omega
          have hln : ∀ p, p < a 0 0 → l.getD p 0 < a 0 0 := fun p hp => by rcases k1 p with h | h <;> omega
          obtain ⟨gc, g2, c1, c2, c3, c4, c5⟩ := s10_smallL (gl := gl) ok hg' hl hm2 hO
          have hg2 := hg'.ks c3
          have hpt2 : yPt g2 11 (a 0 0) l := fun p hp => by rw [c4]; exact hm2 p hp
          obtain ⟨g3, d1, d2⟩ := s10_isSmall (gl := gl) (m := m) h7 m2 hln hg2.1.1 hpt2
          have hpt3 : yPt g3 11 (a 0 0) l := fun p hp => by rw [d2 11 (by omega)]; exact hpt2 p hp
          obtain ⟨mo2, gp2, g4, n1, n2, n3, n4, -⟩ := yMo_nx (gl := gl) h0.1 h7 hi (by rw [d2 0 (by omega)]; exact hg2.1.1) hk hm0 hm1 hpt3
          obtain ⟨mo2', gp2', g4', n1', n2', n3', n4', -⟩ := yMo_nx (gl := gl) h0.1 h7 hi hg2.1.1 hk hm0 hm1 hpt2
          have ks2 : yKs g g2 := hks.tr c3
          have ks4 : yKs g g4 := (ks2.c d2 (by decide)).c n3 (by decide)
          have ks4' : yKs g g4' := ks2.c n3' (by decide)
          obtain ⟨bd1, bd2⟩ := yCc_bd ok (fun j => (yOs a 0).testBit j && !yWi a l j) (a 0 1) (Nat.le_refl _)
          rw [show (877 : Int32) = nI 877 from rfl, y_le_f (by omega) (by omega), if_neg (show ¬ (1 : Int32) = 0 by decide), if_neg (show ¬ (1 : Int32) = 0 by decide), s4_holds h7 m2 hl hm0 hm1, y_b1, s4_cost ok hc hO (yWi a l) (fun j hj => s4_isWithinL ok hc hl hm1 hj), y_b1, c1, y_b1, c2, y_b1, y_u1]
          obtain ⟨t1, t2, t3⟩ := c5
          generalize yCc a (fun j => (yOs a 0).testBit j && !yWi a l j) (a 0 1) = T at *
          obtain ⟨C, W, M⟩ := T
          have bd1 : C ≤ a 0 1 := bd1
          have bd2 : W ≤ 99 * a 0 1 := bd2
          have t1 : g2 0 27 = nI C := t1
          have t2 : g2 0 28 = nI W := t2
          have t3 : g2 0 29 = yBl M := t3
          have t1' : g3 0 27 = nI C := by rw [d2 0 (by omega)]; exact t1
          have t2' : g3 0 28 = nI W := by rw [d2 0 (by omega)]; exact t2
          have mu : ∀ (v u : Int32) (G : zM), (fun s : Int32 × Int32 × Int32 × zM => 900 - s.2.2.1.toNatClampNeg) (v, u, nI (i + 1), G) < (fun s : Int32 × Int32 × Int32 × zM => 900 - s.2.2.1.toNatClampNeg) (L, 1, nI i, gp') := fun v u G => by
            show 900 - (nI (i + 1)).toNatClampNeg < 900 - (nI i).toNatClampNeg
            rw [y_cl (by omega), y_cl (by omega)]; omega
          rw [t1, t2]
          dsimp only
          unfold fX9_small_L67J108 fX9_small_L67J127 fX9_small_L67J131 fX10_small_L51J135 fX10_small_L51J139 fX10_small_L51J140 fX10_small_L51J174
          simp only [n1, n2, n2', d1, y_b2, y_lt_e, y_a1, t1', t2', t3]
          -- class: keep or take
          have emo : mo2 = mo2' := by rw [n1] at n1'; exact (Prod.mk.inj (Option.some.inj n1')).1
          have egp : gp2 = gp2' := by rw [n1] at n1'; exact (Prod.mk.inj (Option.some.inj n1')).2
          subst emo; subst egp
          have keep : ∀ G, yKs g G → yMo a (i + 1) mo2 gp2 G → ∃ t t', (some (.inl (L, mo2, nI (i + 1), gp2)) : Option ((Int32 × Int32 × Int32 × zM) ⊕ (Int32 × zM))) = some (.inl t) ∧ (some (.inl (F, S, mo2, G)) : Option ((Int32 × Int32 × Int32 × zM) ⊕ (Int32 × Int32 × zM))) = some (.inl t') ∧ (∃ L F S mo i gp' g', t = (L, mo, nI i, gp') ∧ t' = (F, S, mo, g') ∧ yKs g g' ∧ yMo a i mo gp' g' ∧ ((L = -3 ∧ F = -3) ∨ ∃ C W, C ≤ 14 ∧ W ≤ 1386 ∧ L = nI (2048 * C + W) ∧ F = nI C ∧ S = nI W)) ∧ 900 - t.2.2.1.toNatClampNeg < 900 - (nI i).toNatClampNeg := fun G hG hM => ⟨_, _, rfl, rfl, ⟨L, F, S, mo2, i + 1, gp2, G, rfl, rfl, hG, hM, hv⟩, mu _ _ _⟩
          have take : ∃ t t', (some (.inl (nI (2048 * C + W), mo2, nI (i + 1), gp2)) : Option ((Int32 × Int32 × Int32 × zM) ⊕ (Int32 × zM))) = some (.inl t) ∧ (some (.inl (nI C, nI W, mo2, g4)) : Option ((Int32 × Int32 × Int32 × zM) ⊕ (Int32 × Int32 × zM))) = some (.inl t') ∧ (∃ L F S mo i gp' g', t = (L, mo, nI i, gp') ∧ t' = (F, S, mo, g') ∧ yKs g g' ∧ yMo a i mo gp' g' ∧ ((L = -3 ∧ F = -3) ∨ ∃ C W, C ≤ 14 ∧ W ≤ 1386 ∧ L = nI (2048 * C + W) ∧ F = nI C ∧ S = nI W)) ∧ 900 - t.2.2.1.toNatClampNeg < 900 - (nI i).toNatClampNeg := ⟨_, _, rfl, rfl, ⟨_, _, _, mo2, i + 1, gp2, g4, rfl, rfl, ks4, n4, Or.inr ⟨C, W, by omega, by omega, rfl, rfl, rfl⟩⟩, mu _ _ _⟩
          have keep1 := keep g4 ks4 n4
          have keep2 := keep g4' ks4' n4'
          have z1 : (1 : Int32) = 0 ↔ False := by decide
          cases hH : yHo l m (a 0 0)
          · -- too many in a set
            simp only [y_bl_f rfl, if_pos (show (-3 : Int32) < 0 by decide), z1, if_false, if_true]
            cases M
            · simp only [y_bl_f rfl]
              repeat' split
              all_goals first | exact keep1 | exact keep2
            · simp only [y_bl_t rfl]
              repeat' split
              all_goals first | exact keep1 | exact keep2
          · cases M
            · simp only [y_bl_f rfl, y_bl_t rfl, z1, if_false, if_true, if_neg (show ¬ false = true by decide), if_neg (y_nn (show 2048 * C + W < 2147483648 by omega))]
              rcases hv with ⟨rfl, rfl⟩ | ⟨C', W', c1', c2', rfl, rfl, rfl⟩
              · rw [if_pos (show (-3 : Int32) < 0 by decide), if_pos (show (-3 : Int32) < 0 by decide)]; exact take
              · rw [if_neg (y_nn (by omega)), if_neg (y_nn (by omega))]
                by_cases d : C < C'
                · rw [y_lt_t d (by omega), y_le_f (by omega) (by omega)]; exact take
                · rw [y_lt_f (by omega) (by omega)]
                  by_cases e : C = C'
                  · rw [y_eq_t e]
                    by_cases f : W < W'
                    · rw [y_le_f f (by omega), y_le_f (by omega) (by omega)]; exact take
                    · rw [y_le_t (by omega) (by omega), y_le_t (by omega) (by omega)]; exact keep2
                  · rw [y_eq_f e (by omega) (by omega), y_le_t (by omega) (by omega)]; exact keep2
            · simp only [y_bl_t rfl, if_pos (show (-3 : Int32) < 0 by decide), z1, if_false, if_true]
              repeat' split
              all_goals first | exact keep1 | exact keep2) zFU (-3, 1, 0, gp1) (-3, 0, 1, g1) ⟨-3, -3, 0, 1, 0, gp1, g1, rfl, rfl, ks1, Or.inr ⟨rfl, by omega, _, yChk_0 h0.1 h7, p2, p3, r3⟩, Or.inl ⟨rfl, rfl⟩⟩ (by unfold zFU; show 900 - _ < _; omega)
      obtain ⟨b1, b2⟩ := b
      obtain ⟨b1', b2', b3'⟩ := b'
      obtain ⟨w1, w2⟩ := q3
      have w1 : yKs g b3' := w1
      rw [q1, q2, y_b1, y_b1, y_u2, y_u3]
      rcases w2 with ⟨v1, v2⟩ | ⟨C, W, v1, v2, v3, v4, v5⟩
      · have v1 : b1 = -3 := v1
        have v2 : b1' = -3 := v2
        subst v1; subst v2
        rw [if_neg (show ¬ (0 : Int32) ≤ -3 by decide), if_neg (show ¬ (0 : Int32) ≤ -3 by decide)]
        exact ⟨_, _, _, rfl, rfl, w1⟩
      · have v3 : b1 = nI (2048 * C + W) := v3
        have v4 : b1' = nI C := v4
        have v5 : b2' = nI W := v5
        subst v3; subst v4; subst v5
        obtain ⟨d1, d2⟩ := y_dv v1 v2
        rw [if_pos (show (0 : Int32) ≤ nI (2048 * C + W) from nI_le (a := 0) (by omega) (by omega)), if_pos (show (0 : Int32) ≤ nI C from nI_le (a := 0) (by omega) (by omega)), d2, d1]
        by_cases e : y = 0
        · rw [if_pos e, if_pos e]; exact ⟨_, _, _, rfl, rfl, w1⟩
        · rw [if_neg e, if_neg e]; exact ⟨_, _, _, rfl, rfl, w1⟩
    · rw [y_le_f (by omega) (by omega), y_le_f (by omega) (by omega)]; exact hbad
  · rw [e1, y_b1, if_pos (show (0 : Int32) = 0 from rfl)]
    rcases e2 with e2 | ⟨e2, e3, e4⟩
    · rw [if_pos e2]; exact hbad
    · rw [if_neg e2, if_pos e3]; exact hbad
