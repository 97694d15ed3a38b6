/-! ===== fewest ===== -/
theorem y_dv {C S : Nat} (hC : C ≤ 14) (hS : S ≤ 1386) : nI (2048 * C + S) / 2048 = nI C ∧ nI (2048 * C + S) - nI (2048 * C + S) / 2048 * 2048 = nI S := by
  have e : nI (2048 * C + S) / 2048 = nI C := by
    rw [show (2048 : Int32) = nI 2048 from rfl, pk_div (by omega) (by omega) (by omega)]
    congr 1; omega
  refine ⟨e, ?_⟩
  rw [e, show (2048 : Int32) = nI 2048 from rfl, y_mul, y_sub (by omega)]
  congr 1; omega
theorem m_fewest {gx w gp g : zM} {gl : zL} {a : yA} (ok : yOk a) (hc : yC w a) (hg : yG g a) (x y z : Int32) : ∃ r gp' g', fX9_fewest gx w gp x y z = some (r, gp') ∧ fX10_fewest g gl x y z = some (r, g') ∧ yKs g g' := by
  have h0 := ok.1
  have hall := y_all_lt (n := a 0 0) (by omega)
  have h1n := Nat.one_le_two_pow (n := a 0 0)
  have hO := yOs_lt ok 0
  have hbad : ∀ {v : Int32}, ∃ r gp' g', some (v, gp) = some (r, gp') ∧ some (v, g) = some (r, g') ∧ yKs g g' := fun {v} => ⟨v, gp, g, rfl, rfl, yKs.rf g⟩
  unfold fX9_fewest fX10_fewest
  rw [s9_isPair ok hc, y_b1, s10_areTwo ok hg, y_b1]
  cases hp : (zIn x (a 0 0) && zIn y (a 0 0) && !decide (x = y))
  · rw [y_bl_f rfl, y_bl_f rfl]; exact hbad
  obtain ⟨p, q, hp, hq, hpq, rfl, rfl⟩ := y_pair (by omega) hp
  rw [y_bl_t rfl, y_bl_t rfl, s9_isEither, y_b1, s10_isSide, y_b1]
  cases hz : yEi z
  · rw [y_bl_f rfl, y_bl_f rfl]; exact hbad
  rw [y_bl_t rfl, y_bl_t rfl, s8_openTies0 ok hc, y_b1, s10_openOn0 ok hg, y_b1]
  obtain ⟨b, b', q1, q2, q3⟩ := y_lk (body := fX9_fewest_L35 (nI p) (nI q) z w (nI (yOs a 0))) (body' := fX10_fewest_L32 (nI p) (nI q) z gl (nI (yOs a 0))) (fun s s' => ∃ v i gp' g', i ≤ 2 ^ a 0 0 ∧ yKs g g' ∧ s = (v, nI i, gp') ∧ s' = (v, nI i, g') ∧ (v = -3 ∨ ∃ k, k ≤ 2000 ∧ v = nI k)) (fun s => 2000 - s.2.1.toNatClampNeg) (fun b b' => b.1 = b'.1 ∧ yKs g b'.2) (by
    rintro S S' ⟨v, i, gp', g', hi, hks, rfl, rfl, hv⟩
    have hg' := hg.ks hks
    unfold fX9_fewest_L35 fX10_fewest_L32
    rw [y_u3, y_u3, s8_everybody ok hc, y_b1, s10_all ok hg', y_b1]
    by_cases c : i < 2 ^ a 0 0
    · left
      have hi10 : i < 2 ^ 10 := by omega
      have ei : (nI i).toNatClampNeg = i := y_cl (by omega)
      have mu : ∀ (v : Int32) (G : zM), (fun s : Int32 × Int32 × zM => 2000 - s.2.1.toNatClampNeg) (v, nI (i + 1), G) < (fun s : Int32 × Int32 × zM => 2000 - s.2.1.toNatClampNeg) (v, nI i, gp') := fun v G => by
        show 2000 - (nI (i + 1)).toNatClampNeg < 2000 - (nI i).toNatClampNeg
        rw [y_cl (by omega), y_cl (by omega)]; omega
      have skip : ∃ t t', fX9_fewest_L35J134 (nI i) v gp' = some (.inl t) ∧ fX10_fewest_L32J159 (nI i) v g' = some (.inl t') ∧ (∃ v i gp' g', i ≤ 2 ^ a 0 0 ∧ yKs g g' ∧ t = (v, nI i, gp') ∧ t' = (v, nI i, g') ∧ (v = -3 ∨ ∃ k, k ≤ 2000 ∧ v = nI k)) ∧ 2000 - t.2.1.toNatClampNeg < 2000 - (nI i).toNatClampNeg := by
        unfold fX9_fewest_L35J134 fX10_fewest_L32J159
        rw [y_lt_e, y_lt_e, y_a1]
        exact ⟨_, _, rfl, rfl, ⟨v, i + 1, gp', g', by omega, hks, rfl, rfl, hv⟩, mu v gp'⟩
      simp only [y_lt_f (show i ≤ 2 ^ a 0 0 - 1 by omega) (show 2 ^ a 0 0 - 1 < 2147483648 by omega), y_bit0 (show i < 2147483648 by omega) (show p < 31 by omega), y_bit0 (show i < 2147483648 by omega) (show q < 31 by omega), y_bit1 (show i < 2147483648 by omega) (show q < 31 by omega)]
      cases bp : i.testBit p
      · rw [if_pos rfl, if_pos rfl]; exact skip
      · rw [if_neg (show ¬ true = false by decide), if_neg (show ¬ true = false by decide)]
        cases bq : i.testBit q
        · rw [if_pos (show false = false from rfl), if_neg (show ¬ false = true by decide)]
          obtain ⟨gp2, k1, k2⟩ := s4_halve (gp := gp') hi10
          obtain ⟨g1, g2, f1, f2, f3, f4⟩ := s10_fewL (gl := gl) ok hg' hO hi10
          have hW : ∀ j, j < a 0 1 → fX4_isWithin gp2 w (nI j) = some (yBl (i.testBit (a 3 j) == i.testBit (a 4 j))) := by
            intro j hj
            have o := ok.2.2.1 j hj
            rw [s4_isWithin ok hc hj, k2 _ (by omega), k2 _ (by omega)]
            congr 2
            cases i.testBit (a 3 j) <;> cases i.testBit (a 4 j) <;> rfl
          rw [k1, y_b1, s4_cost ok hc hO _ hW, y_b1, f1, y_b1, f2, y_b1, y_u1]
          obtain ⟨bd1, bd2⟩ := yCc_bd ok (fun j => (yOs a 0).testBit j && !(i.testBit (a 3 j) == i.testBit (a 4 j))) (a 0 1) (Nat.le_refl _)
          obtain ⟨t1, t2, t3⟩ := f4
          generalize yCc a (fun j => (yOs a 0).testBit j && !(i.testBit (a 3 j) == i.testBit (a 4 j))) (a 0 1) = T at *
          obtain ⟨C, S, M⟩ := T
          have bd1 : C ≤ a 0 1 := bd1
          have bd2 : S ≤ 99 * a 0 1 := bd2
          have t1 : g2 0 27 = nI C := t1
          have t2 : g2 0 28 = nI S := t2
          have t3 : g2 0 29 = yBl M := t3
          obtain ⟨d1, d2⟩ := y_dv (C := C) (S := S) (by omega) (by omega)
          have fin : ∀ (u : Nat) (U : Int32), u ≤ 2000 → (M = false → U = nI u) → ∃ t t', fX9_fewest_L35J111 v (nI i) gp2 (if M = true then -3 else nI (2048 * C + S)) U = some (.inl t) ∧ fX10_fewest_L32J129 v (nI i) g2 (nI u) = some (.inl t') ∧ (∃ v i gp' g', i ≤ 2 ^ a 0 0 ∧ yKs g g' ∧ t = (v, nI i, gp') ∧ t' = (v, nI i, g') ∧ (v = -3 ∨ ∃ k, k ≤ 2000 ∧ v = nI k)) ∧ 2000 - t.2.1.toNatClampNeg < 2000 - (nI i).toNatClampNeg := by
            intro u U hu hU
            unfold fX9_fewest_L35J111 fX9_fewest_L35J130 fX9_fewest_L35J134 fX10_fewest_L32J129 fX10_fewest_L32J150 fX10_fewest_L32J155 fX10_fewest_L32J157 fX10_fewest_L32J159
            simp only [y_lt_e, y_a1, t3]
            have keep : ∃ t t', (some (.inl (v, nI (i + 1), gp2)) : Option ((Int32 × Int32 × zM) ⊕ (Int32 × zM))) = some (.inl t) ∧ (some (.inl (v, nI (i + 1), g2)) : Option ((Int32 × Int32 × zM) ⊕ (Int32 × zM))) = some (.inl t') ∧ (∃ v i gp' g', i ≤ 2 ^ a 0 0 ∧ yKs g g' ∧ t = (v, nI i, gp') ∧ t' = (v, nI i, g') ∧ (v = -3 ∨ ∃ k, k ≤ 2000 ∧ v = nI k)) ∧ 2000 - t.2.1.toNatClampNeg < 2000 - (nI i).toNatClampNeg := ⟨_, _, rfl, rfl, ⟨v, i + 1, gp2, g2, by omega, hks.tr f3, rfl, rfl, hv⟩, mu v gp2⟩
            cases M
            · rw [hU rfl, if_neg (show ¬ false = true by decide), if_neg (y_nn (by omega)), y_bl_f rfl]
              have take : ∃ t t', (some (.inl (nI u, nI (i + 1), gp2)) : Option ((Int32 × Int32 × zM) ⊕ (Int32 × zM))) = some (.inl t) ∧ (some (.inl (nI u, nI (i + 1), g2)) : Option ((Int32 × Int32 × zM) ⊕ (Int32 × zM))) = some (.inl t') ∧ (∃ v i gp' g', i ≤ 2 ^ a 0 0 ∧ yKs g g' ∧ t = (v, nI i, gp') ∧ t' = (v, nI i, g') ∧ (v = -3 ∨ ∃ k, k ≤ 2000 ∧ v = nI k)) ∧ 2000 - t.2.1.toNatClampNeg < 2000 - (nI i).toNatClampNeg := ⟨_, _, rfl, rfl, ⟨nI u, i + 1, gp2, g2, by omega, hks.tr f3, rfl, rfl, Or.inr ⟨u, hu, rfl⟩⟩, mu v gp2⟩
              by_cases e1 : v < 0
              · rw [if_pos e1, if_pos e1]; exact take
              · rw [if_neg e1, if_neg e1]
                by_cases e2 : v ≤ nI u
                · rw [if_pos e2, if_pos e2]; exact keep
                · rw [if_neg e2, if_neg e2]; exact take
            · rw [if_pos (show true = true from rfl), if_pos (show (-3 : Int32) < 0 by decide), y_bl_t rfl]; exact keep
          rw [t1, t2]
          by_cases e : z = 0
          · rw [if_pos e, if_pos e]
            exact fin C _ (by omega) (fun hM => by rw [hM]; exact d1)
          · rw [if_neg e, if_neg e]
            exact fin S _ (by omega) (fun hM => by rw [hM]; exact d2)
        · rw [if_neg (show ¬ true = false by decide), if_pos (show true = true from rfl)]; exact skip
    · right
      rw [y_lt_t (by omega) (by omega), y_lt_t (by omega) (by omega)]
      exact ⟨_, _, rfl, rfl, rfl, hks⟩) zFU (-3, 0, gp) (-3, 0, g) ⟨-3, 0, gp, g, by omega, yKs.rf g, rfl, rfl, Or.inl rfl⟩ (by unfold zFU; show 2000 - _ < _; omega)
  obtain ⟨b1, b2⟩ := b
  obtain ⟨b1', b2'⟩ := b'
  obtain ⟨e1, e2⟩ := q3
  have e1 : b1 = b1' := e1
  subst e1
  rw [q1, q2, y_b1, y_b1, y_u2, y_u2]
  exact ⟨_, _, _, rfl, rfl, e2⟩
