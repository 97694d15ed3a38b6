/-! ===== two loops side by side ===== -/
theorem y_lk {α β α' β' : Type} {body : α → Option (α ⊕ β)} {body' : α' → Option (α' ⊕ β')} (R : α → α' → Prop) (μ : α → Nat) (Q : β → β' → Prop) (h : ∀ s s', R s s' → (∃ t t', body s = some (.inl t) ∧ body' s' = some (.inl t') ∧ R t t' ∧ μ t < μ s) ∨ (∃ b b', body s = some (.inr b) ∧ body' s' = some (.inr b') ∧ Q b b')) : ∀ (n : Nat) (s : α) (s' : α'), R s s' → μ s < n → ∃ b b', zLp body n s = some b ∧ zLp body' n s' = some b' ∧ Q b b' := by
  intro n
  induction n with
  | zero => intro s s' _ hm; omega
  | succ n ih =>
    intro s s' hR hm
    rcases h s s' hR with ⟨t, t', e1, e2, hR', hm'⟩ | ⟨b, b', e1, e2, hQ⟩
    · rw [y_lpl e1, y_lpl e2]; exact ih t t' hR' (by omega)
    · exact ⟨b, b', y_lpr e1, y_lpr e2, hQ⟩
theorem m_judge {gx w gr g : zM} {gl : zL} {a : yA} (ok : yOk a) (hc : yC w a) (hg : yG g a) (hr : pR gr g) (x y : Int32) : ∃ r, fX9_judge gx w gr x y = some r ∧ fX10_judge g gl x y = some r := by
  have h0 := ok.1
  obtain ⟨n, hn, h1, h2, h3⟩ := hr
  unfold fX9_judge fX10_judge
  rw [s8_hasPerson ok hc, y_b1, s10_isPerson ok hg, y_b1, s8_hasPerson ok hc, y_b1, s10_isPerson ok hg, y_b1]
  rcases y_zin x (n := a 0 0) (by omega) with ⟨hx, p, hp, rfl⟩ | ⟨hx, -⟩
  · rw [y_bl_t hx, y_bl_t hx]
    rcases y_zin y (n := a 0 0) (by omega) with ⟨hy, q, hq, rfl⟩ | ⟨hy, -⟩
    · rw [y_bl_t hy, y_bl_t hy]
      obtain ⟨b, b', e1, e2, hb⟩ := y_lk (body := fX5_verdict_L9 gr w) (body' := fX10_judge_L26 g gl) (fun s s' => s = s' ∧ ∃ p i L, s = (nI p, L, nI i) ∧ p < a 0 0 ∧ i ≤ n ∧ (L = -1 ∨ ∃ d, d < 100 ∧ L = nI d)) (fun s => 20 - s.2.2.toNatClampNeg) (fun b b' => b = b') (by
        rintro s s' ⟨rfl, p, i, L, rfl, hp, hi, hL⟩
        unfold fX5_verdict_L9 fX10_judge_L26 fX5_verdict_L9J61 fX5_verdict_L9J62
        rw [y_u3, y_u3, h1, h2]
        by_cases c : i < n
        · have hLn : ∀ D : Int32, ¬ D ≤ L → ¬ D < 0 := by
            intro D hD hD2
            apply hD
            rw [Int32.le_iff_toInt_le]
            rw [Int32.lt_iff_toInt_lt] at hD2
            have e0 : (0 : Int32).toInt = 0 := rfl
            rcases hL with rfl | ⟨d, hd, rfl⟩
            · have : (-1 : Int32).toInt = -1 := rfl
              omega
            · have : (nI d).toInt = (d : Int) := nI_toInt (by omega)
              omega
          have r0 : gr (2 + i) 0 = g 16 (3 * i) := h3 i 0 c (by omega)
          have r1 : gr (2 + i) 1 = g 16 (3 * i + 1) := h3 i 1 c (by omega)
          have r2 : gr (2 + i) 2 = g 16 (3 * i + 2) := h3 i 2 c (by omega)
          have z0 : (0 : Int32).toNatClampNeg = 0 := rfl
          have z1 : (1 : Int32).toNatClampNeg = 1 := rfl
          have z2 : (2 : Int32).toNatClampNeg = 2 := rfl
          have m0 : (3 : Int32) * nI i = nI (3 * i) := y_mul 3 i
          have m1 : nI (3 * i) + 1 = nI (3 * i + 1) := y_a1 _
          have m2 : nI (3 * i) + 2 = nI (3 * i + 2) := y_add _ 2
          rw [m0, m1, m2]
          simp only [y_le_f c (show n < 2147483648 by omega), y_gin (show i < 10 by omega) (show i < 2147483648 by omega), y_cl (show i < 2147483648 by omega), y_cl (show 3 * i < 2147483648 by omega), y_cl (show 3 * i + 1 < 2147483648 by omega), y_cl (show 3 * i + 2 < 2147483648 by omega), y_gin (show 3 * i < 30 by omega) (show 3 * i < 2147483648 by omega), y_gin (show 3 * i + 1 < 30 by omega) (show 3 * i + 1 < 2147483648 by omega), y_gin (show 3 * i + 2 < 30 by omega) (show 3 * i + 2 < 2147483648 by omega), z0, z1, z2, r0, r1, r2, y_lt_e, y_gd (show zIn 0 3 = true from rfl), y_gd (show zIn 1 3 = true from rfl), y_gd (show zIn 2 3 = true from rfl)]
          simp only [if_true, if_neg (show ¬ (1 : Int32) = 0 by decide)]
          by_cases cD : g 16 (3 * i) ≤ L
          · rw [if_pos cD, if_pos cD]; exact Or.inr ⟨_, _, rfl, rfl, rfl⟩
          · rw [if_neg cD, if_neg cD]
            obtain ⟨d, hd, eD⟩ := nI_of (hLn _ cD)
            rw [eD, show (100 : Int32) = nI 100 from rfl]
            by_cases c100 : d < 100
            · rw [y_le_f c100 (by omega)]
              by_cases cF : g 16 (3 * i + 1) = nI p
              · rw [if_pos cF, if_pos cF]
                rcases s5_isTold ok hc hp c100 (g 16 (3 * i + 2)) with ⟨q, hq, eq, e⟩ | ⟨hq, e⟩
                · rw [e, y_b1, eq, s10_areOpen ok hg hp hq c100, y_b1]
                  cases yTd a p q d
                  · rw [y_bl_f rfl]; exact Or.inr ⟨_, _, rfl, rfl, rfl⟩
                  · rw [y_bl_t rfl]
                    exact Or.inl ⟨_, _, rfl, rfl, ⟨rfl, q, i + 1, nI d, by rw [y_a1], hq, by omega, Or.inr ⟨d, c100, rfl⟩⟩, by
                      show 20 - (nI i + 1).toNatClampNeg < 20 - i
                      rw [y_a1, y_cl (by omega)]; omega⟩
                · rw [e, y_b1, s10_areOpenN ok hg hp (Or.inl hq), y_b1, if_pos (show (0 : Int32) = 0 from rfl)]
                  exact Or.inr ⟨_, _, rfl, rfl, rfl⟩
              · rw [if_neg cF, if_neg cF]; exact Or.inr ⟨_, _, rfl, rfl, rfl⟩
            · rw [y_le_t (by omega) (by omega)]
              have hd2 : zIn (nI d) 100 = false := by
                rcases y_zin (nI d) (n := 100) (by omega) with ⟨-, k, hk, e⟩ | ⟨h, -⟩
                · have := (nI_eq hd (by omega)).mp e; omega
                · exact h
              rw [s10_areOpenN ok hg hp (Or.inr hd2), y_b1, if_pos (show (0 : Int32) = 0 from rfl), ite_self]
              exact Or.inr ⟨_, _, rfl, rfl, rfl⟩
        · rw [y_le_t (by omega) (by omega), y_le_t (by omega) (by omega)]
          exact Or.inr ⟨_, _, rfl, rfl, rfl⟩) zFU (nI p, -1, 0) (nI p, -1, 0) ⟨rfl, p, 0, -1, rfl, hp, by omega, Or.inl rfl⟩ (by unfold zFU; show 20 - _ < _; omega)
      subst hb
      unfold fX5_verdict
      rw [e1, e2, y_b1]
      rcases b with b | b
      · rw [y_sml, y_u1]
        by_cases c : b = nI q
        · rw [if_pos c]; exact ⟨_, rfl, rfl⟩
        · rw [if_neg c]; exact ⟨_, rfl, rfl⟩
      · exact ⟨_, rfl, rfl⟩
    · rw [y_bl_f hy, y_bl_f hy]; exact ⟨_, rfl, rfl⟩
  · rw [y_bl_f hx, y_bl_f hx]; exact ⟨_, rfl, rfl⟩
