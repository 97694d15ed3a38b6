/-! ===== tie in a text: its rest ===== -/
theorem s_number2 {B : Nat → Nat} {L e l : Nat} {gt g : zM} {gl : zL} {lo hi : Int32} (hp : yPr B L gt g gl e) (h15 : g 0 15 = 1) (hlo : lo = nI l) (hl : l ≤ 1) : (∃ gt' v g', fX7_stepNumber gt lo hi = some (0, gt') ∧ fX10_wantNumber g gl lo hi = some (v, g', gl) ∧ g' 0 15 = 0 ∧ gt' 0 2 = g' 0 11 ∧ pFz g g' gl gl ∧ gt' 0 2 = g 0 11) ∨ (∃ gt' v g' gl' e', fX7_stepNumber gt lo hi = some (1, gt') ∧ fX10_wantNumber g gl lo hi = some (nI v, g', gl') ∧ l ≤ v ∧ v ≤ 99 ∧ ¬ hi < nI v ∧ gt' 0 5 = nI v ∧ g' 0 15 = 1 ∧ yPr B L gt' g' gl' e' ∧ e < e' ∧ pFz g g' gl gl' ∧ g 0 10 = 2 ∧ g 0 14 = nI v ∧ gt' 0 2 = g 0 11) := by
  obtain ⟨gt', e', c, p1, p2, p3, p4⟩ := hp
  have p2' := p2
  obtain ⟨t, h1, h2, h3, h4, h5, h6, h7⟩ := p2
  unfold fX7_stepNumber fX10_wantNumber fX10_wantNumber_J34 fX10_wantNumber_J35
  rw [p1, y_b1, h5, y_lt_e, h15, if_neg (show ¬ (1 : Int32) = 0 by decide)]
  simp only [y_lt_e, y_15s, if_true, if_neg (show ¬ (1 : Int32) = 0 by decide)]
  have bad : fX10_wantNumber_J34 g gl (g 0 14) = some (g 0 14, zPu g 0 15 0, gl) := by
    unfold fX10_wantNumber_J34 fX10_wantNumber_J35
    rw [y_gd (show zBo 0 = true from rfl), y_lt_e, y_15s, if_pos rfl]
  have loc : gt' 0 2 = zPu g 0 15 0 0 11 := by rw [zPu_j (by decide)]; exact h2
  by_cases c2 : c = 2
  · have hx : g 0 10 = 2 ∧ gt' 0 5 = g 0 14 ∧ yVl (g 0 14) := by
      rcases h6 with h | h | h | h | h
      · omega
      · omega
      · exact h.2
      · omega
      · omega
    rw [c2, if_pos (show nI 2 = 2 from rfl), hx.1, if_pos rfl, hx.2.1]
    rcases y_in01 (g 0 14) lo hi with ⟨i1, i2, i3⟩ | ⟨i1, i2⟩
    · right
      obtain ⟨v, v1, v2⟩ : ∃ v, v ≤ 99 ∧ g 0 14 = nI v := by
        rcases hx.2.2 with h | h
        · exfalso; apply i2; rw [h, hlo]
          have : l = 0 ∨ l = 1 := by omega
          rcases this with rfl | rfl <;> decide
        · exact h
      obtain ⟨g2, gl2, a1, a2, a3⟩ := (p2'.g15 1).go
      rw [i1, y_b1, if_neg (show ¬ (1 : Int32) = 0 by decide), if_neg i2, if_neg i3, y_gd (show zBo 1 = true from rfl), a1, y_b2, v2]
      rw [v2] at i2 i3
      refine ⟨gt', v, g2, gl2, e', rfl, rfl, ?_, v1, i3, by rw [hx.2.1, v2], by rw [a3.o15, y_15s], a2, p4 (by omega), (pFz.g15 g gl 1).tr a3.z, rfl, rfl, h2⟩
      rw [hlo, y_lt (by omega) (by omega)] at i2
      omega
    · left
      rw [i1, y_b1, if_pos rfl, y_gd (show zBo 0 = true from rfl)]
      refine ⟨gt', g 0 14, zPu g 0 15 0, ?_, rfl, y_15s, loc, pFz.g15 g gl 0, h2⟩
      rcases i2 with i2 | ⟨i2, i3⟩
      · rw [if_pos i2]
      · rw [if_neg i2, if_pos i3]
  · left
    have hc4 : c ≤ 4 := by
      rcases h6 with h | h | h | h | h <;> omega
    have hg : ¬ g 0 10 = 2 := by
      rcases h6 with h | h | h | h | h
      · rw [h.2.2]; decide
      · rw [h.2]; decide
      · omega
      · rw [h.2.1]; decide
      · rw [h.2.1]; decide
    rw [if_neg (show ¬ nI c = 2 from fun h => c2 ((nI_eq (by omega) (by omega)).mp (h.trans (show (2 : Int32) = nI 2 from rfl)))), if_neg hg, y_gd (show zBo 0 = true from rfl)]
    exact ⟨gt', g 0 14, zPu g 0 15 0, rfl, rfl, y_15s, loc, pFz.g15 g gl 0, h2⟩
theorem yAddT_5 (a : yA) (p q wo od mu v : Nat) : ySt (yAddT a p q wo od mu) 5 (a 0 1) v = yAddT a p q v od mu := by
  funext r j
  unfold yAddT
  by_cases h7 : r = 7 ∧ j = a 0 1
  · obtain ⟨rfl, rfl⟩ := h7; simp [ySt]
  by_cases h6 : r = 6 ∧ j = a 0 1
  · obtain ⟨rfl, rfl⟩ := h6; simp [ySt]
  by_cases h5 : r = 5 ∧ j = a 0 1
  · obtain ⟨rfl, rfl⟩ := h5; simp [ySt]
  · unfold ySt
    simp only [if_neg h7, if_neg h6, if_neg h5]
theorem yAddT_6 (a : yA) (p q wo od mu v : Nat) : ySt (yAddT a p q wo od mu) 6 (a 0 1) v = yAddT a p q wo v mu := by
  funext r j
  unfold yAddT
  by_cases h7 : r = 7 ∧ j = a 0 1
  · obtain ⟨rfl, rfl⟩ := h7; simp [ySt]
  by_cases h6 : r = 6 ∧ j = a 0 1
  · obtain ⟨rfl, rfl⟩ := h6; simp [ySt]
  · unfold ySt
    simp only [if_neg h7, if_neg h6]
theorem yAddT_7 (a : yA) (p q wo od mu v : Nat) : ySt (yAddT a p q wo od mu) 7 (a 0 1) v = yAddT a p q wo od v := by
  funext r j
  unfold yAddT
  by_cases h7 : r = 7 ∧ j = a 0 1
  · obtain ⟨rfl, rfl⟩ := h7; simp [ySt]
  · unfold ySt
    simp only [if_neg h7]
def yTi (t : Nat) : Nat := t % 2 + t / 2 % 2 + t / 4 % 2
theorem y_told : ∀ t, t < 8 → ∀ k, k < 3 → ((t &&& 2 ^ k = 0) = (t.testBit k = false)) ∧ (4 * t).testBit (k + 2) = t.testBit k ∧ (4 * t ||| 2 ^ (k + 2)) = 4 * (t ||| 2 ^ k) ∧ t ||| 2 ^ k < 8 ∧ (t.testBit k = false → yTi (t ||| 2 ^ k) = yTi t + 1) ∧ (yTi t = 3 → t.testBit k = true) ∧ yTi t ≤ 3 := by decide +kernel
theorem y_tand {t k : Nat} (ht : t < 8) (hk : k < 3) : (nI t &&& nI (2 ^ k) = 0) = (t.testBit k = false) := by
  have hle : t &&& 2 ^ k ≤ t := Nat.and_le_left
  rw [y_and, ← (y_told t ht k hk).1, show (0 : Int32) = nI 0 from rfl, y_eq (by omega) (by omega)]
/-- the rest of a tie: worth, odds, must, each once -/
def yTo (B : Nat → Nat) (L : Nat) (a : yA) (p q : Nat) (g : zM) (gl : zL) (e : Nat) (rc : Option ((zM × zM) ⊕ (zM × zM))) (rm : Option (Int32 × Int32 × Int32 × zM × zL)) : Prop := (∃ ex gt' gw' x y z g' gl', rc = some ex ∧ (ex = .inr (gt', gw') ∨ (ex = .inl (gt', gw') ∧ ¬ gt' 0 4 = 3)) ∧ zAllB (gw' 7) 14 = true ∧ rm = some (x, y, z, g', gl') ∧ pFz g g' gl gl' ∧ ((g' 0 15 = 0 ∧ gt' 0 2 = g' 0 11) ∨ (g' 0 15 = 1 ∧ ∃ e' c', yAt B L gt' g' gl' e' c' ∧ c' ≠ 3))) ∨ (∃ gt' gw' wo od mu g' gl' e', rc = some (.inl (gt', gw')) ∧ rm = some (nI wo, nI od, nI mu, g', gl') ∧ wo ≤ 99 ∧ 1 ≤ od ∧ od ≤ 4 ∧ mu ≤ 1 ∧ yC gw' (yAddT a p q wo od mu) ∧ zAllB (gw' 7) 14 = true ∧ g' 0 15 = 1 ∧ yAt B L gt' g' gl' e' 3 ∧ e ≤ e' ∧ pFz g g' gl gl')
theorem yTo.up {B : Nat → Nat} {L : Nat} {a : yA} {p q : Nat} {g g1 : zM} {gl gl1 : zL} {e e1 : Nat} {rc : Option ((zM × zM) ⊕ (zM × zM))} {rm : Option (Int32 × Int32 × Int32 × zM × zL)} (h : yTo B L a p q g1 gl1 e1 rc rm) (he : e ≤ e1) (hf : pFz g g1 gl gl1) : yTo B L a p q g gl e rc rm := by
  rcases h with ⟨ex, gt', gw', x, y, z, g', gl', h1, h2, h3, h4, h5, h6⟩ | ⟨gt', gw', wo, od, mu, g', gl', e', h1, h2, h3, h4, h5, h6, h7, h8, h9, h10, h11, h12⟩
  · left; exact ⟨ex, gt', gw', x, y, z, g', gl', h1, h2, h3, h4, hf.tr h5, h6⟩
  · right; exact ⟨gt', gw', wo, od, mu, g', gl', e', h1, h2, h3, h4, h5, h6, h7, h8, h9, h10, by omega, hf.tr h12⟩
theorem y_mend {N : Nat} {x y z u : Int32} {g : zM} {gl : zL} (v : Int32) (h : g 0 15 = 0 ∨ v = 0) : zLp fX10_wantTie_L117 (N + 1) (x, y, z, u, v, g, gl) = some (x, y, z, g, gl) := by
  apply y_lpr
  unfold fX10_wantTie_L117
  rw [show ∀ F : Int32 → Int32 → Int32 → Int32 → Int32 → zM → zL → Option ((Int32 × Int32 × Int32 × Int32 × Int32 × zM × zL) ⊕ (Int32 × Int32 × Int32 × zM × zL)), zU7 (x, y, z, u, v, g, gl) F = F x y z u v g gl from fun _ => rfl]
  rcases h with h | h
  · rw [h, if_pos rfl]
  · rw [h, if_pos rfl, ite_self]
theorem s_tieL {B : Nat → Nat} {L : Nat} {a : yA} {p q : Nat} (h14 : a 0 1 < 14) : ∀ (n e c t wo od mu N N' : Nat) (gt gw g : zM) (gl : zL), yTi t + n = 3 → t < 8 → yAt B L gt g gl e c → g 0 15 = 1 → wo ≤ 99 → 1 ≤ od → od ≤ 4 → mu ≤ 1 → yC gw (yAddT a p q wo od mu) → zAllB (gw 7) 14 = true → n + 2 < N → n + 3 < N' → yTo B L a p q g gl e (zLp (fX7_isTiePiece_L86 (nI (a 0 1))) N (nI t, nI (yTi t), gt, gw)) (zLp fX10_wantTie_L117 N' (nI wo, nI od, nI mu, nI (4 * t), 1, g, gl)) := by
  intro n
  induction n with
  | zero =>
    intro e c t wo od mu N N' gt gw g gl hn ht h h15 b1 b2 b3 b4 hc hB hN hN'
    obtain ⟨M, rfl⟩ : ∃ M, N = M + 1 := ⟨N - 1, by omega⟩
    obtain ⟨M', rfl⟩ : ∃ M, N' = M + 2 := ⟨N' - 2, by omega⟩
    have h4 := h.2.2.2.2.2.1
    have h6 := h.2.2.2.2.2.2.1
    have hc4 : c ≤ 4 := by rcases h6 with h | h | h | h | h <;> omega
    have rcl : zLp (fX7_isTiePiece_L86 (nI (a 0 1))) (M + 1) (nI t, nI (yTi t), gt, gw) = some (.inl (gt, gw)) := by
      apply y_lpr
      unfold fX7_isTiePiece_L86
      rw [y_u4, show (3 : Int32) = nI 3 from rfl, y_le_t (show 3 ≤ yTi t by omega) (by omega)]
    rw [rcl]
    have none : (∀ j, j = 2 ∨ j = 3 ∨ j = 4 → fX10_isWord g gl (lN (yWn j)) = some 0) → zLp fX10_wantTie_L117 (M' + 2) (nI wo, nI od, nI mu, nI (4 * t), 1, g, gl) = some (nI wo, nI od, nI mu, g, gl) := fun hw => by
      refine (y_lpl (s' := (nI wo, nI od, nI mu, nI (4 * t), 0, g, gl)) ?_).trans (y_mend 0 (Or.inr rfl))
      unfold fX10_wantTie_L117 fX10_wantTie_L117J172 fX10_wantTie_L117J184 fX10_wantTie_L117J281
      rw [show ∀ F : Int32 → Int32 → Int32 → Int32 → Int32 → zM → zL → Option ((Int32 × Int32 × Int32 × Int32 × Int32 × zM × zL) ⊕ (Int32 × Int32 × Int32 × zM × zL)), zU7 (nI wo, nI od, nI mu, nI (4 * t), 1, g, gl) F = F (nI wo) (nI od) (nI mu) (nI (4 * t)) 1 g gl from fun _ => rfl, h15, if_neg (show ¬ (1 : Int32) = 0 by decide), if_neg (show ¬ (1 : Int32) = 0 by decide), show (12532058 : Int64) = lN (yWn 2) from rfl, show (298288 : Int64) = lN (yWn 3) from rfl, show (271721 : Int64) = lN (yWn 4) from rfl, hw 2 (by omega), y_b1, if_pos rfl, hw 3 (by omega), y_b1, if_pos rfl, hw 4 (by omega), y_b1, if_pos rfl, if_pos (show (0 : Int32) ≤ 0 by decide), if_pos rfl]
    have dup : ∀ k, k < 3 → (∀ j, j < k → fX10_isWord g gl (lN (yWn (j + 2))) = some 0) → fX10_isWord g gl (lN (yWn (k + 2))) = some 1 → zLp fX10_wantTie_L117 (M' + 2) (nI wo, nI od, nI mu, nI (4 * t), 1, g, gl) = some (nI wo, nI od, nI mu, zPu g 0 15 0, gl) := fun k hk hno hw => by
      have hbit : (4 * t).testBit (k + 2) = true := by rw [(y_told t ht k hk).2.1]; exact (y_told t ht k hk).2.2.2.2.2.1 (by omega)
      refine (y_lpl (s' := (nI wo, nI od, nI mu, nI (4 * t) ||| ((1 : Int32) <<< (nI (k + 2) &&& 31)), 1, zPu g 0 15 0, gl)) ?_).trans (y_mend 1 (Or.inl zPu_s))
      unfold fX10_wantTie_L117 fX10_wantTie_L117J172 fX10_wantTie_L117J184
      rw [show ∀ F : Int32 → Int32 → Int32 → Int32 → Int32 → zM → zL → Option ((Int32 × Int32 × Int32 × Int32 × Int32 × zM × zL) ⊕ (Int32 × Int32 × Int32 × zM × zL)), zU7 (nI wo, nI od, nI mu, nI (4 * t), 1, g, gl) F = F (nI wo) (nI od) (nI mu) (nI (4 * t)) 1 g gl from fun _ => rfl, h15, if_neg (show ¬ (1 : Int32) = 0 by decide), if_neg (show ¬ (1 : Int32) = 0 by decide), show (12532058 : Int64) = lN (yWn 2) from rfl, show (298288 : Int64) = lN (yWn 3) from rfl, show (271721 : Int64) = lN (yWn 4) from rfl]
      have tail : ∀ w : Int32, w = nI (k + 2) → (if w ≤ 0 then (if (0 : Int32) = 0 then fX10_wantTie_L117J281 0 (nI wo) (nI od) (nI mu) (nI (4 * t)) g gl else if (nI (4 * t) >>> (w &&& 31)) &&& 1 = 0 then fX10_wantTie_L117J207 (nI wo) (nI od) (nI mu) (nI (4 * t)) g gl w 0 1 else fX10_wantTie_L117J207 (nI wo) (nI od) (nI mu) (nI (4 * t)) g gl w 0 0) else (if (1 : Int32) = 0 then fX10_wantTie_L117J281 1 (nI wo) (nI od) (nI mu) (nI (4 * t)) g gl else if (nI (4 * t) >>> (w &&& 31)) &&& 1 = 0 then fX10_wantTie_L117J207 (nI wo) (nI od) (nI mu) (nI (4 * t)) g gl w 1 1 else fX10_wantTie_L117J207 (nI wo) (nI od) (nI mu) (nI (4 * t)) g gl w 1 0)) = some (.inl (nI wo, nI od, nI mu, nI (4 * t) ||| ((1 : Int32) <<< (nI (k + 2) &&& 31)), 1, zPu g 0 15 0, gl)) := by
        rintro w rfl
        rw [if_neg (show ¬ nI (k + 2) ≤ 0 from fun x => by have : nI (k + 2) ≤ nI 0 := x; rw [y_le (by omega) (by omega)] at this; omega), if_neg (show ¬ (1 : Int32) = 0 by decide), if_neg (fun x => by rw [y_bit0 (by omega) (by omega), hbit] at x; cases x)]
        unfold fX10_wantTie_L117J207 fX10_wantTie_L117J281
        rw [y_gd (show zBo 0 = true from rfl), y_lt_e, y_lt_e, zPu_s, if_pos rfl]
      have k3 : k = 0 ∨ k = 1 ∨ k = 2 := by omega
      rcases k3 with rfl | rfl | rfl
      · rw [hw, y_b1, if_neg (show ¬ (1 : Int32) = 0 by decide)]
        exact tail 2 rfl
      · rw [hno 0 (by omega), y_b1, if_pos rfl, hw, y_b1, if_neg (show ¬ (1 : Int32) = 0 by decide)]
        exact tail 3 rfl
      · rw [hno 0 (by omega), y_b1, if_pos rfl, hno 1 (by omega), y_b1, if_pos rfl, hw, y_b1, if_neg (show ¬ (1 : Int32) = 0 by decide)]
        exact tail 4 rfl
    by_cases c3 : c = 3
    · right
      subst c3
      have hw : ∀ j, j = 2 ∨ j = 3 ∨ j = 4 → fX10_isWord g gl (lN (yWn j)) = some 0 := fun j hj => by
        rcases s_want (j := j) (by omega) h h15 with ⟨-, w, -⟩ | ⟨w, -⟩
        · exact w
        · omega
      rw [none hw]
      exact ⟨gt, gw, wo, od, mu, g, gl, e, rfl, rfl, b1, b2, b3, b4, hc, hB, h15, h, Nat.le_refl _, pFz.rf g gl⟩
    · left
      have n3 : ¬ gt 0 4 = 3 := by
        rw [h4]
        exact fun x => c3 ((nI_eq (by omega) (by omega)).mp (x.trans (show (3 : Int32) = nI 3 from rfl)))
      have loc : gt 0 2 = zPu g 0 15 0 0 11 := by rw [zPu_j (by decide)]; exact h.2.2.1
      have hj : ∀ j, j < 10 → fX10_isWord g gl (lN (yWn j)) = some 0 ∨ fX10_isWord g gl (lN (yWn j)) = some 1 := fun j hj => by
        rcases s_want (j := j) hj h h15 with ⟨-, w, -⟩ | ⟨-, -, w, -⟩
        · exact Or.inl w
        · exact Or.inr w
      have bad : ∀ k, k < 3 → (∀ j, j < k → fX10_isWord g gl (lN (yWn (j + 2))) = some 0) → fX10_isWord g gl (lN (yWn (k + 2))) = some 1 → ∃ ex gt' gw' x y z g' gl', (some (.inl (gt, gw)) : Option ((zM × zM) ⊕ (zM × zM))) = some ex ∧ (ex = .inr (gt', gw') ∨ (ex = .inl (gt', gw') ∧ ¬ gt' 0 4 = 3)) ∧ zAllB (gw' 7) 14 = true ∧ zLp fX10_wantTie_L117 (M' + 2) (nI wo, nI od, nI mu, nI (4 * t), 1, g, gl) = some (x, y, z, g', gl') ∧ pFz g g' gl gl' ∧ ((g' 0 15 = 0 ∧ gt' 0 2 = g' 0 11) ∨ (g' 0 15 = 1 ∧ ∃ e' c', yAt B L gt' g' gl' e' c' ∧ c' ≠ 3)) := fun k hk hno hw => ⟨_, gt, gw, _, _, _, _, _, rfl, Or.inr ⟨rfl, n3⟩, hB, dup k hk hno hw, pFz.g15 g gl 0, Or.inl ⟨zPu_s, loc⟩⟩
      rcases hj 2 (by omega) with w2 | w2
      · rcases hj 3 (by omega) with w3 | w3
        · rcases hj 4 (by omega) with w4 | w4
          · exact ⟨_, gt, gw, _, _, _, _, _, rfl, Or.inr ⟨rfl, n3⟩, hB, none (fun j hj => by rcases hj with rfl | rfl | rfl <;> assumption), pFz.rf g gl, Or.inr ⟨h15, e, c, h, c3⟩⟩
          · exact bad 2 (by omega) (fun j hj => by
              have : j = 0 ∨ j = 1 := by omega
              rcases this with rfl | rfl <;> assumption) w4
        · exact bad 1 (by omega) (fun j hj => by
            have : j = 0 := by omega
            subst this; exact w2) w3
      · exact bad 0 (by omega) (fun j hj => absurd hj (by omega)) w2
  | succ n ih =>
    intro e c t wo od mu N N' gt gw g gl hn ht h h15 b1 b2 b3 b4 hc hB hN hN'
    obtain ⟨M, rfl⟩ : ∃ M, N = M + 1 := ⟨N - 1, by omega⟩
    obtain ⟨M', rfl⟩ : ∃ M, N' = M + 2 := ⟨N' - 2, by omega⟩
    have h4 := h.2.2.2.2.2.1
    have h6 := h.2.2.2.2.2.2.1
    have hc4 : c ≤ 4 := by rcases h6 with h | h | h | h | h <;> omega
    have none : (∀ j, j = 2 ∨ j = 3 ∨ j = 4 → fX10_isWord g gl (lN (yWn j)) = some 0) → zLp fX10_wantTie_L117 (M' + 2) (nI wo, nI od, nI mu, nI (4 * t), 1, g, gl) = some (nI wo, nI od, nI mu, g, gl) := fun hw => by
      refine (y_lpl (s' := (nI wo, nI od, nI mu, nI (4 * t), 0, g, gl)) ?_).trans (y_mend 0 (Or.inr rfl))
      unfold fX10_wantTie_L117 fX10_wantTie_L117J172 fX10_wantTie_L117J184 fX10_wantTie_L117J281
      rw [show ∀ F : Int32 → Int32 → Int32 → Int32 → Int32 → zM → zL → Option ((Int32 × Int32 × Int32 × Int32 × Int32 × zM × zL) ⊕ (Int32 × Int32 × Int32 × zM × zL)), zU7 (nI wo, nI od, nI mu, nI (4 * t), 1, g, gl) F = F (nI wo) (nI od) (nI mu) (nI (4 * t)) 1 g gl from fun _ => rfl, h15, if_neg (show ¬ (1 : Int32) = 0 by decide), if_neg (show ¬ (1 : Int32) = 0 by decide), show (12532058 : Int64) = lN (yWn 2) from rfl, show (298288 : Int64) = lN (yWn 3) from rfl, show (271721 : Int64) = lN (yWn 4) from rfl, hw 2 (by omega), y_b1, if_pos rfl, hw 3 (by omega), y_b1, if_pos rfl, hw 4 (by omega), y_b1, if_pos rfl, if_pos (show (0 : Int32) ≤ 0 by decide), if_pos rfl]
    by_cases c3 : c = 3
    · right
      subst c3
      have hw : ∀ j, j = 2 ∨ j = 3 ∨ j = 4 → fX10_isWord g gl (lN (yWn j)) = some 0 := fun j hj => by
        rcases s_want (j := j) (by omega) h h15 with ⟨-, w, -⟩ | ⟨w, -⟩
        · exact w
        · omega
      rw [none hw]
      refine ⟨gt, gw, wo, od, mu, g, gl, e, y_lpr ?_, rfl, b1, b2, b3, b4, hc, hB, h15, h, Nat.le_refl _, pFz.rf g gl⟩
      unfold fX7_isTiePiece_L86
      rw [y_u4, show (3 : Int32) = nI 3 from rfl, y_le_f (show yTi t < 3 by omega) (by omega), h4, if_pos rfl]
    · have n3 : ¬ nI c = 3 := fun x => c3 ((nI_eq (by omega) (by omega)).mp (x.trans (show (3 : Int32) = nI 3 from rfl)))
      have loc : gt 0 2 = zPu g 0 15 0 0 11 := by rw [zPu_j (by decide)]; exact h.2.2.1
      -- one step of the class, by what readExtra says
      have stepC : ∀ (r : Int32) (gt' gw' : zM), fX7_readExtra gt gw (nI (a 0 1)) (nI t) = some (r, gt', gw') → fX7_isTiePiece_L86 (nI (a 0 1)) (nI t, nI (yTi t), gt, gw) = (if r = 0 then some (.inr (.inr (gt', gw'))) else zB1 (fX7_step gt') fun gt_22 => some (.inl (nI t ||| r, nI (yTi t + 1), gt_22, gw'))) := fun r gt' gw' hr => by
        unfold fX7_isTiePiece_L86
        rw [y_u4, show (3 : Int32) = nI 3 from rfl, y_le_f (show yTi t < 3 by omega) (by omega), h4, if_neg (show ¬ nI c = nI 3 from n3), hr, y_b3]
        simp only [y_lt_e, y_a1]
      have stepM : ∀ k, k < 3 → (∀ j, j < k → fX10_isWord g gl (lN (yWn (j + 2))) = some 0) → fX10_isWord g gl (lN (yWn (k + 2))) = some 1 → fX10_wantTie_L117 (nI wo, nI od, nI mu, nI (4 * t), 1, g, gl) = fX10_wantTie_L117J207 (nI wo) (nI od) (nI mu) (nI (4 * t)) g gl (nI (k + 2)) 1 (if t.testBit k = true then 0 else 1) := fun k hk hno hw => by
        unfold fX10_wantTie_L117 fX10_wantTie_L117J172 fX10_wantTie_L117J184
        rw [show ∀ F : Int32 → Int32 → Int32 → Int32 → Int32 → zM → zL → Option ((Int32 × Int32 × Int32 × Int32 × Int32 × zM × zL) ⊕ (Int32 × Int32 × Int32 × zM × zL)), zU7 (nI wo, nI od, nI mu, nI (4 * t), 1, g, gl) F = F (nI wo) (nI od) (nI mu) (nI (4 * t)) 1 g gl from fun _ => rfl, h15, if_neg (show ¬ (1 : Int32) = 0 by decide), if_neg (show ¬ (1 : Int32) = 0 by decide), show (12532058 : Int64) = lN (yWn 2) from rfl, show (298288 : Int64) = lN (yWn 3) from rfl, show (271721 : Int64) = lN (yWn 4) from rfl]
        have tail : ∀ w : Int32, w = nI (k + 2) → (if w ≤ 0 then (if (0 : Int32) = 0 then fX10_wantTie_L117J281 0 (nI wo) (nI od) (nI mu) (nI (4 * t)) g gl else if (nI (4 * t) >>> (w &&& 31)) &&& 1 = 0 then fX10_wantTie_L117J207 (nI wo) (nI od) (nI mu) (nI (4 * t)) g gl w 0 1 else fX10_wantTie_L117J207 (nI wo) (nI od) (nI mu) (nI (4 * t)) g gl w 0 0) else (if (1 : Int32) = 0 then fX10_wantTie_L117J281 1 (nI wo) (nI od) (nI mu) (nI (4 * t)) g gl else if (nI (4 * t) >>> (w &&& 31)) &&& 1 = 0 then fX10_wantTie_L117J207 (nI wo) (nI od) (nI mu) (nI (4 * t)) g gl w 1 1 else fX10_wantTie_L117J207 (nI wo) (nI od) (nI mu) (nI (4 * t)) g gl w 1 0)) = fX10_wantTie_L117J207 (nI wo) (nI od) (nI mu) (nI (4 * t)) g gl (nI (k + 2)) 1 (if t.testBit k = true then 0 else 1) := by
          rintro w rfl
          rw [if_neg (show ¬ nI (k + 2) ≤ 0 from fun x => by have : nI (k + 2) ≤ nI 0 := x; rw [y_le (by omega) (by omega)] at this; omega), if_neg (show ¬ (1 : Int32) = 0 by decide)]
          cases hb : t.testBit k
          · rw [if_pos ((y_bit0 (by omega) (by omega)).mpr (by rw [(y_told t ht k hk).2.1, hb])), if_neg (show ¬ false = true by decide)]
          · rw [if_neg (fun x => by rw [y_bit0 (by omega) (by omega), (y_told t ht k hk).2.1, hb] at x; cases x), if_pos (show true = true from rfl)]
        have k3 : k = 0 ∨ k = 1 ∨ k = 2 := by omega
        rcases k3 with rfl | rfl | rfl
        · rw [hw, y_b1, if_neg (show ¬ (1 : Int32) = 0 by decide)]
          exact tail 2 rfl
        · rw [hno 0 (by omega), y_b1, if_pos rfl, hw, y_b1, if_neg (show ¬ (1 : Int32) = 0 by decide)]
          exact tail 3 rfl
        · rw [hno 0 (by omega), y_b1, if_pos rfl, hno 1 (by omega), y_b1, if_pos rfl, hw, y_b1, if_neg (show ¬ (1 : Int32) = 0 by decide)]
          exact tail 4 rfl
      -- told twice
      have twice : ∀ k, k < 3 → (∀ j, j < k → fX10_isWord g gl (lN (yWn (j + 2))) = some 0) → fX10_isWord g gl (lN (yWn (k + 2))) = some 1 → fX7_extraNamed gt = some (nI (2 ^ k)) → t.testBit k = true → yTo B L a p q g gl e (zLp (fX7_isTiePiece_L86 (nI (a 0 1))) (M + 1) (nI t, nI (yTi t), gt, gw)) (zLp fX10_wantTie_L117 (M' + 2) (nI wo, nI od, nI mu, nI (4 * t), 1, g, gl)) := fun k hk hno hw hx hb => by
        have hr : fX7_readExtra gt gw (nI (a 0 1)) (nI t) = some (0, gt, gw) := by
          unfold fX7_readExtra
          rw [hx, y_b1, if_neg (fun x => by rw [y_tand ht hk, hb] at x; cases x)]
        left
        refine ⟨_, gt, gw, _, _, _, _, _, y_lpr ((stepC _ _ _ hr).trans (if_pos rfl)), Or.inl rfl, hB, (y_lpl (s' := (nI wo, nI od, nI mu, nI (4 * t) ||| ((1 : Int32) <<< (nI (k + 2) &&& 31)), 1, zPu g 0 15 0, gl)) ?_).trans (y_mend 1 (Or.inl zPu_s)), pFz.g15 g gl 0, Or.inl ⟨zPu_s, loc⟩⟩
        rw [stepM k hk hno hw, hb, if_pos rfl]
        unfold fX10_wantTie_L117J207 fX10_wantTie_L117J281
        rw [y_gd (show zBo 0 = true from rfl), y_lt_e, y_lt_e, zPu_s, if_pos rfl]
      have hj : ∀ j, j < 10 → (fX7_isWord gt j = some 0 ∧ fX10_isWord g gl (lN (yWn j)) = some 0) ∨ (fX7_isWord gt j = some 1 ∧ fX10_isWord g gl (lN (yWn j)) = some 1) := fun j hj => by
        rcases s_want (j := j) hj h h15 with ⟨w1, w, -⟩ | ⟨-, w1, w, -⟩
        · exact Or.inl ⟨w1, w⟩
        · exact Or.inr ⟨w1, w⟩
      have tldE : ∀ k, k < 3 → nI (4 * t) ||| ((1 : Int32) <<< (nI (k + 2) &&& 31)) = nI (4 * (t ||| 2 ^ k)) := fun k hk => by
        rw [y_one (by omega), y_or, (y_told t ht k hk).2.2.1]
      obtain ⟨g1, gl1, a1, a2, a3⟩ := h.go
      have g15 : g1 0 15 = 1 := by rw [a3.o15]; exact h15
      have nmd : ∀ {k : Nat} {r : Int32} {gt' gw' : zM}, fX7_extraNamed gt = some (nI (2 ^ k)) → fX7_readExtra gt gw (nI (a 0 1)) (nI t) = some (r, gt', gw') → True := fun _ _ => trivial
      rcases hj 2 (by omega) with ⟨u2, w2⟩ | ⟨u2, w2⟩
      · rcases hj 3 (by omega) with ⟨u3, w3⟩ | ⟨u3, w3⟩
        · rcases hj 4 (by omega) with ⟨u4, w4⟩ | ⟨u4, w4⟩
          · have hx : fX7_extraNamed gt = some 0 := by
              unfold fX7_extraNamed
              rw [u2, y_b1, if_pos rfl, u3, y_b1, if_pos rfl, u4, y_b1, if_pos rfl]
            have hr : fX7_readExtra gt gw (nI (a 0 1)) (nI t) = some (0, gt, gw) := by
              unfold fX7_readExtra
              rw [hx, y_b1, show nI t &&& 0 = 0 from by rw [show (0 : Int32) = nI 0 from rfl, y_and, Nat.and_zero], if_pos rfl, if_neg (show ¬ (0 : Int32) = 1 by decide), if_neg (show ¬ (0 : Int32) = 2 by decide), if_neg (show ¬ (0 : Int32) = 4 by decide)]
            left
            exact ⟨_, gt, gw, _, _, _, _, _, y_lpr ((stepC _ _ _ hr).trans (if_pos rfl)), Or.inl rfl, hB, none (fun j hj => by rcases hj with rfl | rfl | rfl <;> assumption), pFz.rf g gl, Or.inr ⟨h15, e, c, h, c3⟩⟩
          · -- must
            have hno : ∀ j, j < 2 → fX10_isWord g gl (lN (yWn (j + 2))) = some 0 := fun j hj => by
              have : j = 0 ∨ j = 1 := by omega
              rcases this with rfl | rfl <;> assumption
            have hx : fX7_extraNamed gt = some (nI (2 ^ 2)) := by
              unfold fX7_extraNamed
              rw [u2, y_b1, if_pos rfl, u3, y_b1, if_pos rfl, u4, y_b1, if_neg (show ¬ (1 : Int32) = 0 by decide)]; rfl
            by_cases hb : t.testBit 2 = true
            · exact twice 2 (by omega) hno w4 hx hb
            · have hb' : t.testBit 2 = false := Bool.eq_false_iff.mpr hb
              have hr : fX7_readExtra gt gw (nI (a 0 1)) (nI t) = some (nI (2 ^ 2), gt, zPu gw 7 (a 0 1) 1) := by
                unfold fX7_readExtra
                rw [hx, y_b1, if_pos ((y_tand ht (by omega)).mpr hb'), if_neg (show ¬ nI (2 ^ 2) = 1 by decide), if_neg (show ¬ nI (2 ^ 2) = 2 by decide), if_pos (show nI (2 ^ 2) = 4 by decide), y_gin (by omega) (by omega), y_lt_e, y_cl (by omega)]
                rfl
              obtain ⟨gt', e', c', p1, p2, p3, p4⟩ := a2
              have sc : fX7_isTiePiece_L86 (nI (a 0 1)) (nI t, nI (yTi t), gt, gw) = some (.inl (nI (t ||| 2 ^ 2), nI (yTi (t ||| 2 ^ 2)), gt', zPu gw 7 (a 0 1) 1)) := by
                rw [stepC _ _ _ hr, if_neg (show ¬ nI (2 ^ 2) = 0 by decide), p1, y_b1, y_or, (y_told t ht 2 (by omega)).2.2.2.2.1 hb']
              have sm : fX10_wantTie_L117 (nI wo, nI od, nI mu, nI (4 * t), 1, g, gl) = some (.inl (nI wo, nI od, nI 1, nI (4 * (t ||| 2 ^ 2)), 1, g1, gl1)) := by
                rw [stepM 2 (by omega) hno w4, hb', if_neg (show ¬ false = true by decide)]
                unfold fX10_wantTie_L117J207 fX10_wantTie_L117J247 fX10_wantTie_L117J265 fX10_wantTie_L117J279 fX10_wantTie_L117J281
                rw [y_gd (show zBo 1 = true from rfl), y_lt_e, y_liveM h15, y_lt_e, tldE 2 (by omega), h15, if_neg (show ¬ (1 : Int32) = 0 by decide), a1, y_b2, if_neg (show ¬ nI (2 + 2) = 2 by decide), if_neg (show ¬ nI (2 + 2) = 3 by decide), if_pos (show nI (2 + 2) = 4 by decide)]
                rfl
              rw [y_lpl sc, y_lpl sm]
              refine (ih e' c' (t ||| 2 ^ 2) wo od 1 M (M' + 1) gt' (zPu gw 7 (a 0 1) 1) g1 gl1 (by have := (y_told t ht 2 (by omega)).2.2.2.2.1 hb'; omega) (y_told t ht 2 (by omega)).2.2.2.1 p2 g15 b1 b2 b3 (by omega) ?_ (zAllB_st hB (by decide)) (by omega) (by omega)).up p3 a3.z
              rw [← yAddT_7 a p q wo od mu 1]
              exact hc.st (by omega) (by rw [if_neg (by decide)]; rfl)
        · -- odds
          have hno : ∀ j, j < 1 → fX10_isWord g gl (lN (yWn (j + 2))) = some 0 := fun j hj => by
            have : j = 0 := by omega
            subst this; exact w2
          have hx : fX7_extraNamed gt = some (nI (2 ^ 1)) := by
            unfold fX7_extraNamed
            rw [u2, y_b1, if_pos rfl, u3, y_b1, if_neg (show ¬ (1 : Int32) = 0 by decide)]; rfl
          by_cases hb : t.testBit 1 = true
          · exact twice 1 (by omega) hno w3 hx hb
          · have hb' : t.testBit 1 = false := Bool.eq_false_iff.mpr hb
            have hre : fX7_readExtra gt gw (nI (a 0 1)) (nI t) = (zB2 (fX7_stepNumber gt 1 4) fun v6 gt_7 => if v6 = 0 then (some (0, gt_7, gw)) else (zLt (gt_7 0 5) fun v8 => zGd (zIn (nI (a 0 1)) 14) <| zLt (zPu gw 6 (nI (a 0 1)).toNatClampNeg v8) fun gw_9 => some (nI (2 ^ 1), gt_7, gw_9))) := by
              unfold fX7_readExtra
              rw [hx, y_b1, if_pos ((y_tand ht (by omega)).mpr hb'), if_neg (show ¬ nI (2 ^ 1) = 1 by decide), if_pos (show nI (2 ^ 1) = 2 by decide)]
            have smP : ∀ {v : Int32} {g2 : zM} {gl2 : zL}, fX10_wantNumber g1 gl1 1 4 = some (v, g2, gl2) → fX10_wantTie_L117 (nI wo, nI od, nI mu, nI (4 * t), 1, g, gl) = some (.inl (nI wo, v, nI mu, nI (4 * (t ||| 2 ^ 1)), 1, g2, gl2)) := fun {v g2 gl2} hwn => by
              rw [stepM 1 (by omega) hno w3, hb', if_neg (show ¬ false = true by decide)]
              unfold fX10_wantTie_L117J207 fX10_wantTie_L117J247 fX10_wantTie_L117J265 fX10_wantTie_L117J279 fX10_wantTie_L117J281
              rw [y_gd (show zBo 1 = true from rfl), y_lt_e, y_liveM h15, y_lt_e, tldE 1 (by omega), h15, if_neg (show ¬ (1 : Int32) = 0 by decide), a1, y_b2, if_neg (show ¬ nI (1 + 2) = 2 by decide), if_pos (show nI (1 + 2) = 3 by decide), hwn, y_b3, if_neg (show ¬ nI (1 + 2) = 4 by decide)]
            rcases s_number (lo := 1) (hi := 4) (l := 1) a2 g15 rfl (by omega) with ⟨gt2, v, g2, n1, n2, n3', n4, n5⟩ | ⟨gt2, v, g2, gl2, e2, n1, n2, n3', n4, n5, n6, n7, n8, n9, n10⟩
            · left
              have hr : fX7_readExtra gt gw (nI (a 0 1)) (nI t) = some (0, gt2, gw) := by rw [hre, n1, y_b2, if_pos rfl]
              exact ⟨_, gt2, gw, _, _, _, _, _, y_lpr ((stepC _ _ _ hr).trans (if_pos rfl)), Or.inl rfl, hB, (y_lpl (smP n2)).trans (y_mend 1 (Or.inl n3')), a3.z.tr n5, Or.inl ⟨n3', n4⟩⟩
            · have hv4 : v ≤ 4 := by
                rw [show (4 : Int32) = nI 4 from rfl, y_lt (by omega) (by omega)] at n5
                omega
              have hr : fX7_readExtra gt gw (nI (a 0 1)) (nI t) = some (nI (2 ^ 1), gt2, zPu gw 6 (a 0 1) (nI v)) := by rw [hre, n1, y_b2, if_neg (show ¬ (1 : Int32) = 0 by decide), y_lt_e, n6, y_gin (by omega) (by omega), y_lt_e, y_cl (by omega)]
              obtain ⟨gt', e', c', p1, p2, p3, p4⟩ := n8
              have sc : fX7_isTiePiece_L86 (nI (a 0 1)) (nI t, nI (yTi t), gt, gw) = some (.inl (nI (t ||| 2 ^ 1), nI (yTi (t ||| 2 ^ 1)), gt', zPu gw 6 (a 0 1) (nI v))) := by
                rw [stepC _ _ _ hr, if_neg (show ¬ nI (2 ^ 1) = 0 by decide), p1, y_b1, y_or, (y_told t ht 1 (by omega)).2.2.2.2.1 hb']
              rw [y_lpl sc, y_lpl (smP n2)]
              refine (ih e' c' (t ||| 2 ^ 1) wo v mu M (M' + 1) gt' (zPu gw 6 (a 0 1) (nI v)) g2 gl2 (by have := (y_told t ht 1 (by omega)).2.2.2.2.1 hb'; omega) (y_told t ht 1 (by omega)).2.2.2.1 p2 n7 b1 n3' hv4 b4 ?_ (by rw [zPu_k (by decide)]; exact hB) (by omega) (by omega)).up (by omega) (a3.z.tr n10)
              rw [← yAddT_6 a p q wo od mu v]
              exact hc.st (by omega) (by rw [if_neg (by decide)])
      · -- worth
        have hno : ∀ j, j < 0 → fX10_isWord g gl (lN (yWn (j + 2))) = some 0 := fun j hj => absurd hj (by omega)
        have hx : fX7_extraNamed gt = some (nI (2 ^ 0)) := by
          unfold fX7_extraNamed
          rw [u2, y_b1, if_neg (show ¬ (1 : Int32) = 0 by decide)]; rfl
        by_cases hb : t.testBit 0 = true
        · exact twice 0 (by omega) hno w2 hx hb
        · have hb' : t.testBit 0 = false := Bool.eq_false_iff.mpr hb
          have hre : fX7_readExtra gt gw (nI (a 0 1)) (nI t) = (zB2 (fX7_stepNumber gt 0 99) fun v2 gt_3 => if v2 = 0 then (some (0, gt_3, gw)) else (zLt (gt_3 0 5) fun v4 => zGd (zIn (nI (a 0 1)) 14) <| zLt (zPu gw 5 (nI (a 0 1)).toNatClampNeg v4) fun gw_5 => some (nI (2 ^ 0), gt_3, gw_5))) := by
            unfold fX7_readExtra
            rw [hx, y_b1, if_pos ((y_tand ht (by omega)).mpr hb'), if_pos (show nI (2 ^ 0) = 1 by decide)]
          have smP : ∀ {v : Int32} {g2 : zM} {gl2 : zL}, fX10_wantNumber g1 gl1 0 99 = some (v, g2, gl2) → fX10_wantTie_L117 (nI wo, nI od, nI mu, nI (4 * t), 1, g, gl) = some (.inl (v, nI od, nI mu, nI (4 * (t ||| 2 ^ 0)), 1, g2, gl2)) := fun {v g2 gl2} hwn => by
            rw [stepM 0 (by omega) hno w2, hb', if_neg (show ¬ false = true by decide)]
            unfold fX10_wantTie_L117J207 fX10_wantTie_L117J247 fX10_wantTie_L117J265 fX10_wantTie_L117J279 fX10_wantTie_L117J281
            rw [y_gd (show zBo 1 = true from rfl), y_lt_e, y_liveM h15, y_lt_e, tldE 0 (by omega), h15, if_neg (show ¬ (1 : Int32) = 0 by decide), a1, y_b2, if_pos (show nI (0 + 2) = 2 by decide), hwn, y_b3, if_neg (show ¬ nI (0 + 2) = 3 by decide), if_neg (show ¬ nI (0 + 2) = 4 by decide)]
          rcases s_number (lo := 0) (hi := 99) (l := 0) a2 g15 rfl (by omega) with ⟨gt2, v, g2, n1, n2, n3', n4, n5⟩ | ⟨gt2, v, g2, gl2, e2, n1, n2, n3', n4, n5, n6, n7, n8, n9, n10⟩
          · left
            have hr : fX7_readExtra gt gw (nI (a 0 1)) (nI t) = some (0, gt2, gw) := by rw [hre, n1, y_b2, if_pos rfl]
            exact ⟨_, gt2, gw, _, _, _, _, _, y_lpr ((stepC _ _ _ hr).trans (if_pos rfl)), Or.inl rfl, hB, (y_lpl (smP n2)).trans (y_mend 1 (Or.inl n3')), a3.z.tr n5, Or.inl ⟨n3', n4⟩⟩
          · have hr : fX7_readExtra gt gw (nI (a 0 1)) (nI t) = some (nI (2 ^ 0), gt2, zPu gw 5 (a 0 1) (nI v)) := by rw [hre, n1, y_b2, if_neg (show ¬ (1 : Int32) = 0 by decide), y_lt_e, n6, y_gin (by omega) (by omega), y_lt_e, y_cl (by omega)]
            obtain ⟨gt', e', c', p1, p2, p3, p4⟩ := n8
            have sc : fX7_isTiePiece_L86 (nI (a 0 1)) (nI t, nI (yTi t), gt, gw) = some (.inl (nI (t ||| 2 ^ 0), nI (yTi (t ||| 2 ^ 0)), gt', zPu gw 5 (a 0 1) (nI v))) := by
              rw [stepC _ _ _ hr, if_neg (show ¬ nI (2 ^ 0) = 0 by decide), p1, y_b1, y_or, (y_told t ht 0 (by omega)).2.2.2.2.1 hb']
            rw [y_lpl sc, y_lpl (smP n2)]
            refine (ih e' c' (t ||| 2 ^ 0) v od mu M (M' + 1) gt' (zPu gw 5 (a 0 1) (nI v)) g2 gl2 (by have := (y_told t ht 0 (by omega)).2.2.2.2.1 hb'; omega) (y_told t ht 0 (by omega)).2.2.2.1 p2 n7 n4 b2 b3 b4 ?_ (by rw [zPu_k (by decide)]; exact hB) (by omega) (by omega)).up (by omega) (a3.z.tr n10)
            rw [← yAddT_5 a p q wo od mu v]
            exact hc.st (by omega) (by rw [if_neg (by decide)])
