/-! ===== tie in a text ===== -/
theorem s10_isFreshTie {g : zM} {gl : zL} {a : yA} (ok : yOk a) (hg : yG (zFv g) a) {p q : Nat} (hp : p < 10) (hq : q < 10) : (∃ i, i < a 0 1 ∧ a 3 i = (if p < q then p else q) ∧ a 4 i = (if p < q then q else p) ∧ fX10_isFreshTie g gl (nI p) (nI q) = some 1) ∨ ((∀ i, i < a 0 1 → ¬ (a 3 i = (if p < q then p else q) ∧ a 4 i = (if p < q then q else p))) ∧ fX10_isFreshTie g gl (nI p) (nI q) = some 0) := by
  have h0 := ok.1
  have hn : g 0 17 = nI (a 0 1) := hg.1.2.1
  have key : ∃ b, zLp (fX10_isFreshTie_L2 (nI p) (nI q) g) zFU (nI 0) = some b ∧ ((∃ i, i < a 0 1 ∧ a 3 i = (if p < q then p else q) ∧ a 4 i = (if p < q then q else p) ∧ b = .inr ()) ∨ ((∀ i, i < a 0 1 → ¬ (a 3 i = (if p < q then p else q) ∧ a 4 i = (if p < q then q else p))) ∧ b = .inl ())) := by
    refine y_lp (fun s => ∃ n, s = nI n ∧ n ≤ a 0 1 ∧ ∀ i, i < n → ¬ (a 3 i = (if p < q then p else q) ∧ a 4 i = (if p < q then q else p))) (fun s => 20 - s.toNatClampNeg) _ ?_ zFU (nI 0) ⟨0, rfl, by omega, fun i hi => absurd hi (by omega)⟩ (by unfold zFU; omega)
    rintro s ⟨n, rfl, hn2, hI⟩
    unfold fX10_isFreshTie_L2
    rw [y_u1, hn]
    by_cases c : n < a 0 1
    · have o := ok.2.2.1 n c
      have e3 : g 7 (5 * n) = nI (a 3 n) := hg.2.2.2.1 n c
      have e4 : g 7 (5 * n + 1) = nI (a 4 n) := hg.2.2.2.2.1 n c
      have go : ¬ (a 3 n = (if p < q then p else q) ∧ a 4 n = (if p < q then q else p)) → ∃ z : Int32 ⊕ (Unit ⊕ Unit), (some (.inl (nI (n + 1))) : Option (Int32 ⊕ (Unit ⊕ Unit))) = some z ∧ zSm z (fun a' => (∃ n, a' = nI n ∧ n ≤ a 0 1 ∧ ∀ i, i < n → ¬ (a 3 i = (if p < q then p else q) ∧ a 4 i = (if p < q then q else p))) ∧ 20 - a'.toNatClampNeg < 20 - n) (fun b => (∃ i, i < a 0 1 ∧ a 3 i = (if p < q then p else q) ∧ a 4 i = (if p < q then q else p) ∧ b = .inr ()) ∨ ((∀ i, i < a 0 1 → ¬ (a 3 i = (if p < q then p else q) ∧ a 4 i = (if p < q then q else p))) ∧ b = .inl ())) := fun hno => by
        refine ⟨_, rfl, ⟨n + 1, rfl, by omega, fun i hi => ?_⟩, by rw [y_cl (by omega)]; omega⟩
        by_cases f : i = n
        · rw [f]; exact hno
        · exact hI i (by omega)
      have body : ∀ (x y : Nat), x < 10 → y < 10 → fX10_isFreshTie_L2J28 (nI p) (nI q) g (nI n) (nI x) (nI (a 3 n)) = (if a 3 n = x then (if a 4 n = (if p < q then q else p) then some (.inr (.inr ())) else some (.inl (nI (n + 1)))) else some (.inl (nI (n + 1)))) := fun x y hx hy => by
        unfold fX10_isFreshTie_L2J28 fX10_isFreshTie_L2J51 fX10_isFreshTie_L2J56
        rw [show (5 : Int32) = nI 5 from rfl, y_mul, y_a1, y_gin (by omega) (by omega), y_lt_e, y_lt_e, y_cl (by omega), e4, y_a1]
        by_cases d1 : a 3 n = x
        · rw [y_eq_t d1, if_pos d1]
          by_cases d2 : q ≤ p
          · rw [y_le_t d2 (by omega), if_neg (show ¬ p < q by omega)]
            by_cases d3 : a 4 n = p
            · rw [y_eq_t d3, if_pos d3]
            · rw [y_eq_f d3 (by omega) (by omega), if_neg d3]
          · rw [y_le_f (by omega) (by omega), if_pos (show p < q by omega)]
            by_cases d3 : a 4 n = q
            · rw [y_eq_t d3, if_pos d3]
            · rw [y_eq_f d3 (by omega) (by omega), if_neg d3]
        · rw [y_eq_f d1 (by omega) (by omega), if_neg d1]
      rw [y_le_f c (by omega), show (5 : Int32) = nI 5 from rfl, y_mul, y_gin (by omega) (by omega), y_lt_e, y_cl (k := 5 * n) (by omega), y_cl (k := n) (by omega), e3]
      have fin : ∀ x, x = (if p < q then p else q) → ∃ z : Int32 ⊕ (Unit ⊕ Unit), (if a 3 n = x then (if a 4 n = (if p < q then q else p) then (some (.inr (.inr ())) : Option (Int32 ⊕ (Unit ⊕ Unit))) else some (.inl (nI (n + 1)))) else some (.inl (nI (n + 1)))) = some z ∧ zSm z (fun a' => (∃ n, a' = nI n ∧ n ≤ a 0 1 ∧ ∀ i, i < n → ¬ (a 3 i = (if p < q then p else q) ∧ a 4 i = (if p < q then q else p))) ∧ 20 - a'.toNatClampNeg < 20 - n) (fun b => (∃ i, i < a 0 1 ∧ a 3 i = (if p < q then p else q) ∧ a 4 i = (if p < q then q else p) ∧ b = .inr ()) ∨ ((∀ i, i < a 0 1 → ¬ (a 3 i = (if p < q then p else q) ∧ a 4 i = (if p < q then q else p))) ∧ b = .inl ())) := fun x hx => by
        rw [hx]
        by_cases d1 : a 3 n = (if p < q then p else q)
        · rw [if_pos d1]
          by_cases d2 : a 4 n = (if p < q then q else p)
          · rw [if_pos d2]; exact ⟨_, rfl, Or.inl ⟨n, c, d1, d2, rfl⟩⟩
          · rw [if_neg d2]; exact go (fun h => d2 h.2)
        · rw [if_neg d1]; exact go (fun h => d1 h.1)
      by_cases d : q ≤ p
      · rw [y_le_t d (by omega), body q p hq hp]
        exact fin q (by rw [if_neg (by omega)])
      · rw [y_le_f (by omega) (by omega), body p q hp hq]
        exact fin p (by rw [if_pos (by omega)])
    · rw [y_le_t (by omega) (by omega)]
      exact ⟨_, rfl, Or.inr ⟨fun i hi => hI i (by omega), rfl⟩⟩
  obtain ⟨b, e, hb⟩ := key
  have e' : zLp (fX10_isFreshTie_L2 (nI p) (nI q) g) zFU 0 = some b := e
  unfold fX10_isFreshTie
  rw [e', y_b1]
  rcases hb with ⟨i, h1, h2, h3, rfl⟩ | ⟨h1, rfl⟩
  · exact Or.inl ⟨i, h1, h2, h3, rfl⟩
  · exact Or.inr ⟨h1, rfl⟩
theorem y_mend' {x y z u : Int32} {g : zM} {gl : zL} (v : Int32) (h : g 0 15 = 0 ∨ v = 0) : zLp fX10_wantTie_L117 zFU (x, y, z, u, v, g, gl) = some (x, y, z, g, gl) := by
  obtain ⟨M, hM, -⟩ := y_fu 1 (by omega)
  rw [hM]
  exact y_mend v h
theorem d_85 {v : Int32} {g : zM} {gl : zL} : fX10_wantTie_J85 v g gl 0 = some (zPu g 0 15 0, gl) := by
  unfold fX10_wantTie_J85
  rw [y_gd (show zBo 0 = true from rfl), y_lt_e, d_number y_dead, y_b3, y_lt_e, y_mend' _ (Or.inl y_dead), y_b1, y_u5, d_end y_dead, y_b2, y_dead, if_pos rfl]
theorem s10_knot {g : zM} {gl : zL} {a : yA} {p q wo od mu : Nat} (hg : yG (zFv g) a) (h14 : a 0 1 < 14) (hp : p < 10) (hq : q < 10) : ∃ g', (zLt (5 * (g 0 17)) fun v57 => if nI q ≤ nI p then (fX10_wantTie_J319 (nI p) (nI q) (nI wo) (nI od) (nI mu) g gl v57 (nI q) v57) else (fX10_wantTie_J319 (nI p) (nI q) (nI wo) (nI od) (nI mu) g gl v57 (nI p) v57)) = some (g', gl) ∧ yG (zFv g') (yAddT a (if p < q then p else q) (if p < q then q else p) wo od mu) ∧ g' 0 15 = g 0 15 ∧ (∀ j, j ≤ 14 → g' 0 j = g 0 j) ∧ g' 5 = g 5 ∧ pFp g g' gl gl := by
  have hn : g 0 17 = nI (a 0 1) := hg.1.2.1
  refine ⟨zPu (zPu (zPu (zPu (zPu (zPu g 7 (5 * a 0 1) (nI (if p < q then p else q))) 7 (5 * a 0 1 + 1) (nI (if p < q then q else p))) 7 (5 * a 0 1 + 2) (nI wo)) 7 (5 * a 0 1 + 3) (nI od)) 7 (5 * a 0 1 + 4) (nI mu)) 0 17 (nI (a 0 1 + 1)), ?_, ?_, ?_, fun j hj => ?_, ?_, ?_⟩
  · have fin : ∀ u v, fX10_wantTie_J338 (nI wo) (nI od) (nI mu) gl (nI (5 * a 0 1)) (zPu g 7 (5 * a 0 1) (nI u)) (nI v) (nI (5 * a 0 1) + 1) = some (zPu (zPu (zPu (zPu (zPu (zPu g 7 (5 * a 0 1) (nI u)) 7 (5 * a 0 1 + 1) (nI v)) 7 (5 * a 0 1 + 2) (nI wo)) 7 (5 * a 0 1 + 3) (nI od)) 7 (5 * a 0 1 + 4) (nI mu)) 0 17 (nI (a 0 1 + 1)), gl) := fun u v => by
      unfold fX10_wantTie_J338
      rw [y_a1, show (2 : Int32) = nI 2 from rfl, show (3 : Int32) = nI 3 from rfl, show (4 : Int32) = nI 4 from rfl, y_add, y_add, y_add, y_gin (by omega) (by omega), y_lt_e, y_gin (by omega) (by omega), y_lt_e, y_gin (by omega) (by omega), y_lt_e, y_gin (by omega) (by omega), y_lt_e, y_lt_e, y_lt_e, y_cl (k := 5 * a 0 1 + 1) (by omega), y_cl (k := 5 * a 0 1 + 2) (by omega), y_cl (k := 5 * a 0 1 + 3) (by omega), y_cl (k := 5 * a 0 1 + 4) (by omega)]
      rw [show ∀ (G : zM) (i : Nat) (x : Int32), zPu G 7 i x 0 17 = G 0 17 from fun G i x => by rw [zPu_k (by decide)], show ∀ (G : zM) (i : Nat) (x : Int32), zPu G 7 i x 0 17 = G 0 17 from fun G i x => by rw [zPu_k (by decide)], show ∀ (G : zM) (i : Nat) (x : Int32), zPu G 7 i x 0 17 = G 0 17 from fun G i x => by rw [zPu_k (by decide)], show ∀ (G : zM) (i : Nat) (x : Int32), zPu G 7 i x 0 17 = G 0 17 from fun G i x => by rw [zPu_k (by decide)], show ∀ (G : zM) (i : Nat) (x : Int32), zPu G 7 i x 0 17 = G 0 17 from fun G i x => by rw [zPu_k (by decide)], hn, y_a1]
    rw [hn, show (5 : Int32) = nI 5 from rfl, y_mul, y_lt_e]
    unfold fX10_wantTie_J319
    by_cases d : q ≤ p
    · rw [y_le_t d (by omega), y_gin (by omega) (by omega), y_lt_e, y_le_t d (by omega), y_cl (by omega), fin, if_neg (show ¬ p < q by omega), if_neg (show ¬ p < q by omega)]
    · rw [y_le_f (by omega) (by omega), y_gin (by omega) (by omega), y_lt_e, y_le_f (by omega) (by omega), y_cl (by omega), fin, if_pos (show p < q by omega), if_pos (show p < q by omega)]
  · rw [zFv_0 (t := 2) (by omega), zFv_7, zFv_7, zFv_7, zFv_7, zFv_7]
    exact hg.addT
  · rw [zPu_j (by decide), zPu_k (by decide), zPu_k (by decide), zPu_k (by decide), zPu_k (by decide), zPu_k (by decide)]
  · rw [zPu_j (by omega), zPu_k (by decide), zPu_k (by decide), zPu_k (by decide), zPu_k (by decide), zPu_k (by decide)]
  · rw [zPu_k (by decide), zPu_k (by decide), zPu_k (by decide), zPu_k (by decide), zPu_k (by decide), zPu_k (by decide)]
  · exact (((((pFp_6 g gl 7 _ _ (by omega)).tr (pFp_6 _ gl 7 _ _ (by omega))).tr (pFp_6 _ gl 7 _ _ (by omega))).tr (pFp_6 _ gl 7 _ _ (by omega))).tr (pFp_6 _ gl 7 _ _ (by omega))).tr (pFp_0 _ gl 17 _ (by omega))
theorem s10_fresh01 {g : zM} {gl : zL} (n : Nat) (hn : n ≤ 14) (h : g 0 17 = nI n) (x y : Int32) : fX10_isFreshTie g gl x y = some 0 ∨ fX10_isFreshTie g gl x y = some 1 := by
  have key : ∃ b, zLp (fX10_isFreshTie_L2 x y g) zFU (nI 0) = some b ∧ True := by
    refine y_lp (fun s => ∃ k, s = nI k ∧ k ≤ n) (fun s => 20 - s.toNatClampNeg) _ ?_ zFU (nI 0) ⟨0, rfl, by omega⟩ (by unfold zFU; omega)
    rintro s ⟨k, rfl, hk⟩
    unfold fX10_isFreshTie_L2
    rw [y_u1, h]
    by_cases c : k < n
    · have go : ∃ z : Int32 ⊕ (Unit ⊕ Unit), (some (.inl (nI (k + 1))) : Option (Int32 ⊕ (Unit ⊕ Unit))) = some z ∧ zSm z (fun a' => (∃ k, a' = nI k ∧ k ≤ n) ∧ 20 - a'.toNatClampNeg < 20 - (nI k).toNatClampNeg) (fun _ => True) := ⟨_, rfl, ⟨k + 1, rfl, by omega⟩, by rw [y_cl (by omega), y_cl (by omega)]; omega⟩
      have st : ∃ z : Int32 ⊕ (Unit ⊕ Unit), (some (.inr (.inr ())) : Option (Int32 ⊕ (Unit ⊕ Unit))) = some z ∧ zSm z (fun a' => (∃ k, a' = nI k ∧ k ≤ n) ∧ 20 - a'.toNatClampNeg < 20 - (nI k).toNatClampNeg) (fun _ => True) := ⟨_, rfl, trivial⟩
      rw [y_le_f c (by omega), show (5 : Int32) = nI 5 from rfl, y_mul, y_gin (by omega) (by omega), y_lt_e]
      have body : ∀ u v : Int32, ∃ z : Int32 ⊕ (Unit ⊕ Unit), fX10_isFreshTie_L2J28 x y g (nI k) u v = some z ∧ zSm z (fun a' => (∃ k, a' = nI k ∧ k ≤ n) ∧ 20 - a'.toNatClampNeg < 20 - (nI k).toNatClampNeg) (fun _ => True) := fun u v => by
        unfold fX10_isFreshTie_L2J28 fX10_isFreshTie_L2J51 fX10_isFreshTie_L2J56
        rw [show (5 : Int32) = nI 5 from rfl, y_mul, y_a1, y_gin (by omega) (by omega), y_lt_e, y_lt_e, y_a1]
        split
        · split
          · split
            · exact st
            · exact go
          · split
            · exact st
            · exact go
        · exact go
      split
      · exact body _ _
      · exact body _ _
    · rw [y_le_t (by omega) (by omega)]
      exact ⟨_, rfl, trivial⟩
  obtain ⟨b, e, -⟩ := key
  have e' : zLp (fX10_isFreshTie_L2 x y g) zFU 0 = some b := e
  unfold fX10_isFreshTie
  rw [e', y_b1]
  rcases b with ⟨⟩ | ⟨⟩
  · exact Or.inl rfl
  · exact Or.inr rfl
theorem s_tie {B : Nat → Nat} {L e c : Nat} {gt gw g : zM} {gl : zL} {a : yA} (h : yAt B L gt g gl e c) (h15 : g 0 15 = 1) (hd : yDr gw g a) (hw : fX7_isWord gt 1 = some 1) : yRes B L g gl e (fX7_isTiePiece gt gw) (fX10_wantTie g gl) := by
  have h0 := hd.1.1
  unfold fX7_isTiePiece fX10_wantTie fX10_wantTie_J21 fX10_wantTie_J22 fX10_wantTie_J84 fX10_wantTie_J80
  rw [h15, if_neg (show ¬ (1 : Int32) = 0 by decide), hd.n.2.1, hd.2.1.1.2.1, show (14 : Int32) = nI 14 from rfl]
  by_cases c14 : 14 ≤ a 0 1
  · left
    rw [y_le_t c14 (by omega), y_le_t c14 (by omega), y_gd (show zBo 0 = true from rfl), y_lt_e, d_word y_dead, y_b2, d_number y_dead, y_b3, y_dead, if_pos rfl, d_85, zPu_zPu]
    exact ⟨_, _, _, _, rfl, rfl, y_dead, by rw [zPu_j (by decide)]; exact h.2.2.1, hd.2.2.2, (pFz.g15 g gl 0).1⟩
  rw [y_le_f (by omega) (by omega), y_le_f (by omega) (by omega), y_gd (show zBo 1 = true from rfl), y_lt_e, y_liveM h15]
  rcases s_want (j := 1) (by omega) h h15 with ⟨w, -⟩ | ⟨-, -, -, g1, gl1, w1, w2, w3, w4⟩
  · rw [hw] at w; exact absurd (Option.some.inj w) (by decide)
  have d1 := hd.z w4
  rw [show (14828 : Int64) = lN (yWn 1) from rfl, w1, y_b2, d1.n.1, hd.2.1.1.1]
  rcases s_number (lo := 0) (hi := nI (a 0 0) - 1) (l := 0) w3 w2 rfl (by omega) with ⟨gt2, v, g2, n1, n2, n3, n4, n5⟩ | ⟨gt2, p, g2, gl2, e2, n1, n2, n3, n4, n5, n6, n7, n8, n9, n10⟩
  · left
    rw [n1, y_b2, if_pos rfl, n2, y_b3, n3, if_pos rfl, d_85]
    exact ⟨_, _, _, _, rfl, rfl, y_dead, by rw [zPu_j (by decide)]; exact n4, hd.2.2.2, ((w4.tr n5).tr (pFz.g15 g2 gl1 0)).1⟩
  have hp := y_below (by omega) n4 n5
  have d2 := d1.z n10
  rw [n1, y_b2, if_neg (show ¬ (1 : Int32) = 0 by decide), y_lt_e, n6, n2, y_b3, n7, if_neg (show ¬ (1 : Int32) = 0 by decide)]
  have f2 := w4.tr n10
  rcases s_number2 (lo := 0) (hi := nI (a 0 0) - 1) (l := 0) n8 n7 rfl (by omega) with ⟨gt3, v, g3, m1, m2, m3, m4, m5, m6⟩ | ⟨gt3, q, g3, gl3, e3, m1, m2, m3, m4, m5, m6, m7, m8, m9, m10, m11, m12, m13⟩
  · left
    rw [m1, y_b2, if_pos rfl]
    have bad0 : ∃ g' gl', fX10_wantTie_J85 (nI p) g2 gl2 0 = some (g', gl') ∧ g' 0 15 = 0 ∧ gt3 0 2 = g' 0 11 ∧ pFp g g' gl gl' := ⟨_, _, d_85, y_dead, by rw [zPu_j (by decide)]; exact m6, (f2.tr (pFz.g15 g2 gl2 0)).1⟩
    have bad1 : ∃ g' gl', fX10_wantTie_J85 (nI p) g2 gl2 1 = some (g', gl') ∧ g' 0 15 = 0 ∧ gt3 0 2 = g' 0 11 ∧ pFp g g' gl gl' := by
      refine ⟨g3, gl2, ?_, m3, m4, (f2.tr m5).1⟩
      unfold fX10_wantTie_J85
      rw [y_gd (show zBo 1 = true from rfl), y_lt_e, y_liveM n7, d2.n.1, m2, y_b3, y_lt_e, y_mend' _ (Or.inl m3), y_b1, y_u5, d_end m3, y_b2, m3, if_pos rfl]
    have any : ∀ R : Option (zM × zL), (R = fX10_wantTie_J85 (nI p) g2 gl2 0 ∨ R = fX10_wantTie_J85 (nI p) g2 gl2 1) → ∃ gt' gw' g' gl', (some (0, gt3, gw) : Option (Int32 × zM × zM)) = some (0, gt', gw') ∧ R = some (g', gl') ∧ g' 0 15 = 0 ∧ gt' 0 2 = g' 0 11 ∧ zAllB (gw' 7) 14 = true ∧ pFp g g' gl gl' := by
      rintro R (rfl | rfl)
      · obtain ⟨g', gl', x1, x2, x3, x4⟩ := bad0; exact ⟨_, _, g', gl', rfl, x1, x2, x3, hd.2.2.2, x4⟩
      · obtain ⟨g', gl', x1, x2, x3, x4⟩ := bad1; exact ⟨_, _, g', gl', rfl, x1, x2, x3, hd.2.2.2, x4⟩
    apply any
    by_cases z1 : g2 0 10 = 2
    · rw [if_pos z1]
      by_cases z2 : g2 0 14 = nI p
      · rw [if_pos z2]; exact Or.inl rfl
      · rw [if_neg z2]
        -- a number that is no person, or none of two digits: told or not, it is refused
        have hf : fX10_isFreshTie g2 gl2 (nI p) (g2 0 14) = some 0 ∨ fX10_isFreshTie g2 gl2 (nI p) (g2 0 14) = some 1 := s10_fresh01 (a 0 1) (by omega) d2.n.2.1 _ _
        rcases hf with hf | hf
        · rw [hf, y_b1, if_pos rfl]; exact Or.inr rfl
        · rw [hf, y_b1, if_neg (show ¬ (1 : Int32) = 0 by decide)]; exact Or.inl rfl
    · rw [if_neg z1]; exact Or.inr rfl
  have hq := y_below (by omega) m4 m5
  rw [m1, y_b2, if_neg (show ¬ (1 : Int32) = 0 by decide), m6, m11, if_pos rfl, m12]
  have fail : ∃ gt' gw' g' gl', (some (0, gt3, gw) : Option (Int32 × zM × zM)) = some (0, gt', gw') ∧ fX10_wantTie_J85 (nI p) g2 gl2 0 = some (g', gl') ∧ g' 0 15 = 0 ∧ gt' 0 2 = g' 0 11 ∧ zAllB (gw' 7) 14 = true ∧ pFp g g' gl gl' := ⟨_, _, _, _, rfl, d_85, y_dead, by rw [zPu_j (by decide)]; exact m13, hd.2.2.2, (f2.tr (pFz.g15 g2 gl2 0)).1⟩
  by_cases hpq : q = p
  · left
    rw [y_eq_t hpq, y_eq_t hpq]
    exact fail
  rw [y_eq_f hpq (by omega) (by omega), y_eq_f hpq (by omega) (by omega)]
  have mn := y_mn (p := p) (q := q) (by omega) (by omega)
  have mx := y_mx (p := p) (q := q) (by omega) (by omega)
  have lmn : (if p < q then p else q) < 2147483648 := by split <;> omega
  have lmx : (if p < q then q else p) < 2147483648 := by split <;> omega
  rcases s8_tieBetween hd.1 hd.2.1 (nI p) (nI q) with ⟨i, t1, t2, t3, t4⟩ | ⟨t1, t4⟩
  · have o := hd.1.2.2.1 i t1
    rw [mn, y_eq (by omega) lmn] at t2
    rw [mx, y_eq (by omega) lmx] at t3
    rcases s10_isFreshTie (gl := gl2) hd.1 d2.2.2.1 (show p < 10 by omega) (show q < 10 by omega) with ⟨j, u1, u2, u3, u4⟩ | ⟨u1, -⟩
    · left
      rw [t4, y_b1, if_neg (y_nn (by omega)), u4, y_b1, if_neg (show ¬ (1 : Int32) = 0 by decide)]
      exact fail
    · exact absurd ⟨t2, t3⟩ (u1 i t1)
  · have hno : ∀ i, i < a 0 1 → ¬ (a 3 i = (if p < q then p else q) ∧ a 4 i = (if p < q then q else p)) := fun i hi hx => t1 i hi ⟨by rw [mn, hx.1], by rw [mx, hx.2]⟩
    rcases s10_isFreshTie (gl := gl2) hd.1 d2.2.2.1 (show p < 10 by omega) (show q < 10 by omega) with ⟨j, u1, u2, u3, -⟩ | ⟨-, u4⟩
    · exact absurd ⟨u2, u3⟩ (hno j u1)
    obtain ⟨gt4, e4, c4, p1, p2, p3, p4⟩ := m8
    have f3 := f2.tr m10
    rw [t4, y_b1, if_pos y_n1, s8_addTie hd.1 hd.2.1 (by omega) (by omega) (by omega), y_b2, p1, y_b1, u4, y_b1, if_pos rfl]
    unfold fX10_wantTie_J85
    rw [y_gd (show zBo 1 = true from rfl), y_lt_e, y_liveM n7, d2.n.1, m2, y_b3, y_lt_e, m7]
    generalize hW : zPu (zPu (zPu (zPu (zPu (zPu gw 3 (a 0 1) (nI (if p < q then p else q))) 4 (a 0 1) (nI (if p < q then q else p))) 5 (a 0 1) (nI 1)) 6 (a 0 1) (nI 4)) 7 (a 0 1) (nI 0)) 0 3 (nI (a 0 1 + 1)) = W
    have cW : yC W (yAddT a (if p < q then p else q) (if p < q then q else p) 1 4 0) := by rw [← hW]; exact hd.2.1.addT
    have bW : zAllB (W 7) 14 = true := by
      rw [← hW, zPu_k (by decide)]
      refine zAllB_st ?_ (by decide)
      rw [zPu_k (by decide), zPu_k (by decide), zPu_k (by decide), zPu_k (by decide)]
      exact hd.2.2.2
    have hL := s_tieL (p := if p < q then p else q) (q := if p < q then q else p) (by omega) 3 e4 c4 0 1 4 0 zFU zFU gt4 W g3 gl3 rfl (by omega) p2 m7 (by omega) (by omega) (by omega) (by omega) cW bW (by unfold zFU; omega) (by unfold zFU; omega)
    rcases hL with ⟨ex, gt', gw', x, y, z, g', gl', r1, r2, r3, r4, r5, r6⟩ | ⟨gt', gw', wo, od, mu, g', gl', e', r1, r2, r3, r4, r5, r6, r7, r8, r9, r10, r11, r12⟩
    · left
      have r1' : zLp (fX7_isTiePiece_L86 (nI (a 0 1))) zFU (0, 0, gt4, W) = some ex := r1
      have r4' : zLp fX10_wantTie_L117 zFU (1, 4, 0, 0, 1, g3, gl3) = some (x, y, z, g', gl') := r4
      have hcl : (zB1 (zLp (fX7_isTiePiece_L86 (nI (a 0 1))) zFU (0, 0, gt4, W)) fun ex => zSm ex (fun b => zU2 b fun gt_14 gw_15 => if (gt_14 0 4) = 3 then (some (1, gt_14, gw_15)) else (some (0, gt_14, gw_15))) (fun ex => zU2 ex fun gt_16 gw_17 => some (0, gt_16, gw_17))) = (some (0, gt', gw') : Option (Int32 × zM × zM)) := by
        rw [r1', y_b1]
        rcases r2 with rfl | ⟨rfl, r2⟩
        · rw [y_smr, y_u2]
        · rw [y_sml, y_u2, if_neg r2]
      rw [hcl, r4', y_b1, y_u5]
      rcases r6 with ⟨s1, s2⟩ | ⟨s1, e', c', s2, s3⟩
      · rw [d_end s1, y_b2, s1, if_pos rfl]
        exact ⟨_, _, _, _, rfl, rfl, s1, s2, r3, (f3.tr r5).1⟩
      · rcases s_end s2 s1 with ⟨-, g5, q1, q2, q3, q4⟩ | ⟨q, -⟩
        · rw [q1, y_b2, q2, if_pos rfl]
          exact ⟨_, _, _, _, rfl, rfl, q2, q3, r3, ((f3.tr r5).tr q4).1⟩
        · exact absurd q s3
    · right
      have r1' : zLp (fX7_isTiePiece_L86 (nI (a 0 1))) zFU (0, 0, gt4, W) = some (.inl (gt', gw')) := r1
      have r2' : zLp fX10_wantTie_L117 zFU (1, 4, 0, 0, 1, g3, gl3) = some (nI wo, nI od, nI mu, g', gl') := r2
      rcases s_end r10 r9 with ⟨q, -⟩ | ⟨-, g5, gl5, q1, q2, q3, q4⟩
      · exact absurd rfl q
      have fr := (f3.tr r12).tr q4
      have d5 := hd.z fr
      obtain ⟨g6, x1, x2, x3, x4, x5, x6⟩ := s10_knot (gl := gl5) (wo := wo) (od := od) (mu := mu) d5.2.2.1 (by omega) (show p < 10 by omega) (show q < 10 by omega)
      rw [r1', y_b1, y_sml, y_u2, r10.2.2.2.2.2.1, if_pos (show nI 3 = 3 from rfl), r2', y_b1, y_u5, q1, y_b2, q2, if_neg (show ¬ (1 : Int32) = 0 by decide), x1]
      refine ⟨gt', gw', g6, gl5, _, e', rfl, rfl, by rw [x3]; exact q2, ⟨hd.1.addT (by omega) ?_ ?_ r3 ⟨r4, r5⟩ r6 hno, r7, x2, r8⟩, q3.pt x4 x5, by omega, fr.1.tr x6⟩
      · split <;> omega
      · split <;> omega
