/-! ===== works ===== -/
theorem s10_ones1 (g : zM) : ∃ g', zLp fX10_wantWorks_L39 zFU (0, g) = some g' ∧ (∀ p, p < 10 → g' 6 p = 1) ∧ ∀ k, k ≠ 6 → g' k = g k := by
  have key : ∃ b, zLp fX10_wantWorks_L39 zFU ((fun k (x : zM) => (nI k, x)) 0 g) = some b ∧ ((∀ p, p < 10 → b 6 p = 1) ∧ ∀ k, k ≠ 6 → b k = g k) := by
    refine y_for (fun k (x : zM) => (nI k, x)) 10 (fun k b => (∀ p, p < k → b 6 p = 1) ∧ ∀ k, k ≠ 6 → b k = g k) _ ?_ ?_ zFU 0 g (by omega) ⟨fun p hp => absurd hp (by omega), fun _ _ => rfl⟩ (by unfold zFU; omega)
    · rintro k x hk ⟨i1, i2⟩
      refine ⟨zPu x 6 k 1, ?_, fun p hp => ?_, fun k' hk' => ?_⟩
      · show fX10_wantWorks_L39 (nI k, x) = _
        unfold fX10_wantWorks_L39
        rw [y_u2, show (10 : Int32) = nI 10 from rfl, y_le_f hk (by omega), y_gin (by omega) (by omega), y_lt_e, y_lt_e, y_cl (by omega), y_a1]
      · by_cases e : p = k
        · subst e; rw [zPu_s]
        · rw [zPu_j e]; exact i1 p (by omega)
      · rw [zPu_k hk']; exact i2 k' hk'
    · rintro x hx
      refine ⟨x, ?_, hx⟩
      show fX10_wantWorks_L39 (nI 10, x) = _
      unfold fX10_wantWorks_L39
      rw [y_u2, show (10 : Int32) = nI 10 from rfl, y_le_t (by omega) (by omega)]
  obtain ⟨b, e, h⟩ := key
  exact ⟨b, e, h⟩
def yTx (g : zM) (gl : zL) (rc : Option (Int32 × zM × zM)) (rm : Option (zM × zL)) : Prop := (∃ gt' gw' g' gl', rc = some (0, gt', gw') ∧ rm = some (g', gl') ∧ g' 0 15 = 0 ∧ gt' 0 2 = g' 0 11 ∧ zAllB (gw' 7) 14 = true ∧ pFp g g' gl gl') ∨ (∃ gt' gw' g' gl' a', rc = some (1, gt', gw') ∧ rm = some (g', gl') ∧ g' 0 15 = 1 ∧ yDr gw' g' a' ∧ pFp g g' gl gl')
theorem s_text {B : Nat → Nat} {L : Nat} {gt gw g : zM} {gl : zL} (hT : pTB B L gt g) (hB : zAllB (gw 7) 14 = true) : yTx g gl (fX7_isReadInto gt gw) (zB2 (fX10_advance (zPu g 0 12 0) gl) fun gm_2 gmL_3 => fX10_wantWorks gm_2 gmL_3) := by
  obtain ⟨t1, t2, t3, t4⟩ := hT
  have hT1 : pTB B L (zPu gt 0 3 0) (zPu g 0 12 0) := ⟨t1, by rw [zPu_j (by decide)]; exact t2, by rw [zPu_j (by decide)]; exact t3, fun i hi => by rw [zPu_k (by decide), zPu_k (by decide)]; exact t4 i hi⟩
  obtain ⟨gt1, g1, gl1, e, c, s1, s2, s3, s4, s5, s6⟩ := s_step (a := 0) (gl := gl) hT1 (by omega) zPu_s zPu_s
  have f12 : pFp g (zPu g 0 12 0) gl gl := ⟨fun k h _ _ _ => zPu_k h, fun j hj => zPu_j (by omega), fun _ _ => rfl⟩
  have f1 := f12.tr s6.z.1
  generalize hG : zPu (zPu (zPu g1 0 15 1) 0 17 0) 0 18 0 = G
  have G15 : G 0 15 = 1 := by rw [← hG, zPu_j (by decide), zPu_j (by decide), zPu_s]
  have G17 : G 0 17 = 0 := by rw [← hG, zPu_j (by decide), zPu_s]
  have G18 : G 0 18 = 0 := by rw [← hG, zPu_s]
  have hG0 : ∀ j, j ≤ 14 → G 0 j = g1 0 j := fun j hj => by rw [← hG, zPu_j (by omega), zPu_j (by omega), zPu_j (by omega)]
  have hGk : ∀ k, k ≠ 0 → G k = g1 k := fun k hk => by rw [← hG, zPu_k hk, zPu_k hk, zPu_k hk]
  have fG : pFp g G gl gl1 := by
    rw [← hG]
    exact ((f1.tr (pFz.g15 g1 gl1 1).1).tr (pFp_0 _ gl1 17 _ (by omega))).tr (pFp_0 _ gl1 18 _ (by omega))
  have hAt : yAt B L gt1 G gl1 e c := s3.pt hG0 (hGk 5 (by decide))
  have dl : ∀ (g : zM) (gl : zL), g 0 15 = 0 → zLp fX10_wantWorks_L58 zFU (g, gl) = some (g, gl) := fun g gl hg => by
    obtain ⟨M, hM, -⟩ := y_fu 1 (by omega)
    rw [hM]
    apply y_lpr
    unfold fX10_wantWorks_L58
    rw [y_u2, hg, if_pos rfl]
  have f6 : ∀ (g g' : zM) (gl : zL), (∀ k, k ≠ 6 → g' k = g k) → pFp g g' gl gl := fun g g' gl h => ⟨fun k _ h6 _ _ => h k h6, fun j _ => by rw [h 0 (by decide)], fun _ _ => rfl⟩
  unfold fX7_isReadInto fX10_wantWorks
  rw [y_lt_e, s1, y_b1, s2, y_b2, y_lt_e, y_lt_e, y_lt_e, hG, show (232546955 : Int64) = lN (yWn 0) from rfl]
  rcases s_want (j := 0) (by omega) hAt G15 with ⟨w1, -, g2, w2, w3, w4, w5⟩ | ⟨-, w1, -, g2, gl2, w2, w3, w4, w5⟩
  · left
    obtain ⟨g3, x1, x2, x3⟩ := s10_ones1 (zPu g2 0 16 (g2 0 14))
    have y15 : zPu g2 0 16 (g2 0 14) 0 15 = 0 := by rw [zPu_j (by decide)]; exact w3
    have z15 : g3 0 15 = 0 := by rw [x3 0 (by decide)]; exact y15
    rw [w1, y_b1, if_pos rfl, w2, y_b2, d_number w3, y_b3, y_lt_e, d_end y15, y_b2, x1, y_b1, y_u1, dl _ _ z15, y_b1, y_u2]
    exact ⟨_, _, _, _, rfl, rfl, z15, by rw [x3 0 (by decide), zPu_j (by decide)]; exact w4, hB, ((fG.tr w5.1).tr (pFp_0 g2 gl1 16 _ (by omega))).tr (f6 _ _ _ x3)⟩
  rw [w1, y_b1, if_neg (show ¬ (1 : Int32) = 0 by decide), w2, y_b2]
  rcases s_number (lo := 1) (hi := 10) (l := 1) w4 w3 rfl (by omega) with ⟨gt3, v, g3, n1, n2, n3, n4, n5⟩ | ⟨gt3, n, g3, gl3, e3, n1, n2, n3, n4, n5, n6, n7, n8, n9, n10⟩
  · left
    obtain ⟨g4, x1, x2, x3⟩ := s10_ones1 (zPu g3 0 16 v)
    have y15 : zPu g3 0 16 v 0 15 = 0 := by rw [zPu_j (by decide)]; exact n3
    have z15 : g4 0 15 = 0 := by rw [x3 0 (by decide)]; exact y15
    rw [n1, y_b2, if_pos rfl, n2, y_b3, y_lt_e, d_end y15, y_b2, x1, y_b1, y_u1, dl _ _ z15, y_b1, y_u2]
    exact ⟨_, _, _, _, rfl, rfl, z15, by rw [x3 0 (by decide), zPu_j (by decide)]; exact n4, hB, (((fG.tr w5.1).tr n5.1).tr (pFp_0 g3 gl2 16 _ (by omega))).tr (f6 _ _ _ x3)⟩
  have hn10 : n ≤ 10 := by
    rw [show (10 : Int32) = nI 10 from rfl, y_lt (by omega) (by omega)] at n5
    omega
  obtain ⟨gw1, k1, k2, k3, k4⟩ := s8_startWith (w := gw) hn10
  have hB1 : zAllB (gw1 7) 14 = true := by rw [k4 7 (by omega)]; exact hB
  have pr3 : yPr B L gt3 (zPu g3 0 16 (nI n)) gl3 e3 := n8.pt (fun j hj => zPu_j (by omega)) (zPu_k (by decide))
  have a3 : zPu g3 0 16 (nI n) 0 15 = 1 := by rw [zPu_j (by decide)]; exact n7
  have f3 := ((fG.tr w5.1).tr n10.1).tr (pFp_0 g3 gl3 16 (nI n) (by omega))
  rw [n1, y_b2, if_neg (show ¬ (1 : Int32) = 0 by decide), n6, k1, y_b1, n2, y_b3, y_lt_e]
  rcases s_stop pr3 a3 with ⟨gt4, g4, q1, q2, q3, q4, q5⟩ | ⟨gt4, g4, gl4, e4, q1, q2, q3, q4, q5, q6⟩
  · left
    obtain ⟨g5, x1, x2, x3⟩ := s10_ones1 g4
    have z15 : g5 0 15 = 0 := by rw [x3 0 (by decide)]; exact q3
    rw [q1, y_b2, if_pos rfl, q2, y_b2, x1, y_b1, y_u1, dl _ _ z15, y_b1, y_u2]
    exact ⟨_, _, _, _, rfl, rfl, z15, by rw [x3 0 (by decide)]; exact q4, hB1, (f3.tr q5.1).tr (f6 _ _ _ x3)⟩
  obtain ⟨g5, x1, x2, x3⟩ := s10_ones1 g4
  have z15 : g5 0 15 = 1 := by rw [x3 0 (by decide)]; exact q3
  have pr5 : yPr B L gt4 g5 gl4 e4 := q4.pt (fun j _ => by rw [x3 0 (by decide)]) (x3 5 (by decide))
  obtain ⟨gt5, e5, c5, p1, p2, p3, p4⟩ := pr5
  have f5 := (f3.tr q6.1).tr (f6 g4 g5 gl4 x3)
  have g16 : g5 0 16 = nI n := by rw [x3 0 (by decide), q6.2.2.2.2.1, zPu_s]
  have g17 : g5 0 17 = 0 := by rw [x3 0 (by decide), q6.2.2.2.2.2.1, zPu_j (by decide), n10.2.2.2.2.2.1, w5.2.2.2.2.2.1]; exact G17
  have g18 : g5 0 18 = 0 := by rw [x3 0 (by decide), q6.2.2.2.2.2.2, zPu_j (by decide), n10.2.2.2.2.2.2, w5.2.2.2.2.2.2]; exact G18
  have hyG : yG (zFv g5) (yNew n) := by
    refine ⟨⟨g16, g17, g18⟩, fun p hp => ?_, fun p hp => rfl, fun i hi => absurd hi (Nat.not_lt_zero _), fun i hi => absurd hi (Nat.not_lt_zero _), fun i hi => absurd hi (Nat.not_lt_zero _), fun i hi => absurd hi (Nat.not_lt_zero _), fun i hi => absurd hi (Nat.not_lt_zero _), fun i hi => absurd hi (Nat.not_lt_zero _), fun i hi => absurd hi (Nat.not_lt_zero _), fun i hi => absurd hi (Nat.not_lt_zero _)⟩
    exact x2 p (Nat.lt_of_lt_of_le hp hn10)
  have hdr : yDr gw1 g5 (yNew n) := ⟨yNew_ok n3 hn10, k2, hyG, hB1⟩
  rw [q1, y_b2, if_neg (show ¬ (1 : Int32) = 0 by decide), p1, y_b1, q2, y_b2, x1, y_b1, y_u1]
  obtain ⟨M, hM, hM2⟩ := y_fu 1000 (by omega)
  rcases s_readL L e5 c5 0 zFU M gt5 gw1 g5 gl4 (yNew n) p2 z15 hdr (by omega) (by omega) (by unfold zFU; omega) (by omega) with ⟨gt', gw', g', gl', r1, r2, r3, r4, r5, r6⟩ | ⟨gt', gw', g', gl', a', r1, r2, r3, r4, r5, r6⟩
  · left
    have r1' : zLp fX7_isReadInto_L53 zFU (0, gt5, gw1) = some (.inr (gt', gw')) := r1
    rw [← hM] at r2
    rw [r1', y_b1, y_smr, y_u2, r2, y_b1, y_u2]
    exact ⟨_, _, _, _, rfl, rfl, r3, r4, r5, f5.tr r6⟩
  · right
    have r1' : zLp fX7_isReadInto_L53 zFU (0, gt5, gw1) = some (.inl (gt', gw')) := r1
    rw [← hM] at r3
    rw [r1', y_b1, y_sml, y_u2, r2, if_pos rfl, r3, y_b1, y_u2]
    exact ⟨_, _, _, _, a', rfl, rfl, r4, r5, f5.tr r6⟩
theorem s10_copy {g : zM} {a : yA} (ok : yOk a) (hf : yG (zFv g) a) (h2 : g 0 2 = nI (a 0 1)) (h4 : g 0 4 = nI (a 0 2)) : ∃ g1 g2 g3, zLp fX10_works_L59 zFU (0, g) = some g1 ∧ zLp fX10_works_L85 zFU (0, g1) = some g2 ∧ zLp fX10_works_L115 zFU (0, g2) = some g3 ∧ g3 0 = g 0 ∧ (∀ p, p < 10 → g3 1 p = g 6 p) ∧ (∀ p, p < 5 * a 0 1 → g3 2 p = g 7 p) ∧ (∀ p, p < 3 * a 0 2 → g3 3 p = g 8 p) ∧ ∀ k, k ≠ 1 → k ≠ 2 → k ≠ 3 → g3 k = g k := by
  have h0 := ok.1
  have k1 : ∃ b, zLp fX10_works_L59 zFU ((fun k (x : zM) => (nI k, x)) 0 g) = some b ∧ ((∀ p, p < 10 → b 1 p = g 6 p) ∧ ∀ k, k ≠ 1 → b k = g k) := by
    refine y_for (fun k (x : zM) => (nI k, x)) 10 (fun k b => (∀ p, p < k → b 1 p = g 6 p) ∧ ∀ k, k ≠ 1 → b k = g k) _ ?_ ?_ zFU 0 g (by omega) ⟨fun p hp => absurd hp (by omega), fun _ _ => rfl⟩ (by unfold zFU; omega)
    · rintro k x hk ⟨i1, i2⟩
      refine ⟨zPu x 1 k (x 6 k), ?_, fun p hp => ?_, fun k' hk' => ?_⟩
      · show fX10_works_L59 (nI k, x) = _
        unfold fX10_works_L59
        rw [y_u2, show (10 : Int32) = nI 10 from rfl, y_le_f hk (by omega), y_gin (by omega) (by omega), y_lt_e, y_gin (by omega) (by omega), y_lt_e, y_lt_e, y_cl (by omega), y_a1]
      · by_cases e : p = k
        · subst e; rw [zPu_s, i2 6 (by decide)]
        · rw [zPu_j e]; exact i1 p (by omega)
      · rw [zPu_k hk']; exact i2 k' hk'
    · rintro x hx
      refine ⟨x, ?_, hx⟩
      show fX10_works_L59 (nI 10, x) = _
      unfold fX10_works_L59
      rw [y_u2, show (10 : Int32) = nI 10 from rfl, y_le_t (by omega) (by omega)]
  obtain ⟨g1, e1, c1, o1⟩ := k1
  have s1 : g1 0 2 = nI (a 0 1) := by rw [o1 0 (by decide)]; exact h2
  have k2 : ∃ b, zLp fX10_works_L85 zFU ((fun k (x : zM) => (nI k, x)) 0 g1) = some b ∧ ((∀ p, p < 5 * a 0 1 → b 2 p = g1 7 p) ∧ ∀ k, k ≠ 2 → b k = g1 k) := by
    refine y_for (fun k (x : zM) => (nI k, x)) (5 * a 0 1) (fun k b => (∀ p, p < k → b 2 p = g1 7 p) ∧ ∀ k, k ≠ 2 → b k = g1 k) _ ?_ ?_ zFU 0 g1 (by omega) ⟨fun p hp => absurd hp (by omega), fun _ _ => rfl⟩ (by unfold zFU; omega)
    · rintro k x hk ⟨i1, i2⟩
      refine ⟨zPu x 2 k (x 7 k), ?_, fun p hp => ?_, fun k' hk' => ?_⟩
      · show fX10_works_L85 (nI k, x) = _
        unfold fX10_works_L85
        rw [y_u2, i2 0 (by decide), s1, show (5 : Int32) = nI 5 from rfl, y_mul, y_le_f hk (by omega), y_gin (by omega) (by omega), y_lt_e, y_gin (by omega) (by omega), y_lt_e, y_lt_e, y_cl (by omega), y_a1]
      · by_cases e : p = k
        · subst e; rw [zPu_s, i2 7 (by decide)]
        · rw [zPu_j e]; exact i1 p (by omega)
      · rw [zPu_k hk']; exact i2 k' hk'
    · rintro x hx
      refine ⟨x, ?_, hx⟩
      show fX10_works_L85 (nI (5 * a 0 1), x) = _
      unfold fX10_works_L85
      rw [y_u2, hx.2 0 (by decide), s1, show (5 : Int32) = nI 5 from rfl, y_mul, y_le_t (by omega) (by omega)]
  obtain ⟨g2, e2, c2, o2⟩ := k2
  have s2 : g2 0 4 = nI (a 0 2) := by rw [o2 0 (by decide), o1 0 (by decide)]; exact h4
  have k3 : ∃ b, zLp fX10_works_L115 zFU ((fun k (x : zM) => (nI k, x)) 0 g2) = some b ∧ ((∀ p, p < 3 * a 0 2 → b 3 p = g2 8 p) ∧ ∀ k, k ≠ 3 → b k = g2 k) := by
    refine y_for (fun k (x : zM) => (nI k, x)) (3 * a 0 2) (fun k b => (∀ p, p < k → b 3 p = g2 8 p) ∧ ∀ k, k ≠ 3 → b k = g2 k) _ ?_ ?_ zFU 0 g2 (by omega) ⟨fun p hp => absurd hp (by omega), fun _ _ => rfl⟩ (by unfold zFU; omega)
    · rintro k x hk ⟨i1, i2⟩
      refine ⟨zPu x 3 k (x 8 k), ?_, fun p hp => ?_, fun k' hk' => ?_⟩
      · show fX10_works_L115 (nI k, x) = _
        unfold fX10_works_L115
        rw [y_u2, i2 0 (by decide), s2, show (3 : Int32) = nI 3 from rfl, y_mul, y_le_f hk (by omega), y_gin (by omega) (by omega), y_lt_e, y_gin (by omega) (by omega), y_lt_e, y_lt_e, y_cl (by omega), y_a1]
      · by_cases e : p = k
        · subst e; rw [zPu_s, i2 8 (by decide)]
        · rw [zPu_j e]; exact i1 p (by omega)
      · rw [zPu_k hk']; exact i2 k' hk'
    · rintro x hx
      refine ⟨x, ?_, hx⟩
      show fX10_works_L115 (nI (3 * a 0 2), x) = _
      unfold fX10_works_L115
      rw [y_u2, hx.2 0 (by decide), s2, show (3 : Int32) = nI 3 from rfl, y_mul, y_le_t (by omega) (by omega)]
  obtain ⟨g3, e3, c3, o3⟩ := k3
  refine ⟨g1, g2, g3, e1, e2, e3, ?_, fun p hp => ?_, fun p hp => ?_, fun p hp => ?_, fun k h1 h2 h3 => ?_⟩
  · rw [o3 0 (by decide), o2 0 (by decide), o1 0 (by decide)]
  · rw [o3 1 (by decide), o2 1 (by decide), c1 p hp]
  · rw [o3 2 (by decide), c2 p hp, o1 7 (by decide)]
  · rw [c3 p hp, o2 8 (by decide), o1 8 (by decide)]
  · rw [o3 k h3, o2 k h2, o1 k h1]
theorem m_works {gx w god gt gr g : zM} {gl : zL} {a : yA} (ok : yOk a) (hc : yC w a) (hg : yG g a) (hz : w 0 13 = g 0 7) (hB : zAllB (w 7) 14 = true) (hBd : zAllB (god 7) 14 = true) (hT : pT gt g) (hr : pR gr g) : ∃ r w' god' gt' gr' g' gl' a', fX9_works gx w god gt gr = some (r, w', god', gt', gr') ∧ fX10_works g gl = some (r, g', gl') ∧ yOk a' ∧ yC w' a' ∧ yG g' a' ∧ w' 0 13 = g' 0 7 ∧ zAllB (w' 7) 14 = true ∧ zAllB (god' 7) 14 = true ∧ pT gt' g' ∧ pR gr' g' ∧ eqH g g' ∧ eqA g g' ∧ eqK g g' ∧ gl' 20 = gl 20 := by
  obtain ⟨B, L, hTB⟩ := hT
  have ht := s_text (gl := gl) hTB hBd
  have empty : ∀ (gt g : zM), pT (zPu gt 0 1 0) (zPu g 0 9 0) := fun gt g => ⟨fun _ => 0, 0, by omega, zPu_s, zPu_s, fun i hi => absurd hi (Nat.not_lt_zero _)⟩
  unfold fX9_works fX10_works
  rw [y_lt_e]
  have assoc : ∀ {γ : Type} (R : Option (zM × zL)) (F : zM → zL → Option (zM × zL)) (G : zM → zL → Option γ), zB2 R (fun x y => zB2 (F x y) G) = zB2 (zB2 R F) G := fun R F G => by
    cases R with
    | none => rfl
    | some z => rfl
  rw [assoc]
  rcases ht with ⟨gt', gw', g', gl', r1, r2, r3, r4, r5, r6⟩ | ⟨gt', gw', g', gl', a', r1, r2, r3, r4, r5⟩
  · rw [r1, y_b3, y_lt_e, if_pos rfl, r2, y_b2, y_lt_e, show zPu g' 0 9 0 0 15 = 0 from by rw [zPu_j (by decide)]; exact r3, if_pos rfl, show zPu gt' 0 1 0 0 2 = gt' 0 2 from zPu_j (by decide), show zPu g' 0 9 0 0 11 = g' 0 11 from zPu_j (by decide), r4]
    have s0 : ∀ j, (j < 9 ∨ 18 < j) → zPu g' 0 9 0 0 j = g 0 j := fun j hj => by rw [zPu_j (by omega)]; exact r6.2.1 j (by omega)
    have sk : ∀ k, k ≠ 0 → k ≠ 6 → k ≠ 7 → k ≠ 8 → zPu g' 0 9 0 k = g k := fun k a b c d => by rw [zPu_k a]; exact r6.1 k a b c d
    refine ⟨_, w, gw', zPu gt' 0 1 0, gr, zPu g' 0 9 0, gl', a, rfl, rfl, ok, hc, ?_, ?_, hB, r5, empty _ _, ?_, ?_, ?_, ?_, r6.2.2 20 (by decide)⟩
    · exact hg.cg ok (s0 0 (by omega)) (s0 2 (by omega)) (s0 4 (by omega)) (fun j _ => by rw [sk 1 (by decide) (by decide) (by decide) (by decide)]) (fun j _ => by rw [sk 2 (by decide) (by decide) (by decide) (by decide)]) (fun j _ => by rw [sk 3 (by decide) (by decide) (by decide) (by decide)]) (fun j _ => by rw [sk 4 (by decide) (by decide) (by decide) (by decide)])
    · rw [s0 7 (by omega)]; exact hz
    · obtain ⟨n, q1, q2, q3, q4⟩ := hr
      exact ⟨n, q1, q2, by rw [s0 36 (by omega)]; exact q3, fun i j hi hj => by rw [sk 16 (by decide) (by decide) (by decide) (by decide)]; exact q4 i j hi hj⟩
    · exact ⟨sk 18 (by decide) (by decide) (by decide) (by decide), sk 19 (by decide) (by decide) (by decide) (by decide), sk 21 (by decide) (by decide) (by decide) (by decide), sk 22 (by decide) (by decide) (by decide) (by decide), sk 23 (by decide) (by decide) (by decide) (by decide)⟩
    · exact ⟨s0 48 (by omega), sk 24 (by decide) (by decide) (by decide) (by decide)⟩
    · exact ⟨s0 50 (by omega), sk 25 (by decide) (by decide) (by decide) (by decide)⟩
  · obtain ⟨oka, hca, hga, hBa⟩ := r4
    have h0 := oka.1
    have hg16 : g' 0 16 = nI (a' 0 0) := hga.1.1
    have hg17 : g' 0 17 = nI (a' 0 1) := hga.1.2.1
    have hg18 : g' 0 18 = nI (a' 0 2) := hga.1.2.2
    have hcd : yC (zPu gw' 0 13 (w 0 13)) a' := hca.x ((yX.rf 13 gw').pu _)
    have hBd' : zAllB (zPu gw' 0 13 (w 0 13) 7) 14 = true := by rw [zPu_k (by decide)]; exact hBa
    obtain ⟨w1, b1, b2, b3, b4⟩ := s8_become (w := w) oka hcd hBd'
    obtain ⟨g2, q1, q2, q3, q4, q5, q6⟩ := s10_begin (g := zPu g' 0 9 0) (gl := gl') (n := a' 0 0) h0.2.1
    have p17 : g2 0 17 = nI (a' 0 1) := by rw [q4 17 (by decide) (by decide) (by decide) (by decide), zPu_j (by decide)]; exact hg17
    have p18 : zPu g2 0 2 (nI (a' 0 1)) 0 18 = nI (a' 0 2) := by rw [zPu_j (by decide), q4 18 (by decide) (by decide) (by decide) (by decide), zPu_j (by decide)]; exact hg18
    have row : ∀ k, k ≠ 0 → k ≠ 1 → k ≠ 4 → zPu (zPu g2 0 2 (nI (a' 0 1))) 0 4 (nI (a' 0 2)) k = g' k := fun k x y z => by rw [zPu_k x, zPu_k x, q5 k x y z, zPu_k x]
    have fv : ∀ G : zM, G 6 = g' 6 → G 7 = g' 7 → G 8 = g' 8 → G 0 16 = g' 0 16 → G 0 17 = g' 0 17 → G 0 18 = g' 0 18 → yG (zFv G) a' := fun G e1 e2 e3 e4 e5 e6 => by
      have : zFv G = zFv g' := by unfold zFv; rw [e1, e2, e3, e4, e5, e6]
      rw [this]; exact hga
    have slot : ∀ j, j ≠ 0 → j ≠ 2 → j ≠ 4 → j ≠ 36 → j ≠ 9 → zPu (zPu g2 0 2 (nI (a' 0 1))) 0 4 (nI (a' 0 2)) 0 j = g' 0 j := fun j x y z u v => by rw [zPu_j z, zPu_j y, q4 j x y z u, zPu_j v]
    obtain ⟨g3, g4, g5, c1, c2, c3, c4, c5, c6, c7, c8⟩ := s10_copy (g := zPu (zPu g2 0 2 (nI (a' 0 1))) 0 4 (nI (a' 0 2))) oka (fv _ (row 6 (by decide) (by decide) (by decide)) (row 7 (by decide) (by decide) (by decide)) (row 8 (by decide) (by decide) (by decide)) (slot 16 (by decide) (by decide) (by decide) (by decide) (by decide)) (slot 17 (by decide) (by decide) (by decide) (by decide) (by decide)) (slot 18 (by decide) (by decide) (by decide) (by decide) (by decide))) (by rw [zPu_j (by decide), zPu_s]) zPu_s
    have z0 : g5 0 0 = nI (a' 0 0) := by rw [c4, zPu_j (by decide), zPu_j (by decide)]; exact q2.1.1
    have z2 : g5 0 2 = nI (a' 0 1) := by rw [c4, zPu_j (by decide), zPu_s]
    have z4 : g5 0 4 = nI (a' 0 2) := by rw [c4, zPu_s]
    have so : ∀ j, j ≠ 0 → j ≠ 2 → j ≠ 4 → j ≠ 36 → j ≠ 9 → (j < 10 ∨ 18 < j) → g5 0 j = g 0 j := fun j x y z u v t => by rw [c4, slot j x y z u v]; exact r5.2.1 j t
    have ro : ∀ k, k ≠ 0 → k ≠ 1 → k ≠ 2 → k ≠ 3 → k ≠ 4 → k ≠ 6 → k ≠ 7 → k ≠ 8 → g5 k = g k := fun k x y z u v s t q => by rw [c8 k y z u, row k x y v]; exact r5.1 k x s t q
    rw [r1, y_b3, y_lt_e, if_neg (show ¬ (1 : Int32) = 0 by decide), y_lt_e, y_lt_e, b1, y_b1, y_lt_e, r2, y_b2, y_lt_e, show zPu g' 0 9 0 0 15 = 1 from by rw [zPu_j (by decide)]; exact r3, if_neg (show ¬ (1 : Int32) = 0 by decide), show zPu g' 0 9 0 0 16 = nI (a' 0 0) from by rw [zPu_j (by decide)]; exact hg16, q1, y_b1, y_lt_e, y_lt_e, p17, y_lt_e, y_lt_e, p18, c1, y_b1, y_u1, c2, y_b1, y_u1, c3, y_b1, y_u1, z2, b2.1.2.1]
    refine ⟨_, w1, _, _, zPu gr 0 1 0, g5, gl', a', rfl, rfl, oka, b2, ?_, ?_, b4, hBd', ?_, ?_, ?_, ?_, ?_, r5.2.2 20 (by decide)⟩
    · refine ⟨⟨z0, z2, z4⟩, fun p hp => ?_, fun p hp => ?_, fun i hi => ?_, fun i hi => ?_, fun i hi => ?_, fun i hi => ?_, fun i hi => ?_, fun i hi => ?_, fun i hi => ?_, fun i hi => ?_⟩
      · rw [c5 p (by omega), row 6 (by decide) (by decide) (by decide)]; exact hga.2.1 p hp
      · rw [c8 4 (by decide) (by decide) (by decide), zPu_k (by decide), zPu_k (by decide), (q6 p (by omega)).2]; exact hga.2.2.1 p hp
      · rw [c6 _ (by omega), row 7 (by decide) (by decide) (by decide)]; exact hga.2.2.2.1 i hi
      · rw [c6 _ (by omega), row 7 (by decide) (by decide) (by decide)]; exact hga.2.2.2.2.1 i hi
      · rw [c6 _ (by omega), row 7 (by decide) (by decide) (by decide)]; exact hga.2.2.2.2.2.1 i hi
      · rw [c6 _ (by omega), row 7 (by decide) (by decide) (by decide)]; exact hga.2.2.2.2.2.2.1 i hi
      · rw [c6 _ (by omega), row 7 (by decide) (by decide) (by decide)]; exact hga.2.2.2.2.2.2.2.1 i hi
      · rw [c7 _ (by omega), row 8 (by decide) (by decide) (by decide)]; exact hga.2.2.2.2.2.2.2.2.1 i hi
      · rw [c7 _ (by omega), row 8 (by decide) (by decide) (by decide)]; exact hga.2.2.2.2.2.2.2.2.2.1 i hi
      · rw [c7 _ (by omega), row 8 (by decide) (by decide) (by decide)]; exact hga.2.2.2.2.2.2.2.2.2.2 i hi
    · rw [b3, zPu_s, so 7 (by decide) (by decide) (by decide) (by decide) (by decide) (by omega)]; exact hz
    · refine ⟨fun _ => 0, 0, by omega, zPu_s, ?_, fun i hi => absurd hi (Nat.not_lt_zero _)⟩
      rw [c4, zPu_j (by decide), zPu_j (by decide), q4 9 (by decide) (by decide) (by decide) (by decide), zPu_s]; rfl
    · refine ⟨0, by omega, zPu_s, ?_, fun i j hi => absurd hi (Nat.not_lt_zero _)⟩
      rw [c4, zPu_j (by decide), zPu_j (by decide), q3]; rfl
    · exact ⟨ro 18 (by decide) (by decide) (by decide) (by decide) (by decide) (by decide) (by decide) (by decide), ro 19 (by decide) (by decide) (by decide) (by decide) (by decide) (by decide) (by decide) (by decide), ro 21 (by decide) (by decide) (by decide) (by decide) (by decide) (by decide) (by decide) (by decide), ro 22 (by decide) (by decide) (by decide) (by decide) (by decide) (by decide) (by decide) (by decide), ro 23 (by decide) (by decide) (by decide) (by decide) (by decide) (by decide) (by decide) (by decide)⟩
    · exact ⟨so 48 (by decide) (by decide) (by decide) (by decide) (by decide) (by omega), ro 24 (by decide) (by decide) (by decide) (by decide) (by decide) (by decide) (by decide) (by decide)⟩
    · exact ⟨so 50 (by decide) (by decide) (by decide) (by decide) (by decide) (by omega), ro 25 (by decide) (by decide) (by decide) (by decide) (by decide) (by decide) (by decide) (by decide)⟩
