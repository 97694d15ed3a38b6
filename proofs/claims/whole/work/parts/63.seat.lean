/-! ===== late, seat ===== -/
theorem s10_addCut {g : zM} {gl : zL} {a : yA} {K A B : Nat} (hg : yG (zFv g) a) (h8 : a 0 2 < 8) : ∃ g', fX10_addCut g gl (nI K) (nI A) (nI B) = some g' ∧ yG (zFv g') (yAddC a K A B) ∧ g' 0 15 = g 0 15 ∧ (∀ j, j ≤ 14 → g' 0 j = g 0 j) ∧ g' 5 = g 5 ∧ pFp g g' gl gl := by
  have hn : g 0 18 = nI (a 0 2) := hg.1.2.2
  refine ⟨zPu (zPu (zPu (zPu g 8 (3 * a 0 2) (nI K)) 8 (3 * a 0 2 + 1) (nI A)) 8 (3 * a 0 2 + 2) (nI B)) 0 18 (nI (a 0 2 + 1)), ?_, ?_, ?_, fun j hj => ?_, ?_, ?_⟩
  · unfold fX10_addCut
    rw [hn, show (3 : Int32) = nI 3 from rfl, y_mul, y_gin (by omega) (by omega), y_lt_e, y_cl (by omega), zPu_k (show (0 : Nat) ≠ 8 by decide), hn, y_mul, show (1 : Int32) = nI 1 from rfl, y_add, y_gin (by omega) (by omega), y_lt_e, y_cl (by omega), zPu_k (show (0 : Nat) ≠ 8 by decide), zPu_k (show (0 : Nat) ≠ 8 by decide), hn, y_mul, show (2 : Int32) = nI 2 from rfl, y_add, y_gin (by omega) (by omega), y_lt_e, y_cl (by omega), y_lt_e, y_lt_e, zPu_k (show (0 : Nat) ≠ 8 by decide), zPu_k (show (0 : Nat) ≠ 8 by decide), zPu_k (show (0 : Nat) ≠ 8 by decide), hn, y_add]
  · rw [zFv_0 (t := 4) (by omega), zFv_8, zFv_8, zFv_8]
    exact hg.addC
  · rw [zPu_j (by decide), zPu_k (by decide), zPu_k (by decide), zPu_k (by decide)]
  · rw [zPu_j (by omega), zPu_k (by decide), zPu_k (by decide), zPu_k (by decide)]
  · rw [zPu_k (by decide), zPu_k (by decide), zPu_k (by decide), zPu_k (by decide)]
  · exact (((pFp_6 g gl 8 _ _ (by omega)).tr (pFp_6 _ gl 8 _ _ (by omega))).tr (pFp_6 _ gl 8 _ _ (by omega))).tr (pFp_0 _ gl 18 _ (by omega))
theorem y_cutB {w : zM} {x y z u : Int32} {i j k l : Nat} (h : zAllB (w 7) 14 = true) : zAllB (zPu (zPu (zPu (zPu w 8 i x) 9 j y) 10 k z) 0 l u 7) 14 = true := by
  rw [zPu_k (by decide), zPu_k (by decide), zPu_k (by decide), zPu_k (by decide)]; exact h
theorem y_dead {g : zM} : zPu g 0 15 0 0 15 = 0 := zPu_s
theorem y_liveM {g : zM} (h : g 0 15 = 1) : zPu g 0 15 1 = g := zPu_me h
theorem s_late {B : Nat → Nat} {L e c : Nat} {gt gw g : zM} {gl : zL} {a : yA} (h : yAt B L gt g gl e c) (h15 : g 0 15 = 1) (hd : yDr gw g a) (hw : fX7_isWord gt 9 = some 1) : yRes B L g gl e (fX7_isLatePiece gt gw) (fX10_wantLate g gl) := by
  have h0 := hd.1.1
  unfold fX7_isLatePiece fX10_wantLate fX10_wantLate_J21 fX10_wantLate_J22
  rw [h15, if_neg (show ¬ (1 : Int32) = 0 by decide), hd.n.2.2, hd.2.1.1.2.2, show (8 : Int32) = nI 8 from rfl]
  by_cases c8 : 8 ≤ a 0 2
  · left
    rw [y_le_t c8 (by omega), y_le_t c8 (by omega), y_gd (show zBo 0 = true from rfl), y_lt_e, d_word y_dead, y_b2, d_number y_dead, y_b3, d_number y_dead, y_b3, d_end y_dead, y_b2, y_dead, if_pos rfl]
    exact ⟨_, _, _, _, rfl, rfl, y_dead, by rw [zPu_j (by decide)]; exact h.2.2.1, hd.2.2.2, (pFz.g15 g gl 0).1⟩
  rw [y_le_f (by omega) (by omega), y_le_f (by omega) (by omega), y_gd (show zBo 1 = true from rfl), y_lt_e, y_liveM h15]
  rcases s_want (j := 9) (by omega) h h15 with ⟨w, -⟩ | ⟨-, -, -, g1, gl1, w1, w2, w3, w4⟩
  · rw [hw] at w; exact absurd (Option.some.inj w) (by decide)
  have d1 := hd.z w4
  rw [show (237470 : Int64) = lN (yWn 9) from rfl, w1, y_b2, d1.n.2.1, hd.2.1.1.2.1]
  rcases s_number (lo := 0) (hi := nI (a 0 1) - 1) (l := 0) w3 w2 rfl (by omega) with ⟨gt2, v, g2, n1, n2, n3, n4, n5⟩ | ⟨gt2, v, g2, gl2, e2, n1, n2, n3, n4, n5, n6, n7, n8, n9, n10⟩
  · left
    rw [n1, y_b2, if_pos rfl, n2, y_b3, d_number n3, y_b3, d_end n3, y_b2, n3, if_pos rfl]
    exact ⟨_, _, _, _, rfl, rfl, n3, n4, hd.2.2.2, (w4.tr n5).1⟩
  have hv := y_below (by omega) n4 n5
  rw [n1, y_b2, if_neg (show ¬ (1 : Int32) = 0 by decide), y_lt_e, n6, n2, y_b3]
  rcases s_number (lo := 0) (hi := 99) (l := 0) n8 n7 rfl (by omega) with ⟨gt4, z, g4, m1, m2, m3, m4, m5⟩ | ⟨gt4, z, g4, gl4, e4, m1, m2, m3, m4, m5, m6, m7, m8, m9, m10⟩
  · left
    rw [m1, y_b2, if_pos rfl, m2, y_b3, d_end m3, y_b2, m3, if_pos rfl]
    exact ⟨_, _, _, _, rfl, rfl, m3, m4, hd.2.2.2, ((w4.tr n10).tr m5).1⟩
  rw [m1, y_b2, if_neg (show ¬ (1 : Int32) = 0 by decide), m6, show (4 : Int32) = nI 4 from rfl, s8_addCut hd.1 hd.2.1 (by omega) 4 v z, y_b2, m2, y_b3]
  rcases s_stop m8 m7 with ⟨gt5, g5, q1, q2, q3, q4, q5⟩ | ⟨gt5, g5, gl5, e5, q1, q2, q3, q4, q5, q6⟩
  · left
    rw [q1, y_b2, y_gd (show zBo 0 = true from rfl), q2, y_b2, q3, if_pos rfl]
    exact ⟨_, _, _, _, rfl, rfl, q3, q4, y_cutB hd.2.2.2, (((w4.tr n10).tr m10).tr q5).1⟩
  · right
    have fr := ((w4.tr n10).tr m10).tr q6
    have d5 := hd.z fr
    obtain ⟨g6, x1, x2, x3, x4, x5, x6⟩ := s10_addCut (gl := gl5) (K := 4) (A := v) (B := z) d5.2.2.1 (by omega)
    rw [q1, y_b2, y_gd (show zBo 1 = true from rfl), q2, y_b2, q3, if_neg (show ¬ (1 : Int32) = 0 by decide), x1, y_b1]
    have hv10 : v < 2 ^ 10 := by omega
    exact ⟨gt5, _, g6, gl5, yAddC a 4 v z, e5, rfl, rfl, by rw [x3]; exact q3, ⟨hd.1.addC (by omega) (by omega) hv10 m4 (fun _ => hv), hd.2.1.addC, x2, y_cutB hd.2.2.2⟩, q4.pt x4 x5, by omega, fr.1.tr x6⟩
theorem s_seatL {B : Nat → Nat} {L n : Nat} {gw : zM} (hn : n ≤ 10) (hgw : gw 0 0 = nI n) : ∀ (m e c i S N N' : Nat) (gt g : zM) (gl : zL), yAt B L gt g gl e c → g 0 15 = 1 → g 0 16 = nI n → L - e ≤ m → i < e → S < 2 ^ 10 → m + 2 < N → m + 2 < N' → (∃ gt' x g' gl', zLp (fX7_isSeatPiece_L38 gw) N (nI S, nI i, gt) = some (.inr gt') ∧ zLp fX10_wantSeat_L59 N' (nI S, g, gl) = some (x, g', gl') ∧ pFz g g' gl gl' ∧ ((g' 0 15 = 0 ∧ gt' 0 2 = g' 0 11) ∨ (g' 0 15 = 1 ∧ ∃ e' c', yAt B L gt' g' gl' e' c' ∧ c' ≠ 3))) ∨ (∃ gt' S' g' gl' e', zLp (fX7_isSeatPiece_L38 gw) N (nI S, nI i, gt) = some (.inl (nI S', gt')) ∧ zLp fX10_wantSeat_L59 N' (nI S, g, gl) = some (nI S', g', gl') ∧ S' < 2 ^ 10 ∧ g' 0 15 = 1 ∧ yAt B L gt' g' gl' e' 3 ∧ e ≤ e' ∧ pFz g g' gl gl') := by
  intro m
  induction m with
  | zero =>
    intro e c i S N N' gt g gl h h15 h16 hm hi hS hN hN'
    obtain ⟨M, rfl⟩ : ∃ M, N = M + 1 := ⟨N - 1, by omega⟩
    obtain ⟨M', rfl⟩ : ∃ M, N' = M + 2 := ⟨N' - 2, by omega⟩
    have hL := h.1.1
    have he := h.2.1
    have h4 := h.2.2.2.2.2.1
    have h6 := h.2.2.2.2.2.2.1
    have hc4 : c ≤ 4 := by rcases h6 with h | h | h | h | h <;> omega
    by_cases c3 : c = 3
    · right
      subst c3
      rcases s_want (j := 8) (by omega) h h15 with ⟨-, w2, -⟩ | ⟨w, -⟩
      · refine ⟨gt, S, g, gl, e, y_lpr ?_, y_lpr ?_, hS, h15, h, Nat.le_refl _, pFz.rf g gl⟩
        · unfold fX7_isSeatPiece_L38
          rw [y_u3, show (200 : Int32) = nI 200 from rfl, y_le_f (by omega) (by omega), h4, if_pos (show nI 3 = 3 from rfl)]
        · unfold fX10_wantSeat_L59
          rw [y_u3, h15, if_neg (show ¬ (1 : Int32) = 0 by decide), show (1111 : Int64) = lN (yWn 8) from rfl, w2, y_b1, if_pos rfl]
      · omega
    · have n3 : ¬ nI c = 3 := fun x => c3 ((nI_eq (by omega) (by omega)).mp (x.trans (show (3 : Int32) = nI 3 from rfl)))
      rcases s_want (j := 8) (by omega) h h15 with ⟨w1, w2, -⟩ | ⟨w0, w1, w2, -⟩
      · left
        refine ⟨gt, nI S, g, gl, y_lpr ?_, y_lpr ?_, pFz.rf g gl, Or.inr ⟨h15, e, c, h, c3⟩⟩
        · unfold fX7_isSeatPiece_L38
          rw [y_u3, show (200 : Int32) = nI 200 from rfl, y_le_f (by omega) (by omega), h4, if_neg n3, w1, y_b1, if_pos rfl]
        · unfold fX10_wantSeat_L59
          rw [y_u3, h15, if_neg (show ¬ (1 : Int32) = 0 by decide), show (1111 : Int64) = lN (yWn 8) from rfl, w2, y_b1, if_pos rfl]
      · obtain ⟨g1, gl1, a1, a2, a3⟩ := h.go
        have g15 : g1 0 15 = 1 := by rw [a3.o15]; exact h15
        have g16 : g1 0 16 = nI n := by rw [a3.z.2.2.2.2.1]; exact h16
        rcases s_number (lo := 0) (hi := nI n - 1) (l := 0) a2 g15 rfl (by omega) with ⟨gt2, v, g2, n1, n2, n3', n4, n5⟩ | ⟨gt2, v, g2, gl2, e2, n1, n2, n3', n4, n5, n6, n7, n8, n9, n10⟩
        · left
          refine ⟨gt2, nI S ||| 0, g2, gl1, y_lpr ?_, ?_, a3.z.tr n5, Or.inl ⟨n3', n4⟩⟩
          · unfold fX7_isSeatPiece_L38
            rw [y_u3, show (200 : Int32) = nI 200 from rfl, y_le_f (by omega) (by omega), h4, if_neg n3, w1, y_b1, if_neg (show ¬ (1 : Int32) = 0 by decide), hgw, n1, y_b2, if_pos rfl]
          · refine (y_lpl (s' := (nI S ||| 0, g2, gl1)) ?_).trans (y_lpr ?_)
            · unfold fX10_wantSeat_L59 fX10_wantSeat_L59J107
              rw [y_u3, h15, if_neg (show ¬ (1 : Int32) = 0 by decide), show (1111 : Int64) = lN (yWn 8) from rfl, w2, y_b1, if_neg (show ¬ (1 : Int32) = 0 by decide), a1, y_b2, g16, n2, y_b3, n3', if_pos rfl, y_lt_e]
            · unfold fX10_wantSeat_L59
              rw [y_u3, n3', if_pos rfl]
        · exfalso
          obtain ⟨gt3, e3, c3', p1, p2, p3, p4⟩ := n8
          have := p2.2.1
          omega
  | succ m ih =>
    intro e c i S N N' gt g gl h h15 h16 hm hi hS hN hN'
    obtain ⟨M, rfl⟩ : ∃ M, N = M + 1 := ⟨N - 1, by omega⟩
    obtain ⟨M', rfl⟩ : ∃ M, N' = M + 2 := ⟨N' - 2, by omega⟩
    have hL := h.1.1
    have he := h.2.1
    have h4 := h.2.2.2.2.2.1
    have h6 := h.2.2.2.2.2.2.1
    have hc4 : c ≤ 4 := by rcases h6 with h | h | h | h | h <;> omega
    by_cases c3 : c = 3
    · right
      subst c3
      rcases s_want (j := 8) (by omega) h h15 with ⟨-, w2, -⟩ | ⟨w, -⟩
      · refine ⟨gt, S, g, gl, e, y_lpr ?_, y_lpr ?_, hS, h15, h, Nat.le_refl _, pFz.rf g gl⟩
        · unfold fX7_isSeatPiece_L38
          rw [y_u3, show (200 : Int32) = nI 200 from rfl, y_le_f (by omega) (by omega), h4, if_pos (show nI 3 = 3 from rfl)]
        · unfold fX10_wantSeat_L59
          rw [y_u3, h15, if_neg (show ¬ (1 : Int32) = 0 by decide), show (1111 : Int64) = lN (yWn 8) from rfl, w2, y_b1, if_pos rfl]
      · omega
    · have n3 : ¬ nI c = 3 := fun x => c3 ((nI_eq (by omega) (by omega)).mp (x.trans (show (3 : Int32) = nI 3 from rfl)))
      rcases s_want (j := 8) (by omega) h h15 with ⟨w1, w2, -⟩ | ⟨w0, w1, w2, -⟩
      · left
        refine ⟨gt, nI S, g, gl, y_lpr ?_, y_lpr ?_, pFz.rf g gl, Or.inr ⟨h15, e, c, h, c3⟩⟩
        · unfold fX7_isSeatPiece_L38
          rw [y_u3, show (200 : Int32) = nI 200 from rfl, y_le_f (by omega) (by omega), h4, if_neg n3, w1, y_b1, if_pos rfl]
        · unfold fX10_wantSeat_L59
          rw [y_u3, h15, if_neg (show ¬ (1 : Int32) = 0 by decide), show (1111 : Int64) = lN (yWn 8) from rfl, w2, y_b1, if_pos rfl]
      · obtain ⟨g1, gl1, a1, a2, a3⟩ := h.go
        have g15 : g1 0 15 = 1 := by rw [a3.o15]; exact h15
        have g16 : g1 0 16 = nI n := by rw [a3.z.2.2.2.2.1]; exact h16
        rcases s_number (lo := 0) (hi := nI n - 1) (l := 0) a2 g15 rfl (by omega) with ⟨gt2, v, g2, n1, n2, n3', n4, n5⟩ | ⟨gt2, v, g2, gl2, e2, n1, n2, n3', n4, n5, n6, n7, n8, n9, n10⟩
        · left
          refine ⟨gt2, nI S ||| 0, g2, gl1, y_lpr ?_, ?_, a3.z.tr n5, Or.inl ⟨n3', n4⟩⟩
          · unfold fX7_isSeatPiece_L38
            rw [y_u3, show (200 : Int32) = nI 200 from rfl, y_le_f (by omega) (by omega), h4, if_neg n3, w1, y_b1, if_neg (show ¬ (1 : Int32) = 0 by decide), hgw, n1, y_b2, if_pos rfl]
          · refine (y_lpl (s' := (nI S ||| 0, g2, gl1)) ?_).trans (y_lpr ?_)
            · unfold fX10_wantSeat_L59 fX10_wantSeat_L59J107
              rw [y_u3, h15, if_neg (show ¬ (1 : Int32) = 0 by decide), show (1111 : Int64) = lN (yWn 8) from rfl, w2, y_b1, if_neg (show ¬ (1 : Int32) = 0 by decide), a1, y_b2, g16, n2, y_b3, n3', if_pos rfl, y_lt_e]
            · unfold fX10_wantSeat_L59
              rw [y_u3, n3', if_pos rfl]
        · have hv := y_below (by omega) n4 n5
          obtain ⟨gt3, e3, c3', p1, p2, p3, p4⟩ := n8
          have e3L := p2.2.1
          have hS2 : S ||| 2 ^ v < 2 ^ 10 := y_or_lt2 hS (by omega)
          have sc : fX7_isSeatPiece_L38 gw (nI S, nI i, gt) = some (.inl (nI (S ||| 2 ^ v), nI (i + 1), gt3)) := by
            unfold fX7_isSeatPiece_L38
            rw [y_u3, show (200 : Int32) = nI 200 from rfl, y_le_f (by omega) (by omega), h4, if_neg n3, w1, y_b1, if_neg (show ¬ (1 : Int32) = 0 by decide), hgw, n1, y_b2, if_neg (show ¬ (1 : Int32) = 0 by decide), n6, y_one (by omega), y_or, y_lt_e, p1, y_b1, y_lt_e, y_a1]
          have sm : fX10_wantSeat_L59 (nI S, g, gl) = some (.inl (nI (S ||| 2 ^ v), g2, gl2)) := by
            unfold fX10_wantSeat_L59 fX10_wantSeat_L59J107
            rw [y_u3, h15, if_neg (show ¬ (1 : Int32) = 0 by decide), show (1111 : Int64) = lN (yWn 8) from rfl, w2, y_b1, if_neg (show ¬ (1 : Int32) = 0 by decide), a1, y_b2, g16, n2, y_b3, n7, if_neg (show ¬ (1 : Int32) = 0 by decide), y_one (by omega), y_or, y_lt_e]
          have fr := a3.z.tr n10
          have g16' : g2 0 16 = nI n := by rw [fr.2.2.2.2.1]; exact h16
          rw [y_lpl sc, y_lpl sm]
          rcases ih e3 c3' (i + 1) (S ||| 2 ^ v) M (M' + 1) gt3 g2 gl2 p2 n7 g16' (by omega) (by omega) hS2 (by omega) (by omega) with ⟨gt', x, g', gl', r1, r2, r3, r4⟩ | ⟨gt', S', g', gl', e', r1, r2, r3, r4, r5, r6, r7⟩
          · left; exact ⟨gt', x, g', gl', r1, r2, fr.tr r3, r4⟩
          · right; exact ⟨gt', S', g', gl', e', r1, r2, r3, r4, r5, by omega, fr.tr r7⟩
theorem s_seat {B : Nat → Nat} {L e c : Nat} {gt gw g : zM} {gl : zL} {a : yA} (h : yAt B L gt g gl e c) (h15 : g 0 15 = 1) (hd : yDr gw g a) (hw : fX7_isWord gt 7 = some 1) : yRes B L g gl e (fX7_isSeatPiece gt gw) (fX10_wantSeat g gl) := by
  have h0 := hd.1.1
  have hL := h.1.1
  unfold fX7_isSeatPiece fX10_wantSeat fX10_wantSeat_J21 fX10_wantSeat_J22
  rw [h15, if_neg (show ¬ (1 : Int32) = 0 by decide), hd.n.2.2, hd.2.1.1.2.2, show (8 : Int32) = nI 8 from rfl]
  have dloop : ∀ (g : zM) (gl : zL) (x : Int32), g 0 15 = 0 → zLp fX10_wantSeat_L59 zFU (x, g, gl) = some (x, g, gl) := fun g gl x hg => by
    obtain ⟨M, hM, -⟩ := y_fu 1 (by omega)
    rw [hM]
    apply y_lpr
    unfold fX10_wantSeat_L59
    rw [y_u3, hg, if_pos rfl]
  have dj : ∀ (g : zM) (gl : zL) (x : Int32), g 0 15 = 0 → fX10_wantSeat_J58 g gl x = some (g, gl) := fun g gl x hg => by
    unfold fX10_wantSeat_J58
    rw [dloop g gl x hg, y_b1, y_u3, d_end hg, y_b2, hg, if_pos rfl]
  by_cases c8 : 8 ≤ a 0 2
  · left
    rw [y_le_t c8 (by omega), y_le_t c8 (by omega), y_gd (show zBo 0 = true from rfl), y_lt_e, d_word y_dead, y_b2, d_number y_dead, y_b3, y_dead, if_pos rfl, dj _ _ _ y_dead]
    exact ⟨_, _, _, _, rfl, rfl, y_dead, by rw [zPu_j (by decide)]; exact h.2.2.1, hd.2.2.2, (pFz.g15 g gl 0).1⟩
  rw [y_le_f (by omega) (by omega), y_le_f (by omega) (by omega), y_gd (show zBo 1 = true from rfl), y_lt_e, y_liveM h15]
  rcases s_want (j := 7) (by omega) h h15 with ⟨w, -⟩ | ⟨-, -, -, g1, gl1, w1, w2, w3, w4⟩
  · rw [hw] at w; exact absurd (Option.some.inj w) (by decide)
  have d1 := hd.z w4
  rw [show (377669 : Int64) = lN (yWn 7) from rfl, w1, y_b2, d1.n.1, hd.2.1.1.1]
  rcases s_number (lo := 0) (hi := nI (a 0 0) - 1) (l := 0) w3 w2 rfl (by omega) with ⟨gt2, v, g2, n1, n2, n3, n4, n5⟩ | ⟨gt2, v, g2, gl2, e2, n1, n2, n3, n4, n5, n6, n7, n8, n9, n10⟩
  · left
    rw [n1, y_b2, if_pos rfl, n2, y_b3, n3, if_pos rfl, dj _ _ _ n3]
    exact ⟨_, _, _, _, rfl, rfl, n3, n4, hd.2.2.2, (w4.tr n5).1⟩
  have hv := y_below (by omega) n4 n5
  obtain ⟨gt3, e3, c3, p1, p2, p3, p4⟩ := n8
  have d2 := d1.z n10
  have hS2 : 2 ^ v < 2 ^ 10 := y_pow_lt (by omega)
  rw [n1, y_b2, if_neg (show ¬ (1 : Int32) = 0 by decide), y_lt_e, n6, y_one (by omega), p1, y_b1, n2, y_b3, n7, if_neg (show ¬ (1 : Int32) = 0 by decide), y_one (by omega)]
  unfold fX10_wantSeat_J58
  rcases s_seatL (gw := gw) h0.2.1 hd.2.1.1.1 L e3 c3 0 (2 ^ v) zFU zFU gt3 g2 gl2 p2 n7 d2.n.1 (by omega) (by omega) hS2 (by unfold zFU; omega) (by unfold zFU; omega) with ⟨gt', x, g', gl', r1, r2, r3, r4⟩ | ⟨gt', S', g', gl', e', r1, r2, r3, r4, r5, r6, r7⟩
  · left
    have r1' : zLp (fX7_isSeatPiece_L38 gw) zFU (nI (2 ^ v), 0, gt3) = some (.inr gt') := r1
    rw [r1', y_b1, y_smr, y_u1, r2, y_b1, y_u3]
    rcases r4 with ⟨s1, s2⟩ | ⟨s1, e', c', s2, s3⟩
    · rw [d_end s1, y_b2, s1, if_pos rfl]
      exact ⟨_, _, _, _, rfl, rfl, s1, s2, hd.2.2.2, ((w4.tr n10).tr r3).1⟩
    · rcases s_end s2 s1 with ⟨-, g5, q1, q2, q3, q4⟩ | ⟨q, -⟩
      · rw [q1, y_b2, q2, if_pos rfl]
        exact ⟨_, _, _, _, rfl, rfl, q2, q3, hd.2.2.2, (((w4.tr n10).tr r3).tr q4).1⟩
      · exact absurd q s3
  · right
    have r1' : zLp (fX7_isSeatPiece_L38 gw) zFU (nI (2 ^ v), 0, gt3) = some (.inl (nI S', gt')) := r1
    rcases s_end r5 r4 with ⟨q, -⟩ | ⟨-, g5, gl5, q1, q2, q3, q4⟩
    · exact absurd rfl q
    have fr := ((w4.tr n10).tr r7).tr q4
    have d5 := hd.z fr
    obtain ⟨g6, x1, x2, x3, x4, x5, x6⟩ := s10_addCut (gl := gl5) (K := 5) (A := S') (B := 0) d5.2.2.1 (by omega)
    have x1' : fX10_addCut g5 gl5 5 (nI S') 0 = some g6 := x1
    have ac : fX8_addCut gw 5 (nI S') 0 = _ := s8_addCut hd.1 hd.2.1 (by omega) 5 S' 0
    rw [r1', y_b1, y_sml, y_u2, ac, y_b2, r5.2.2.2.2.2.1, if_pos (show nI 3 = 3 from rfl), r2, y_b1, y_u3, q1, y_b2, q2, if_neg (show ¬ (1 : Int32) = 0 by decide), x1', y_b1]
    exact ⟨gt', _, g6, gl5, yAddC a 5 S' 0, e', rfl, rfl, by rw [x3]; exact q2, ⟨hd.1.addC (by omega) (by omega) r3 (by omega) (fun h => by omega), hd.2.1.addC, x2, y_cutB hd.2.2.2⟩, q3.pt x4 x5, by omega, fr.1.tr x6⟩
