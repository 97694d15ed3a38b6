/-! ===== a text ===== -/
theorem s_readB {B : Nat → Nat} {L e c i M M' : Nat} {gt gw g : zM} {gl : zL} {a : yA} (h : yAt B L gt g gl e c) (h15 : g 0 15 = 1) (hd : yDr gw g a) (hi : i < e)
    (go : ∀ (rc : Option (Int32 × zM × zM)) (rm : Option (zM × zL)), yRes B L g gl e rc rm → (∀ gt' gw', rc = some (0, gt', gw') → fX7_isReadInto_L53 (nI i, gt, gw) = some (.inr (.inr (gt', gw')))) → (∀ gt' gw' gt2, rc = some (1, gt', gw') → fX7_step gt' = some gt2 → fX7_isReadInto_L53 (nI i, gt, gw) = some (.inl (nI (i + 1), gt2, gw'))) → (∀ g' gl', rm = some (g', gl') → fX10_wantWorks_L58 (g, gl) = some (.inl (g', gl'))) → (∃ gt' gw' g' gl', zLp fX7_isReadInto_L53 (M + 1) (nI i, gt, gw) = some (.inr (gt', gw')) ∧ zLp fX10_wantWorks_L58 (M' + 2) (g, gl) = some (g', gl') ∧ g' 0 15 = 0 ∧ gt' 0 2 = g' 0 11 ∧ zAllB (gw' 7) 14 = true ∧ pFp g g' gl gl') ∨ (∃ gt' gw' g' gl' a', zLp fX7_isReadInto_L53 (M + 1) (nI i, gt, gw) = some (.inl (gt', gw')) ∧ gt' 0 4 = 0 ∧ zLp fX10_wantWorks_L58 (M' + 2) (g, gl) = some (g', gl') ∧ g' 0 15 = 1 ∧ yDr gw' g' a' ∧ pFp g g' gl gl')) :
    (∃ gt' gw' g' gl', zLp fX7_isReadInto_L53 (M + 1) (nI i, gt, gw) = some (.inr (gt', gw')) ∧ zLp fX10_wantWorks_L58 (M' + 2) (g, gl) = some (g', gl') ∧ g' 0 15 = 0 ∧ gt' 0 2 = g' 0 11 ∧ zAllB (gw' 7) 14 = true ∧ pFp g g' gl gl') ∨ (∃ gt' gw' g' gl' a', zLp fX7_isReadInto_L53 (M + 1) (nI i, gt, gw) = some (.inl (gt', gw')) ∧ gt' 0 4 = 0 ∧ zLp fX10_wantWorks_L58 (M' + 2) (g, gl) = some (g', gl') ∧ g' 0 15 = 1 ∧ yDr gw' g' a' ∧ pFp g g' gl gl') := by
  have hL := h.1.1
  have he := h.2.1
  have h4 := h.2.2.2.2.2.1
  have h6 := h.2.2.2.2.2.2.1
  have hc4 : c ≤ 4 := by rcases h6 with h | h | h | h | h <;> omega
  by_cases c0 : c = 0
  · right
    have hg : g 0 10 = 0 := by
      rcases h6 with h | h | h | h | h
      · exact h.2.2
      · omega
      · omega
      · omega
      · omega
    refine ⟨gt, gw, g, gl, a, y_lpr ?_, by rw [h4, c0]; rfl, y_lpr ?_, h15, hd, pFp.rf g gl⟩
    · unfold fX7_isReadInto_L53
      rw [y_u3, show (200 : Int32) = nI 200 from rfl, y_le_f (by omega) (by omega), h4, c0, if_pos (show nI 0 = 0 from rfl)]
    · unfold fX10_wantWorks_L58
      rw [y_u2, h15, if_neg (show ¬ (1 : Int32) = 0 by decide), hg, if_pos rfl]
  · have n0 : ¬ nI c = 0 := fun x => c0 ((nI_eq (by omega) (by omega)).mp (x.trans (show (0 : Int32) = nI 0 from rfl)))
    have g0 : ¬ g 0 10 = 0 := by
      rcases h6 with h | h | h | h | h
      · omega
      · rw [h.2]; decide
      · rw [h.2.1]; decide
      · rw [h.2.1]; decide
      · rw [h.2.1]; decide
    have hC : fX7_isReadInto_L53 (nI i, gt, gw) = (zB1 (fX7_isWord gt 1) fun v17 => if v17 = 0 then (zB1 (fX7_isWord gt 5) fun v23 => if v23 = 0 then (zB1 (fX7_isWord gt 7) fun v24 => if v24 = 0 then (zB1 (fX7_isWord gt 9) fun v25 => if v25 = 0 then (fX7_isReadInto_L53J139 (nI i) gt gw) else (zB3 (fX7_isLatePiece gt gw) fun v28 gt_29 gw_30 => if v28 = 0 then (fX7_isReadInto_L53J139 (nI i) gt_29 gw_30) else (fX7_isReadInto_L53J140 (nI i) 1 gt_29 gw_30))) else (zB3 (fX7_isSeatPiece gt gw) fun v31 gt_32 gw_33 => fX7_isReadInto_L53J140 (nI i) v31 gt_32 gw_33)) else (zB3 (fX7_isFirstPiece gt gw) fun v34 gt_35 gw_36 => fX7_isReadInto_L53J140 (nI i) v34 gt_35 gw_36)) else (zB3 (fX7_isTiePiece gt gw) fun v37 gt_38 gw_39 => fX7_isReadInto_L53J140 (nI i) v37 gt_38 gw_39)) := by
      unfold fX7_isReadInto_L53
      rw [y_u3, show (200 : Int32) = nI 200 from rfl, y_le_f (by omega) (by omega), h4, if_neg n0]
    have hMm : fX10_wantWorks_L58 (g, gl) = (zB1 (fX10_isWord g gl (lN (yWn 1))) fun v21 => if v21 = 0 then (zB1 (fX10_isWord g gl (lN (yWn 5))) fun v22 => if v22 = 0 then (zB1 (fX10_isWord g gl (lN (yWn 7))) fun v23 => if v23 = 0 then (zB1 (fX10_isWord g gl (lN (yWn 9))) fun v24 => if v24 = 0 then (zLt (zPu g 0 15 0) fun gm_25 => some (.inl (gm_25, gl))) else (zB2 (fX10_wantLate g gl) fun gm_26 gmL_27 => some (.inl (gm_26, gmL_27)))) else (zB2 (fX10_wantSeat g gl) fun gm_28 gmL_29 => some (.inl (gm_28, gmL_29)))) else (zB2 (fX10_wantFirst g gl) fun gm_30 gmL_31 => some (.inl (gm_30, gmL_31)))) else (zB2 (fX10_wantTie g gl) fun gm_32 gmL_33 => some (.inl (gm_32, gmL_33)))) := by
      unfold fX10_wantWorks_L58
      rw [y_u2, h15, if_neg (show ¬ (1 : Int32) = 0 by decide), if_neg g0]
      rfl
    have j0 : ∀ gt' gw', fX7_isReadInto_L53J140 (nI i) 0 gt' gw' = some (.inr (.inr (gt', gw'))) := fun gt' gw' => by
      unfold fX7_isReadInto_L53J140
      rw [if_pos rfl]
    have j1 : ∀ gt' gw' gt2, fX7_step gt' = some gt2 → fX7_isReadInto_L53J140 (nI i) 1 gt' gw' = some (.inl (nI (i + 1), gt2, gw')) := fun gt' gw' gt2 hs => by
      unfold fX7_isReadInto_L53J140
      rw [if_neg (show ¬ (1 : Int32) = 0 by decide), hs, y_b1, y_lt_e, y_a1]
    have hj : ∀ j, j < 10 → (fX7_isWord gt j = some 0 ∧ fX10_isWord g gl (lN (yWn j)) = some 0) ∨ (fX7_isWord gt j = some 1 ∧ fX10_isWord g gl (lN (yWn j)) = some 1) := fun j hj => by
      rcases s_want (j := j) hj h h15 with ⟨w1, w, -⟩ | ⟨-, w1, w, -⟩
      · exact Or.inl ⟨w1, w⟩
      · exact Or.inr ⟨w1, w⟩
    rcases hj 1 (by omega) with ⟨u1, w1⟩ | ⟨u1, w1⟩
    · rw [u1, y_b1, if_pos rfl] at hC
      rw [w1, y_b1, if_pos rfl] at hMm
      rcases hj 5 (by omega) with ⟨u2, w2⟩ | ⟨u2, w2⟩
      · rw [u2, y_b1, if_pos rfl] at hC
        rw [w2, y_b1, if_pos rfl] at hMm
        rcases hj 7 (by omega) with ⟨u3, w3⟩ | ⟨u3, w3⟩
        · rw [u3, y_b1, if_pos rfl] at hC
          rw [w3, y_b1, if_pos rfl] at hMm
          rcases hj 9 (by omega) with ⟨u4, w4⟩ | ⟨u4, w4⟩
          · rw [u4, y_b1, if_pos rfl] at hC
            rw [w4, y_b1, if_pos rfl, y_lt_e] at hMm
            left
            refine ⟨gt, gw, zPu g 0 15 0, gl, y_lpr (hC.trans (j0 gt gw)), (y_lpl hMm).trans (y_lpr ?_), y_dead, by rw [zPu_j (by decide)]; exact h.2.2.1, hd.2.2.2, (pFz.g15 g gl 0).1⟩
            unfold fX10_wantWorks_L58
            rw [y_u2, y_dead, if_pos rfl]
          · rw [u4, y_b1, if_neg (show ¬ (1 : Int32) = 0 by decide)] at hC
            rw [w4, y_b1, if_neg (show ¬ (1 : Int32) = 0 by decide)] at hMm
            refine go _ _ (s_late h h15 hd u4) (fun gt' gw' hr => ?_) (fun gt' gw' gt2 hr hs => ?_) (fun g' gl' hr => ?_)
            · rw [hC, hr, y_b3, if_pos rfl]; exact j0 gt' gw'
            · rw [hC, hr, y_b3, if_neg (show ¬ (1 : Int32) = 0 by decide)]; exact j1 gt' gw' gt2 hs
            · rw [hMm, hr, y_b2]
        · rw [u3, y_b1, if_neg (show ¬ (1 : Int32) = 0 by decide)] at hC
          rw [w3, y_b1, if_neg (show ¬ (1 : Int32) = 0 by decide)] at hMm
          refine go _ _ (s_seat h h15 hd u3) (fun gt' gw' hr => ?_) (fun gt' gw' gt2 hr hs => ?_) (fun g' gl' hr => ?_)
          · rw [hC, hr, y_b3]; exact j0 gt' gw'
          · rw [hC, hr, y_b3]; exact j1 gt' gw' gt2 hs
          · rw [hMm, hr, y_b2]
      · rw [u2, y_b1, if_neg (show ¬ (1 : Int32) = 0 by decide)] at hC
        rw [w2, y_b1, if_neg (show ¬ (1 : Int32) = 0 by decide)] at hMm
        refine go _ _ (s_first h h15 hd u2) (fun gt' gw' hr => ?_) (fun gt' gw' gt2 hr hs => ?_) (fun g' gl' hr => ?_)
        · rw [hC, hr, y_b3]; exact j0 gt' gw'
        · rw [hC, hr, y_b3]; exact j1 gt' gw' gt2 hs
        · rw [hMm, hr, y_b2]
    · rw [u1, y_b1, if_neg (show ¬ (1 : Int32) = 0 by decide)] at hC
      rw [w1, y_b1, if_neg (show ¬ (1 : Int32) = 0 by decide)] at hMm
      refine go _ _ (s_tie h h15 hd u1) (fun gt' gw' hr => ?_) (fun gt' gw' gt2 hr hs => ?_) (fun g' gl' hr => ?_)
      · rw [hC, hr, y_b3]; exact j0 gt' gw'
      · rw [hC, hr, y_b3]; exact j1 gt' gw' gt2 hs
      · rw [hMm, hr, y_b2]
theorem s_readS {B : Nat → Nat} {L e m N N' i : Nat} {gt gw g : zM} {gl : zL} {rc : Option (Int32 × zM × zM)} {rm : Option (zM × zL)} (hr : yRes B L g gl e rc rm)
    (hC0 : ∀ gt' gw', rc = some (0, gt', gw') → fX7_isReadInto_L53 (nI i, gt, gw) = some (.inr (.inr (gt', gw'))))
    (hC1 : ∀ gt' gw' gt2, rc = some (1, gt', gw') → fX7_step gt' = some gt2 → fX7_isReadInto_L53 (nI i, gt, gw) = some (.inl (nI (i + 1), gt2, gw')))
    (hM : ∀ g' gl', rm = some (g', gl') → fX10_wantWorks_L58 (g, gl) = some (.inl (g', gl')))
    (hi : i < e) (hm : L - e ≤ m + 1)
    (ih : ∀ (e c i : Nat) (gt gw g : zM) (gl : zL) (a : yA), yAt B L gt g gl e c → g 0 15 = 1 → yDr gw g a → L - e ≤ m → i < e → (∃ gt' gw' g' gl', zLp fX7_isReadInto_L53 N (nI i, gt, gw) = some (.inr (gt', gw')) ∧ zLp fX10_wantWorks_L58 (N' + 1) (g, gl) = some (g', gl') ∧ g' 0 15 = 0 ∧ gt' 0 2 = g' 0 11 ∧ zAllB (gw' 7) 14 = true ∧ pFp g g' gl gl') ∨ (∃ gt' gw' g' gl' a', zLp fX7_isReadInto_L53 N (nI i, gt, gw) = some (.inl (gt', gw')) ∧ gt' 0 4 = 0 ∧ zLp fX10_wantWorks_L58 (N' + 1) (g, gl) = some (g', gl') ∧ g' 0 15 = 1 ∧ yDr gw' g' a' ∧ pFp g g' gl gl')) :
    (∃ gt' gw' g' gl', zLp fX7_isReadInto_L53 (N + 1) (nI i, gt, gw) = some (.inr (gt', gw')) ∧ zLp fX10_wantWorks_L58 (N' + 2) (g, gl) = some (g', gl') ∧ g' 0 15 = 0 ∧ gt' 0 2 = g' 0 11 ∧ zAllB (gw' 7) 14 = true ∧ pFp g g' gl gl') ∨ (∃ gt' gw' g' gl' a', zLp fX7_isReadInto_L53 (N + 1) (nI i, gt, gw) = some (.inl (gt', gw')) ∧ gt' 0 4 = 0 ∧ zLp fX10_wantWorks_L58 (N' + 2) (g, gl) = some (g', gl') ∧ g' 0 15 = 1 ∧ yDr gw' g' a' ∧ pFp g g' gl gl') := by
  rcases hr with ⟨gt', gw', g', gl', r1, r2, r3, r4, r5, r6⟩ | ⟨gt', gw', g', gl', a', e', r1, r2, r3, r4, r5, r6, r7⟩
  · left
    refine ⟨gt', gw', g', gl', y_lpr (hC0 _ _ r1), (y_lpl (hM _ _ r2)).trans (y_lpr ?_), r3, r4, r5, r6⟩
    unfold fX10_wantWorks_L58
    rw [y_u2, r3, if_pos rfl]
  · obtain ⟨gt2, e2, c2, p1, p2, p3, p4⟩ := r5
    have hL := p2.2.1
    rw [y_lpl (hC1 _ _ _ r1 p1), y_lpl (hM _ _ r2)]
    rcases ih e2 c2 (i + 1) gt2 gw' g' gl' a' p2 r3 r4 (by omega) (by omega) with ⟨gt3, gw3, g3, gl3, q1, q2, q3, q4, q5, q6⟩ | ⟨gt3, gw3, g3, gl3, a3, q1, q2, q3, q4, q5, q6⟩
    · left; exact ⟨gt3, gw3, g3, gl3, q1, q2, q3, q4, q5, r7.tr q6⟩
    · right; exact ⟨gt3, gw3, g3, gl3, a3, q1, q2, q3, q4, q5, r7.tr q6⟩
theorem s_readL {B : Nat → Nat} {L : Nat} : ∀ (m : Nat) (e c i N N' : Nat) (gt gw g : zM) (gl : zL) (a : yA), yAt B L gt g gl e c → g 0 15 = 1 → yDr gw g a → L - e ≤ m → i < e → m < N → m < N' → (∃ gt' gw' g' gl', zLp fX7_isReadInto_L53 N (nI i, gt, gw) = some (.inr (gt', gw')) ∧ zLp fX10_wantWorks_L58 (N' + 1) (g, gl) = some (g', gl') ∧ g' 0 15 = 0 ∧ gt' 0 2 = g' 0 11 ∧ zAllB (gw' 7) 14 = true ∧ pFp g g' gl gl') ∨ (∃ gt' gw' g' gl' a', zLp fX7_isReadInto_L53 N (nI i, gt, gw) = some (.inl (gt', gw')) ∧ gt' 0 4 = 0 ∧ zLp fX10_wantWorks_L58 (N' + 1) (g, gl) = some (g', gl') ∧ g' 0 15 = 1 ∧ yDr gw' g' a' ∧ pFp g g' gl gl') := by
  intro m
  induction m with
  | zero =>
    intro e c i N N' gt gw g gl a h h15 hd hm hi hN hN'
    obtain ⟨M, rfl⟩ : ∃ M, N = M + 1 := ⟨N - 1, by omega⟩
    obtain ⟨M', rfl⟩ : ∃ M, N' = M + 1 := ⟨N' - 1, by omega⟩
    exact s_readB h h15 hd hi (fun rc rm hr hC0 hC1 hM => by
      rcases hr with ⟨gt', gw', g', gl', r1, r2, r3, r4, r5, r6⟩ | ⟨gt', gw', g', gl', a', e', r1, r2, r3, r4, r5, r6, r7⟩
      · left
        refine ⟨gt', gw', g', gl', y_lpr (hC0 _ _ r1), (y_lpl (hM _ _ r2)).trans (y_lpr ?_), r3, r4, r5, r6⟩
        unfold fX10_wantWorks_L58
        rw [y_u2, r3, if_pos rfl]
      · exfalso
        obtain ⟨gt2, e2, c2, p1, p2, p3, p4⟩ := r5
        have hL := p2.2.1
        omega)
  | succ m ih =>
    intro e c i N N' gt gw g gl a h h15 hd hm hi hN hN'
    obtain ⟨M, rfl⟩ : ∃ M, N = M + 1 := ⟨N - 1, by omega⟩
    obtain ⟨M', rfl⟩ : ∃ M, N' = M + 1 := ⟨N' - 1, by omega⟩
    exact s_readB h h15 hd hi (fun rc rm hr hC0 hC1 hM => s_readS hr hC0 hC1 hM hi hm (fun e c i gt gw g gl a h1 h2 h3 h4 h5 => ih e c i M M' gt gw g gl a h1 h2 h3 h4 h5 (by omega) (by omega)))
