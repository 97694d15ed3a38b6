/-! ===== tokens in the model ===== -/
def pTm (B : Nat → Nat) (L : Nat) (g : zM) : Prop := L ≤ 200 ∧ g 0 9 = nI L ∧ ∀ i, i < L → B i < 256 ∧ g 5 i = nI (B i)
theorem pTB.m {B : Nat → Nat} {L : Nat} {gt g : zM} (h : pTB B L gt g) : pTm B L g := ⟨h.1, h.2.2.1, fun i hi => ⟨(h.2.2.2 i hi).1, (h.2.2.2 i hi).2.1⟩⟩
theorem pTm.pu {B : Nat → Nat} {L j : Nat} {v : Int32} {g : zM} (h : pTm B L g) (hj : j ≠ 9) : pTm B L (zPu g 0 j v) := ⟨h.1, by rw [zPu_j (fun e => hj e.symm)]; exact h.2.1, fun i hi => by rw [zPu_k (by decide)]; exact h.2.2 i hi⟩
theorem s10_byteAt {B : Nat → Nat} {L k : Nat} {g : zM} {gl : zL} (h : pTm B L g) (hk : k < 1000) : fX10_byteAt g gl (nI k) = some (if k < L then nI (B k) else -1) := by
  have h1 := h.1
  unfold fX10_byteAt
  rw [h.2.1]
  by_cases c : k < L
  · rw [y_le_f c (by omega), y_gin (by omega) (by omega), y_lt_e, y_cl (by omega), (h.2.2 k c).2, if_pos c]
  · rw [y_le_t (by omega) (by omega), if_neg c]
theorem y_32 {u : Nat} (h : u < 256) : nI u = 32 ↔ u = 32 := by
  rw [show (32 : Int32) = nI 32 from rfl, y_eq (by omega) (by omega)]
theorem s10_skip {B : Nat → Nat} {L a s : Nat} {g : zM} {gl : zL} (hT : pTm B L g) (ha : a ≤ s) (hs : s ≤ L) (h32 : ∀ j, a ≤ j → j < s → B j = 32) (hn : s < L → B s ≠ 32) (h3 : g 0 11 = nI a) : zLp (fX10_advance_L8 gl) zFU g = some (zPu g 0 11 (nI s)) := by
  have hL := hT.1
  have e := y_run (body := fX10_advance_L8 gl) (fun k => zPu g 0 11 (nI (a + k))) (s - a) (b := zPu g 0 11 (nI s)) (by omega) (fun k hk => by
    have hb := hT.2.2 (a + k) (by omega)
    unfold fX10_advance_L8
    rw [y_u1, zPu_s, s10_byteAt (hT.pu (by decide)) (by omega), y_b1, if_pos (show a + k < L by omega), if_pos ((y_32 hb.1).mpr (h32 _ (by omega) (by omega))), y_lt_e, y_lt_e, y_a1, zPu_zPu]
    rfl) (by
    rw [show a + (s - a) = s by omega]
    unfold fX10_advance_L8
    rw [y_u1, zPu_s, s10_byteAt (hT.pu (by decide)) (by omega), y_b1]
    rcases Nat.lt_or_ge s L with c | c
    · rw [if_pos c, if_neg (fun h => hn c ((y_32 (hT.2.2 s c).1).mp h))]
    · rw [if_neg (show ¬ s < L by omega), if_neg (show ¬ (-1 : Int32) = 32 by decide)])
  rw [show zPu g 0 11 (nI (a + 0)) = g from zPu_me h3] at e
  exact e
def yWk (B : Nat → Nat) (s : Nat) : Nat → Int64
  | 0 => 0
  | k + 1 => if k < 8 then 27 * yWk B s k + (nI (B (s + k))).toInt64 - 96 else -1
theorem zPuL_zPuL {g : zL} {k j : Nat} {u v : Int64} : zPuL (zPuL g k j u) k j v = zPuL g k j v := by
  funext k' j'
  by_cases e : k' = k
  · subst e
    by_cases f : j' = j
    · subst f; rw [zPuL_s, zPuL_s]
    · rw [zPuL_j f, zPuL_j f, zPuL_j f]
  · rw [zPuL_k e, zPuL_k e, zPuL_k e]
theorem zPuL_me {g : zL} {k j : Nat} {v : Int64} (h : g k j = v) : zPuL g k j v = g := by
  funext k' j'
  by_cases e : k' = k
  · subst e
    by_cases f : j' = j
    · subst f; rw [zPuL_s, h]
    · rw [zPuL_j f]
  · rw [zPuL_k e]
theorem s10_wordL {B : Nat → Nat} {L s e : Nat} {g : zM} {gl : zL} (hT : pTm B L g) (hs : s < e) (he : e ≤ L) (hc : ∀ j, s ≤ j → j < e → yCl (B j) = 1) (hn : e < L → yCl (B e) ≠ 1) (h10 : g 0 10 = 1) (h11 : g 0 11 = nI s) (h12 : g 0 12 = nI s) (h13 : gl 0 13 = 0) : zLp fX10_advance_L126 zFU (g, gl) = some (zPu g 0 12 (nI e), zPuL gl 0 13 (yWk B s (e - s))) := by
  have hL := hT.1
  have h := y_run (body := fX10_advance_L126) (fun k => (zPu g 0 12 (nI (s + k)), zPuL gl 0 13 (yWk B s k))) (e - s) (b := (zPu g 0 12 (nI e), zPuL gl 0 13 (yWk B s (e - s)))) (by omega) (fun k hk => by
    have hb := hT.2.2 (s + k) (by omega)
    unfold fX10_advance_L126 fX10_advance_L126J191
    rw [y_u2, zPu_s, zPu_j (by decide), zPu_j (by decide), h10, if_pos rfl, h11, s10_byteAt (hT.pu (by decide)) (by omega), if_pos (show s + k < L by omega), y_b1, y_b1, s10_isLetter _ hb.1, y_b1, hc (s + k) (by omega) (by omega), decide_eq_true rfl, y_bl_t rfl, y_sub (by omega), show s + k - s = k by omega, show (8 : Int32) = nI 8 from rfl, zPuL_s]
    simp only [y_lt_e]
    rw [y_a1, zPu_zPu, yWk]
    by_cases d : k < 8
    · rw [y_le_f d (by omega), if_pos d, zPuL_zPuL]
      rfl
    · rw [y_le_t (by omega) (by omega), if_neg d, zPuL_zPuL]
      rfl) (by
    rw [show s + (e - s) = e by omega]
    unfold fX10_advance_L126
    rw [y_u2, zPu_s, zPu_j (by decide), h10, if_pos rfl, s10_byteAt (hT.pu (by decide)) (by omega), y_b1]
    rcases Nat.lt_or_ge e L with c | c
    · rw [if_pos c, s10_isLetter _ (hT.2.2 e c).1, y_b1, decide_eq_false (hn c), y_bl_f rfl]
    · rw [if_neg (show ¬ e < L by omega), s10_isLetterN, y_b1, if_pos rfl])
  have h0 : (zPu g 0 12 (nI (s + 0)), zPuL gl 0 13 (yWk B s 0)) = (g, gl) := by
    show (zPu g 0 12 (nI s), zPuL gl 0 13 0) = (g, gl)
    rw [zPu_me h12, zPuL_me h13]
  rw [h0] at h
  exact h
theorem s10_numL {B : Nat → Nat} {L s e : Nat} {g : zM} {gl : zL} (hT : pTm B L g) (hs : s < e) (he : e ≤ L) (hc : ∀ j, s ≤ j → j < e → yCl (B j) = 2) (hn : e < L → yCl (B e) ≠ 2) (h10 : g 0 10 = 2) (h11 : g 0 11 = nI s) (h12 : g 0 12 = nI s) (h14 : g 0 14 = 0) : zLp (fX10_advance_L207 gl) zFU g = some (zPu (zPu g 0 14 (yNk B s (e - s))) 0 12 (nI e)) := by
  have hL := hT.1
  have h := y_run (body := fX10_advance_L207 gl) (fun k => zPu (zPu g 0 14 (yNk B s k)) 0 12 (nI (s + k))) (e - s) (b := zPu (zPu g 0 14 (yNk B s (e - s))) 0 12 (nI e)) (by omega) (fun k hk => by
    have hb := hT.2.2 (s + k) (by omega)
    have hd := yCl_2 (hc (s + k) (by omega) (by omega))
    have sw : ∀ (v u x : Int32), zPu (zPu (zPu (zPu g 0 14 v) 0 12 u) 0 14 x) 0 12 (nI (s + (k + 1))) = zPu (zPu g 0 14 x) 0 12 (nI (s + (k + 1))) := fun v u x => by
      funext k' j'
      by_cases e : k' = 0
      · subst e
        by_cases f : j' = 12
        · subst f; rw [zPu_s, zPu_s]
        · rw [zPu_j f, zPu_j f]
          by_cases f2 : j' = 14
          · subst f2; rw [zPu_s, zPu_s]
          · rw [zPu_j f2, zPu_j f, zPu_j f2, zPu_j f2]
      · rw [zPu_k e, zPu_k e, zPu_k e, zPu_k e, zPu_k e, zPu_k e]
    unfold fX10_advance_L207 fX10_advance_L207J266
    rw [y_u1, zPu_s, show (zPu (zPu g 0 14 (yNk B s k)) 0 12 (nI (s + k))) 0 10 = 2 from by rw [zPu_j (by decide), zPu_j (by decide)]; exact h10, show (zPu (zPu g 0 14 (yNk B s k)) 0 12 (nI (s + k))) 0 11 = nI s from by rw [zPu_j (by decide), zPu_j (by decide)]; exact h11, show (zPu (zPu g 0 14 (yNk B s k)) 0 12 (nI (s + k))) 0 14 = yNk B s k from by rw [zPu_j (by decide), zPu_s], if_pos rfl, s10_byteAt ((hT.pu (by decide)).pu (by decide)) (by omega), if_pos (show s + k < L by omega), y_b1, y_b1, s10_isDigit _ hb.1, y_b1, hc (s + k) (by omega) (by omega), decide_eq_true rfl, y_bl_t rfl, y_sub (by omega), show s + k - s = k by omega, show (2 : Int32) = nI 2 from rfl]
    simp only [y_lt_e]
    rw [zPu_j (show (12 : Nat) ≠ 14 by decide), zPu_s, zPu_j (show (12 : Nat) ≠ 14 by decide), zPu_s, y_a1, show s + k + 1 = s + (k + 1) by omega, sw, sw]
    by_cases d : 2 ≤ k
    · obtain ⟨m, rfl⟩ : ∃ m, k = m + 2 := ⟨k - 2, by omega⟩
      rw [y_le_t d (by omega)]
      rfl
    · rw [y_le_f (by omega) (by omega)]
      have hk2 : k = 0 ∨ k = 1 := by omega
      rcases hk2 with rfl | rfl
      · show some (Sum.inl (zPu (zPu g 0 14 ((nI 10 * nI 0 + nI (B (s + 0))) - nI 48)) 0 12 (nI (s + (0 + 1))))) = some (Sum.inl (zPu (zPu g 0 14 (nI (B s - 48))) 0 12 (nI (s + (0 + 1)))))
        rw [y_mul, y_add, y_sub (by omega)]
        simp only [Nat.add_zero, Nat.mul_zero, Nat.zero_add]
      · have hd0 := yCl_2 (hc s (by omega) (by omega))
        show some (Sum.inl (zPu (zPu g 0 14 ((nI 10 * nI (B s - 48) + nI (B (s + 1))) - nI 48)) 0 12 (nI (s + (1 + 1))))) = some (Sum.inl (zPu (zPu g 0 14 (nI (10 * (B s - 48) + (B (s + 1) - 48)))) 0 12 (nI (s + (1 + 1)))))
        rw [y_mul, y_add, y_sub (by omega), show 10 * (B s - 48) + B (s + 1) - 48 = 10 * (B s - 48) + (B (s + 1) - 48) by omega]) (by
    rw [show s + (e - s) = e by omega]
    unfold fX10_advance_L207
    rw [y_u1, zPu_s, show (zPu (zPu g 0 14 (yNk B s (e - s))) 0 12 (nI e)) 0 10 = 2 from by rw [zPu_j (by decide), zPu_j (by decide)]; exact h10, if_pos rfl, s10_byteAt ((hT.pu (by decide)).pu (by decide)) (by omega), y_b1]
    rcases Nat.lt_or_ge e L with c | c
    · rw [if_pos c, s10_isDigit _ (hT.2.2 e c).1, y_b1, decide_eq_false (hn c), y_bl_f rfl]
    · rw [if_neg (show ¬ e < L by omega), s10_isDigitN, y_b1, if_pos rfl])
  have h0 : zPu (zPu g 0 14 (yNk B s 0)) 0 12 (nI (s + 0)) = g := by
    show zPu (zPu g 0 14 0) 0 12 (nI s) = g
    rw [zPu_me h14, zPu_me h12]
  rw [h0] at h
  exact h
theorem s10_wordN {g : zM} {gl : zL} (h : ¬ g 0 10 = 1) : zLp fX10_advance_L126 zFU (g, gl) = some (g, gl) := by
  obtain ⟨M, hM, -⟩ := y_fu 1 (by omega)
  rw [hM]
  apply y_lpr
  unfold fX10_advance_L126
  rw [y_u2, if_neg h]
theorem s10_numN {g : zM} {gl : zL} (h : ¬ g 0 10 = 2) : zLp (fX10_advance_L207 gl) zFU g = some g := by
  obtain ⟨M, hM, -⟩ := y_fu 1 (by omega)
  rw [hM]
  apply y_lpr
  unfold fX10_advance_L207
  rw [y_u1, if_neg h]
theorem s10_advance {B : Nat → Nat} {L a s e c : Nat} {g : zM} {gl : zL} (hT : pTm B L g) (hk : yTok B L a s e c) (h12 : g 0 12 = nI a) : ∃ g' gl', fX10_advance g gl = some (g', gl') ∧ g' 0 10 = nI (if c = 4 then 3 else c) ∧ g' 0 11 = nI s ∧ g' 0 12 = nI e ∧ g' 0 14 = (if c = 0 then -1 else if c = 2 then yNk B s (e - s) else nI (B s)) ∧ (∀ k, k ≠ 0 → g' k = g k) ∧ (∀ j, j ≠ 10 → j ≠ 11 → j ≠ 12 → j ≠ 14 → g' 0 j = g 0 j) ∧ gl' 0 13 = (if c = 1 then yWk B s (e - s) else 0) ∧ ∀ k, k ≠ 0 → gl' k = gl k := by
  have hL := hT.1
  obtain ⟨k1, k2, k3, k4⟩ := hk
  have hn : s < L → B s ≠ 32 := fun h => by
    rcases k4 with ⟨e, -, -⟩ | ⟨-, m, -⟩
    · omega
    · exact m
  unfold fX10_advance
  rw [y_lt_e, y_lt_e, h12, s10_skip (hT.pu (by decide)) k1 k2 k3 hn zPu_s, y_b1, y_u1, zPu_zPu, y_lt_e, y_lt_e, zPu_s]
  generalize hG : zPu (zPu g 0 11 (nI s)) 0 12 (nI s) = G
  have G11 : G 0 11 = nI s := by rw [← hG, zPu_j (by decide), zPu_s]
  have G12 : G 0 12 = nI s := by rw [← hG, zPu_s]
  have Go : ∀ j, j ≠ 11 → j ≠ 12 → G 0 j = g 0 j := fun j h1 h2 => by rw [← hG, zPu_j h2, zPu_j h1]
  have Gk : ∀ k, k ≠ 0 → G k = g k := fun k h => by rw [← hG, zPu_k h, zPu_k h]
  have hTG : pTm B L G := by rw [← hG]; exact (hT.pu (by decide)).pu (by decide)
  rw [G11, s10_byteAt hTG (by omega), y_b1]
  have fin : ∀ (srt v : Int32) (F : zM), F = zPu (zPu G 0 10 srt) 0 14 v → F 0 10 = srt ∧ F 0 11 = nI s ∧ F 0 12 = nI s ∧ F 0 14 = v ∧ (∀ k, k ≠ 0 → F k = g k) ∧ (∀ j, j ≠ 10 → j ≠ 11 → j ≠ 12 → j ≠ 14 → F 0 j = g 0 j) ∧ pTm B L F := by
    rintro srt v F rfl
    refine ⟨by rw [zPu_j (by decide), zPu_s], by rw [zPu_j (by decide), zPu_j (by decide)]; exact G11, by rw [zPu_j (by decide), zPu_j (by decide)]; exact G12, zPu_s, fun k h => by rw [zPu_k h, zPu_k h]; exact Gk k h, fun j h1 h2 h3 h4 => by rw [zPu_j h4, zPu_j h1]; exact Go j h2 h3, (hTG.pu (by decide)).pu (by decide)⟩
  have glk : ∀ k, k ≠ 0 → zPuL gl 0 13 0 k = gl k := fun k h => zPuL_k h
  rcases k4 with ⟨rfl, rfl, rfl⟩ | ⟨m1, m2, m3, m4, m5, m6, m7, m8⟩
  · rw [if_neg (show ¬ e < e by omega), if_neg (show ¬ (0 : Int32) ≤ -1 by decide)]
    unfold fX10_advance_J83 fX10_advance_J105 fX10_advance_J126
    simp only [y_lt_e]
    rw [show (zPu G 0 10 0) 0 10 = 0 from zPu_s, if_neg (show ¬ (0 : Int32) = 2 by decide)]
    obtain ⟨f1, f2, f3, f4, f5, f6, f7⟩ := fin 0 (-1) _ rfl
    rw [f1, if_neg (show ¬ (0 : Int32) = 3 by decide), s10_wordN (by rw [f1]; decide), y_b1, y_u2, s10_numN (by rw [f1]; decide), y_b1, y_u1]
    exact ⟨_, _, rfl, f1, f2, f3, f4, f5, f6, zPuL_s, glk⟩
  · have hb := hTG.2.2 s m1
    have hb1 := hb.1
    have c4 := yCl_4 (B s)
    rw [if_pos m1, if_pos (show (0 : Int32) ≤ nI (B s) from nI_pos' (by omega)), s10_isLetter _ hb.1, y_b1, s10_isDigit _ hb.1, y_b1]
    rw [m5] at m6 m7 m8 ⊢
    rcases c4 with d | d | d | d
    · rw [d] at m6 m7 m8 ⊢
      rw [decide_eq_true rfl, y_bl_t rfl]
      unfold fX10_advance_J83 fX10_advance_J105 fX10_advance_J126
      simp only [y_lt_e]
      rw [show (zPu G 0 10 1) 0 10 = 1 from zPu_s, if_neg (show ¬ (1 : Int32) = 2 by decide)]
      obtain ⟨f1, f2, f3, f4, f5, f6, f7⟩ := fin 1 (nI (B s)) _ rfl
      rw [f1, if_neg (show ¬ (1 : Int32) = 3 by decide), s10_wordL f7 m3 m4 m6 (m7 (Or.inl rfl)) f1 f2 f3 zPuL_s, y_b1, y_u2, s10_numN (by rw [zPu_j (by decide), f1]; decide), y_b1, y_u1, zPuL_zPuL]
      refine ⟨_, _, rfl, by rw [zPu_j (by decide)]; exact f1, by rw [zPu_j (by decide)]; exact f2, zPu_s, by rw [zPu_j (by decide)]; exact f4, fun k h => by rw [zPu_k h]; exact f5 k h, fun j h1 h2 h3 h4 => by rw [zPu_j h3]; exact f6 j h1 h2 h3 h4, zPuL_s, fun k h => zPuL_k h⟩
    · rw [d] at m6 m7 m8 ⊢
      rw [decide_eq_false (show ¬ 2 = 1 by decide), y_bl_f rfl, decide_eq_true rfl, y_bl_t rfl]
      unfold fX10_advance_J83 fX10_advance_J105 fX10_advance_J126
      simp only [y_lt_e]
      rw [show (zPu G 0 10 2) 0 10 = 2 from zPu_s, if_pos rfl]
      obtain ⟨f1, f2, f3, f4, f5, f6, f7⟩ := fin 2 0 _ rfl
      rw [f1, if_neg (show ¬ (2 : Int32) = 3 by decide), s10_wordN (by rw [f1]; decide), y_b1, y_u2, s10_numL f7 m3 m4 m6 (m7 (Or.inr rfl)) f1 f2 f3 f4, y_b1, y_u1]
      refine ⟨_, _, rfl, by rw [zPu_j (by decide), zPu_j (by decide)]; exact f1, by rw [zPu_j (by decide), zPu_j (by decide)]; exact f2, zPu_s, by rw [zPu_j (by decide), zPu_s]; rfl, fun k h => by rw [zPu_k h, zPu_k h]; exact f5 k h, fun j h1 h2 h3 h4 => by rw [zPu_j h3, zPu_j h4]; exact f6 j h1 h2 h3 h4, zPuL_s, glk⟩
    · rw [d] at m6 m7 m8 ⊢
      have e1 : e = s + 1 := m8 (Or.inl rfl)
      rw [decide_eq_false (show ¬ 3 = 1 by decide), y_bl_f rfl, decide_eq_false (show ¬ 3 = 2 by decide), y_bl_f rfl]
      unfold fX10_advance_J83 fX10_advance_J105 fX10_advance_J126
      simp only [y_lt_e]
      rw [show (zPu G 0 10 3) 0 10 = 3 from zPu_s, if_neg (show ¬ (3 : Int32) = 2 by decide)]
      obtain ⟨f1, f2, f3, f4, f5, f6, f7⟩ := fin 3 (nI (B s)) _ rfl
      rw [f1, if_pos rfl, f3, y_a1, s10_wordN (by rw [zPu_j (by decide), f1]; decide), y_b1, y_u2, s10_numN (by rw [zPu_j (by decide), f1]; decide), y_b1, y_u1]
      refine ⟨_, _, rfl, by rw [zPu_j (by decide)]; exact f1, by rw [zPu_j (by decide)]; exact f2, by rw [zPu_s, e1], by rw [zPu_j (by decide)]; exact f4, fun k h => by rw [zPu_k h]; exact f5 k h, fun j h1 h2 h3 h4 => by rw [zPu_j h3]; exact f6 j h1 h2 h3 h4, zPuL_s, glk⟩
    · rw [d] at m6 m7 m8 ⊢
      have e1 : e = s + 1 := m8 (Or.inr rfl)
      rw [decide_eq_false (show ¬ 4 = 1 by decide), y_bl_f rfl, decide_eq_false (show ¬ 4 = 2 by decide), y_bl_f rfl]
      unfold fX10_advance_J83 fX10_advance_J105 fX10_advance_J126
      simp only [y_lt_e]
      rw [show (zPu G 0 10 3) 0 10 = 3 from zPu_s, if_neg (show ¬ (3 : Int32) = 2 by decide)]
      obtain ⟨f1, f2, f3, f4, f5, f6, f7⟩ := fin 3 (nI (B s)) _ rfl
      rw [f1, if_pos rfl, f3, y_a1, s10_wordN (by rw [zPu_j (by decide), f1]; decide), y_b1, y_u2, s10_numN (by rw [zPu_j (by decide), f1]; decide), y_b1, y_u1]
      refine ⟨_, _, rfl, by rw [zPu_j (by decide)]; exact f1, by rw [zPu_j (by decide)]; exact f2, by rw [zPu_s, e1], by rw [zPu_j (by decide)]; exact f4, fun k h => by rw [zPu_k h]; exact f5 k h, fun j h1 h2 h3 h4 => by rw [zPu_j h3]; exact f6 j h1 h2 h3 h4, zPuL_s, glk⟩
