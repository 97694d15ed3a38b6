/-! ===== the works that is being read ===== -/
def zFv (g : zM) : zM := fun k j => if k = 0 then (if j = 0 then g 0 16 else if j = 2 then g 0 17 else if j = 4 then g 0 18 else 0) else if k = 1 then g 6 j else if k = 2 then g 7 j else if k = 3 then g 8 j else 0
theorem zFv_z {g g' : zM} {gl gl' : zL} (h : pFz g g' gl gl') : zFv g' = zFv g := by
  obtain ⟨-, h1, h2, h3, h4, h5, h6⟩ := h
  unfold zFv
  rw [h1, h2, h3, h4, h5, h6]
theorem zFv_6 {g : zM} {i : Nat} {x : Int32} : zFv (zPu g 6 i x) = zPu (zFv g) 1 i x := by
  funext k j
  by_cases e : k = 1
  · subst e
    show zPu g 6 i x 6 j = _
    by_cases f : j = i
    · subst f; rw [zPu_s, zPu_s]
    · rw [zPu_j f, zPu_j f]; rfl
  · rw [zPu_k e]
    unfold zFv
    simp only [zPu_k (show (0 : Nat) ≠ 6 by decide), zPu_k (show (7 : Nat) ≠ 6 by decide), zPu_k (show (8 : Nat) ≠ 6 by decide), if_neg e]
theorem zFv_7 {g : zM} {i : Nat} {x : Int32} : zFv (zPu g 7 i x) = zPu (zFv g) 2 i x := by
  funext k j
  by_cases e : k = 2
  · subst e
    show zPu g 7 i x 7 j = _
    by_cases f : j = i
    · subst f; rw [zPu_s, zPu_s]
    · rw [zPu_j f, zPu_j f]; rfl
  · rw [zPu_k e]
    unfold zFv
    simp only [zPu_k (show (0 : Nat) ≠ 7 by decide), zPu_k (show (6 : Nat) ≠ 7 by decide), zPu_k (show (8 : Nat) ≠ 7 by decide), if_neg e]
theorem zFv_8 {g : zM} {i : Nat} {x : Int32} : zFv (zPu g 8 i x) = zPu (zFv g) 3 i x := by
  funext k j
  by_cases e : k = 3
  · subst e
    show zPu g 8 i x 8 j = _
    by_cases f : j = i
    · subst f; rw [zPu_s, zPu_s]
    · rw [zPu_j f, zPu_j f]; rfl
  · rw [zPu_k e]
    unfold zFv
    simp only [zPu_k (show (0 : Nat) ≠ 8 by decide), zPu_k (show (6 : Nat) ≠ 8 by decide), zPu_k (show (7 : Nat) ≠ 8 by decide), if_neg e]
theorem zFv_0 {g : zM} {s t : Nat} {x : Int32} (h : (s = 16 ∧ t = 0) ∨ (s = 17 ∧ t = 2) ∨ (s = 18 ∧ t = 4)) : zFv (zPu g 0 s x) = zPu (zFv g) 0 t x := by
  funext k j
  by_cases e : k = 0
  · subst e
    by_cases f : j = t
    · subst f
      rw [zPu_s]
      rcases h with ⟨rfl, rfl⟩ | ⟨rfl, rfl⟩ | ⟨rfl, rfl⟩
      · show zPu g 0 16 x 0 16 = x; exact zPu_s
      · show zPu g 0 17 x 0 17 = x; exact zPu_s
      · show zPu g 0 18 x 0 18 = x; exact zPu_s
    · rw [zPu_j f]
      rcases h with ⟨rfl, rfl⟩ | ⟨rfl, rfl⟩ | ⟨rfl, rfl⟩
      · unfold zFv; simp only [if_neg f, if_true, zPu_j (show (17 : Nat) ≠ 16 by decide), zPu_j (show (18 : Nat) ≠ 16 by decide)]
      · unfold zFv; simp only [if_neg f, if_true, zPu_j (show (16 : Nat) ≠ 17 by decide), zPu_j (show (18 : Nat) ≠ 17 by decide)]
      · unfold zFv; simp only [if_neg f, if_true, zPu_j (show (16 : Nat) ≠ 18 by decide), zPu_j (show (17 : Nat) ≠ 18 by decide)]
  · rw [zPu_k e]
    unfold zFv
    simp only [if_neg e, zPu_k (show (6 : Nat) ≠ 0 by decide), zPu_k (show (7 : Nat) ≠ 0 by decide), zPu_k (show (8 : Nat) ≠ 0 by decide)]
def yDr (gw g : zM) (a : yA) : Prop := yOk a ∧ yC gw a ∧ yG (zFv g) a ∧ zAllB (gw 7) 14 = true
theorem yDr.z {gw g g' : zM} {gl gl' : zL} {a : yA} (h : yDr gw g a) (hz : pFz g g' gl gl') : yDr gw g' a := ⟨h.1, h.2.1, by rw [zFv_z hz]; exact h.2.2.1, h.2.2.2⟩
theorem yDr.n {gw g : zM} {a : yA} (h : yDr gw g a) : g 0 16 = nI (a 0 0) ∧ g 0 17 = nI (a 0 1) ∧ g 0 18 = nI (a 0 2) := h.2.2.1.1
def yRes (B : Nat → Nat) (L : Nat) (g : zM) (gl : zL) (e : Nat) (rc : Option (Int32 × zM × zM)) (rm : Option (zM × zL)) : Prop := (∃ gt' gw' g' gl', rc = some (0, gt', gw') ∧ rm = some (g', gl') ∧ g' 0 15 = 0 ∧ gt' 0 2 = g' 0 11 ∧ zAllB (gw' 7) 14 = true ∧ pFp g g' gl gl') ∨ (∃ gt' gw' g' gl' a' e', rc = some (1, gt', gw') ∧ rm = some (g', gl') ∧ g' 0 15 = 1 ∧ yDr gw' g' a' ∧ yPr B L gt' g' gl' e' ∧ e < e' ∧ pFp g g' gl gl')
theorem y_below {n v : Nat} (hn : n ≤ 1000) (hv : v ≤ 99) (h : ¬ nI n - 1 < nI v) : v < n := by
  rcases Nat.eq_zero_or_pos n with e | e
  · subst e
    exfalso
    apply h
    have : ∀ v, v ≤ 99 → (nI 0 - 1 : Int32) < nI v := by
      have h2 : ∀ v, v < 100 → (nI 0 - 1 : Int32) < nI v := by decide +kernel
      exact fun v hv => h2 v (by omega)
    exact this v hv
  · rw [y_s1 e, y_lt (by omega) (by omega)] at h
    omega
theorem pFp_6 (g : zM) (gl : zL) (k i : Nat) (x : Int32) (hk : k = 6 ∨ k = 7 ∨ k = 8) : pFp g (zPu g k i x) gl gl := ⟨fun q _ h6 h7 h8 => zPu_k (by omega), fun j _ => by rw [zPu_k (by omega)], fun _ _ => rfl⟩
theorem pFp_0 (g : zM) (gl : zL) (s : Nat) (x : Int32) (hs : s = 16 ∨ s = 17 ∨ s = 18) : pFp g (zPu g 0 s x) gl gl := ⟨fun q h _ _ _ => zPu_k h, fun j hj => zPu_j (by omega), fun _ _ => rfl⟩
theorem yAt.pt {B : Nat → Nat} {L e c : Nat} {gt g g' : zM} {gl : zL} (h : yAt B L gt g gl e c) (h0 : ∀ j, j ≤ 14 → g' 0 j = g 0 j) (h5 : g' 5 = g 5) : yAt B L gt g' gl e c := by
  obtain ⟨⟨t1, t2, t3, t4⟩, a1, a2, a3, a4, a5, a6, a7⟩ := h
  refine ⟨⟨t1, t2, by rw [h0 9 (by omega)]; exact t3, fun i hi => by rw [h5]; exact t4 i hi⟩, a1, by rw [h0 11 (by omega)]; exact a2, a3, by rw [h0 12 (by omega)]; exact a4, a5, ?_, fun j hj => ?_⟩
  · rw [h0 10 (by omega), h0 14 (by omega)]; exact a6
  · obtain ⟨b, b1, b2, b3⟩ := a7 j hj
    refine ⟨b, b1, ?_, b3⟩
    unfold fX10_isWord at b2 ⊢
    rw [h0 10 (by omega)]
    exact b2
theorem yPr.pt {B : Nat → Nat} {L e : Nat} {gt g g' : zM} {gl : zL} (h : yPr B L gt g gl e) (h0 : ∀ j, j ≤ 14 → g' 0 j = g 0 j) (h5 : g' 5 = g 5) : yPr B L gt g' gl e := by
  obtain ⟨gt', e', c, p1, p2, p3, p4⟩ := h
  exact ⟨gt', e', c, p1, p2.pt h0 h5, p3, p4⟩
/-! ===== first ===== -/
theorem s_first {B : Nat → Nat} {L e c : Nat} {gt gw g : zM} {gl : zL} {a : yA} (h : yAt B L gt g gl e c) (h15 : g 0 15 = 1) (hd : yDr gw g a) (hw : fX7_isWord gt 5 = some 1) : yRes B L g gl e (fX7_isFirstPiece gt gw) (fX10_wantFirst g gl) := by
  have h0 := hd.1.1
  unfold fX7_isFirstPiece fX10_wantFirst
  rcases s_want (j := 5) (by omega) h h15 with ⟨w, -⟩ | ⟨-, -, -, g1, gl1, w1, w2, w3, w4⟩
  · rw [hw] at w; exact absurd (Option.some.inj w) (by decide)
  have d1 := hd.z w4
  rw [show (3379448 : Int64) = lN (yWn 5) from rfl, w1, y_b2, d1.n.1, hd.2.1.1.1]
  rcases s_number (lo := 0) (hi := nI (a 0 0) - 1) (l := 0) w3 w2 rfl (by omega) with ⟨gt2, v, g2, n1, n2, n3, n4, n5⟩ | ⟨gt2, v, g2, gl2, e2, n1, n2, n3, n4, n5, n6, n7, n8, n9, n10⟩
  · left
    rw [n1, y_b2, if_pos rfl, n2, y_b3, d_word n3, y_b2, d_number n3, y_b3, d_end n3, y_b2, n3, if_pos rfl]
    exact ⟨_, _, _, _, rfl, rfl, n3, n4, hd.2.2.2, (w4.tr n5).1⟩
  have hv := y_below (by omega) n4 n5
  obtain ⟨gt3, e3, c3, p1, p2, p3, p4⟩ := n8
  rw [n1, y_b2, if_neg (show ¬ (1 : Int32) = 0 by decide), y_lt_e, n6, p1, y_b1, n2, y_b3, show (332864552 : Int64) = lN (yWn 6) from rfl]
  rcases s_want (j := 6) (by omega) p2 n7 with ⟨u1, -, g3, u2, u3, u4, u5⟩ | ⟨-, u1, -, g3, gl3, u2, u3, u4, u5⟩
  · left
    rw [u1, y_b1, if_pos rfl, u2, y_b2, d_number u3, y_b3, d_end u3, y_b2, u3, if_pos rfl]
    exact ⟨_, _, _, _, rfl, rfl, u3, u4, hd.2.2.2, ((w4.tr n10).tr u5).1⟩
  rw [u1, y_b1, if_neg (show ¬ (1 : Int32) = 0 by decide), u2, y_b2]
  rcases s_number (lo := 0) (hi := 9) (l := 0) u4 u3 rfl (by omega) with ⟨gt4, z, g4, m1, m2, m3, m4, m5⟩ | ⟨gt4, z, g4, gl4, e4, m1, m2, m3, m4, m5, m6, m7, m8, m9, m10⟩
  · left
    rw [m1, y_b2, if_pos rfl, m2, y_b3, d_end m3, y_b2, m3, if_pos rfl]
    exact ⟨_, _, _, _, rfl, rfl, m3, m4, hd.2.2.2, (((w4.tr n10).tr u5).tr m5).1⟩
  have hz : z ≤ 9 := by
    rw [show (9 : Int32) = nI 9 from rfl, y_lt (by omega) (by omega)] at m5
    omega
  have hB : zAllB (zPu gw 1 v (nI z) 7) 14 = true := by rw [zPu_k (by decide)]; exact hd.2.2.2
  rw [m1, y_b2, if_neg (show ¬ (1 : Int32) = 0 by decide), y_lt_e, m6, y_gin (by omega) (by omega), y_lt_e, y_cl (by omega), m2, y_b3]
  rcases s_stop m8 m7 with ⟨gt5, g5, q1, q2, q3, q4, q5⟩ | ⟨gt5, g5, gl5, e5, q1, q2, q3, q4, q5, q6⟩
  · left
    rw [q1, y_b2, y_gd (show zBo 0 = true from rfl), q2, y_b2, q3, if_pos rfl]
    exact ⟨_, _, _, _, rfl, rfl, q3, q4, hB, ((((w4.tr n10).tr u5).tr m10).tr q5).1⟩
  · right
    have fr := (((w4.tr n10).tr u5).tr m10).tr q6
    have d5 := hd.z fr
    rw [q1, y_b2, y_gd (show zBo 1 = true from rfl), q2, y_b2, q3, if_neg (show ¬ (1 : Int32) = 0 by decide), y_gin (by omega) (by omega), y_lt_e]
    refine ⟨gt5, _, _, gl5, ySt a 1 v z, e5, rfl, rfl, ?_, ⟨hd.1.st1 hz, hd.2.1.st (by omega) (by rw [if_neg (by decide)]), ?_, hB⟩, q4.pt (fun j hj => by rw [zPu_k (by decide)]) (zPu_k (by decide)), by omega, fr.1.tr (pFp_6 g5 gl5 6 _ _ (by omega))⟩
    · rw [zPu_k (by decide)]; exact q3
    · rw [zFv_6]
      exact d5.2.2.1.st (by omega) rfl rfl rfl
