/-! ===== the host ===== -/
theorem y_rngm (x : Int32) {M : Int32} {m : Nat} (hM : M = nI m) (hm : m < 2147483648) : (fX10_in x (-1) M = some 1 ∧ ¬ x < -1 ∧ x ≤ M ∧ (x = -1 ∨ ∃ k, k ≤ m ∧ x = nI k)) ∨ (fX10_in x (-1) M = some 0 ∧ (x < -1 ∨ (¬ x < -1 ∧ ¬ x ≤ M))) := by
  subst hM
  have e1 : (-1 : Int32).toInt = -1 := rfl
  have e2 : (nI m).toInt = (m : Int) := nI_toInt (by omega)
  rw [s10_in, e1, e2]
  by_cases c1 : -1 ≤ x.toInt
  · by_cases c2 : x.toInt ≤ (m : Int)
    · refine Or.inl ⟨by rw [decide_eq_true c1, decide_eq_true c2]; rfl, by rw [Int32.lt_iff_toInt_lt, e1]; omega, by rw [Int32.le_iff_toInt_le, e2]; omega, ?_⟩
      by_cases c3 : x.toInt = -1
      · left; exact Int32.toInt_inj.mp (by rw [c3]; rfl)
      · right
        have hx : ¬ x < 0 := by
          rw [Int32.lt_iff_toInt_lt]; have : (0 : Int32).toInt = 0 := rfl; omega
        obtain ⟨k, hk, rfl⟩ := nI_of hx
        have e3 : (nI k).toInt = (k : Int) := nI_toInt (by omega)
        rw [e3] at c2
        exact ⟨k, by omega, rfl⟩
    · refine Or.inr ⟨by rw [decide_eq_false c2, Bool.and_false]; rfl, Or.inr ⟨?_, ?_⟩⟩
      · rw [Int32.lt_iff_toInt_lt, e1]; omega
      · rw [Int32.le_iff_toInt_le, e2]; omega
  · refine Or.inr ⟨by rw [decide_eq_false c1, Bool.false_and]; rfl, Or.inl ?_⟩
    rw [Int32.lt_iff_toInt_lt, e1]; omega
def pHs (gh g : zM) (s : Nat) : Prop := gh 1 s = g 18 s ∧ gh 2 s = g 19 s ∧ (g 18 s = -1 ∨ ∃ k, k ≤ 3 ∧ g 18 s = nI k) ∧ (∃ n, n ≤ 40 ∧ g 19 s = nI n) ∧ ((g 21 s = -1 ∧ gh 4 s = 0) ∨ (g 21 s = 0 ∧ gh 4 s = 1 ∧ gh 5 s = g 22 s) ∨ (g 21 s = 1 ∧ gh 4 s = 2 ∧ (∃ k, k ≤ 3 ∧ g 22 s = nI k) ∧ gh 6 s = g 22 s ∧ gh 5 s = g 23 s))
def pH (gh g : zM) (gl : zL) : Prop := (∀ s, s < 4 → pHs gh g s) ∧ ∀ s i, s < 4 → i < 40 → gh (7 + s) i = (gl 20 (40 * s + i)).toInt32
theorem pH.eq {gh g g' : zM} {gl gl' : zL} (h : pH gh g gl) (e : eqH g g') (el : gl' 20 = gl 20) : pH gh g' gl' := by
  obtain ⟨h1, h2⟩ := h
  obtain ⟨e1, e2, e3, e4, e5⟩ := e
  refine ⟨fun s hs => ?_, fun s i hs hi => by rw [el]; exact h2 s i hs hi⟩
  unfold pHs
  rw [e1, e2, e3, e4, e5]; exact h1 s hs
theorem s2_hasPlace (x : Int32) : fX2_hasPlace x = some (yBl (zIn x 4)) := by
  unfold fX2_hasPlace
  rcases y_zin x (n := 4) (by omega) with ⟨h, k, hk, rfl⟩ | ⟨h, h2⟩
  · rw [h, if_neg (y_nn (by omega)), show (4 : Int32) = nI 4 from rfl, y_le_f (by omega) (by omega)]; rfl
  · rw [h]
    by_cases c : x < 0
    · rw [if_pos c]; rfl
    · rw [if_neg c, if_pos (show (4 : Int32) ≤ x from h2.resolve_left c)]; rfl
theorem s10_isShelf (x : Int32) : fX10_isShelf x = some (yBl (zIn x 4)) := by
  unfold fX10_isShelf
  rw [show (3 : Int32) = nI 3 from rfl, y_inN x 3 (by omega), y_b1]
  show zGd (zBo (yBl (zIn x 4))) _ = _
  cases zIn x 4 <;> rfl
theorem zPuL_s {w : zL} {k j : Nat} {v : Int64} : zPuL w k j v k j = v := by unfold zPuL vp_updL; rw [if_pos rfl, if_pos rfl]
theorem zPuL_j {w : zL} {k j j' : Nat} {v : Int64} (h : j' ≠ j) : zPuL w k j v k j' = w k j' := by unfold zPuL vp_updL; rw [if_pos rfl, if_neg h]
theorem zPuL_k {w : zL} {k j k' : Nat} {v : Int64} (h : k' ≠ k) : zPuL w k j v k' = w k' := by unfold zPuL; rw [if_neg h]
theorem s10_sheetL {gl : zL} {s : Nat} (hs : s < 4) : ∃ gl', zLp (fX10_sheet_L64 (nI s)) zFU (0, gl) = some gl' ∧ (∀ i, i < 40 → gl' 20 (40 * s + i) = 0) ∧ (∀ k, (k < 40 * s ∨ 40 * s + 40 ≤ k) → gl' 20 k = gl 20 k) := by
  have key : ∃ b, zLp (fX10_sheet_L64 (nI s)) zFU ((fun k (x : zL) => (nI k, x)) 0 gl) = some b ∧ ((∀ i, i < 40 → b 20 (40 * s + i) = 0) ∧ (∀ k, (k < 40 * s ∨ 40 * s + 40 ≤ k) → b 20 k = gl 20 k)) := by
    refine y_for (fun k (x : zL) => (nI k, x)) 40 (fun k b => (∀ i, i < k → b 20 (40 * s + i) = 0) ∧ (∀ k, (k < 40 * s ∨ 40 * s + 40 ≤ k) → b 20 k = gl 20 k)) _ ?_ ?_ zFU 0 gl (by omega) ⟨fun j hj => absurd hj (by omega), fun _ _ => rfl⟩ (by unfold zFU; omega)
    · rintro k x hk ⟨i1, i2⟩
      refine ⟨zPuL x 20 (40 * s + k) 0, ?_, ?_, ?_⟩
      · show fX10_sheet_L64 (nI s) (nI k, x) = _
        unfold fX10_sheet_L64
        rw [y_u2, show (40 : Int32) = nI 40 from rfl, y_le_f (by omega) (by omega), y_mul, y_add, y_gin (by omega) (by omega), y_lt_e, y_lt_e, y_cl (by omega), y_a1]
      · intro i hi
        by_cases e : i = k
        · rw [e, zPuL_s]
        · rw [zPuL_j (by omega)]; exact i1 i (by omega)
      · intro m hm
        rw [zPuL_j (by omega)]; exact i2 m hm
    · intro x hx
      refine ⟨x, ?_, hx⟩
      show fX10_sheet_L64 (nI s) (nI 40, x) = _
      unfold fX10_sheet_L64
      rw [y_u2, show (40 : Int32) = nI 40 from rfl, y_le_t (by omega) (by omega)]
  exact key
def zEx (k1 k2 : Nat) (g g' : zM) : Prop := ∀ k, k ≠ k1 → k ≠ k2 → g' k = g k
theorem m_renew {gh g : zM} {gl : zL} (h : pH gh g gl) {s n : Nat} {x : Int32} (hs : s < 4) (hn : n ≤ 40) (hx : x = -1 ∨ ∃ k, k ≤ 3 ∧ x = nI k) (z : Int32) (hz : x = -1 ∨ z = nI n) : ∃ gh' g' gl', fX2_renew gh (nI s) x z = some gh' ∧ fX10_sheet_J39 (nI s) x z g gl = some (1, g', gl') ∧ pH gh' g' gl' ∧ zEx 18 19 g g' := by
  obtain ⟨h1, h2⟩ := h
  have body : ∀ (m : Nat), m ≤ 40 → ∃ gh' g' gl', fX2_renew_J22 (nI s) (zPu gh 1 s x) (nI m) (nI s) = some gh' ∧ fX10_sheet_J60 (nI s) gl (zPu g 18 s x) (nI m) (nI s) = some (1, g', gl') ∧ pH gh' g' gl' ∧ zEx 18 19 g g' := by
    intro m hm
    unfold fX2_renew_J22 fX10_sheet_J60
    obtain ⟨t, t1, t2⟩ := sJ_fill (n := 40) (by omega) (fun _ => zPu (zPu gh 1 s x) 2 s (nI m) (7 + s)) 0
    obtain ⟨gl', l1, l2, l3⟩ := s10_sheetL (gl := gl) hs
    rw [y_gin hs (by omega), y_lt_e, y_gin hs (by omega), y_cl (by omega), t1, y_b1, y_lt_e, y_gin hs (by omega), y_lt_e, l1, y_b1, y_u1]
    refine ⟨_, _, _, rfl, rfl, ⟨?_, ?_⟩, ?_⟩
    · intro s' hs'
      unfold pHs
      obtain ⟨p1, p2, p3, p4, p5⟩ := h1 s' hs'
      rw [zPr_k (show 1 ≠ 7 + s by omega), zPr_k (show 2 ≠ 7 + s by omega), zPr_k (show 4 ≠ 7 + s by omega), zPr_k (show 5 ≠ 7 + s by omega), zPr_k (show 6 ≠ 7 + s by omega), zPu_k (show 1 ≠ 2 by omega), zPu_k (show 4 ≠ 2 by omega), zPu_k (show 4 ≠ 1 by omega), zPu_k (show 5 ≠ 2 by omega), zPu_k (show 5 ≠ 1 by omega), zPu_k (show 6 ≠ 2 by omega), zPu_k (show 6 ≠ 1 by omega), zPu_k (show 18 ≠ 19 by omega), zPu_k (show 21 ≠ 19 by omega), zPu_k (show 21 ≠ 18 by omega), zPu_k (show 22 ≠ 19 by omega), zPu_k (show 22 ≠ 18 by omega), zPu_k (show 23 ≠ 19 by omega), zPu_k (show 23 ≠ 18 by omega)]
      by_cases e : s' = s
      · subst e
        rw [zPu_s, zPu_s, zPu_s, zPu_s]
        exact ⟨rfl, rfl, hx, ⟨m, hm, rfl⟩, p5⟩
      · rw [zPu_j e, zPu_j e, zPu_j e, zPu_j e, zPu_k (show 2 ≠ 1 by omega), zPu_k (show 19 ≠ 18 by omega)]
        exact ⟨p1, p2, p3, p4, p5⟩
    · intro s' i hs' hi
      by_cases e : s' = s
      · subst e
        rw [zPr_s, t2, if_pos hi, l2 i hi]; rfl
      · rw [zPr_k (by omega), zPu_k (by omega), zPu_k (by omega), l3 _ (by omega)]; exact h2 s' i hs' hi
    · intro k k1 k2
      rw [zPu_k k2, zPu_k k1]
  unfold fX2_renew fX10_sheet_J39
  rw [y_gin hs (by omega), y_lt_e, y_gin hs (by omega), y_lt_e, y_cl (by omega)]
  rcases hx with rfl | ⟨k, hk, rfl⟩
  · rw [if_pos rfl, if_neg (by decide)]; exact body 0 (by omega)
  · have hne : ¬ nI k = -1 := fun e => by
      have := congrArg Int32.toInt e
      rw [nI_toInt (by omega)] at this
      have e1 : (-1 : Int32).toInt = -1 := rfl
      omega
    rw [if_neg hne, if_pos (show (0 : Int32) ≤ nI k from nI_le (a := 0) (by omega) (by omega))]
    rcases hz with e | rfl
    · exact absurd e hne
    · exact body n hn
theorem m_sheet {gx gh g : zM} {gl : zL} (h : pH gh g gl) (x y z : Int32) : ∃ r gh' g' gl', fX9_sheet gx gh x y z = some (r, gh') ∧ fX10_sheet g gl x y z = some (r, g', gl') ∧ pH gh' g' gl' ∧ zEx 18 19 g g' := by
  have hbad : ∀ {v : Int32}, ∃ r gh' g' gl', some (v, gh) = some (r, gh') ∧ some (v, g, gl) = some (r, g', gl') ∧ pH gh' g' gl' ∧ zEx 18 19 g g' := fun {v} => ⟨v, gh, g, gl, rfl, rfl, h, fun _ _ _ => rfl⟩
  unfold fX9_sheet fX10_sheet
  rw [s2_hasPlace, y_b1, s10_isShelf, y_b1]
  rcases y_zin x (n := 4) (by omega) with ⟨hx, s, hs, rfl⟩ | ⟨hx, -⟩
  · rw [y_bl_t hx, y_bl_t hx]
    rcases y_rngm y (M := 3) (m := 3) rfl (by omega) with ⟨e1, e2, e3, e4⟩ | ⟨e1, e2⟩
    · rw [e1, y_b1, if_neg (show ¬ (1 : Int32) = 0 by decide), if_neg e2, if_pos e3]
      unfold fX9_sheet_J32 fX9_sheet_J44 fX10_sheet_J28
      have fin : ∀ n, n ≤ 40 → (y = -1 ∨ z = nI n) → ∃ r gh' g' gl', (zB1 (fX2_renew gh (nI s) y z) fun gh_2 => some ((1 : Int32), gh_2)) = some (r, gh') ∧ fX10_sheet_J39 (nI s) y z g gl = some (r, g', gl') ∧ pH gh' g' gl' ∧ zEx 18 19 g g' := by
        intro n hn hz
        obtain ⟨gh', g', gl', q1, q2, q3, q4⟩ := m_renew h hs hn e4 z hz
        rw [q1, y_b1]
        exact ⟨_, _, _, _, rfl, q2, q3, q4⟩
      rcases e4 with rfl | ⟨k, hk, rfl⟩
      · rw [if_pos rfl, if_pos rfl, if_pos (by decide), if_pos (by decide)]
        exact fin 0 (by omega) (Or.inl rfl)
      · have hne : ¬ nI k = -1 := fun e => by
          have := congrArg Int32.toInt e
          rw [nI_toInt (by omega)] at this
          have e1 : (-1 : Int32).toInt = -1 := rfl
          omega
        rw [if_neg hne, if_neg hne, if_neg (y_nn (by omega)), if_neg (y_nn (by omega))]
        by_cases c1 : z ≤ 40
        · rw [if_pos c1, if_pos c1]
          by_cases c2 : 0 ≤ z
          · rw [if_pos c2, if_pos c2]
            have hz : ¬ z < 0 := by
              rw [Int32.lt_iff_toInt_lt]; rw [Int32.le_iff_toInt_le] at c2; omega
            obtain ⟨n, hn, rfl⟩ := nI_of hz
            rw [show (40 : Int32) = nI 40 from rfl, y_le hn (by omega)] at c1
            exact fin n c1 (Or.inr rfl)
          · rw [if_neg c2, if_neg c2]; exact hbad
        · rw [if_neg c1, if_neg c1]; exact hbad
    · rw [e1, y_b1, if_pos (show (0 : Int32) = 0 from rfl)]
      rcases e2 with e2 | ⟨e2, e3⟩
      · rw [if_pos e2]; exact hbad
      · rw [if_neg e2, if_neg e3]; exact hbad
  · rw [y_bl_f hx, y_bl_f hx]; exact hbad
theorem y_sort {x : Int32} (h : x = -1 ∨ ∃ k, k ≤ 3 ∧ x = nI k) : (x = -1 ∧ ¬ 0 ≤ x) ∨ (¬ x = -1 ∧ 0 ≤ x) := by
  rcases h with rfl | ⟨k, hk, rfl⟩
  · left; exact ⟨rfl, by decide⟩
  · right
    refine ⟨fun e => ?_, nI_le (a := 0) (by omega) (by omega)⟩
    have := congrArg Int32.toInt e
    rw [nI_toInt (by omega)] at this
    have e1 : (-1 : Int32).toInt = -1 := rfl
    omega
theorem m_put {gx gh g : zM} {gl : zL} (h : pH gh g gl) (x y z : Int32) : ∃ r gh' gl', fX9_put gx gh x y z = some (r, gh') ∧ fX10_put g gl x y z = some (r, gl') ∧ pH gh' g gl' := by
  have hbad : ∀ {v : Int32}, ∃ r gh' gl', some (v, gh) = some (r, gh') ∧ some (v, gl) = some (r, gl') ∧ pH gh' g gl' := fun {v} => ⟨v, gh, gl, rfl, rfl, h⟩
  unfold fX9_put fX10_put
  rw [s2_hasPlace, y_b1, s10_isShelf, y_b1]
  rcases y_zin x (n := 4) (by omega) with ⟨hx, s, hs, rfl⟩ | ⟨hx, -⟩
  · obtain ⟨p1, p2, p3, ⟨n, hn, p4⟩, p5⟩ := h.1 s hs
    rw [y_bl_t hx, y_bl_t hx]
    simp only [y_gin hs (show s < 2147483648 by omega), y_lt_e, y_cl (show s < 2147483648 by omega), p1, p2]
    rcases y_sort p3 with ⟨c1, c2⟩ | ⟨c1, c2⟩
    · rw [if_pos c1, if_neg c2]; exact hbad
    · rw [if_neg c1, if_pos c2, p4, s10_in0 y (by omega), y_b1]
      rcases y_zin y (n := n) (by omega) with ⟨hy, i, hi, rfl⟩ | ⟨hy, hy2⟩
      · rw [if_neg (y_nn (by omega)), y_lt_t hi (by omega), y_bl_t hy]
        have fin : ∀ (v : Int32) (l : Int64), l.toInt32 = v → ∃ r gh' gl', (zB1 (some v) fun v5 => zGd (zIn (nI i) 40) <| zLt (zPu gh (7 + s) (nI i).toNatClampNeg v5) fun gh_6 => some ((1 : Int32), gh_6)) = some (r, gh') ∧ fX10_put_J83 gl l ((40 * nI s) + nI i) = some (r, gl') ∧ pH gh' g gl' := by
          intro v l hv
          unfold fX10_put_J83
          rw [y_b1, y_gin (by omega) (by omega), y_lt_e, show (40 : Int32) = nI 40 from rfl, y_mul, y_add, y_gin (by omega) (by omega), y_lt_e, y_cl (by omega), y_cl (by omega)]
          refine ⟨_, _, _, rfl, rfl, ?_, ?_⟩
          · intro s' hs'
            unfold pHs
            rw [zPu_k (show 1 ≠ 7 + s by omega), zPu_k (show 2 ≠ 7 + s by omega), zPu_k (show 4 ≠ 7 + s by omega), zPu_k (show 5 ≠ 7 + s by omega), zPu_k (show 6 ≠ 7 + s by omega)]
            exact h.1 s' hs'
          · intro s' i' hs' hi'
            by_cases e : s' = s ∧ i' = i
            · obtain ⟨rfl, rfl⟩ := e; rw [zPu_s, zPuL_s, hv]
            · rw [zPuL_j (by omega)]
              by_cases f : s' = s
              · rw [f, zPu_j (fun q => e ⟨f, q⟩), ← f]; exact h.2 s' i' hs' hi'
              · rw [zPu_k (by omega)]; exact h.2 s' i' hs' hi'
        unfold fX2_narrowed
        by_cases d0 : g 18 s = 0
        · rw [if_pos d0, if_pos d0]; exact fin _ _ (Int32.toInt32_toInt64 _)
        · rw [if_neg d0, if_neg d0]
          by_cases d1 : g 18 s = 1
          · rw [if_pos d1, if_pos d1]; exact fin _ _ (Int32.toInt32_toInt64 _)
          · rw [if_neg d1, if_neg d1]; exact fin _ _ (Int32.toInt32_toInt64 _)
      · rw [y_bl_f hy]
        by_cases c : y < 0
        · rw [if_pos c]; exact hbad
        · rw [if_neg c, if_neg (by
            have := hy2.resolve_left c
            obtain ⟨j, hj, rfl⟩ := nI_of c
            rw [y_le (by omega) hj] at this
            rw [y_lt hj (by omega)]; omega)]
          exact hbad
  · rw [y_bl_f hx, y_bl_f hx]; exact hbad
theorem m_item {gx gh g : zM} {gl : zL} (h : pH gh g gl) (x y z : Int32) : ∃ r, fX9_item gx gh x y z = some r ∧ fX10_item g gl x y z = some r := by
  have hbad : ∀ {v : Int32}, ∃ r, some v = some r ∧ some v = some r := fun {v} => ⟨v, rfl, rfl⟩
  unfold fX9_item fX10_item
  rw [s2_hasPlace, y_b1, s10_isShelf, y_b1]
  rcases y_zin x (n := 4) (by omega) with ⟨hx, s, hs, rfl⟩ | ⟨hx, -⟩
  · obtain ⟨p1, p2, p3, ⟨n, hn, p4⟩, p5⟩ := h.1 s hs
    rw [y_bl_t hx, y_bl_t hx]
    rcases y_rng y (L := 0) (M := 3) (l := 0) (m := 3) rfl rfl (by omega) (by omega) with ⟨K, -, k2, rfl, e1, e2, e3, e4⟩ | ⟨e1, e2⟩
    · rw [e1, y_b1, if_neg (show ¬ (1 : Int32) = 0 by decide), if_neg e2, if_pos e4]
      unfold fX2_refusalOf fX10_lacksSort
      simp only [y_gin hs (show s < 2147483648 by omega), y_lt_e, y_cl (show s < 2147483648 by omega), p1, p2, p4]
      rcases y_sort p3 with ⟨c1, c2⟩ | ⟨c1, c2⟩
      · rw [if_pos c1, if_neg c2, y_b1, y_b1, if_neg (show ¬ (-11 : Int32) = 0 by decide), if_neg (show ¬ (-11 : Int32) = 0 by decide)]; exact hbad
      · rw [if_neg c1, if_pos c2]
        by_cases d : g 18 s = nI K
        · rw [if_pos d, y_b1, y_b1, if_pos (show (0 : Int32) = 0 from rfl), if_pos (show (0 : Int32) = 0 from rfl), s10_in0 z (by omega), y_b1]
          rcases y_zin z (n := n) (by omega) with ⟨hz, i, hi, rfl⟩ | ⟨hz, hz2⟩
          · rw [if_neg (y_nn (by omega)), y_lt_t hi (by omega), y_bl_t hz, y_gin (by omega) (by omega), show (40 : Int32) = nI 40 from rfl, y_mul, y_add, y_gin (by omega) (by omega), y_cl (by omega), y_cl (by omega), h.2 s i hs (by omega)]
            exact hbad
          · rw [y_bl_f hz]
            by_cases c : z < 0
            · rw [if_pos c]; exact hbad
            · rw [if_neg c, if_neg (by
                have := hz2.resolve_left c
                obtain ⟨j, hj, rfl⟩ := nI_of c
                rw [y_le (by omega) hj] at this
                rw [y_lt hj (by omega)]; omega)]
              exact hbad
        · rw [if_neg d, y_b1, y_b1, if_neg (show ¬ (-13 : Int32) = 0 by decide), if_neg (show ¬ (-13 : Int32) = 0 by decide)]; exact hbad
    · rw [e1, y_b1, if_pos (show (0 : Int32) = 0 from rfl)]
      rcases e2 with e2 | ⟨e2, e3, e4⟩
      · rw [if_pos e2]; exact hbad
      · rw [if_neg e2, if_neg e4]; exact hbad
  · rw [y_bl_f hx, y_bl_f hx]; exact hbad
