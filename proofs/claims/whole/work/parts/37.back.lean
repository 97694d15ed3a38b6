theorem yG.cg {g g' : zM} {a : yA} (ok : yOk a) (hg : yG g a) (e0 : g' 0 0 = g 0 0) (e2 : g' 0 2 = g 0 2) (e4 : g' 0 4 = g 0 4) (f1 : ∀ j, j < 10 → g' 1 j = g 1 j) (f2 : ∀ j, j < 70 → g' 2 j = g 2 j) (f3 : ∀ j, j < 24 → g' 3 j = g 3 j) (f4 : ∀ j, j < 10 → g' 4 j = g 4 j) : yG g' a := by
  have h0 := ok.1
  obtain ⟨⟨c1, c2, c3⟩, c4, c5, c6, c7, c8, c9, c10, c11, c12, c13⟩ := hg
  exact ⟨⟨e0.trans c1, e2.trans c2, e4.trans c3⟩, fun p hp => (f1 p (by omega)).trans (c4 p hp), fun p hp => (f4 p (by omega)).trans (c5 p hp), fun i hi => (f2 _ (by omega)).trans (c6 i hi), fun i hi => (f2 _ (by omega)).trans (c7 i hi), fun i hi => (f2 _ (by omega)).trans (c8 i hi), fun i hi => (f2 _ (by omega)).trans (c9 i hi), fun i hi => (f2 _ (by omega)).trans (c10 i hi), fun i hi => (f3 _ (by omega)).trans (c11 i hi), fun i hi => (f3 _ (by omega)).trans (c12 i hi), fun i hi => (f3 _ (by omega)).trans (c13 i hi)⟩
theorem va_cpy_lt {f g : Nat → Int32} {n k : Nat} (h : k < n) : va_cpy f g 0 0 n k = f k := by
  unfold va_cpy
  rw [if_pos (by omega), Nat.zero_add, Nat.sub_zero]
theorem s8_become {w wo : zM} {a : yA} (ok : yOk a) (hc : yC wo a) (hB : zAllB (wo 7) 14 = true) : ∃ w', fX8_become w wo = some w' ∧ yC w' a ∧ w' 0 13 = wo 0 13 ∧ zAllB (w' 7) 14 = true := by
  have h0 := ok.1
  unfold fX8_become
  simp only [y_lt_e, y_gd hB]
  refine ⟨_, rfl, ?_, ?_, ?_⟩
  · obtain ⟨⟨c1, c2, c3⟩, c4, c5, c6, c7, c8, c9, c10, c11, c12, c13⟩ := hc
    refine ⟨⟨?_, ?_, ?_⟩, fun p hp => ?_, fun p hp => ?_, fun p hp => ?_, fun p hp => ?_, fun p hp => ?_, fun p hp => ?_, fun p hp => ?_, fun p hp => ?_, fun p hp => ?_, fun p hp => ?_⟩
    · repeat rw [zPr_k (by omega)]
      rw [zPu_j (by omega), zPu_j (by omega), zPu_j (by omega), zPu_s]; exact c1
    · repeat rw [zPr_k (by omega)]
      rw [zPu_j (by omega), zPu_j (by omega), zPu_s]; exact c2
    · repeat rw [zPr_k (by omega)]
      rw [zPu_j (by omega), zPu_s]; exact c3
    · rw [zPr_k (by omega), zPr_k (by omega), zPr_k (by omega), zPr_k (by omega), zPr_k (by omega), zPr_k (by omega), zPr_k (by omega), zPr_k (by omega), zPr_k (by omega), zPr_s, va_cpy_lt (by omega)]; exact c4 p hp
    · rw [zPr_k (by omega), zPr_k (by omega), zPr_k (by omega), zPr_k (by omega), zPr_k (by omega), zPr_k (by omega), zPr_k (by omega), zPr_k (by omega), zPr_s, va_cpy_lt (by omega)]; exact c5 p hp
    · rw [zPr_k (by omega), zPr_k (by omega), zPr_k (by omega), zPr_k (by omega), zPr_k (by omega), zPr_k (by omega), zPr_k (by omega), zPr_s, va_cpy_lt (by omega)]; exact c6 p hp
    · rw [zPr_k (by omega), zPr_k (by omega), zPr_k (by omega), zPr_k (by omega), zPr_k (by omega), zPr_k (by omega), zPr_s, va_cpy_lt (by omega)]; exact c7 p hp
    · rw [zPr_k (by omega), zPr_k (by omega), zPr_k (by omega), zPr_k (by omega), zPr_k (by omega), zPr_s, va_cpy_lt (by omega)]; exact c8 p hp
    · rw [zPr_k (by omega), zPr_k (by omega), zPr_k (by omega), zPr_k (by omega), zPr_s, va_cpy_lt (by omega)]; exact c9 p hp
    · rw [zPr_k (by omega), zPr_k (by omega), zPr_k (by omega), zPr_s, va_cpy_lt (by omega)]; exact c10 p hp
    · rw [zPr_k (by omega), zPr_k (by omega), zPr_s, va_cpy_lt (by omega)]; exact c11 p hp
    · rw [zPr_k (by omega), zPr_s, va_cpy_lt (by omega)]; exact c12 p hp
    · rw [zPr_s, va_cpy_lt (by omega)]; exact c13 p hp
  · repeat rw [zPr_k (by omega)]
    rw [zPu_s]
  · rw [zPr_k (by omega), zPr_k (by omega), zPr_k (by omega), zPr_s]
    unfold zAllB at hB ⊢
    rw [List.all_eq_true] at hB ⊢
    intro i hi
    rw [va_cpy_lt (List.mem_range.mp hi)]; exact hB i hi
def zKv (g : zM) : zM := fun k j => if k = 0 then (if j = 0 then g 25 0 else if j = 2 then g 25 1 else g 25 2) else if k = 1 then g 25 (4 + j) else if k = 2 then g 25 (14 + j) else if k = 3 then g 25 (84 + j) else g 25 (108 + j)
def pK (gx gok g : zM) : Prop := gx 0 3 = g 0 50 ∧ zAllB (gok 7) 14 = true ∧ (g 0 50 = 0 ∨ (g 0 50 = 1 ∧ ∃ ak, yOk ak ∧ yC gok ak ∧ yG (zKv g) ak ∧ gok 0 13 = g 25 3))
theorem pK.eq {gx gok g g' : zM} (h : pK gx gok g) (e : eqK g g') : pK gx gok g' := by
  obtain ⟨e1, e2⟩ := e
  unfold pK zKv
  rw [e1, e2]; exact h
theorem s10_moveAll {g : zM} {gl : zL} (a3 : Int32) : ∃ g', fX10_moveAll g gl a3 = some g' ∧ (∀ j, j ≠ 52 → g' 0 j = g 0 j) ∧ (∀ k, k ≠ 0 → k ≠ 1 → k ≠ 2 → k ≠ 3 → k ≠ 4 → k ≠ 25 → k ≠ 26 → g' k = g k) ∧ ((a3 = 0 ∧ g' 25 = g 25 ∧ (∀ j, j < 4 → g' 26 j = g 25 j) ∧ (∀ j, j < 10 → g' 1 j = g 25 (4 + j)) ∧ (∀ j, j < 70 → g' 2 j = g 25 (14 + j)) ∧ (∀ j, j < 24 → g' 3 j = g 25 (84 + j)) ∧ (∀ j, j < 10 → g' 4 j = g 25 (108 + j))) ∨ (¬ a3 = 0 ∧ (∀ k, 1 ≤ k → k ≤ 4 → g' k = g k) ∧ g' 25 0 = g 0 0 ∧ g' 25 1 = g 0 2 ∧ g' 25 2 = g 0 4 ∧ g' 25 3 = g 0 7 ∧ (∀ j, j < 10 → g' 25 (4 + j) = g 1 j) ∧ (∀ j, j < 70 → g' 25 (14 + j) = g 2 j) ∧ (∀ j, j < 24 → g' 25 (84 + j) = g 3 j) ∧ (∀ j, j < 10 → g' 25 (108 + j) = g 4 j))) := by
  have t0 : (0 : Int32).toNatClampNeg = 0 := rfl
  have t1 : (1 : Int32).toNatClampNeg = 1 := rfl
  have t2 : (2 : Int32).toNatClampNeg = 2 := rfl
  have t3 : (3 : Int32).toNatClampNeg = 3 := rfl
  unfold fX10_moveAll
  simp only [y_lt_e, y_gd (show zIn 0 4 = true from rfl), y_gd (show zIn 1 4 = true from rfl), y_gd (show zIn 2 4 = true from rfl), y_gd (show zIn 3 4 = true from rfl), t0, t1, t2, t3, zPu_k (show 0 ≠ 26 by omega), zPu_j (show 0 ≠ 52 by omega), zPu_j (show 2 ≠ 52 by omega), zPu_j (show 4 ≠ 52 by omega), zPu_j (show 7 ≠ 52 by omega)]
  generalize hg1 : zPu (zPu (zPu (zPu (zPu g 0 52 0) 26 0 (g 0 0)) 26 1 (g 0 2)) 26 2 (g 0 4)) 26 3 (g 0 7) = g1
  have s0 : g1 0 52 = nI 0 := by rw [← hg1, zPu_k (by omega), zPu_k (by omega), zPu_k (by omega), zPu_k (by omega), zPu_s]; rfl
  have sj : ∀ j, j ≠ 52 → g1 0 j = g 0 j := fun j hj => by rw [← hg1, zPu_k (by omega), zPu_k (by omega), zPu_k (by omega), zPu_k (by omega), zPu_j hj]
  have sk : ∀ k, k ≠ 0 → k ≠ 26 → g1 k = g k := fun k k0 k1 => by rw [← hg1, zPu_k k1, zPu_k k1, zPu_k k1, zPu_k k1, zPu_k k0]
  have q0 : g1 26 0 = g 0 0 := by rw [← hg1, zPu_j (by omega), zPu_j (by omega), zPu_j (by omega), zPu_s]
  have q1 : g1 26 1 = g 0 2 := by rw [← hg1, zPu_j (by omega), zPu_j (by omega), zPu_s]
  have q2 : g1 26 2 = g 0 4 := by rw [← hg1, zPu_j (by omega), zPu_s]
  have q3 : g1 26 3 = g 0 7 := by rw [← hg1, zPu_s]
  obtain ⟨g2, a1, a2, a3', a4, a5⟩ := s10_mv26 (gl := gl) (o := 0) (by omega) s0 a3
  obtain ⟨g3, b1, b2, b3, b4, b5⟩ := s10_mv1 (gl := gl) (by omega) a2 a3
  obtain ⟨g4, c1, c2, c3, c4, c5⟩ := s10_mv2 (gl := gl) (by omega) b2 a3
  obtain ⟨g5, d1, d2, d3, d4, d5⟩ := s10_mv3 (gl := gl) (by omega) c2 a3
  obtain ⟨g6, e1, e2, e3, e4, e5⟩ := s10_mv4 (gl := gl) (by omega) d2 a3
  rw [a1, y_b1, b1, y_b1, c1, y_b1, d1, y_b1, e1, y_b1]
  refine ⟨g6, rfl, ?_, ?_, ?_⟩
  · intro j hj; rw [e3 j hj, d3 j hj, c3 j hj, b3 j hj, a3' j hj, sj j hj]
  · intro k k0 k1 k2 k3 k4 k25 k26
    rw [e4 k k0 k25 k4, d4 k k0 k25 k3, c4 k k0 k25 k2, b4 k k0 k25 k1, a4 k k0 k25 k26, sk k k0 k26]
  · by_cases z : a3 = 0
    · left
      have a5 := a5.resolve_right (fun h => h.1 z)
      have b5 := b5.resolve_right (fun h => h.1 z)
      have c5 := c5.resolve_right (fun h => h.1 z)
      have d5 := d5.resolve_right (fun h => h.1 z)
      have e5 := e5.resolve_right (fun h => h.1 z)
      have k2 : g2 25 = g 25 := by rw [a5.2.1, sk 25 (by omega) (by omega)]
      have k3 : g3 25 = g 25 := by rw [b5.2.1, k2]
      have k4 : g4 25 = g 25 := by rw [c5.2.1, k3]
      have k5 : g5 25 = g 25 := by rw [d5.2.1, k4]
      refine ⟨z, by rw [e5.2.1, k5], ?_, ?_, ?_, ?_, ?_⟩
      · intro j hj
        rw [e4 26 (by omega) (by omega) (by omega), d4 26 (by omega) (by omega) (by omega), c4 26 (by omega) (by omega) (by omega), b4 26 (by omega) (by omega) (by omega), a5.2.2 j hj, Nat.zero_add, sk 25 (by omega) (by omega)]
      · intro j hj
        rw [e4 1 (by omega) (by omega) (by omega), d4 1 (by omega) (by omega) (by omega), c4 1 (by omega) (by omega) (by omega), b5.2.2 j hj, k2]
      · intro j hj
        rw [e4 2 (by omega) (by omega) (by omega), d4 2 (by omega) (by omega) (by omega), c5.2.2 j hj, k3]
      · intro j hj
        rw [e4 3 (by omega) (by omega) (by omega), d5.2.2 j hj, k4]
      · intro j hj
        rw [e5.2.2 j hj, k5]
    · right
      have a5 := a5.resolve_left (fun h => z h.1)
      have b5 := b5.resolve_left (fun h => z h.1)
      have c5 := c5.resolve_left (fun h => z h.1)
      have d5 := d5.resolve_left (fun h => z h.1)
      have e5 := e5.resolve_left (fun h => z h.1)
      obtain ⟨-, a6, a7, a8⟩ := a5
      obtain ⟨-, b6, b7, b8⟩ := b5
      obtain ⟨-, c6, c7, c8⟩ := c5
      obtain ⟨-, d6, d7, d8⟩ := d5
      obtain ⟨-, e6, e7, e8⟩ := e5
      have r1 : g2 1 = g 1 := by rw [a4 1 (by omega) (by omega) (by omega), sk 1 (by omega) (by omega)]
      have r2 : g3 2 = g 2 := by rw [b4 2 (by omega) (by omega) (by omega), a4 2 (by omega) (by omega) (by omega), sk 2 (by omega) (by omega)]
      have r3 : g4 3 = g 3 := by rw [c4 3 (by omega) (by omega) (by omega), b4 3 (by omega) (by omega) (by omega), a4 3 (by omega) (by omega) (by omega), sk 3 (by omega) (by omega)]
      have r4 : g5 4 = g 4 := by rw [d4 4 (by omega) (by omega) (by omega), c4 4 (by omega) (by omega) (by omega), b4 4 (by omega) (by omega) (by omega), a4 4 (by omega) (by omega) (by omega), sk 4 (by omega) (by omega)]
      have sg : ∀ j, j < 4 → g6 25 j = g1 26 j := fun j hj => by
        rw [e8 j (by omega), d8 j (by omega), c8 j (by omega), b8 j (by omega)]
        have := a7 j hj
        rw [Nat.zero_add] at this; exact this
      refine ⟨z, ?_, by rw [sg 0 (by omega), q0], by rw [sg 1 (by omega), q1], by rw [sg 2 (by omega), q2], by rw [sg 3 (by omega), q3], ?_, ?_, ?_, ?_⟩
      · intro k k1 k2
        have : k = 1 ∨ k = 2 ∨ k = 3 ∨ k = 4 := by omega
        rcases this with rfl | rfl | rfl | rfl
        · rw [e4 1 (by omega) (by omega) (by omega), d4 1 (by omega) (by omega) (by omega), c4 1 (by omega) (by omega) (by omega), b6, r1]
        · rw [e4 2 (by omega) (by omega) (by omega), d4 2 (by omega) (by omega) (by omega), c6, r2]
        · rw [e4 3 (by omega) (by omega) (by omega), d6, r3]
        · rw [e6, r4]
      · intro j hj
        rw [e8 _ (by omega), d8 _ (by omega), c8 _ (by omega), ← r1]; exact b7 j hj
      · intro j hj
        rw [e8 _ (by omega), d8 _ (by omega), ← r2]; exact c7 j hj
      · intro j hj
        rw [e8 _ (by omega), ← r3]; exact d7 j hj
      · intro j hj
        rw [← r4]; exact e7 j hj
theorem m_keep {gx w gok g : zM} {gl : zL} {a : yA} (ok : yOk a) (hc : yC w a) (hg : yG g a) (hz : w 0 13 = g 0 7) (hB : zAllB (w 7) 14 = true) : ∃ r gx' gok' g', fX9_keep gx w gok = some (r, gx', gok') ∧ fX10_keep g gl = some (r, g') ∧ pK gx' gok' g' ∧ yG g' a ∧ g' 0 7 = g 0 7 ∧ eqT g g' ∧ eqR g g' ∧ eqH g g' ∧ eqA g g' := by
  unfold fX9_keep fX10_keep
  obtain ⟨k', e1, e2, e3, e4⟩ := s8_become (w := gok) ok hc hB
  obtain ⟨g', d1, d2, d3, d4⟩ := s10_moveAll (g := g) (gl := gl) 1
  have d4 := d4.resolve_left (fun h => absurd h.1 (by decide))
  obtain ⟨-, d5, d6, d7, d8, d9, d10, d11, d12, d13⟩ := d4
  rw [e1, y_b1, y_lt_e, d1, y_b1, y_lt_e]
  refine ⟨_, _, _, _, rfl, rfl, ⟨by rw [zPu_s, zPu_s], e4, Or.inr ⟨zPu_s, a, ok, e2, ?_, ?_⟩⟩, ?_, ?_, ?_, ?_, ?_, ?_⟩
  · refine hg.cg ok ?_ ?_ ?_ (fun j hj => ?_) (fun j hj => ?_) (fun j hj => ?_) (fun j hj => ?_)
    · show zPu g' 0 50 1 25 0 = _; rw [zPu_k (by omega)]; exact d6
    · show zPu g' 0 50 1 25 1 = _; rw [zPu_k (by omega)]; exact d7
    · show zPu g' 0 50 1 25 2 = _; rw [zPu_k (by omega)]; exact d8
    · show zPu g' 0 50 1 25 (4 + j) = _; rw [zPu_k (by omega)]; exact d10 j hj
    · show zPu g' 0 50 1 25 (14 + j) = _; rw [zPu_k (by omega)]; exact d11 j hj
    · show zPu g' 0 50 1 25 (84 + j) = _; rw [zPu_k (by omega)]; exact d12 j hj
    · show zPu g' 0 50 1 25 (108 + j) = _; rw [zPu_k (by omega)]; exact d13 j hj
  · rw [e3, hz, zPu_k (by omega), d9]
  · refine hg.cg ok ?_ ?_ ?_ (fun j hj => ?_) (fun j hj => ?_) (fun j hj => ?_) (fun j hj => ?_)
    · rw [zPu_j (by omega), d2 _ (by omega)]
    · rw [zPu_j (by omega), d2 _ (by omega)]
    · rw [zPu_j (by omega), d2 _ (by omega)]
    · rw [zPu_k (by omega), d5 1 (by omega) (by omega)]
    · rw [zPu_k (by omega), d5 2 (by omega) (by omega)]
    · rw [zPu_k (by omega), d5 3 (by omega) (by omega)]
    · rw [zPu_k (by omega), d5 4 (by omega) (by omega)]
  · rw [zPu_j (by omega), d2 _ (by omega)]
  · exact ⟨by rw [zPu_j (by omega), d2 _ (by omega)], by rw [zPu_k (by omega), d3 5 (by omega) (by omega) (by omega) (by omega) (by omega) (by omega) (by omega)]⟩
  · exact ⟨by rw [zPu_j (by omega), d2 _ (by omega)], by rw [zPu_k (by omega), d3 16 (by omega) (by omega) (by omega) (by omega) (by omega) (by omega) (by omega)]⟩
  · exact ⟨by rw [zPu_k (by omega), d3 18 (by omega) (by omega) (by omega) (by omega) (by omega) (by omega) (by omega)], by rw [zPu_k (by omega), d3 19 (by omega) (by omega) (by omega) (by omega) (by omega) (by omega) (by omega)], by rw [zPu_k (by omega), d3 21 (by omega) (by omega) (by omega) (by omega) (by omega) (by omega) (by omega)], by rw [zPu_k (by omega), d3 22 (by omega) (by omega) (by omega) (by omega) (by omega) (by omega) (by omega)], by rw [zPu_k (by omega), d3 23 (by omega) (by omega) (by omega) (by omega) (by omega) (by omega) (by omega)]⟩
  · exact ⟨by rw [zPu_j (by omega), d2 _ (by omega)], by rw [zPu_k (by omega), d3 24 (by omega) (by omega) (by omega) (by omega) (by omega) (by omega) (by omega)]⟩
theorem m_back {gx w gok g : zM} {gl : zL} {a : yA} (ok : yOk a) (hc : yC w a) (hg : yG g a) (hz : w 0 13 = g 0 7) (hB : zAllB (w 7) 14 = true) (hk : pK gx gok g) : ∃ r w' g' a', fX9_back gx w gok = some (r, w') ∧ fX10_back g gl = some (r, g') ∧ yOk a' ∧ yC w' a' ∧ yG g' a' ∧ w' 0 13 = g' 0 7 ∧ zAllB (w' 7) 14 = true ∧ eqO g g' := by
  unfold fX9_back fX10_back
  obtain ⟨k1, k2, k3⟩ := hk
  rw [k1]
  rcases k3 with e | ⟨e, ak, a1, a2, a3, a4⟩
  · rw [if_pos e, if_pos e]; exact ⟨_, w, g, a, rfl, rfl, ok, hc, hg, hz, hB, eqO.rf g⟩
  · rw [if_neg (by rw [e]; decide), if_neg (by rw [e]; decide)]
    obtain ⟨w', e1, e2, e3, e4⟩ := s8_become (w := w) a1 a2 k2
    obtain ⟨g', d1, d2, d3, d4⟩ := s10_moveAll (g := g) (gl := gl) 0
    have d4 := d4.resolve_right (fun h => absurd rfl h.1)
    obtain ⟨-, d5, d6, d7, d8, d9, d10⟩ := d4
    have t0 : (0 : Int32).toNatClampNeg = 0 := rfl
    have t1 : (1 : Int32).toNatClampNeg = 1 := rfl
    have t2 : (2 : Int32).toNatClampNeg = 2 := rfl
    have t3 : (3 : Int32).toNatClampNeg = 3 := rfl
    rw [e1, y_b1, d1, y_b1]
    simp only [y_lt_e, y_gd (show zIn 0 4 = true from rfl), y_gd (show zIn 1 4 = true from rfl), y_gd (show zIn 2 4 = true from rfl), y_gd (show zIn 3 4 = true from rfl), t0, t1, t2, t3, zPu_k (show 26 ≠ 0 by omega), zPu_j (show 2 ≠ 7 by omega), zPu_j (show 2 ≠ 4 by omega), zPu_s, d6 0 (by omega), d6 1 (by omega), d6 2 (by omega), d6 3 (by omega)]
    have g1 : g 25 1 = nI (ak 0 1) := a3.1.2.1
    rw [e2.1.2.1, g1]
    refine ⟨_, _, _, ak, rfl, rfl, a1, e2, ?_, ?_, e4, ?_⟩
    · refine a3.cg a1 ?_ ?_ ?_ (fun j hj => ?_) (fun j hj => ?_) (fun j hj => ?_) (fun j hj => ?_)
      · rw [zPu_j (by omega), zPu_j (by omega), zPu_j (by omega), zPu_s]; rfl
      · rw [zPu_j (by omega), zPu_j (by omega), zPu_s]; exact g1.symm
      · rw [zPu_j (by omega), zPu_s]; rfl
      · rw [zPu_k (by omega), zPu_k (by omega), zPu_k (by omega), zPu_k (by omega)]; exact d7 j hj
      · rw [zPu_k (by omega), zPu_k (by omega), zPu_k (by omega), zPu_k (by omega)]; exact d8 j hj
      · rw [zPu_k (by omega), zPu_k (by omega), zPu_k (by omega), zPu_k (by omega)]; exact d9 j hj
      · rw [zPu_k (by omega), zPu_k (by omega), zPu_k (by omega), zPu_k (by omega)]; exact d10 j hj
    · rw [zPu_s, e3, a4]
    · have eo : eqO g g' := ⟨⟨d2 9 (by omega), d3 5 (by omega) (by omega) (by omega) (by omega) (by omega) (by omega) (by omega)⟩, ⟨d2 36 (by omega), d3 16 (by omega) (by omega) (by omega) (by omega) (by omega) (by omega) (by omega)⟩, ⟨d3 18 (by omega) (by omega) (by omega) (by omega) (by omega) (by omega) (by omega), d3 19 (by omega) (by omega) (by omega) (by omega) (by omega) (by omega) (by omega), d3 21 (by omega) (by omega) (by omega) (by omega) (by omega) (by omega) (by omega), d3 22 (by omega) (by omega) (by omega) (by omega) (by omega) (by omega) (by omega), d3 23 (by omega) (by omega) (by omega) (by omega) (by omega) (by omega) (by omega)⟩, ⟨d2 48 (by omega), d3 24 (by omega) (by omega) (by omega) (by omega) (by omega) (by omega) (by omega)⟩, d2 50 (by omega), d5⟩
      exact (((eo.pu0 (by decide)).pu0 (by decide)).pu0 (by decide)).pu0 (by decide)
