/-! ===== people anew ===== -/
def yNew (n : Nat) : yA := fun r j => if r = 0 then (if j = 0 then n else 0) else if r = 1 then 1 else 0
theorem yNew_ok {n : Nat} (h1 : 1 ≤ n) (h2 : n ≤ 10) : yOk (yNew n) := by
  refine ⟨⟨h1, h2, ?_, ?_⟩, fun p _ => ⟨?_, ?_⟩, fun i hi => absurd hi (Nat.not_lt_zero i), fun i hi => absurd hi (Nat.not_lt_zero i), fun i j hi => absurd hi (Nat.not_lt_zero i)⟩
  · exact Nat.zero_le _
  · exact Nat.zero_le _
  · show 1 ≤ 9; omega
  · exact Nat.zero_le _
theorem s8_startWith {w : zM} {n : Nat} (h2 : n ≤ 10) : ∃ w', fX8_startWith w (nI n) = some w' ∧ yC w' (yNew n) ∧ w' 0 13 = w 0 13 ∧ (∀ k, 3 ≤ k → w' k = w k) := by
  unfold fX8_startWith
  rw [y_lt_e, y_lt_e, y_lt_e]
  obtain ⟨t, e1, e2⟩ := sJ_fill (n := 10) (by omega) (fun _ => zPu (zPu (zPu w 0 0 (nI n)) 0 3 0) 0 9 0 1) 1
  rw [e1, y_b1, y_lt_e]
  obtain ⟨u, e3, e4⟩ := sJ_fill (n := 10) (by omega) (fun _ => zPr (zPu (zPu (zPu w 0 0 (nI n)) 0 3 0) 0 9 0) 1 (t 0) 2) (-1)
  rw [e3, y_b1, y_lt_e]
  refine ⟨_, rfl, ⟨⟨?_, ?_, ?_⟩, ?_, ?_, fun i hi => absurd hi (Nat.not_lt_zero i), fun i hi => absurd hi (Nat.not_lt_zero i), fun i hi => absurd hi (Nat.not_lt_zero i), fun i hi => absurd hi (Nat.not_lt_zero i), fun i hi => absurd hi (Nat.not_lt_zero i), fun i hi => absurd hi (Nat.not_lt_zero i), fun i hi => absurd hi (Nat.not_lt_zero i), fun i hi => absurd hi (Nat.not_lt_zero i)⟩, ?_, ?_⟩
  · rw [zPr_k (by omega), zPr_k (by omega), zPu_j (by omega), zPu_j (by omega), zPu_s]; rfl
  · rw [zPr_k (by omega), zPr_k (by omega), zPu_j (by omega), zPu_s]; rfl
  · rw [zPr_k (by omega), zPr_k (by omega), zPu_s]; rfl
  · intro p hp
    have hp : p < n := hp
    rw [zPr_k (by omega), zPr_s, e2, if_pos (by omega)]; rfl
  · intro p hp
    have hp : p < n := hp
    rw [zPr_s, e4, if_pos (by omega)]; rfl
  · rw [zPr_k (by omega), zPr_k (by omega), zPu_j (by omega), zPu_j (by omega), zPu_j (by omega)]
  · intro k hk
    rw [zPr_k (by omega), zPr_k (by omega), zPu_k (by omega), zPu_k (by omega), zPu_k (by omega)]
theorem s10_begin {g : zM} {gl : zL} {n : Nat} (h2 : n ≤ 10) : ∃ g', fX10_begin g gl (nI n) = some g' ∧ yG g' (yNew n) ∧ g' 0 36 = 0 ∧ (∀ j, j ≠ 0 → j ≠ 2 → j ≠ 4 → j ≠ 36 → g' 0 j = g 0 j) ∧ (∀ k, k ≠ 0 → k ≠ 1 → k ≠ 4 → g' k = g k) ∧ (∀ j, j < 10 → g' 1 j = 1 ∧ g' 4 j = 0) := by
  have key : ∀ h0 : zM, ∃ b, zLp fX10_begin_L22 zFU ((fun k (x : zM) => (nI k, x)) 0 h0) = some b ∧ (b 0 = h0 0 ∧ (∀ k, k ≠ 0 → k ≠ 1 → k ≠ 4 → b k = h0 k) ∧ ∀ j, j < 10 → b 1 j = 1 ∧ b 4 j = 0) := by
    intro h0
    refine y_for (fun k (x : zM) => (nI k, x)) 10 (fun k b => b 0 = h0 0 ∧ (∀ k, k ≠ 0 → k ≠ 1 → k ≠ 4 → b k = h0 k) ∧ ∀ j, j < k → b 1 j = 1 ∧ b 4 j = 0) _ ?_ ?_ zFU 0 h0 (by omega) ⟨rfl, fun _ _ _ _ => rfl, fun j hj => absurd hj (by omega)⟩ (by unfold zFU; omega)
    · rintro k x hk ⟨i1, i2, i3⟩
      refine ⟨zPu (zPu x 1 k 1) 4 k 0, ?_, ?_, ?_, ?_⟩
      · show fX10_begin_L22 (nI k, x) = _
        unfold fX10_begin_L22
        rw [y_u2, show (10 : Int32) = nI 10 from rfl, y_le_f (by omega) (by omega), y_gin (by omega) (by omega), y_lt_e, y_gin (by omega) (by omega), y_lt_e, y_lt_e, y_cl (by omega), y_a1]
      · rw [zPu_k (by omega), zPu_k (by omega)]; exact i1
      · intro m m0 m1 m4
        rw [zPu_k m4, zPu_k m1]; exact i2 m m0 m1 m4
      · intro j hj
        by_cases e : j = k
        · subst e; rw [zPu_k (by omega), zPu_s, zPu_s]; exact ⟨rfl, rfl⟩
        · rw [zPu_k (by omega), zPu_j e, zPu_j e, zPu_k (by omega)]; exact i3 j (by omega)
    · intro x hx
      refine ⟨x, ?_, hx⟩
      show fX10_begin_L22 (nI 10, x) = _
      unfold fX10_begin_L22
      rw [y_u2, show (10 : Int32) = nI 10 from rfl, y_le_t (by omega) (by omega)]
  obtain ⟨b, e, b1, b2, b3⟩ := key (zPu (zPu (zPu (zPu g 0 0 (nI n)) 0 2 0) 0 4 0) 0 36 0)
  unfold fX10_begin
  refine ⟨b, ?_, ⟨⟨?_, ?_, ?_⟩, ?_, ?_, fun i hi => absurd hi (Nat.not_lt_zero i), fun i hi => absurd hi (Nat.not_lt_zero i), fun i hi => absurd hi (Nat.not_lt_zero i), fun i hi => absurd hi (Nat.not_lt_zero i), fun i hi => absurd hi (Nat.not_lt_zero i), fun i hi => absurd hi (Nat.not_lt_zero i), fun i hi => absurd hi (Nat.not_lt_zero i), fun i hi => absurd hi (Nat.not_lt_zero i)⟩, ?_, ?_, ?_, b3⟩
  · rw [y_lt_e, y_lt_e, y_lt_e, y_lt_e]
    show zB1 (zLp fX10_begin_L22 zFU ((fun k (x : zM) => (nI k, x)) 0 _)) _ = _
    rw [e, y_b1, y_u1]
  · rw [b1, zPu_j (by omega), zPu_j (by omega), zPu_j (by omega), zPu_s]; rfl
  · rw [b1, zPu_j (by omega), zPu_j (by omega), zPu_s]; rfl
  · rw [b1, zPu_j (by omega), zPu_s]; rfl
  · intro p hp
    have hp : p < n := hp
    rw [(b3 p (by omega)).1]; rfl
  · intro p hp
    have hp : p < n := hp
    rw [(b3 p (by omega)).2]; rfl
  · rw [b1, zPu_s]
  · intro j j1 j2 j3 j4
    rw [b1, zPu_j j4, zPu_j j3, zPu_j j2, zPu_j j1]
  · intro k k1 k2 k3
    rw [b2 k k1 k2 k3, zPu_k k1, zPu_k k1, zPu_k k1, zPu_k k1]
def pR (gr g : zM) : Prop := ∃ n, n ≤ 10 ∧ gr 0 1 = nI n ∧ g 0 36 = nI n ∧ ∀ i j, i < n → j < 3 → gr (2 + i) j = g 16 (3 * i + j)
theorem m_people {gx w gr g : zM} {gl : zL} {a : yA} (ok : yOk a) (hc : yC w a) (hg : yG g a) (hr : pR gr g) (x : Int32) : ∃ r w' gr' g' a', fX9_people gx w gr x = some (r, w', gr') ∧ fX10_people g gl x = some (r, g') ∧ yOk a' ∧ yC w' a' ∧ yG g' a' ∧ w' 0 13 = w 0 13 ∧ g' 0 7 = g 0 7 ∧ w' 7 = w 7 ∧ pR gr' g' ∧ eqT g g' ∧ eqH g g' ∧ eqA g g' ∧ eqK g g' := by
  unfold fX9_people fX10_people
  have eo := eqO.rf g
  rcases y_rng x (L := 1) (M := 10) (l := 1) (m := 10) rfl rfl (by omega) (by omega) with ⟨n, n1, n2, rfl, e1, e2, e3, e4⟩ | ⟨e1, e2⟩
  · rw [e1, y_b1, if_neg (show ¬ (1 : Int32) = 0 by decide), if_neg e2, if_pos e4]
    obtain ⟨w', c1, c2, c3, c4⟩ := s8_startWith (w := w) n2
    obtain ⟨g', d1, d2, d3, d4, d5, d6⟩ := s10_begin (g := g) (gl := gl) n2
    rw [c1, y_b1, y_lt_e, d1, y_b1]
    refine ⟨_, _, _, _, yNew n, rfl, rfl, yNew_ok n1 n2, c2, d2, c3, d4 7 (by omega) (by omega) (by omega) (by omega), c4 7 (by omega), ⟨0, by omega, zPu_s, d3, fun i j hi => absurd hi (by omega)⟩, ⟨d4 9 (by omega) (by omega) (by omega) (by omega), d5 5 (by omega) (by omega) (by omega)⟩, ⟨d5 18 (by omega) (by omega) (by omega), d5 19 (by omega) (by omega) (by omega), d5 21 (by omega) (by omega) (by omega), d5 22 (by omega) (by omega) (by omega), d5 23 (by omega) (by omega) (by omega)⟩, ⟨d4 48 (by omega) (by omega) (by omega) (by omega), d5 24 (by omega) (by omega) (by omega)⟩, d4 50 (by omega) (by omega) (by omega) (by omega), d5 25 (by omega) (by omega) (by omega)⟩
  · rw [e1, y_b1, if_pos (show (0 : Int32) = 0 from rfl)]
    rcases e2 with e2 | ⟨e2, e3, e4⟩
    · rw [if_pos e2]; exact ⟨_, w, gr, g, a, rfl, rfl, ok, hc, hg, rfl, rfl, rfl, hr, eo.1, eo.2.2.1, eo.2.2.2.1, eo.2.2.2.2⟩
    · rw [if_neg e2, if_neg e4]; exact ⟨_, w, gr, g, a, rfl, rfl, ok, hc, hg, rfl, rfl, rfl, hr, eo.1, eo.2.2.1, eo.2.2.2.1, eo.2.2.2.2⟩
/-! ===== unsure, many ===== -/
def yUn (a : yA) : Nat := yMk (fun i => yOpen a i 0 && decide (a 6 i < 4)) (a 0 1)
theorem yUn_lt {a : yA} (ok : yOk a) : yUn a < 2 ^ 14 := Nat.lt_of_lt_of_le (yMk_lt _ _) (Nat.pow_le_pow_right (by omega) ok.1.2.2.1)
theorem s8_unsureTies {w : zM} {a : yA} (ok : yOk a) (hc : yC w a) : fX8_unsureTies w = some (nI (yUn a)) := by
  have h0 := ok.1
  have key : ∃ b, zLp (fX8_unsureTies_L4 w) zFU ((fun k (x : Nat) => (nI x, nI k)) 0 0) = some b ∧ b = nI (yUn a) := by
    refine y_for (fun k (x : Nat) => (nI x, nI k)) (a 0 1) (fun k x => x = yMk (fun i => yOpen a i 0 && decide (a 6 i < 4)) k) _ ?_ ?_ zFU 0 0 (by omega) rfl (by unfold zFU; omega)
    · intro k x hk hx
      have o := ok.2.2.1 k hk
      refine ⟨x ||| (if (yOpen a k 0 && decide (a 6 k < 4)) then 2 ^ k else 0), ?_, by rw [hx]; rfl⟩
      show fX8_unsureTies_L4 w (nI x, nI k) = _
      unfold fX8_unsureTies_L4 fX8_unsureTies_L4J37
      rw [y_u2, hc.1.2.1, y_le_f (by omega) (by omega), y_gin (by omega) (by omega), y_lt_e, y_cl (by omega), hc.2.2.2.2.2.2.1 k hk, show (4 : Int32) = nI 4 from rfl]
      by_cases c : a 6 k < 4
      · rw [y_le_f c (by omega), show fX8_isOpen w (nI k) 0 = _ from s8_isOpen (d := 0) ok hc hk (by omega), y_b1]
        cases ho : yOpen a k 0
        · rw [y_bl_f rfl, y_lt_e, y_a1]; simp
        · rw [y_bl_t rfl, y_lt_e, y_lt_e, y_one (by omega), y_or, y_a1]; simp [c]
      · rw [y_le_t (by omega) (by omega), y_lt_e, y_a1]; simp [c]
    · intro x hx
      refine ⟨_, ?_, rfl⟩
      show fX8_unsureTies_L4 w (nI x, nI (a 0 1)) = _
      unfold fX8_unsureTies_L4
      rw [y_u2, hc.1.2.1, y_le_t (by omega) (by omega), hx]
      rfl
  obtain ⟨b, hb, rfl⟩ := key
  unfold fX8_unsureTies
  rw [show ((0, 0) : Int32 × Int32) = (fun k (x : Nat) => (nI x, nI k)) 0 0 from rfl, hb, y_b1, y_u1]
theorem s10_unsure {g : zM} {gl : zL} {a : yA} (ok : yOk a) (hg : yG g a) : fX10_unsure g gl = some (nI (yUn a)) := by
  have h0 := ok.1
  have hO := yOs_lt ok 0
  have key : ∃ b, zLp (fX10_unsure_L10 g gl (nI (yOs a 0))) zFU ((fun k (x : Nat) => (nI x, nI k)) 0 0) = some b ∧ b = nI (yUn a) := by
    refine y_for (fun k (x : Nat) => (nI x, nI k)) (a 0 1) (fun k x => x = yMk (fun i => yOpen a i 0 && decide (a 6 i < 4)) k) _ ?_ ?_ zFU 0 0 (by omega) rfl (by unfold zFU; omega)
    · intro k x hk hx
      have o := ok.2.2.1 k hk
      refine ⟨x ||| (if (yOpen a k 0 && decide (a 6 k < 4)) then 2 ^ k else 0), ?_, by rw [hx]; rfl⟩
      show fX10_unsure_L10 g gl (nI (yOs a 0)) (nI x, nI k) = _
      unfold fX10_unsure_L10 fX10_unsure_L10J44 fX10_unsure_L10J45
      have hb : (yOs a 0).testBit k = yOpen a k 0 := by unfold yOs; rw [yMk_t]; simp [hk]
      simp only [y_u2, hg.1.2.1, y_le_f hk (show a 0 1 < 2147483648 by omega), y_bit1 (show yOs a 0 < 2147483648 by omega) (show k < 31 by omega), hb]
      cases ho : yOpen a k 0
      · rw [if_neg (by decide), y_lt_e, y_lt_e, show (0 : Int32) = nI 0 from rfl, y_or, y_a1]; simp
      · rw [if_pos rfl, show fX10_its g gl (nI k) 3 = _ from s10_its (by omega) (show 3 < 5 by omega), y_b1, hg.2.2.2.2.2.2.1 k hk, show (4 : Int32) = nI 4 from rfl]
        by_cases c : a 6 k < 4
        · rw [y_le_f c (by omega), y_lt_e, y_lt_e, y_one (by omega), y_or, y_a1]; simp [c]
        · rw [y_le_t (by omega) (by omega), y_lt_e, y_lt_e, show (0 : Int32) = nI 0 from rfl, y_or, y_a1]; simp [c]
    · intro x hx
      refine ⟨_, ?_, rfl⟩
      show fX10_unsure_L10 g gl (nI (yOs a 0)) (nI x, nI (a 0 1)) = _
      unfold fX10_unsure_L10
      rw [y_u2, hg.1.2.1, y_le_t (by omega) (by omega), hx]
      rfl
  obtain ⟨b, hb, rfl⟩ := key
  unfold fX10_unsure
  rw [s10_openOn0 ok hg, y_b1, show ((0, 0) : Int32 × Int32) = (fun k (x : Nat) => (nI x, nI k)) 0 0 from rfl, hb, y_b1, y_u1]
def ySh (a : yA) : Nat → Nat
  | 0 => 0
  | k + 1 => ySh a k + (if a 2 k = 0 then 0 else 1)
theorem s8_howManyShow {w : zM} {a : yA} (ok : yOk a) (hc : yC w a) : fX8_howManyShow w = some (nI (ySh a (a 0 0))) := by
  have h0 := ok.1
  have key : ∃ b, zLp (fX8_howManyShow_L4 w) zFU ((fun k (x : Nat) => (nI x, nI k)) 0 0) = some b ∧ b = nI (ySh a (a 0 0)) := by
    refine y_for (fun k (x : Nat) => (nI x, nI k)) (a 0 0) (fun k x => x = ySh a k) _ ?_ ?_ zFU 0 0 (by omega) rfl (by unfold zFU; omega)
    · intro k x hk hx
      have o := ok.2.1 k hk
      refine ⟨x + (if a 2 k = 0 then 0 else 1), ?_, by rw [hx]; rfl⟩
      show fX8_howManyShow_L4 w (nI x, nI k) = _
      unfold fX8_howManyShow_L4 fX8_howManyShow_L4J24
      rw [y_u2, hc.1.1, y_le_f (by omega) (by omega), y_gin (by omega) (by omega), y_lt_e, y_cl (by omega), hc.2.2.1 k hk]
      have h2 : a 2 k = 0 ∨ a 2 k = 1 ∨ a 2 k = 2 := by omega
      rcases h2 with e | e | e
      · rw [e, if_pos (by decide), y_lt_e, y_a1]; rfl
      · rw [e, if_neg (by decide), y_lt_e, y_lt_e, y_a1, y_a1]; rfl
      · rw [e, if_neg (by decide), y_lt_e, y_lt_e, y_a1, y_a1]; rfl
    · intro x hx
      refine ⟨_, ?_, rfl⟩
      show fX8_howManyShow_L4 w (nI x, nI (a 0 0)) = _
      unfold fX8_howManyShow_L4
      rw [y_u2, hc.1.1, y_le_t (by omega) (by omega), hx]
  obtain ⟨b, hb, rfl⟩ := key
  unfold fX8_howManyShow
  rw [show ((0, 0) : Int32 × Int32) = (fun k (x : Nat) => (nI x, nI k)) 0 0 from rfl, hb, y_b1, y_u1]
theorem s10_many3 {g : zM} {a : yA} (ok : yOk a) (hg : yG g a) : zLp (fX10_many_L65 g) zFU (0, 0) = some (nI (ySh a (a 0 0))) := by
  have h0 := ok.1
  have key : ∃ b, zLp (fX10_many_L65 g) zFU ((fun k (x : Nat) => (nI x, nI k)) 0 0) = some b ∧ b = nI (ySh a (a 0 0)) := by
    refine y_for (fun k (x : Nat) => (nI x, nI k)) (a 0 0) (fun k x => x = ySh a k) _ ?_ ?_ zFU 0 0 (by omega) rfl (by unfold zFU; omega)
    · intro k x hk hx
      have o := ok.2.1 k hk
      refine ⟨x + (if a 2 k = 0 then 0 else 1), ?_, by rw [hx]; rfl⟩
      show fX10_many_L65 g (nI x, nI k) = _
      unfold fX10_many_L65 fX10_many_L65J88
      rw [y_u2, hg.1.1, y_le_f (by omega) (by omega), y_gin (by omega) (by omega), y_lt_e, y_cl (by omega), hg.2.2.1 k hk]
      by_cases e : a 2 k = 0
      · rw [e, if_pos (by decide), y_lt_e, y_lt_e, y_a1, if_pos rfl, show (0 : Int32) = nI 0 from rfl, y_add]
      · rw [if_neg (show ¬ nI (a 2 k) ≤ 0 from by rw [show (0 : Int32) = nI 0 from rfl, y_le (by omega) (by omega)]; omega), y_lt_e, y_lt_e, y_a1, y_a1, if_neg e]
    · intro x hx
      refine ⟨_, ?_, rfl⟩
      show fX10_many_L65 g (nI x, nI (a 0 0)) = _
      unfold fX10_many_L65
      rw [y_u2, hg.1.1, y_le_t (by omega) (by omega), hx]
  obtain ⟨b, hb, rfl⟩ := key
  exact hb
theorem m_many {gx w gt gr ga g : zM} {gl : zL} {a : yA} (ok : yOk a) (hc : yC w a) (hg : yG g a) (hr : gr 0 1 = g 0 36) (ht : gt 0 1 = g 0 9) (ha : ga 0 1 = g 0 48) (x : Int32) : ∃ r, fX9_many gx w gt gr ga x = some r ∧ fX10_many g gl x = some r := by
  have hU := yUn_lt ok
  unfold fX9_many fX10_many
  rw [hc.1.1, hc.1.2.1, hc.1.2.2, hg.1.1, hg.1.2.1, hg.1.2.2, s8_howManyShow ok hc, y_b1, s10_many3 ok hg, y_b1, y_u1, s8_unsureTies ok hc, y_b1, y_bc hU, y_b1, s10_unsure ok hg, y_b1, s10_ones hU, y_b1, hr, ht, ha]
  have key : ∀ E : Option Int32, E.isSome = true → ∃ r, E = some r ∧ E = some r := fun E h => by
    obtain ⟨r, hr⟩ := Option.isSome_iff_exists.mp h
    exact ⟨r, hr, hr⟩
  refine key _ ?_
  repeat' split
  all_goals rfl
