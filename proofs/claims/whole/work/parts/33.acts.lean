/-! ===== acts ===== -/
def pA (ga g : zM) : Prop := ∃ c, c ≤ 30 ∧ ga 0 1 = nI c ∧ g 0 48 = nI c ∧ ∀ i, i < c → ga 1 i = g 24 i
def pFr (g0 g : zM) : Prop := (∀ k, k ≠ 0 → k ≠ 24 → g k = g0 k) ∧ ∀ j, j ≠ 48 → j ≠ 49 → g 0 j = g0 0 j
def pSb (b : Int32) (g0 : zM) (k n o : Int32) (ga g : zM) : Prop := pA ga g ∧ ga 0 2 = b ∧ g 0 49 = b ∧ ga 0 3 = k ∧ ga 0 4 = n ∧ ga 0 5 = o ∧ g 0 44 = k ∧ g 0 45 = n ∧ g 0 46 = o ∧ pFr g0 g
def pXx (g0 : zM) (k n o : Int32) (r r' : Option (Int32 × zM)) : Prop := ∃ v v' ga' g', r = some (v, ga') ∧ r' = some (v', g') ∧ ((pSb 0 g0 k n o ga' g' ∧ v = v') ∨ pSb 1 g0 k n o ga' g')
theorem s0_begin {g0 ga g : zM} {gl : zL} {k n o : Int32} (h : pSb 0 g0 k n o ga g) (b : Int32) : ∃ ga' g', fX0_begin ga b = some ga' ∧ fX10_ran g gl b = some g' ∧ pSb 0 g0 k n o ga' g' := by
  obtain ⟨⟨c, c1, c2, c3, c4⟩, h2, h3, h4, h5, h6, h7, h8, h9, h10⟩ := h
  unfold fX0_begin fX10_ran
  rw [h2, if_pos (show (0 : Int32) = 0 from rfl), c2, c3, show (30 : Int32) = nI 30 from rfl]
  by_cases e : c = 30
  · rw [y_le_t (by omega) (by omega), y_le_t (by omega) (by omega)]
    exact ⟨_, _, rfl, rfl, ⟨c, c1, c2, c3, c4⟩, h2, h3, h4, h5, h6, h7, h8, h9, h10⟩
  · rw [y_le_f (by omega) (by omega), y_le_f (by omega) (by omega), y_gin (by omega) (by omega), y_gin (by omega) (by omega), y_lt_e, y_lt_e, y_lt_e, y_lt_e, y_lt_e, y_lt_e, y_cl (by omega), zPu_k (show 0 ≠ 1 by omega), zPu_k (show 0 ≠ 24 by omega), c2, c3, y_a1]
    refine ⟨_, _, rfl, rfl, ⟨c + 1, by omega, zPu_s, zPu_s, ?_⟩, ?_, ?_, ?_, ?_, ?_, ?_, ?_, ?_, ?_, ?_⟩
    · intro i hi
      rw [zPu_k (show 1 ≠ 0 by omega), zPu_k (show 24 ≠ 0 by omega)]
      by_cases f : i = c
      · subst f; rw [zPu_s, zPu_s]
      · rw [zPu_j f, zPu_j f]; exact c4 i (by omega)
    · rw [zPu_j (by omega), zPu_k (by omega)]; exact h2
    · rw [zPu_j (by omega), zPu_k (by omega)]; exact h3
    · rw [zPu_j (by omega), zPu_k (by omega)]; exact h4
    · rw [zPu_j (by omega), zPu_k (by omega)]; exact h5
    · rw [zPu_j (by omega), zPu_k (by omega)]; exact h6
    · rw [zPu_j (by omega), zPu_k (by omega)]; exact h7
    · rw [zPu_j (by omega), zPu_k (by omega)]; exact h8
    · rw [zPu_j (by omega), zPu_k (by omega)]; exact h9
    · intro m m1 m2
      rw [zPu_k m1, zPu_k m2]; exact h10.1 m m1 m2
    · intro j j1 j2
      rw [zPu_j j1, zPu_k (by omega)]; exact h10.2 j j1 j2
theorem s0_begin1 {ga : zM} (h : ga 0 2 = 1) (b : Int32) : fX0_begin ga b = some ga := by
  unfold fX0_begin
  rw [h, if_neg (by decide)]
theorem s0_parts1 {ga : zM} (h : ga 0 2 = 1) {k : Int32} (hk : k = 1 ∨ k = 2 ∨ k = 3 ∨ k = 4 ∨ k = 5 ∨ k = 6) (x : Int32) : ∃ v, fX0_parts 4 ga k x = some (v, ga) := by
  rcases hk with rfl | rfl | rfl | rfl | rfl | rfl <;> simp [fX0_parts, fX0_parts_B, s0_begin1 h, y_b1, y_b2]
theorem s0_shareOut1 {ga : zM} (h : ga 0 2 = 1) (x : Int32) : ∃ v, fX0_shareOut ga x = some (v, ga) := by
  unfold fX0_shareOut
  rw [y_lt_e]
  by_cases c : ga 0 5 - ga 0 4 = 0
  · rw [if_pos c, y_lt_e]
    refine ⟨0, ?_⟩
    have : zPu ga 0 2 1 = ga := by
      funext k j
      by_cases e : k = 0
      · subst e
        by_cases f : j = 2
        · subst f; rw [zPu_s, h]
        · rw [zPu_j f]
      · rw [zPu_k e]
    rw [this]
  · rw [if_neg c]
    refine ⟨_, y_gd ?_⟩
    unfold zNz
    exact decide_eq_true c
theorem s0_shares1 {ga : zM} (h : ga 0 2 = 1) {k : Int32} (hk : k = 1 ∨ k = 2 ∨ k = 3 ∨ k = 4 ∨ k = 5 ∨ k = 6) (hk2 : ga 0 3 = k) (x : Int32) : ∃ v, fX0_shares 4 ga k x = some (v, ga) := by
  obtain ⟨v, hv⟩ := s0_shareOut1 h x
  obtain ⟨v', hv'⟩ := s0_shareOut1 h (x + 2)
  obtain ⟨u, hu⟩ := s0_parts1 h hk (ga 0 5)
  rcases hk with rfl | rfl | rfl | rfl | rfl | rfl <;> simp [fX0_shares, fX0_shares_B, s0_begin1 h, y_b1, y_b2, hv, hv', hk2, hu]
theorem s0_plain {g0 ga g : zM} {gl : zL} {k n o : Int32} (h : pSb 0 g0 k n o ga g) (d : Nat) (x : Int32) : ∃ ga' g', fX0_parts (d + 1) ga 0 x = some (x + n, ga') ∧ fX10_plainParts g gl x = some (x + n, g') ∧ pSb 0 g0 k n o ga' g' := by
  obtain ⟨ga', g', e1, e2, e3⟩ := s0_begin (gl := gl) h 10
  refine ⟨ga', g', ?_, ?_, e3⟩
  · simp [fX0_parts, fX0_parts_B, e1, y_b1, e3.2.2.2.2.1]
  · unfold fX10_plainParts; rw [e2, y_b1, e3.2.2.2.2.2.2.2.1]
theorem s0_table {g0 ga g : zM} {gl : zL} {k n o : Int32} (h : pSb 0 g0 k n o ga g) (d : Nat) (x : Int32) : ∃ ga' g', fX0_parts (d + 2) ga 2 x = some ((x + n) * 3, ga') ∧ fX10_tableParts g gl x = some ((x + n) * 3, g') ∧ pSb 0 g0 k n o ga' g' := by
  obtain ⟨ga1, g1, e1, e2, e3⟩ := s0_begin (gl := gl) h 30
  obtain ⟨ga', g', f1, f2, f3⟩ := s0_plain (gl := gl) e3 d x
  refine ⟨ga', g', ?_, ?_, f3⟩
  · rw [show fX0_parts (d + 2) ga 2 x = fX0_parts_B (fX0_parts (d + 1)) ga 2 x from rfl]
    simp [fX0_parts_B, e1, y_b1, f1, y_b2]
  · unfold fX10_tableParts; rw [e2, y_b1, f2, y_b2]
theorem s0_parts {g0 ga g : zM} {gl : zL} {k n o : Int32} (hk : k = 1 ∨ k = 2 ∨ k = 3 ∨ k = 4 ∨ k = 5 ∨ k = 6) (h : pSb 0 g0 k n o ga g) (x : Int32) : ∃ v ga' g', fX0_parts 4 ga k x = some (v, ga') ∧ fX10_partsIt g gl x = some (v, g') ∧ pSb 0 g0 k n o ga' g' := by
  have hkg : g 0 44 = k := h.2.2.2.2.2.2.1
  unfold fX10_partsIt
  rw [hkg, y_lt_e]
  rcases hk with rfl | rfl | rfl | rfl | rfl | rfl
  · obtain ⟨ga', g', f1, f2, f3⟩ := s0_plain (gl := gl) h 2 x
    refine ⟨x + n, ga', g', ?_, ?_, f3⟩
    · rw [show fX0_parts 4 ga 1 x = fX0_parts_B (fX0_parts 3) ga 1 x from rfl]; simp [fX0_parts_B, f1, y_b2]; try rfl
    · simp [f2, y_b2]
  · obtain ⟨ga', g', f1, f2, f3⟩ := s0_table (gl := gl) h 2 x
    refine ⟨(x + n) * 3, ga', g', f1, ?_, f3⟩
    simp [f2, y_b2]
  · obtain ⟨ga1, g1, e1, e2, e3⟩ := s0_begin (gl := gl) h 41
    obtain ⟨ga', g', f1, f2, f3⟩ := s0_table (gl := gl) e3 1 x
    refine ⟨(x + n) * 3 - n, ga', g', ?_, ?_, f3⟩
    · rw [show fX0_parts 4 ga 3 x = fX0_parts_B (fX0_parts 3) ga 3 x from rfl]; simp [fX0_parts_B, e1, y_b1, f1, y_b2, f3.2.2.2.2.1]; try rfl
    · simp [e2, y_b1, f2, y_b2, f3.2.2.2.2.2.2.2.1]
  · obtain ⟨ga1, g1, e1, e2, e3⟩ := s0_begin (gl := gl) h 50
    obtain ⟨ga', g', f1, f2, f3⟩ := s0_plain (gl := gl) e3 1 x
    refine ⟨0 - (x + n), ga', g', ?_, ?_, f3⟩
    · rw [show fX0_parts 4 ga 4 x = fX0_parts_B (fX0_parts_B (fX0_parts 2)) ga 4 x from rfl]; simp [fX0_parts_B, e1, y_b1, f1, y_b2]; try rfl
    · simp [e2, y_b1, f2, y_b2]
  · obtain ⟨ga1, g1, e1, e2, e3⟩ := s0_begin (gl := gl) h 41
    obtain ⟨ga', g', f1, f2, f3⟩ := s0_table (gl := gl) e3 0 x
    refine ⟨(x + n) * 3 - n, ga', g', ?_, ?_, f3⟩
    · rw [show fX0_parts 4 ga 5 x = fX0_parts_B (fX0_parts_B (fX0_parts 2)) ga 5 x from rfl]; simp [fX0_parts_B, e1, y_b1, f1, y_b2, f3.2.2.2.2.1]; try rfl
    · simp [e2, y_b1, f2, y_b2, f3.2.2.2.2.2.2.2.1]
  · obtain ⟨ga1, g1, e1, e2, e3⟩ := s0_begin (gl := gl) h 70
    obtain ⟨ga', g', f1, f2, f3⟩ := s0_plain (gl := gl) e3 2 x
    refine ⟨(x + n) ^^^ o, ga', g', ?_, ?_, f3⟩
    · rw [show fX0_parts 4 ga 6 x = fX0_parts_B (fX0_parts 3) ga 6 x from rfl]; simp [fX0_parts_B, e1, y_b1, f1, y_b2, f3.2.2.2.2.2.1]; try rfl
    · simp [e2, y_b1, f2, y_b2, f3.2.2.2.2.2.2.2.2.1]
theorem s0_shares0 {g0 ga g : zM} {gl : zL} {k n o : Int32} (h : pSb 0 g0 k n o ga g) (d : Nat) (x : Int32) : pXx g0 k n o (fX0_shares (d + 1) ga 0 x) (fX10_plainShares g gl x) := by
  obtain ⟨ga1, g1, e1, e2, e3⟩ := s0_begin (gl := gl) h 12
  obtain ⟨q1, q2, q3, q4, q5, q6, q7, q8, q9, q10⟩ := e3
  have r1 : fX0_shares (d + 1) ga 0 x = fX0_shareOut ga1 x := by
    rw [show fX0_shares (d + 1) ga 0 x = fX0_shares_B (fX0_shares d) ga 0 x from rfl]
    simp only [fX0_shares_B, e1, y_b1]
    simp
    cases fX0_shareOut ga1 x with
    | none => rfl
    | some z => rfl
  rw [r1]
  unfold fX10_plainShares fX0_shareOut
  rw [e2, y_b1, y_lt_e, q5, q6, q8, q9]
  by_cases c : o = n
  · have c2 : o - n = 0 := by rw [c]; exact Int32.sub_self n
    rw [if_pos c2, if_pos c, y_lt_e, y_lt_e]
    refine ⟨_, _, _, _, rfl, rfl, Or.inr ⟨?_, zPu_s, zPu_s, ?_, ?_, ?_, ?_, ?_, ?_, ?_, ?_⟩⟩
    · obtain ⟨c', c1, c2, c3, c4⟩ := q1
      refine ⟨c', c1, by rw [zPu_j (by omega)]; exact c2, by rw [zPu_j (by omega)]; exact c3, fun i hi => by rw [zPu_k (by omega), zPu_k (by omega)]; exact c4 i hi⟩
    · rw [zPu_j (by omega)]; exact q4
    · rw [zPu_j (by omega)]; exact q5
    · rw [zPu_j (by omega)]; exact q6
    · rw [zPu_j (by omega)]; exact q7
    · rw [zPu_j (by omega)]; exact q8
    · rw [zPu_j (by omega)]; exact q9
    · intro m m1 m2; rw [zPu_k m1]; exact q10.1 m m1 m2
    · intro j j1 j2; rw [zPu_j j2]; exact q10.2 j j1 j2
  · have c2 : ¬ o - n = 0 := fun e => c (by
      have := congrArg (· + n) e
      simp only [Int32.sub_add_cancel, Int32.zero_add] at this
      exact this)
    have hz : zNz (o - n) = true := by unfold zNz; exact decide_eq_true c2
    rw [if_neg c2, if_neg c, y_gd hz, y_gd hz]
    exact ⟨_, _, _, _, rfl, rfl, Or.inl ⟨⟨q1, q2, q3, q4, q5, q6, q7, q8, q9, q10⟩, rfl⟩⟩
theorem pXx.b2 {g0 : zM} {k n o : Int32} {r r' : Option (Int32 × zM)} (h : pXx g0 k n o r r') {f f' : Int32 → zM → Option (Int32 × zM)} (hf : ∀ v ga g, pSb 0 g0 k n o ga g → pXx g0 k n o (f v ga) (f' v g)) (hb : ∀ v v' ga g, pSb 1 g0 k n o ga g → pXx g0 k n o (f v ga) (f' v' g)) : pXx g0 k n o (zB2 r f) (zB2 r' f') := by
  obtain ⟨v, v', ga', g', rfl, rfl, h | h⟩ := h
  · obtain ⟨h1, rfl⟩ := h
    rw [y_b2, y_b2]; exact hf _ _ _ h1
  · rw [y_b2, y_b2]; exact hb _ _ _ _ h
theorem pXx.rt {g0 : zM} {k n o : Int32} {ga g : zM} (h : pSb 0 g0 k n o ga g) (v : Int32) : pXx g0 k n o (some (v, ga)) (some (v, g)) := ⟨_, _, _, _, rfl, rfl, Or.inl ⟨h, rfl⟩⟩
theorem pXx.rb {g0 : zM} {k n o : Int32} {ga g : zM} (h : pSb 1 g0 k n o ga g) (v v' : Int32) : pXx g0 k n o (some (v, ga)) (some (v', g)) := ⟨_, _, _, _, rfl, rfl, Or.inr h⟩
theorem s0_shares {g0 ga g : zM} {gl : zL} {k n o : Int32} (hk : k = 1 ∨ k = 2 ∨ k = 3 ∨ k = 4 ∨ k = 5 ∨ k = 6) (h : pSb 0 g0 k n o ga g) (x : Int32) : pXx g0 k n o (fX0_shares 4 ga k x) (fX10_sharesIt g gl x) := by
  have hkg : g 0 44 = k := h.2.2.2.2.2.2.1
  unfold fX10_sharesIt fX10_sharesIt_J16
  rw [hkg]
  have id2 : ∀ r : Option (Int32 × zM), (zB2 r fun v ga => some (v, ga)) = r := fun r => by cases r <;> rfl
  have hk' := hk
  rcases hk with rfl | rfl | rfl | rfl | rfl | rfl
  · rw [show fX0_shares 4 ga 1 x = fX0_shares_B (fX0_shares 3) ga 1 x from rfl]
    simp only [fX0_shares_B, id2]
    simp
    exact s0_shares0 h 2 x
  · rw [show fX0_shares 4 ga 2 x = fX0_shares_B (fX0_shares 3) ga 2 x from rfl]
    simp only [fX0_shares_B, id2]
    simp
    exact s0_shares0 h 2 x
  · obtain ⟨ga1, g1, e1, e2, e3⟩ := s0_begin (gl := gl) h 40
    rw [show fX0_shares 4 ga 3 x = fX0_shares_B (fX0_shares_B (fX0_shares 2)) ga 3 x from rfl]
    simp only [fX0_shares_B, id2, e1, e2, y_b1]
    simp
    exact (s0_shares0 e3 1 (x + 2)).b2 (fun v ga g hh => pXx.rt hh _) (fun v v' ga g hh => pXx.rb hh _ _)
  · rw [show fX0_shares 4 ga 4 x = fX0_shares_B (fX0_shares_B (fX0_shares 2)) ga 4 x from rfl]
    simp only [fX0_shares_B, id2]
    simp
    exact s0_shares0 h 1 x
  · obtain ⟨ga1, g1, e1, e2, e3⟩ := s0_begin (gl := gl) h 40
    rw [show fX0_shares 4 ga 5 x = fX0_shares_B (fX0_shares_B (fX0_shares_B (fX0_shares 1))) ga 5 x from rfl]
    simp only [fX0_shares_B, id2, e1, e2, y_b1]
    simp
    exact (s0_shares0 e3 0 (x + 2)).b2 (fun v ga g hh => pXx.rt hh _) (fun v v' ga g hh => pXx.rb hh _ _)
  · obtain ⟨ga1, g1, e1, e2, e3⟩ := s0_begin (gl := gl) h 71
    rw [show fX0_shares 4 ga 6 x = fX0_shares_B (fX0_shares 3) ga 6 x from rfl]
    simp only [fX0_shares_B, id2, e1, e2, y_b1]
    simp
    refine (s0_shares0 e3 2 x).b2 (fun v ga g hh => ?_) (fun v v' ga g hh => ?_)
    · obtain ⟨u, ga', g', p1, p2, p3⟩ := s0_parts (gl := gl) hk' hh o
      rw [hh.2.2.1, hh.2.2.2.1, hh.2.2.2.2.2.1, hh.2.2.2.2.2.2.2.2.1, p1, y_b2, if_pos rfl, p2, y_b2]
      exact pXx.rt p3 _
    · obtain ⟨u, hu⟩ := s0_parts1 hh.2.1 hk' (ga 0 5)
      rw [hh.2.2.1, hh.2.2.2.1, hu, y_b2, if_neg (by decide)]
      exact pXx.rb hh _ _
theorem s0_costs0 {g0 ga g : zM} {gl : zL} {k n o : Int32} (hk : k = 1 ∨ k = 2 ∨ k = 3 ∨ k = 4 ∨ k = 5 ∨ k = 6) (h : pSb 0 g0 k n o ga g) (d : Nat) (x : Int32) : ∃ v ga' g', fX0_costs (d + 1) ga 0 x = some (v, ga') ∧ fX10_plainCosts g gl x = some (v, g') ∧ pSb 0 g0 k n o ga' g' := by
  obtain ⟨ga1, g1, e1, e2, e3⟩ := s0_begin (gl := gl) h 11
  obtain ⟨v, ga', g', p1, p2, p3⟩ := s0_parts (gl := gl) hk e3 x
  refine ⟨v * 2, ga', g', ?_, ?_, p3⟩
  · rw [show fX0_costs (d + 1) ga 0 x = fX0_costs_B (fX0_costs d) ga 0 x from rfl]
    simp only [fX0_costs_B, e1, y_b1, e3.2.2.2.1, p1, y_b2]
    simp
  · unfold fX10_plainCosts; rw [e2, y_b1, p2, y_b2]
theorem s0_costs1 {g0 ga g : zM} {gl : zL} {k n o : Int32} (hk : k = 1 ∨ k = 2 ∨ k = 3 ∨ k = 4 ∨ k = 5 ∨ k = 6) (h : pSb 0 g0 k n o ga g) (d : Nat) (x : Int32) : ∃ v ga' g', fX0_costs (d + 2) ga 1 x = some (v, ga') ∧ fX10_tieCosts g gl x = some (v, g') ∧ pSb 0 g0 k n o ga' g' := by
  obtain ⟨ga1, g1, e1, e2, e3⟩ := s0_begin (gl := gl) h 20
  obtain ⟨v, ga', g', p1, p2, p3⟩ := s0_costs0 (gl := gl) hk e3 d x
  refine ⟨v - o, ga', g', ?_, ?_, p3⟩
  · rw [show fX0_costs (d + 2) ga 1 x = fX0_costs_B (fX0_costs (d + 1)) ga 1 x from rfl]
    simp only [fX0_costs_B, e1, y_b1, p1, y_b2, p3.2.2.2.2.2.1]
    simp
  · unfold fX10_tieCosts; rw [e2, y_b1, p2, y_b2, p3.2.2.2.2.2.2.2.2.1]
theorem s0_costs {g0 ga g : zM} {gl : zL} {k n o : Int32} (hk : k = 1 ∨ k = 2 ∨ k = 3 ∨ k = 4 ∨ k = 5 ∨ k = 6) (h : pSb 0 g0 k n o ga g) (x : Int32) : pXx g0 k n o (fX0_costs 4 ga k x) (fX10_costsIt g gl x) := by
  have hkg : g 0 44 = k := h.2.2.2.2.2.2.1
  unfold fX10_costsIt
  rw [hkg, y_lt_e]
  have id2 : ∀ r : Option (Int32 × zM), (zB2 r fun v ga => some (v, ga)) = r := fun r => by cases r <;> rfl
  have hk' := hk
  rcases hk with rfl | rfl | rfl | rfl | rfl | rfl
  · obtain ⟨v, ga', g', p1, p2, p3⟩ := s0_costs1 (gl := gl) hk' h 2 x
    rw [p1, p2, y_b2, if_pos rfl]; exact pXx.rt p3 _
  · obtain ⟨v, ga', g', p1, p2, p3⟩ := s0_costs0 (gl := gl) hk' h 2 x
    rw [show fX0_costs 4 ga 2 x = fX0_costs_B (fX0_costs 3) ga 2 x from rfl]
    simp only [fX0_costs_B, id2, p1, p2]
    simp
    exact pXx.rt p3 _
  · obtain ⟨v, ga', g', p1, p2, p3⟩ := s0_costs0 (gl := gl) hk' h 1 x
    rw [show fX0_costs 4 ga 3 x = fX0_costs_B (fX0_costs_B (fX0_costs 2)) ga 3 x from rfl]
    simp only [fX0_costs_B, id2, p1, p2]
    simp
    exact pXx.rt p3 _
  · obtain ⟨ga1, g1, e1, e2, e3⟩ := s0_begin (gl := gl) h 51
    obtain ⟨v, ga2, g2, p1, p2, p3⟩ := s0_costs1 (gl := gl) hk' e3 1 x
    obtain ⟨u, ga', g', q1, q2, q3⟩ := s0_parts (gl := gl) hk' p3 n
    rw [show fX0_costs 4 ga 4 x = fX0_costs_B (fX0_costs 3) ga 4 x from rfl]
    simp only [fX0_costs_B, e1, e2, y_b1, p1, p2, y_b2, p3.2.2.2.1, p3.2.2.2.2.1, p3.2.2.2.2.2.2.2.1, q1, q2]
    simp
    exact pXx.rt q3 _
  · obtain ⟨ga1, g1, e1, e2, e3⟩ := s0_begin (gl := gl) h 60
    obtain ⟨v, ga2, g2, p1, p2, p3⟩ := s0_costs0 (gl := gl) hk' e3 0 x
    rw [show fX0_costs 4 ga 5 x = fX0_costs_B (fX0_costs_B (fX0_costs_B (fX0_costs 1))) ga 5 x from rfl]
    simp only [fX0_costs_B, e1, e2, y_b1, p1, p2, y_b2, p3.2.2.2.1, p3.2.2.2.2.2.1, p3.2.2.2.2.2.2.2.2.1]
    simp
    rw [y_b2, y_b2, p3.2.2.2.1, p3.2.2.2.2.2.1]
    exact (s0_shares hk' p3 o).b2 (fun v ga g hh => pXx.rt hh _) (fun v v' ga g hh => pXx.rb hh _ _)
  · obtain ⟨v, ga', g', p1, p2, p3⟩ := s0_costs0 (gl := gl) hk' h 2 x
    rw [show fX0_costs 4 ga 6 x = fX0_costs_B (fX0_costs 3) ga 6 x from rfl]
    simp only [fX0_costs_B, id2, p1, p2]
    simp
    exact pXx.rt p3 _
theorem s0_tells0 {g0 ga g : zM} {gl : zL} {k n o : Int32} (hk : k = 1 ∨ k = 2 ∨ k = 3 ∨ k = 4 ∨ k = 5 ∨ k = 6) (h : pSb 0 g0 k n o ga g) (d : Nat) (x : Int32) : pXx g0 k n o (fX0_tells (d + 1) ga 0 x) (fX10_plainTells g gl x) := by
  obtain ⟨ga1, g1, e1, e2, e3⟩ := s0_begin (gl := gl) h 13
  rw [show fX0_tells (d + 1) ga 0 x = fX0_tells_B (fX0_tells d) ga 0 x from rfl]
  unfold fX10_plainTells
  simp only [fX0_tells_B, e1, e2, y_b1, e3.2.2.2.1]
  simp
  exact (s0_costs hk e3 x).b2 (fun v ga g hh => by rw [hh.2.2.2.2.2.1, hh.2.2.2.2.2.2.2.2.1]; exact pXx.rt hh _) (fun v v' ga g hh => pXx.rb hh _ _)
theorem s0_tells2 {g0 ga g : zM} {gl : zL} {k n o : Int32} (hk : k = 1 ∨ k = 2 ∨ k = 3 ∨ k = 4 ∨ k = 5 ∨ k = 6) (h : pSb 0 g0 k n o ga g) (d : Nat) (x : Int32) : pXx g0 k n o (fX0_tells (d + 2) ga 2 x) (fX10_tableTells g gl x) := by
  obtain ⟨ga1, g1, e1, e2, e3⟩ := s0_begin (gl := gl) h 31
  rw [show fX0_tells (d + 2) ga 2 x = fX0_tells_B (fX0_tells (d + 1)) ga 2 x from rfl]
  unfold fX10_tableTells
  simp only [fX0_tells_B, e1, e2, y_b1]
  simp
  refine (s0_tells0 hk e3 d x).b2 (fun v ga g hh => ?_) (fun v v' ga g hh => ?_)
  · rw [hh.2.2.1, if_pos rfl, hh.2.2.2.1, hh.2.2.2.2.1, hh.2.2.2.2.2.2.2.1]
    exact (s0_shares hk hh n).b2 (fun v ga g hh => pXx.rt hh _) (fun v v' ga g hh => pXx.rb hh _ _)
  · obtain ⟨u, hu⟩ := s0_shares1 hh.2.1 hk hh.2.2.2.1 (ga 0 4)
    rw [hh.2.2.1, if_neg (by decide), hh.2.2.2.1, hu, y_b2]
    exact pXx.rb hh _ _
theorem s0_tells {g0 ga g : zM} {gl : zL} {k n o : Int32} (hk : k = 1 ∨ k = 2 ∨ k = 3 ∨ k = 4 ∨ k = 5 ∨ k = 6) (h : pSb 0 g0 k n o ga g) (x : Int32) : pXx g0 k n o (fX0_tells 4 ga k x) (fX10_tellsIt g gl x) := by
  have hkg : g 0 44 = k := h.2.2.2.2.2.2.1
  unfold fX10_tellsIt fX10_tellsIt_J38
  rw [hkg]
  have id2 : ∀ r : Option (Int32 × zM), (zB2 r fun v ga => some (v, ga)) = r := fun r => by cases r <;> rfl
  have hk' := hk
  rcases hk with rfl | rfl | rfl | rfl | rfl | rfl
  · rw [show fX0_tells 4 ga 1 x = fX0_tells_B (fX0_tells 3) ga 1 x from rfl]
    simp only [fX0_tells_B, id2]
    simp
    exact s0_tells0 hk' h 2 x
  · simp only [id2]
    simp
    exact s0_tells2 hk' h 2 x
  · rw [show fX0_tells 4 ga 3 x = fX0_tells_B (fX0_tells 3) ga 3 x from rfl]
    simp only [fX0_tells_B, id2]
    simp
    exact s0_tells2 hk' h 1 x
  · rw [show fX0_tells 4 ga 4 x = fX0_tells_B (fX0_tells_B (fX0_tells 2)) ga 4 x from rfl]
    simp only [fX0_tells_B, id2]
    simp
    exact s0_tells0 hk' h 1 x
  · obtain ⟨ga1, g1, e1, e2, e3⟩ := s0_begin (gl := gl) h 61
    rw [show fX0_tells 4 ga 5 x = fX0_tells_B (fX0_tells 3) ga 5 x from rfl]
    simp only [fX0_tells_B, id2, e1, e2, y_b1]
    simp
    rw [show fX0_tells 3 ga1 3 x = fX0_tells_B (fX0_tells 2) ga1 3 x from rfl]
    have : fX0_tells_B (fX0_tells 2) ga1 3 x = fX0_tells 2 ga1 2 x := by
      simp only [fX0_tells_B, id2]; simp
    rw [this]
    exact (s0_tells2 hk' e3 0 x).b2 (fun v ga g hh => pXx.rt hh _) (fun v v' ga g hh => pXx.rb hh _ _)
  · rw [show fX0_tells 4 ga 6 x = fX0_tells_B (fX0_tells 3) ga 6 x from rfl]
    simp only [fX0_tells_B, id2]
    simp
    exact s0_tells0 hk' h 2 x
