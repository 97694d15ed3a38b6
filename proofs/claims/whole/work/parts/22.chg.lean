/-! ===== one place changes ===== -/
theorem ySt_0 (a : yA) (r j v i : Nat) (hr : r ≠ 0) : ySt a r j v 0 i = a 0 i := ySt_r a r j v 0 i (fun e => hr e.symm)
theorem zPu_e {g : zM} {k j k' j' : Nat} {v x : Int32} {b : Nat} (h : (k' = k ∧ j' = j → v = x) ∧ (¬ (k' = k ∧ j' = j) → g k' j' = x)) : zPu g k j v k' j' = x := by
  by_cases e : k' = k ∧ j' = j
  · obtain ⟨e1, e2⟩ := e; subst e1; subst e2; rw [zPu_s]; exact h.1 ⟨rfl, rfl⟩
  · rw [← h.2 e]
    by_cases e1 : k' = k
    · subst e1; rw [zPu_j (fun e2 => e ⟨rfl, e2⟩)]
    · rw [zPu_k e1]
theorem yC.st {w : zM} {a : yA} (hc : yC w a) {r j v : Nat} {x : Int32} (hr : 1 ≤ r ∧ r ≤ 10) (hx : x = if r = 2 then nI v - 1 else nI v) : yC (zPu w r j x) (ySt a r j v) := by
  obtain ⟨⟨c1, c2, c3⟩, c4, c5, c6, c7, c8, c9, c10, c11, c12, c13⟩ := hc
  have e0 : ∀ i, ySt a r j v 0 i = a 0 i := fun i => ySt_0 a r j v i (by omega)
  have ew : zPu w r j x 0 = w 0 := zPu_k (by omega)
  have one : ∀ (m i : Nat) (y : Int32), m ≠ 2 → w m i = nI (a m i) → zPu w r j x m i = nI (ySt a r j v m i) := fun m i y hm h => by
    by_cases e : m = r
    · subst e
      by_cases e2 : i = j
      · subst e2; rw [zPu_s, ySt_s, hx, if_neg hm]
      · rw [zPu_j e2, ySt_j _ _ _ _ _ _ e2]; exact h
    · rw [zPu_k e, ySt_r _ _ _ _ _ _ e]; exact h
  have two : ∀ i, w 2 i = nI (a 2 i) - 1 → zPu w r j x 2 i = nI (ySt a r j v 2 i) - 1 := fun i h => by
    by_cases e : 2 = r
    · subst e
      by_cases e2 : i = j
      · subst e2; rw [zPu_s, ySt_s, hx, if_pos rfl]
      · rw [zPu_j e2, ySt_j _ _ _ _ _ _ e2]; exact h
    · rw [zPu_k e, ySt_r _ _ _ _ _ _ e]; exact h
  unfold yC
  rw [e0, e0, e0, ew]
  exact ⟨⟨c1, c2, c3⟩, fun i hi => one 1 i 0 (by omega) (c4 i hi), fun i hi => two i (c5 i hi), fun i hi => one 3 i 0 (by omega) (c6 i hi), fun i hi => one 4 i 0 (by omega) (c7 i hi), fun i hi => one 5 i 0 (by omega) (c8 i hi), fun i hi => one 6 i 0 (by omega) (c9 i hi), fun i hi => one 7 i 0 (by omega) (c10 i hi), fun i hi => one 8 i 0 (by omega) (c11 i hi), fun i hi => one 9 i 0 (by omega) (c12 i hi), fun i hi => one 10 i 0 (by omega) (c13 i hi)⟩
/-- where row r, place j of the works lies in the model -/
def yPc (r : Nat) : Nat := if r = 1 then 1 else if r = 2 then 4 else if r ≤ 7 then 2 else 3
def yPj (r j : Nat) : Nat := if r ≤ 2 then j else if r ≤ 7 then 5 * j + (r - 3) else 3 * j + (r - 8)
theorem yP_inj {r j r' j' : Nat} (hr : 1 ≤ r ∧ r ≤ 10) (hr' : 1 ≤ r' ∧ r' ≤ 10) (h1 : yPc r = yPc r') (h2 : yPj r j = yPj r' j') : r = r' ∧ j = j' := by
  unfold yPc at h1
  unfold yPj at h2
  split at h1 <;> split at h1 <;> split at h2 <;> split at h2 <;> (try split at h1) <;> (try split at h1) <;> (try split at h1) <;> (try split at h1) <;> (try split at h2) <;> (try split at h2) <;> omega
theorem yG.st {g : zM} {a : yA} (hg : yG g a) {r j v : Nat} {k i : Nat} {x : Int32} (hr : 1 ≤ r ∧ r ≤ 10) (hk : k = yPc r) (hi : i = yPj r j) (hx : x = nI v) : yG (zPu g k i x) (ySt a r j v) := by
  subst hk; subst hi; subst hx
  obtain ⟨⟨c1, c2, c3⟩, c4, c5, c6, c7, c8, c9, c10, c11, c12, c13⟩ := hg
  have e0 : ∀ i, ySt a r j v 0 i = a 0 i := fun i => ySt_0 a r j v i (by omega)
  have hpc : yPc r ≠ 0 := by unfold yPc; split <;> (try split) <;> (try split) <;> omega
  have ew : zPu g (yPc r) (yPj r j) (nI v) 0 = g 0 := zPu_k (fun e => hpc e.symm)
  have one : ∀ m i, 1 ≤ m ∧ m ≤ 10 → g (yPc m) (yPj m i) = nI (a m i) → zPu g (yPc r) (yPj r j) (nI v) (yPc m) (yPj m i) = nI (ySt a r j v m i) := fun m i hm h => by
    by_cases e : m = r ∧ i = j
    · obtain ⟨rfl, rfl⟩ := e; rw [zPu_s, ySt_s]
    · have e2 : ySt a r j v m i = a m i := by unfold ySt; rw [if_neg e]
      rw [e2]
      by_cases e3 : yPc m = yPc r
      · rw [e3, zPu_j (fun e4 => e (yP_inj hm hr e3 e4)), ← e3]; exact h
      · rw [zPu_k e3]; exact h
  unfold yG
  rw [e0, e0, e0, ew]
  exact ⟨⟨c1, c2, c3⟩, fun i hi => one 1 i (by omega) (c4 i hi), fun i hi => one 2 i (by omega) (c5 i hi), fun i hi => one 3 i (by omega) (c6 i hi), fun i hi => one 4 i (by omega) (c7 i hi), fun i hi => one 5 i (by omega) (c8 i hi), fun i hi => one 6 i (by omega) (c9 i hi), fun i hi => one 7 i (by omega) (c10 i hi), fun i hi => one 8 i (by omega) (c11 i hi), fun i hi => one 9 i (by omega) (c12 i hi), fun i hi => one 10 i (by omega) (c13 i hi)⟩
theorem yOk.st1 {a : yA} (ok : yOk a) {j v : Nat} (hv : v ≤ 9) : yOk (ySt a 1 j v) := by
  obtain ⟨o1, o2, o3, o4, o5⟩ := ok
  have e : ∀ r i, r ≠ 1 → ySt a 1 j v r i = a r i := fun r i h => ySt_r a 1 j v r i h
  unfold yOk
  refine ⟨o1, ?_, o3, o4, o5⟩
  intro p hp
  by_cases e2 : p = j
  · subst e2; rw [ySt_s]; exact ⟨hv, (o2 p hp).2⟩
  · rw [ySt_j _ _ _ _ _ _ e2]; exact o2 p hp
theorem yOk.st2 {a : yA} (ok : yOk a) {j v : Nat} (hv : v ≤ 2) : yOk (ySt a 2 j v) := by
  obtain ⟨o1, o2, o3, o4, o5⟩ := ok
  refine ⟨o1, ?_, o3, o4, o5⟩
  intro p hp
  by_cases e2 : p = j
  · subst e2; rw [ySt_s]; exact ⟨(o2 p hp).1, hv⟩
  · exact ⟨(o2 p hp).1, by rw [ySt_j _ _ _ _ _ _ e2]; exact (o2 p hp).2⟩
theorem m_first {gx w g : zM} {gl : zL} {a : yA} (ok : yOk a) (hc : yC w a) (hg : yG g a) (x y : Int32) : ∃ r w' g' a', fX9_first gx w x y = some (r, w') ∧ fX10_first g gl x y = some (r, g') ∧ yOk a' ∧ yC w' a' ∧ yG g' a' ∧ w' 0 = w 0 ∧ g' 0 = g 0 ∧ w' 7 = w 7 ∧ eqO g g' := by
  have h0 := ok.1
  unfold fX9_first fX10_first
  rw [s8_hasPerson ok hc, y_b1, s10_isPerson ok hg, y_b1, show (9 : Int32) = nI 9 from rfl, y_inN y 9 (by omega), y_b1]
  rcases y_zin x (n := a 0 0) (by omega) with ⟨h, k, hk, rfl⟩ | ⟨h, -⟩
  · rw [y_bl_t h, y_bl_t h]
    rcases y_zin y (n := 9 + 1) (by omega) with ⟨h2, j, hj, rfl⟩ | ⟨h2, h3⟩
    · rw [y_bl_t h2, if_neg (y_nn (by omega)), y_le_t (by omega) (by omega), y_gin (by omega) (by omega), y_gin (by omega) (by omega), y_lt_e, y_lt_e, y_lt_e, y_lt_e, y_cl (by omega), hc.2.1 k hk, y_gin (by omega) (by omega), y_gin (by omega) (by omega), hg.2.1 k hk]
      exact ⟨_, _, _, ySt a 1 k j, rfl, rfl, ok.st1 (by omega), hc.st (by omega) rfl, hg.st (r := 1) (by omega) rfl rfl rfl, zPu_k (by omega), zPu_k (by omega), zPu_k (by omega), (eqO.rf g).pu (by decide)⟩
    · rw [y_bl_f h2]
      refine ⟨-1, w, g, a, ?_, rfl, ok, hc, hg, rfl, rfl, rfl, eqO.rf g⟩
      by_cases c : y < 0
      · rw [if_pos c]
      · rw [if_neg c, if_neg (by
          have := h3.resolve_left c
          obtain ⟨j, hj, rfl⟩ := nI_of c
          rw [y_le (by omega) hj] at this
          rw [y_le hj (by omega)]; omega)]
  · rw [y_bl_f h, y_bl_f h]; exact ⟨_, w, g, a, rfl, rfl, ok, hc, hg, rfl, rfl, rfl, eqO.rf g⟩
