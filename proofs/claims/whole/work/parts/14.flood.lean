theorem y_a1 (a : Nat) : nI a + 1 = nI (a + 1) := nI_1 a
theorem y_s1 {a : Nat} (h : 1 ≤ a) : nI a - 1 = nI (a - 1) := y_sub (b := 1) h
/-! ===== the class's net ===== -/
def yNr (a : yA) (b : Nat) : Nat → Nat → Nat
  | 0, _ => 0
  | k + 1, p => yNr a b k p ||| (if b.testBit k = true ∧ a 3 k = p then 2 ^ a 4 k else 0) ||| (if b.testBit k = true ∧ a 4 k = p then 2 ^ a 3 k else 0)
theorem yNr_t (a : yA) (b k p q : Nat) : (yNr a b k p).testBit q = true ↔ ∃ i, i < k ∧ b.testBit i = true ∧ ((a 3 i = p ∧ a 4 i = q) ∨ (a 3 i = q ∧ a 4 i = p)) := by
  induction k with
  | zero => simp [yNr]
  | succ k ih =>
    unfold yNr
    rw [Nat.testBit_or, Nat.testBit_or, Bool.or_eq_true, Bool.or_eq_true, ih]
    constructor
    · rintro ((⟨i, h1, h2, h3⟩ | h) | h)
      · exact ⟨i, by omega, h2, h3⟩
      · by_cases c : b.testBit k = true ∧ a 3 k = p
        · rw [if_pos c, Nat.testBit_two_pow] at h
          exact ⟨k, by omega, c.1, Or.inl ⟨c.2, by simpa using h⟩⟩
        · rw [if_neg c, Nat.zero_testBit] at h; cases h
      · by_cases c : b.testBit k = true ∧ a 4 k = p
        · rw [if_pos c, Nat.testBit_two_pow] at h
          exact ⟨k, by omega, c.1, Or.inr ⟨by simpa using h, c.2⟩⟩
        · rw [if_neg c, Nat.zero_testBit] at h; cases h
    · rintro ⟨i, h1, h2, h3⟩
      by_cases e : i = k
      · subst e
        rcases h3 with ⟨h3, h4⟩ | ⟨h3, h4⟩
        · left; right; rw [if_pos ⟨h2, h3⟩, Nat.testBit_two_pow]; simpa using h4
        · right; rw [if_pos ⟨h2, h4⟩, Nat.testBit_two_pow]; simpa using h3
      · exact Or.inl (Or.inl ⟨i, by omega, h2, h3⟩)
theorem yNr_adj (a : yA) (b p q : Nat) : (yNr a b (a 0 1) p).testBit q = true ↔ yAdj a b p q := yNr_t a b (a 0 1) p q
theorem yNr_lt {a : yA} (ok : yOk a) (b k p : Nat) (hk : k ≤ a 0 1) : yNr a b k p < 2 ^ 10 := y_ltp (fun i hi => by
  cases e : (yNr a b k p).testBit i
  · rfl
  · obtain ⟨j, h1, h2, h3⟩ := (yNr_t a b k p i).mp e
    have := (yAdj.lt ok ⟨j, Nat.lt_of_lt_of_le h1 hk, h2, h3⟩).2
    have := ok.1
    omega)
/-- the net holds the ties of b -/
def yNet (a : yA) (b : Nat) (gn : zM) : Prop := ∀ p, p < 10 → gn 1 p = nI (yNr a b (a 0 1) p)
theorem s3_lay {gn w : zM} {a : yA} (ok : yOk a) (hc : yC w a) {b : Nat} (hb : b < 2 ^ 14) : ∃ gn', fX3_lay gn w (nI b) = some gn' ∧ yNet a b gn' := by
  have h0 := ok.1
  obtain ⟨t, ht, htv⟩ := sJ_fill (n := 10) (by omega) (fun _ => gn 1) 0
  have key : ∃ r, zLp (fX3_lay_L10 (nI b) w) zFU ((fun k (x : zM) => (nI k, x)) 0 (zPr gn 1 (t 0))) = some r ∧ yNet a b r := by
    refine y_for (fun k (x : zM) => (nI k, x)) (a 0 1) (fun k x => ∀ p, p < 10 → x 1 p = nI (yNr a b k p)) _ ?_ ?_ zFU 0 _ (by omega) ?_ (by unfold zFU; omega)
    · intro k x hk hx
      obtain ⟨g1, g2, -⟩ := ok.2.2.1 k hk
      by_cases c1 : b.testBit k = true
      · refine ⟨zPu (zPu x 1 (a 3 k) (x 1 (a 3 k) ||| nI (2 ^ a 4 k))) 1 (a 4 k) (x 1 (a 4 k) ||| nI (2 ^ a 3 k)), ?_, ?_⟩
        · unfold fX3_lay_L10 fX3_lay_L10J70
          rw [y_u2, hc.1.2.1, y_le_f hk (by omega), if_neg (by rw [y_bit0 (by omega) (by omega), c1]; decide), y_gin (by omega) (by omega), y_lt_e, y_cl (k := k) (by omega), hc.2.2.2.1 k hk, y_gin (by omega) (by omega), y_lt_e, y_gin (by omega) (by omega), y_lt_e, hc.2.2.2.2.1 k hk, y_lt_e, y_one (by omega), y_gin (by omega) (by omega), y_lt_e, y_gin (by omega) (by omega), y_lt_e, y_gin (by omega) (by omega), y_lt_e, y_gin (by omega) (by omega), y_lt_e, y_lt_e, y_one (by omega), y_gin (by omega) (by omega), y_lt_e, y_lt_e, y_cl (k := a 3 k) (by omega), y_cl (k := a 4 k) (by omega), zPu_j (show a 4 k ≠ a 3 k by omega), show (1 : Int32) = nI 1 from rfl, y_add]
        · intro p hp
          unfold yNr
          by_cases e4 : p = a 4 k
          · subst e4
            rw [zPu_s, hx _ hp, y_or, if_neg (fun z => by omega), if_pos ⟨c1, rfl⟩, Nat.or_zero]
          · rw [zPu_j e4]
            by_cases e3 : p = a 3 k
            · subst e3
              rw [zPu_s, hx _ hp, y_or, if_pos ⟨c1, rfl⟩, if_neg (fun z => by omega), Nat.or_zero]
            · rw [zPu_j e3, hx p hp, if_neg (fun z => e3 z.2.symm), if_neg (fun z => e4 z.2.symm), Nat.or_zero, Nat.or_zero]
      · refine ⟨x, ?_, ?_⟩
        · unfold fX3_lay_L10 fX3_lay_L10J70
          rw [y_u2, hc.1.2.1, y_le_f hk (by omega), if_pos (by rw [y_bit0 (by omega) (by omega)]; simpa using c1), y_lt_e, show (1 : Int32) = nI 1 from rfl, y_add]
        · intro p hp
          unfold yNr
          rw [hx p hp, if_neg (fun z => c1 z.1), if_neg (fun z => c1 z.1), Nat.or_zero, Nat.or_zero]
    · intro x hx
      refine ⟨x, ?_, hx⟩
      unfold fX3_lay_L10
      rw [y_u2, hc.1.2.1, y_le_t (by omega) (by omega)]
    · intro p hp
      rw [zPr_s, htv p, if_pos hp]
      rfl
  obtain ⟨r, hr, hq⟩ := key
  refine ⟨r, ?_, hq⟩
  unfold fX3_lay
  rw [ht, y_b1, y_lt_e, show ((0, zPr gn 1 (t 0)) : Int32 × zM) = (fun k (x : zM) => (nI k, x)) 0 (zPr gn 1 (t 0)) from rfl, hr, y_b1, y_u1]
/-! counts of sets of ten -/
def yAdd1Ok (x p : Nat) : Bool := x.testBit p || Nat.beq (yPop (x ||| 2 ^ p)) (yPop x + 1)
theorem y_add1K : (List.range 1024).all (fun x => (List.range 10).all (fun p => yAdd1Ok x p)) = true := by decide +kernel
theorem yPop_add1 {x p : Nat} (hx : x < 1024) (hp : p < 10) (h : x.testBit p = false) : yPop (x ||| 2 ^ p) = yPop x + 1 := by
  have h1 := List.all_eq_true.mp (List.all_eq_true.mp y_add1K x (List.mem_range.mpr hx)) p (List.mem_range.mpr hp)
  unfold yAdd1Ok at h1
  rw [h, Bool.false_or] at h1
  exact Nat.eq_of_beq_eq_true h1
theorem y_fullK : (List.range 1024).all (fun x => (Nat.blt (yPop x) 10) || Nat.beq x 1023) = true := by decide +kernel
theorem yPop_full {x : Nat} (hx : x < 1024) (h : 10 ≤ yPop x) : x = 1023 := by
  have h1 := List.all_eq_true.mp y_fullK x (List.mem_range.mpr hx)
  rw [Bool.or_eq_true] at h1
  rcases h1 with h1 | h1
  · have : yPop x + 1 ≤ 10 := Nat.le_of_ble_eq_true h1
    omega
  · exact Nat.eq_of_beq_eq_true h1
theorem yPop_10 {x : Nat} (hx : x < 1024) : yPop x ≤ 10 := by
  have hk : (List.range 1024).all (fun x => Nat.ble (yPop x) 10) = true := by decide +kernel
  exact Nat.le_of_ble_eq_true (List.all_eq_true.mp hk x (List.mem_range.mpr hx))
theorem y_lb10 {x : Nat} (h0 : x ≠ 0) (hx : x < 1024) : yLb x < 10 := by
  have h1 := (y_lbf h0 (by omega)).1
  rcases Nat.lt_or_ge (yLb x) 10 with h | h
  · exact h
  · rw [y_tf (n := 10) (by omega) h] at h1; cases h1
theorem y_full_t {p : Nat} (h : p < 10) : (1023 : Nat).testBit p = true := by
  have : ∀ j, j < 10 → (1023 : Nat).testBit j = true := by decide
  exact this p h
theorem s3_flood {gn : zM} {a : yA} {b f m : Nat} (ok : yOk a) (hn : yNet a b gn) (hf : f < 2 ^ 10) (hm : m < 2 ^ 10) : ∃ R, fX3_flood gn (nI f) (nI m) = some (nI R) ∧ yLf a b f m R := by
  have h0 := ok.1
  have h1023 : (f &&& m) &&& 1023 = f &&& m := by
    have : f &&& m < 2 ^ 10 := y_and_lt hf
    rw [show (1023 : Nat) = 2 ^ 10 - 1 from rfl, Nat.and_two_pow_sub_one_eq_mod, Nat.mod_eq_of_lt this]
  have key : ∃ r, zLp (fX3_flood_L14 (nI m) gn) zFU (nI (f &&& m), nI (f &&& m), nI 0) = some r ∧ ∃ R, r = nI R ∧ yLf a b f m R := by
    refine y_lp (fun v => ∃ F S k, v = (nI F, nI S, nI k) ∧ F < 2 ^ 10 ∧ k ≤ 10 ∧ (∀ p, S.testBit p = true → F.testBit p = true) ∧ (∀ p, f.testBit p = true → m.testBit p = true → F.testBit p = true) ∧ (∀ p, F.testBit p = true → m.testBit p = true) ∧ (∀ p q, F.testBit p = true → S.testBit p = false → yAdj a b p q → m.testBit q = true → F.testBit q = true) ∧ yPop (ySd F S) = k ∧ ∀ C : Nat → Prop, (∀ p, f.testBit p = true → m.testBit p = true → C p) → (∀ p q, C p → yAdj a b p q → m.testBit q = true → C q) → ∀ p, F.testBit p = true → C p) (fun v => 10 - v.2.2.toNatClampNeg) _ ?_ zFU _ ?_ ?_
    · rintro v ⟨F, S, k, rfl, hF, hk, h1, h2, h3, h4, h5, h6⟩
      have hS : S < 2 ^ 10 := y_ltp (fun i hi => by
        cases e : S.testBit i
        · rfl
        · have := h1 i e
          rw [y_tf hF hi] at this; cases this)
      have done : S = 0 → yLf a b f m F := fun e => ⟨h2, h3, fun p q hp ha hq => h4 p q hp (by rw [e]; exact Nat.zero_testBit p) ha hq, h6⟩
      unfold fX3_flood_L14
      rw [y_u3, show (10 : Int32) = nI 10 from rfl]
      by_cases q : 10 ≤ k
      · rw [y_le_t q (by omega)]
        refine ⟨_, rfl, F, rfl, done ?_⟩
        have hfull := yPop_full (x := ySd F S) (y_sd_lt (n := 10) hF) (by omega)
        apply Nat.eq_of_testBit_eq
        intro i
        rw [Nat.zero_testBit]
        cases e : S.testBit i
        · rfl
        · have hi : i < 10 := by
            rcases Nat.lt_or_ge i 10 with h | h
            · exact h
            · rw [y_tf hS h] at e; cases e
          have e2 := y_full_t hi
          rw [← hfull, ySd_t, e] at e2
          simp at e2
      · rw [y_le_f (by omega) (by omega)]
        by_cases q2 : S = 0
        · rw [y_0_t q2]
          exact ⟨_, rfl, F, rfl, done q2⟩
        · have hL := y_lbf q2 (show S < 16384 by omega)
          have hl10 := y_lb10 q2 (show S < 1024 by omega)
          generalize hl : yLb S = p at hL hl10
          have hbc : fJ6_bitCount_0f7a4 (nI (2 ^ p - 1)) = some (nI p) := by
            have hk : ∀ j, j < 10 → yPop (2 ^ j - 1) = j := by decide +kernel
            have hpow : 2 ^ p < 2 ^ 10 := Nat.pow_lt_pow_right (by omega) hl10
            rw [y_bc (by omega), hk p hl10]
          have hN := yNr_lt ok b (a 0 1) p (Nat.le_refl _)
          rw [y_0_f q2 (by omega), y_low q2 (by omega), y_drop q2 (by omega), hl, y_s1 (Nat.one_le_two_pow), hbc, y_b1, y_gin hl10 (by omega), y_lt_e, y_cl (k := p) (by omega), hn p hl10, y_and, y_lt_e, y_andn, y_lt_e, y_or, y_lt_e, y_or, y_lt_e, y_a1]
          generalize hM : ySd (yNr a b (a 0 1) p &&& m) F = M
          have hMt : ∀ r, M.testBit r = true ↔ (yAdj a b p r ∧ m.testBit r = true ∧ F.testBit r = false) := by
            intro r
            rw [← hM, ySd_t, Nat.testBit_and, Bool.and_eq_true, Bool.and_eq_true, yNr_adj]
            simp [and_assoc]
          have hpS : S.testBit p = true := hL.1
          have hpF := h1 p hpS
          have hM10 : M < 2 ^ 10 := by rw [← hM]; exact y_sd_lt (y_and_lt hN)
          have hsub : ∀ r, (ySd S (2 ^ p) ||| M).testBit r = true → (F ||| M).testBit r = true := by
            intro r hr
            rw [Nat.testBit_or, Bool.or_eq_true, ySd_t, Bool.and_eq_true] at hr
            rw [Nat.testBit_or, Bool.or_eq_true]
            rcases hr with hr | hr
            · exact Or.inl (h1 r hr.1)
            · exact Or.inr hr
          have hpr : ySd (F ||| M) (ySd S (2 ^ p) ||| M) = ySd F S ||| 2 ^ p := by
            apply Nat.eq_of_testBit_eq
            intro r
            rw [ySd_t, Nat.testBit_or, Nat.testBit_or, ySd_t, Nat.testBit_or, ySd_t, Nat.testBit_two_pow]
            by_cases e : p = r
            · subst e
              have : M.testBit p = false := by
                cases e2 : M.testBit p
                · rfl
                · have := ((hMt p).mp e2).2.2; rw [hpF] at this; cases this
              simp [hpF, hpS, this]
            · cases e1 : M.testBit r
              · simp [e]
              · have := ((hMt r).mp e1).2.2
                simp [this, e]
          have hpop : yPop (ySd (F ||| M) (ySd S (2 ^ p) ||| M)) = k + 1 := by
            rw [hpr, yPop_add1 (y_sd_lt (n := 10) hF) hl10 (by rw [ySd_t, hpS]; simp), h5]
          refine ⟨_, rfl, ⟨F ||| M, ySd S (2 ^ p) ||| M, k + 1, rfl, y_or_lt hF hM10, by omega, hsub, ?_, ?_, ?_, hpop, ?_⟩, ?_⟩
          · intro r c1 c2
            rw [Nat.testBit_or, h2 r c1 c2]; rfl
          · intro r hr
            rw [Nat.testBit_or, Bool.or_eq_true] at hr
            rcases hr with hr | hr
            · exact h3 r hr
            · exact ((hMt r).mp hr).2.1
          · intro x y hx hxs had hy
            rw [Nat.testBit_or, Bool.or_eq_true] at hx
            rw [Nat.testBit_or, ySd_t, Bool.or_eq_false_iff, Nat.testBit_two_pow] at hxs
            rw [Nat.testBit_or, Bool.or_eq_true]
            have hxF : F.testBit x = true := by
              rcases hx with hx | hx
              · exact hx
              · rw [hx] at hxs; cases hxs.2
            by_cases e : p = x
            · subst e
              by_cases hyF : F.testBit y = true
              · exact Or.inl hyF
              · exact Or.inr ((hMt y).mpr ⟨had, hy, by simpa using hyF⟩)
            · have : S.testBit x = false := by
                have := hxs.1
                simpa [e] using this
              exact Or.inl (h4 x y hxF this had hy)
          · intro C c1 c2 r hr
            rw [Nat.testBit_or, Bool.or_eq_true] at hr
            rcases hr with hr | hr
            · exact h6 C c1 c2 r hr
            · obtain ⟨g1, g2, -⟩ := (hMt r).mp hr
              exact c2 p r (h6 C c1 c2 p hpF) g1 g2
          · show 10 - (nI (k + 1)).toNatClampNeg < 10 - (nI k).toNatClampNeg
            rw [y_cl (by omega), y_cl (by omega)]
            omega
    · refine ⟨f &&& m, f &&& m, 0, rfl, y_and_lt hf, by omega, fun _ h => h, ?_, ?_, ?_, ?_, ?_⟩
      · intro p h1 h2; rw [Nat.testBit_and, h1, h2]; rfl
      · intro p h; rw [Nat.testBit_and, Bool.and_eq_true] at h; exact h.2
      · intro p q h1 h2; rw [h1] at h2; cases h2
      · have : ySd (f &&& m) (f &&& m) = 0 := by
          apply Nat.eq_of_testBit_eq
          intro i
          rw [ySd_t, Nat.zero_testBit]
          cases (f &&& m).testBit i <;> rfl
        rw [this, yPop_0]
      · intro C c1 _ p h; rw [Nat.testBit_and, Bool.and_eq_true] at h; exact c1 p h.1 h.2
    · show 10 - _ < zFU
      unfold zFU
      omega
  obtain ⟨r, hr, R, rfl, hR⟩ := key
  refine ⟨R, ?_, hR⟩
  unfold fX3_flood
  rw [y_and, show (1023 : Int32) = nI 1023 from rfl, y_and, h1023, y_lt_e, show (0 : Int32) = nI 0 from rfl, hr, y_b1, y_u1]
theorem s3_flood' {gn : zM} {a : yA} {b f m : Nat} (ok : yOk a) (hn : yNet a b gn) (hf : f < 2 ^ 10) (hm : m < 2 ^ 10) : fX3_flood gn (nI f) (nI m) = some (nI (yFl a b f m)) ∧ yLf a b f m (yFl a b f m) := by
  obtain ⟨R, h1, h2⟩ := s3_flood ok hn hf hm
  rw [h1, yFl_eq h2]
  exact ⟨rfl, yFl_ok h2⟩
