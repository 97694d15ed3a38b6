/-! ===== between two ===== -/
theorem s9_isPair {gx w : zM} {a : yA} (ok : yOk a) (hc : yC w a) (x y : Int32) : fX9_isPair gx w x y = some (yBl (zIn x (a 0 0) && zIn y (a 0 0) && !decide (x = y))) := by
  unfold fX9_isPair
  rw [s8_hasPerson ok hc, y_b1, s8_hasPerson ok hc, y_b1]
  cases h1 : zIn x (a 0 0)
  · rw [y_bl_f rfl]; rfl
  · rw [y_bl_t rfl]
    cases h2 : zIn y (a 0 0)
    · rw [y_bl_f rfl]; rfl
    · rw [y_bl_t rfl]
      by_cases q : x = y
      · rw [if_pos q, decide_eq_true q]; rfl
      · rw [if_neg q, decide_eq_false q]; rfl
theorem s10_areTwo {g : zM} {gl : zL} {a : yA} (ok : yOk a) (hg : yG g a) (x y : Int32) : fX10_areTwo g gl x y = some (yBl (zIn x (a 0 0) && zIn y (a 0 0) && !decide (x = y))) := by
  unfold fX10_areTwo
  rw [s10_isPerson ok hg, y_b1, s10_isPerson ok hg, y_b1]
  cases h1 : zIn x (a 0 0)
  · rw [y_bl_f rfl]; rfl
  · rw [y_bl_t rfl]
    cases h2 : zIn y (a 0 0)
    · rw [y_bl_f rfl]; rfl
    · rw [y_bl_t rfl]
      by_cases q : x = y
      · rw [if_pos q, decide_eq_true q]; rfl
      · rw [if_neg q, decide_eq_false q]; rfl
theorem y_pair {x y : Int32} {n : Nat} (hn : n < 2147483648) (h : (zIn x n && zIn y n && !decide (x = y)) = true) : ∃ p q, p < n ∧ q < n ∧ p ≠ q ∧ x = nI p ∧ y = nI q := by
  simp only [Bool.and_eq_true, Bool.not_eq_true', decide_eq_false_iff_not] at h
  obtain ⟨⟨h1, h2⟩, h3⟩ := h
  obtain ⟨p, hp, rfl⟩ := vp_in_of (zIn_ok h1) hn
  obtain ⟨q, hq, rfl⟩ := vp_in_of (zIn_ok h2) hn
  exact ⟨p, q, hp, hq, fun e => h3 (by rw [e]), rfl, rfl⟩
/-- a set of others parts p from q -/
noncomputable def ySep (a : yA) (b p q s : Nat) : Bool := !(yFl a b (2 ^ p) (ySd (2 ^ a 0 0 - 1) s)).testBit q
/-- the fewest so far: none at first -/
noncomputable def yBw (a : yA) (b p q : Nat) : Nat → Option Nat
  | 0 => none
  | k + 1 => if (k &&& (2 ^ p ||| 2 ^ q) = 0 ∧ (∀ v, yBw a b p q k = some v → yPop k < yPop v) ∧ ySep a b p q k = true) then some k else yBw a b p q k
theorem yBw_lt (a : yA) (b p q : Nat) : ∀ k v, yBw a b p q k = some v → v < k ∧ v &&& (2 ^ p ||| 2 ^ q) = 0
  | 0, v, h => by cases h
  | k + 1, v, h => by
    unfold yBw at h
    split at h
    · rename_i hc
      cases h
      exact ⟨by omega, hc.1⟩
    · have := yBw_lt a b p q k v h
      exact ⟨by omega, this.2⟩
theorem y_and0 (s p q : Nat) : s &&& (2 ^ p ||| 2 ^ q) = 0 ↔ (s.testBit p = false ∧ s.testBit q = false) := by
  rw [Nat.and_comm, y_two_and]
  constructor
  · intro h
    have hp : ((if s.testBit p = true then 2 ^ p else 0) ||| (if s.testBit q = true then 2 ^ q else 0)).testBit p = false := by rw [h]; exact Nat.zero_testBit p
    have hq : ((if s.testBit p = true then 2 ^ p else 0) ||| (if s.testBit q = true then 2 ^ q else 0)).testBit q = false := by rw [h]; exact Nat.zero_testBit q
    rw [Nat.testBit_or, Bool.or_eq_false_iff] at hp hq
    refine ⟨?_, ?_⟩
    · cases e : s.testBit p
      · rfl
      · rw [e] at hp; simp [Nat.testBit_two_pow] at hp
    · cases e : s.testBit q
      · rfl
      · rw [e] at hq; simp [Nat.testBit_two_pow] at hq
  · rintro ⟨h1, h2⟩
    rw [h1, h2]; simp
/-- within F, as many as F: F -/
theorem y_sub_eq {x F : Nat} (hF : F < 2 ^ 10) (h : ∀ i, x.testBit i = true → F.testBit i = true) (hp : yPop F ≤ yPop x) : x = F := by
  apply Nat.eq_of_testBit_eq
  intro i
  cases e : x.testBit i
  · cases e2 : F.testBit i
    · rfl
    · have := yPop_lt hF h e2 e
      omega
  · rw [h i e]
/-- when a tie of the two is open nothing parts them; when none is, all others do -/
theorem ySep_adj {a : yA} (ok : yOk a) {b p q s : Nat} (hp : p < a 0 0) (hq : q < a 0 0) (h : yAdj a b p q) (hs : s.testBit p = false ∧ s.testBit q = false) : ySep a b p q s = false := by
  have h0 := ok.1
  have hall := y_all_lt (n := a 0 0) (by omega)
  have hL := yFl_lf (b := b) (f := 2 ^ p) (m := ySd (2 ^ a 0 0 - 1) s) ok (Nat.pow_lt_pow_right (by omega) (by omega)) (y_sd_lt hall)
  have m1 : (ySd (2 ^ a 0 0 - 1) s).testBit p = true := by rw [ySd_t, y_all_t, hs.1, decide_eq_true hp]; rfl
  have m2 : (ySd (2 ^ a 0 0 - 1) s).testBit q = true := by rw [ySd_t, y_all_t, hs.2, decide_eq_true hq]; rfl
  have r1 := hL.1 p (by rw [Nat.testBit_two_pow]; simp) m1
  unfold ySep
  rw [hL.2.2.1 p q r1 h m2]; rfl
theorem ySep_full {a : yA} (ok : yOk a) {b p q : Nat} (hp : p < a 0 0) (hq : q < a 0 0) (hpq : p ≠ q) (h : ¬ yAdj a b p q) : ySep a b p q (ySd (2 ^ a 0 0 - 1) (2 ^ p ||| 2 ^ q)) = true := by
  have h0 := ok.1
  have hall := y_all_lt (n := a 0 0) (by omega)
  have hL := yFl_lf (b := b) (f := 2 ^ p) (m := ySd (2 ^ a 0 0 - 1) (ySd (2 ^ a 0 0 - 1) (2 ^ p ||| 2 ^ q))) ok (Nat.pow_lt_pow_right (by omega) (by omega)) (y_sd_lt hall)
  unfold ySep
  cases e : (yFl a b (2 ^ p) (ySd (2 ^ a 0 0 - 1) (ySd (2 ^ a 0 0 - 1) (2 ^ p ||| 2 ^ q)))).testBit q
  · rfl
  · have := hL.2.2.2 (fun r => r = p) (fun r hr _ => by rw [Nat.testBit_two_pow] at hr; exact (of_decide_eq_true hr).symm) (fun r t hr had hm => by
      subst hr
      rw [ySd_t, ySd_t, Nat.testBit_or, Nat.testBit_two_pow, Nat.testBit_two_pow] at hm
      by_cases e1 : r = t
      · exact e1.symm
      · by_cases e2 : q = t
        · subst e2; exact absurd had h
        · simp [e1, e2] at hm) q e
    exact absurd this.symm hpq
theorem s9_sepc {gn : zM} {a : yA} {b p q s : Nat} (ok : yOk a) (hn : yNet a b gn) (hp : p < a 0 0) (hq : q < a 0 0) : ∃ R, fX3_flood gn (nI (2 ^ p)) (nI (ySd (2 ^ a 0 0 - 1) s)) = some (nI R) ∧ R < 2 ^ 10 ∧ R.testBit q = !ySep a b p q s := by
  have h0 := ok.1
  have hall := y_all_lt (n := a 0 0) (by omega)
  have hk2 : 2 ^ p < 2 ^ 10 := Nat.pow_lt_pow_right (by omega) (by omega)
  refine ⟨_, (s3_flood' ok hn hk2 (y_sd_lt hall)).1, yFl_lt ok hk2 (y_sd_lt hall), ?_⟩
  unfold ySep; simp
theorem m_between {gx w gn g : zM} {gl : zL} {a : yA} (ok : yOk a) (hc : yC w a) (hg : yG g a) (x y z : Int32) : ∃ r gn', fX9_between gx w gn x y z = some (r, gn') ∧ fX10_between g gl x y z = some r := by
  have h0 := ok.1
  have hall := y_all_lt (n := a 0 0) (by omega)
  have h1 := Nat.one_le_two_pow (n := a 0 0)
  have hO := yOs_lt ok 0
  unfold fX9_between fX10_between
  rw [s9_isPair ok hc, y_b1, s10_areTwo ok hg, y_b1]
  cases hpair : (zIn x (a 0 0) && zIn y (a 0 0) && !decide (x = y))
  · rw [y_bl_f rfl, y_bl_f rfl]
    exact ⟨_, _, rfl, rfl⟩
  · rw [y_bl_t rfl, y_bl_t rfl, s9_isEither, y_b1, s10_isSide, y_b1]
    cases h : yEi z
    · rw [y_bl_f rfl, y_bl_f rfl]
      exact ⟨_, _, rfl, rfl⟩
    · rw [y_bl_t rfl, y_bl_t rfl]
      obtain ⟨p, q, hp, hq, hpq, rfl, rfl⟩ := y_pair (by omega) hpair
      obtain ⟨gn', e1, e2⟩ := s9_layOpenTies (gx := gx) (gn := gn) ok hc
      have hNr := yNr_lt ok (yOs a 0) (a 0 1) p (Nat.le_refl _)
      have hpP : 2 ^ p < 2 ^ 10 := Nat.pow_lt_pow_right (by omega) (by omega)
      have hqP : 2 ^ q < 2 ^ 10 := Nat.pow_lt_pow_right (by omega) (by omega)
      have htw : (2 ^ p ||| 2 ^ q) < 2 ^ 10 := y_or_lt hpP hqP
      -- the model's loop
      have k2 : ∃ r, zLp (fX10_between_L41 (nI p) g gl (nI (yOs a 0)) (nI (2 ^ p ||| 2 ^ q))) zFU ((fun k (x : Int32) => (x, nI k)) 0 (-3)) = some r ∧ r = (match yBw a (yOs a 0) p q (2 ^ a 0 0) with | none => -3 | some v => nI v) := by
        refine y_for (fun k (x : Int32) => (x, nI k)) (2 ^ a 0 0) (fun j x => x = (match yBw a (yOs a 0) p q j with | none => -3 | some v => nI v)) _ ?_ ?_ zFU 0 _ (by omega) rfl (by unfold zFU; omega)
        · rintro j x hj hx
          have hj10 : j < 2 ^ 10 := by omega
          have ef := (s10_joinedBy' (gl := gl) (f := 2 ^ p) (m := ySd (2 ^ a 0 0 - 1) j) ok hg hpP hO (y_sd_lt hall))
          have hflt := yFl_lt (b := yOs a 0) (m := ySd (2 ^ a 0 0 - 1) j) ok hpP (y_sd_lt hall)
          have hp2 := yPop_le j
          refine ⟨(match yBw a (yOs a 0) p q (j + 1) with | none => -3 | some v => nI v), ?_, rfl⟩
          have sp : yBw a (yOs a 0) p q (j + 1) = some j → (match yBw a (yOs a 0) p q (j + 1) with | none => (-3 : Int32) | some v => nI v) = nI j := fun e => by rw [e]
          have sq : yBw a (yOs a 0) p q (j + 1) = yBw a (yOs a 0) p q j → (match yBw a (yOs a 0) p q (j + 1) with | none => (-3 : Int32) | some v => nI v) = x := fun e => by rw [e, hx]
          unfold fX10_between_L41 fX10_between_L41J79 fX10_between_L41J85 fX10_between_L41J89 fX10_between_L41J90 fX10_between_L41J127
          rw [y_u2, s10_all ok hg, y_b1, y_lt_f (by omega) (by omega), y_and, s10_ones (a := j) (by omega), y_b1, y_b1, y_one (by omega), y_andn, ef.1, y_b1, y_and, y_a1]
          have hand : j &&& (2 ^ p ||| 2 ^ q) < 2 ^ 10 := y_and_lt hj10
          by_cases c2 : j &&& (2 ^ p ||| 2 ^ q) = 0
          · have hjb := (y_and0 j p q).mp c2
            have m1 : (ySd (2 ^ a 0 0 - 1) j).testBit p = true := by rw [ySd_t, y_all_t, hjb.1, decide_eq_true hp]; rfl
            have hin := ef.2.1 p (by rw [Nat.testBit_two_pow]; simp) m1
            -- the two joined: the one of them who isn't p
            have hsep : ∀ {α : Type} (u v : α), (if nI (yFl a (yOs a 0) (2 ^ p) (ySd (2 ^ a 0 0 - 1) j) &&& (2 ^ p ||| 2 ^ q)) = nI (2 ^ p ||| 2 ^ q) then u else v) = (if ySep a (yOs a 0) p q j = true then v else u) := by
              intro α u v
              have hlt2 : yFl a (yOs a 0) (2 ^ p) (ySd (2 ^ a 0 0 - 1) j) &&& (2 ^ p ||| 2 ^ q) < 2 ^ 10 := y_and_lt hflt
              have htwo : yFl a (yOs a 0) (2 ^ p) (ySd (2 ^ a 0 0 - 1) j) &&& (2 ^ p ||| 2 ^ q) = (2 ^ p ||| 2 ^ q) ↔ (yFl a (yOs a 0) (2 ^ p) (ySd (2 ^ a 0 0 - 1) j)).testBit q = true := by
                rw [Nat.and_comm, y_two_and, hin]
                constructor
                · intro e
                  have e2 := congrArg (fun n => n.testBit q) e
                  simp only [Nat.testBit_or, Nat.testBit_two_pow] at e2
                  cases e3 : (yFl a (yOs a 0) (2 ^ p) (ySd (2 ^ a 0 0 - 1) j)).testBit q
                  · rw [e3] at e2; simp [Nat.testBit_two_pow, hpq] at e2
                  · rfl
                · intro e
                  rw [e]; simp
              by_cases c : (yFl a (yOs a 0) (2 ^ p) (ySd (2 ^ a 0 0 - 1) j)).testBit q = true
              · rw [y_eq_t (htwo.mpr c), if_neg (by unfold ySep; rw [c]; decide)]
              · rw [y_eq_f (fun e => c (htwo.mp e)) (by omega) (by omega), if_pos (by unfold ySep; simpa using c)]
            rw [y_0_t c2]
            cases hB : yBw a (yOs a 0) p q j with
            | none =>
              have hxn : x < 0 := by rw [hx, hB]; exact y_n3
              rw [if_pos hxn, if_neg (show ¬ (1 : Int32) = 0 by decide), hsep]
              by_cases c3 : ySep a (yOs a 0) p q j = true
              · rw [if_pos c3, sp (by rw [yBw]; exact if_pos ⟨c2, (fun v hv => by rw [hB] at hv; cases hv), c3⟩)]; rfl
              · rw [if_neg c3, sq (by rw [yBw]; exact if_neg (fun zz => c3 zz.2.2))]; rfl
            | some v =>
              obtain ⟨hv1, hv2⟩ := yBw_lt a (yOs a 0) p q j v hB
              have hpv := yPop_le v
              have hxe : x = nI v := by rw [hx, hB]
              rw [if_neg (by rw [hxe]; exact y_nn (by omega)), if_pos (by rw [hxe]; exact nI_pos' (by omega)), show fX10_ones x = some (nI (yPop v)) from by rw [hxe]; exact s10_ones (by omega), y_b1]
              by_cases c4 : yPop j < yPop v
              · rw [y_le_f c4 (by omega), if_neg (show ¬ (1 : Int32) = 0 by decide), hsep]
                by_cases c3 : ySep a (yOs a 0) p q j = true
                · rw [if_pos c3, sp (by rw [yBw]; exact if_pos ⟨c2, (fun v' hv => by rw [hB] at hv; cases hv; exact c4), c3⟩)]; rfl
                · rw [if_neg c3, sq (by rw [yBw]; exact if_neg (fun zz => c3 zz.2.2))]; rfl
              · rw [y_le_t (by omega) (by omega), if_pos rfl, sq (by rw [yBw]; exact if_neg (fun zz => c4 (zz.2.1 v hB)))]; rfl
          · rw [y_0_f c2 (by omega), if_pos rfl, sq (by rw [yBw]; exact if_neg (fun zz => c2 zz.1))]; rfl
        · rintro x rfl
          refine ⟨_, ?_, rfl⟩
          unfold fX10_between_L41
          rw [y_u2, s10_all ok hg, y_b1, y_lt_t (by omega) (by omega)]
      obtain ⟨r2, hr2, hr2e⟩ := k2
      rw [e1, y_b1, y_gin (by omega) (by omega), y_lt_e, y_cl (k := p) (by omega), e2 p (by omega), s10_openOn0 ok hg, y_b1, y_one (k := p) (by omega), y_one (k := q) (by omega), y_or, y_lt_e, show ((-3, 0) : Int32 × Int32) = (fun k (x : Int32) => (x, nI k)) 0 (-3) from rfl, hr2, y_b1, y_u1]
      by_cases cad : yAdj a (yOs a 0) p q
      · -- an open tie of the two
        rw [if_neg (by rw [y_bit0 (by omega) (by omega), (yNr_adj a (yOs a 0) p q).mpr cad]; decide)]
        have hnone : ∀ j, yBw a (yOs a 0) p q j = none := by
          intro j
          induction j with
          | zero => rfl
          | succ j ih =>
            rw [yBw, if_neg (fun zz => ?_), ih]
            have := ySep_adj ok hp hq cad ((y_and0 j p q).mp zz.1)
            rw [this] at zz
            cases zz.2.2
        rw [hnone] at hr2e
        subst hr2e
        rw [if_neg (by decide)]
        exact ⟨_, _, rfl, rfl⟩
      · rw [if_pos (by
          rw [y_bit0 (by omega) (by omega)]
          cases e : (yNr a (yOs a 0) (a 0 1) p).testBit q
          · rfl
          · exact absurd ((yNr_adj a (yOs a 0) p q).mp e) cad)]
        generalize hFd : ySd (2 ^ a 0 0 - 1) (2 ^ p ||| 2 ^ q) = F
        have hF10 : F < 2 ^ 10 := by rw [← hFd]; exact y_sd_lt hall
        have hFs := ySep_full ok hp hq hpq cad
        rw [hFd] at hFs
        have hFt : ∀ i, F.testBit i = true ↔ (i < a 0 0 ∧ i ≠ p ∧ i ≠ q) := by
          intro i
          rw [← hFd, ySd_t, y_all_t, Nat.testBit_or, Nat.testBit_two_pow, Nat.testBit_two_pow]
          by_cases c1 : p = i <;> by_cases c2 : q = i <;> simp [c1, c2, eq_comm] <;> omega
        have hsubF : ∀ s, s < 2 ^ a 0 0 → s &&& (2 ^ p ||| 2 ^ q) = 0 → ∀ i, s.testBit i = true → F.testBit i = true := by
          intro s hs hs2 i hi
          have hb := (y_and0 s p q).mp hs2
          refine (hFt i).mpr ⟨?_, fun e => ?_, fun e => ?_⟩
          · rcases Nat.lt_or_ge i (a 0 0) with h | h
            · exact h
            · rw [y_tf hs h] at hi; cases hi
          · subst e; rw [hb.1] at hi; cases hi
          · subst e; rw [hb.2] at hi; cases hi
        have hF2 : F &&& (2 ^ p ||| 2 ^ q) = 0 := (y_and0 F p q).mpr ⟨by
          cases e : F.testBit p
          · rfl
          · exact absurd rfl ((hFt p).mp e).2.1, by
          cases e : F.testBit q
          · rfl
          · exact absurd rfl ((hFt q).mp e).2.2⟩
        have hFn : F < 2 ^ a 0 0 := y_ltp (fun i hi => by
          cases e : F.testBit i
          · rfl
          · have := ((hFt i).mp e).1; omega)
        have k1 : ∃ r, zLp (fX9_between_L71 (nI p) (nI q) gn' (nI (2 ^ a 0 0 - 1)) (nI (2 ^ p ||| 2 ^ q))) zFU ((fun k (x : Nat) => (nI x, nI k)) 0 F) = some r ∧ r = nI ((yBw a (yOs a 0) p q (2 ^ a 0 0)).getD F) := by
          refine y_for (fun k (x : Nat) => (nI x, nI k)) (2 ^ a 0 0) (fun j x => x = (yBw a (yOs a 0) p q j).getD F) _ ?_ ?_ zFU 0 _ (by omega) rfl (by unfold zFU; omega)
          · rintro j x hj hx
            have hj10 : j < 2 ^ 10 := by omega
            obtain ⟨R, ef1, ef2, ef3⟩ := s9_sepc (s := j) ok e2 hp hq
            have hp2 := yPop_le j
            refine ⟨(yBw a (yOs a 0) p q (j + 1)).getD F, ?_, rfl⟩
            have sp : yBw a (yOs a 0) p q (j + 1) = some j → (yBw a (yOs a 0) p q (j + 1)).getD F = j := fun e => by rw [e]; rfl
            have sq : yBw a (yOs a 0) p q (j + 1) = yBw a (yOs a 0) p q j → (yBw a (yOs a 0) p q (j + 1)).getD F = x := fun e => by rw [e, hx]
            have hx10 : x < 2 ^ 10 := by
              rw [hx]
              cases hB : yBw a (yOs a 0) p q j with
              | none => exact hF10
              | some v => have := (yBw_lt a (yOs a 0) p q j v hB).1; show v < 2 ^ 10; omega
            have hpx := yPop_le x
            have hand : j &&& (2 ^ p ||| 2 ^ q) < 2 ^ 10 := y_and_lt hj10
            unfold fX9_between_L71 fX9_between_L71J103 fX9_between_L71J104 fX9_between_L71J139
            rw [y_u2, y_lt_f (by omega) (by omega), y_and, y_bc (a := j) (by omega), y_b1, y_bc (a := x) (by omega), y_b1, y_one (k := p) (by omega), y_andn, ef1, y_b1, y_a1]
            by_cases c2 : j &&& (2 ^ p ||| 2 ^ q) = 0
            · rw [y_0_t c2]
              by_cases c4 : yPop j < yPop x
              · rw [y_le_f c4 (by omega), if_neg (show ¬ (1 : Int32) = 0 by decide)]
                have hlt : ∀ v, yBw a (yOs a 0) p q j = some v → yPop j < yPop v := fun v hv => by rw [hx, hv] at c4; exact c4
                cases c3 : ySep a (yOs a 0) p q j
                · rw [if_neg (by rw [y_bit0 (by omega) (by omega), ef3, c3]; decide), y_lt_e, sq (by rw [yBw]; exact if_neg (fun zz => by rw [c3] at zz; cases zz.2.2))]
                · rw [if_pos (by rw [y_bit0 (by omega) (by omega), ef3, c3]; decide), y_lt_e, sp (by rw [yBw]; exact if_pos ⟨c2, hlt, c3⟩)]
              · rw [y_le_t (by omega) (by omega), if_pos rfl, y_lt_e]
                by_cases c5 : ∀ v, yBw a (yOs a 0) p q j = some v → yPop j < yPop v
                · -- none as yet, and as many as all others: it is all others
                  cases hB : yBw a (yOs a 0) p q j with
                  | some v => have := c5 v hB; rw [hx, hB] at c4; exact absurd this c4
                  | none =>
                    rw [hB] at hx
                    have hxF : x = F := hx
                    have hjF : j = F := y_sub_eq hF10 (hsubF j hj c2) (by rw [← hxF]; omega)
                    by_cases c3 : ySep a (yOs a 0) p q j = true
                    · rw [sp (by rw [yBw]; exact if_pos ⟨c2, c5, c3⟩), hxF, hjF]
                    · rw [sq (by rw [yBw]; exact if_neg (fun zz => c3 zz.2.2))]
                · rw [sq (by rw [yBw]; exact if_neg (fun zz => c5 zz.2.1))]
            · rw [y_0_f c2 (by omega), if_pos rfl, y_lt_e, sq (by rw [yBw]; exact if_neg (fun zz => c2 zz.1))]
          · rintro x rfl
            refine ⟨_, ?_, rfl⟩
            unfold fX9_between_L71
            rw [y_u2, y_lt_t (by omega) (by omega)]
        obtain ⟨r1, hr1, rfl⟩ := k1
        -- in the end there is one
        have hsome : ∃ v, yBw a (yOs a 0) p q (2 ^ a 0 0) = some v := by
          have key : ∀ j, F < j → ∃ v, yBw a (yOs a 0) p q j = some v := by
            intro j
            induction j with
            | zero => intro hh; omega
            | succ j ih =>
              intro hh
              cases hB : yBw a (yOs a 0) p q j with
              | some v =>
                by_cases c : (j &&& (2 ^ p ||| 2 ^ q) = 0 ∧ (∀ v, yBw a (yOs a 0) p q j = some v → yPop j < yPop v) ∧ ySep a (yOs a 0) p q j = true)
                · exact ⟨j, by rw [yBw]; exact if_pos c⟩
                · exact ⟨v, by rw [yBw, if_neg c]; exact hB⟩
              | none =>
                by_cases e : F = j
                · subst e
                  exact ⟨F, by rw [yBw]; exact if_pos ⟨hF2, (fun v hv => by rw [hB] at hv; cases hv), hFs⟩⟩
                · obtain ⟨v, hv⟩ := ih (by omega)
                  rw [hB] at hv; cases hv
          exact key _ hFn
        obtain ⟨v, hv⟩ := hsome
        have hvl := (yBw_lt a (yOs a 0) p q _ v hv).1
        rw [hv] at hr2e hr1
        have hr2e : r2 = nI v := hr2e
        have hr1 : zLp (fX9_between_L71 (nI p) (nI q) gn' (nI (2 ^ a 0 0 - 1)) (nI (2 ^ p ||| 2 ^ q))) zFU ((fun k (x : Nat) => (nI x, nI k)) 0 F) = some (nI v) := hr1
        subst hr2e
        rw [s8_everybody ok hc, y_b1, y_lt_e, y_andn, hFd, y_lt_e, show ((nI F, 0) : Int32 × Int32) = (fun k (x : Nat) => (nI x, nI k)) 0 F from rfl, hr1, y_b1, y_u1, s9_countOrSet (by omega) h, y_b1, if_pos (nI_pos' (by omega))]
        rcases y_ei h with rfl | rfl
        · rw [if_pos rfl, if_pos rfl, s10_ones (by omega), y_b1]
          exact ⟨_, _, rfl, rfl⟩
        · rw [if_neg (by decide), if_neg (by decide)]
          exact ⟨_, _, rfl, rfl⟩
