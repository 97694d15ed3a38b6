/-! ===== flood by any hand ===== -/
theorem yFl_lf {a : yA} (ok : yOk a) {b f m : Nat} (hf : f < 2 ^ 10) (hm : m < 2 ^ 10) : yLf a b f m (yFl a b f m) := (s3_flood' (gn := fun _ p => nI (yNr a b (a 0 1) p)) ok (fun _ _ => rfl) hf hm).2
theorem yFl_lt {a : yA} (ok : yOk a) {b f m : Nat} (hf : f < 2 ^ 10) (hm : m < 2 ^ 10) : yFl a b f m < 2 ^ 10 := (yFl_lf ok hf hm).lt hm
theorem ySets_10 {a : yA} (ok : yOk a) {b m : Nat} (hm : m < 2 ^ 10) : ∀ n left c t, left < 2 ^ 10 → t ≤ 10 → (ySets a b m n left c t).2 ≤ 10
  | 0, _, c, t, _, h2 => h2
  | n + 1, left, c, t, h1, h2 => by
    unfold ySets
    split
    · exact h2
    · rename_i h0
      refine ySets_10 ok hm n _ (c + 1) _ (y_sd_lt h1) ?_
      split
      · exact yPop_10 (yFl_lt (b := b) ok (y_lbp h0 h1) hm)
      · exact h2
theorem yGr_10 {a : yA} (ok : yOk a) {b m : Nat} (hm : m < 2 ^ 10) : yGr a b m ≤ 10 := ySets_10 ok hm 10 m 0 0 hm (by omega)
theorem y_lite {α : Type} {c : Prop} {hd : Decidable c} {x y : α} (h : c) : (@ite _ c hd x y) = x := if_pos h
theorem y_n3 : (-3 : Int32) < 0 := by decide
theorem y_n1 : (-1 : Int32) < 0 := by decide
theorem y_nn {k : Nat} (h : k < 2147483648) : ¬ nI k < 0 := nI_pos h
theorem s10_openOn0 {g : zM} {gl : zL} {a : yA} (ok : yOk a) (hg : yG g a) : fX10_openOn g gl 0 = some (nI (yOs a 0)) := s10_openOn (d := 0) ok hg (by omega)
theorem s8_openTies0 {w : zM} {a : yA} (ok : yOk a) (hc : yC w a) : fX8_openTies w 0 = some (nI (yOs a 0)) := s8_openTies (d := 0) ok hc (by omega)
/-! ===== the chair ===== -/
noncomputable def yCh (a : yA) (b : Nat) : Nat → Nat × Nat
  | 0 => (11, 0)
  | p + 1 => if yGr a b (ySd (2 ^ a 0 0 - 1) (2 ^ p)) < (yCh a b p).1 then (yGr a b (ySd (2 ^ a 0 0 - 1) (2 ^ p)), p) else yCh a b p
theorem yCh_bd {a : yA} (b : Nat) : ∀ p, (yCh a b p).1 ≤ 11 ∧ (yCh a b p).2 ≤ p
  | 0 => ⟨by show (11 : Nat) ≤ 11; omega, by show (0 : Nat) ≤ 0; omega⟩
  | p + 1 => by
    obtain ⟨h1, h2⟩ := yCh_bd (a := a) b p
    unfold yCh
    split
    · refine ⟨?_, ?_⟩
      · show yGr a b _ ≤ 11; omega
      · show p ≤ p + 1; omega
    · exact ⟨h1, by omega⟩
theorem s9_countOrSet {s : Nat} (hs : s < 16384) {x : Int32} (h : yEi x = true) : fX9_countOrSet (nI s) x = some (if x = 0 then nI (yPop s) else nI s) := by
  unfold fX9_countOrSet
  rcases y_ei h with rfl | rfl
  · rw [if_pos rfl, if_pos rfl, y_bc hs, y_b1]
  · rw [if_neg (by decide), if_neg (by decide)]
theorem m_chair {gx w gn g : zM} {gl : zL} {a : yA} (ok : yOk a) (hc : yC w a) (hg : yG g a) (x : Int32) : ∃ r gn' g', fX9_chair gx w gn x = some (r, gn') ∧ fX10_chair g gl x = some (r, g') ∧ yKs g g' := by
  have h0 := ok.1
  have hall := y_all_lt (n := a 0 0) (by omega)
  have hO := yOs_lt ok 0
  unfold fX9_chair fX10_chair
  rw [s9_isEither, y_b1, s10_isSide, y_b1]
  cases h : yEi x
  · rw [y_bl_f rfl, y_bl_f rfl]
    exact ⟨_, _, _, rfl, rfl, yKs.rf g⟩
  · rw [y_bl_t rfl, y_bl_t rfl]
    obtain ⟨gn', e1, e2⟩ := s9_layOpenTies (gx := gx) (gn := gn) ok hc
    have hgr : ∀ p, yGr a (yOs a 0) (ySd (2 ^ a 0 0 - 1) (2 ^ p)) ≤ 10 := fun p => yGr_10 ok (y_sd_lt hall)
    have k1 : ∃ r, zLp (fX9_chair_L21 w gn') zFU ((fun k (x : Nat × Nat) => (nI x.1, nI x.2, nI k)) 0 (11, 0)) = some r ∧ r = (nI (yCh a (yOs a 0) (a 0 0)).1, nI (yCh a (yOs a 0) (a 0 0)).2) := by
      refine y_for (fun k (x : Nat × Nat) => (nI x.1, nI x.2, nI k)) (a 0 0) (fun k x => x = yCh a (yOs a 0) k) _ ?_ ?_ zFU 0 _ (by omega) rfl (by unfold zFU; omega)
      · intro k x hk hx
        subst hx
        have hb := yCh_bd (a := a) (yOs a 0) k
        refine ⟨yCh a (yOs a 0) (k + 1), ?_, rfl⟩
        unfold fX9_chair_L21 fX9_chair_L21J68
        rw [y_u3, hc.1.1, y_le_f hk (by omega), s8_everybody ok hc, y_b1, y_one (by omega), y_andn, s3_greatestSet ok e2 (y_sd_lt hall), y_b1]
        have hv := hgr k
        rw [yCh]
        by_cases q : yGr a (yOs a 0) (ySd (2 ^ a 0 0 - 1) (2 ^ k)) < (yCh a (yOs a 0) k).1
        · rw [y_le_f q (by omega), y_lt_e, y_a1, if_pos q]
        · rw [y_le_t (by omega) (by omega), y_lt_e, y_a1, if_neg q]
      · intro x hx
        subst hx
        refine ⟨_, ?_, rfl⟩
        unfold fX9_chair_L21
        rw [y_u3, hc.1.1, y_le_t (by omega) (by omega)]
    have k2 : ∃ r, zLp (fX10_chair_L23 gl (nI (yOs a 0))) zFU ((fun k (x : Int32 × Int32 × zM) => (x.1, x.2.1, nI k, x.2.2)) 0 (-1, 0, g)) = some r ∧ ∃ g', yKs g g' ∧ r = (nI (yCh a (yOs a 0) (a 0 0)).2, nI (yCh a (yOs a 0) (a 0 0)).1, g') := by
      refine y_for (fun k (x : Int32 × Int32 × zM) => (x.1, x.2.1, nI k, x.2.2)) (a 0 0) (fun k x => yKs g x.2.2 ∧ ((k = 0 ∧ x.1 = -1) ∨ (0 < k ∧ x.1 = nI (yCh a (yOs a 0) k).2 ∧ x.2.1 = nI (yCh a (yOs a 0) k).1))) _ ?_ ?_ zFU 0 _ (by omega) ⟨yKs.rf g, Or.inl ⟨rfl, rfl⟩⟩ (by unfold zFU; omega)
      · rintro k ⟨x1, x2, x3⟩ hk ⟨hks, hx⟩
        have hks : yKs g x3 := hks
        have hg3 := hg.ks hks
        have hb := yCh_bd (a := a) (yOs a 0) k
        have hv := hgr k
        obtain ⟨g', q1, q2, -⟩ := s10_greatest (gl := gl) (b := yOs a 0) (m := ySd (2 ^ a 0 0 - 1) (2 ^ k)) ok hg3 hO (y_sd_lt hall)
        refine ⟨(nI (yCh a (yOs a 0) (k + 1)).2, nI (yCh a (yOs a 0) (k + 1)).1, g'), ?_, hks.tr q2, Or.inr ⟨by omega, rfl, rfl⟩⟩
        show fX10_chair_L23 gl (nI (yOs a 0)) (x1, x2, nI k, x3) = some (.inl (nI (yCh a (yOs a 0) (k + 1)).2, nI (yCh a (yOs a 0) (k + 1)).1, nI (k + 1), g'))
        unfold fX10_chair_L23 fX10_chair_L23J61 fX10_chair_L23J68
        rw [y_u4, hg3.1.1, y_le_f hk (by omega), s10_all ok hg3, y_b1, y_one (by omega), y_andn, q1, y_b2]
        rw [yCh]
        rcases hx with ⟨rfl, hx⟩ | ⟨hpos, hx1, hx2⟩
        · have hx : x1 = -1 := hx
          subst hx
          have e11 : (yCh a (yOs a 0) 0).1 = 11 := rfl
          rw [if_pos y_n1, y_lt_e, y_a1, if_pos (by rw [e11]; omega)]
        · have hx1 : x1 = _ := hx1
          have hx2 : x2 = _ := hx2
          subst hx1
          subst hx2
          rw [if_neg (y_nn (by omega))]
          by_cases q : yGr a (yOs a 0) (ySd (2 ^ a 0 0 - 1) (2 ^ k)) < (yCh a (yOs a 0) k).1
          · rw [y_le_f q (by omega), y_lt_e, y_a1, if_pos q]
          · rw [y_le_t (by omega) (by omega), y_lt_e, y_a1, if_neg q]
      · rintro ⟨x1, x2, x3⟩ ⟨hks, hx⟩
        have hks : yKs g x3 := hks
        rcases hx with ⟨hz, -⟩ | ⟨hpos, hx1, hx2⟩
        · omega
        · have hx1 : x1 = _ := hx1
          have hx2 : x2 = _ := hx2
          refine ⟨_, ?_, x3, hks, by rw [← hx1, ← hx2]⟩
          show fX10_chair_L23 gl (nI (yOs a 0)) (x1, x2, nI (a 0 0), x3) = some (.inr (x1, x2, x3))
          unfold fX10_chair_L23
          rw [y_u4, (hg.ks hks).1.1, y_le_t (by omega) (by omega)]
    obtain ⟨r1, hr1, rfl⟩ := k1
    obtain ⟨r2, hr2, g', hks, rfl⟩ := k2
    rw [e1, y_b1, show ((11, 0, 0) : Int32 × Int32 × Int32) = (fun k (x : Nat × Nat) => (nI x.1, nI x.2, nI k)) 0 (11, 0) from rfl, hr1, y_b1, y_u2, s10_openOn0 ok hg, y_b1, show ((-1, 0, 0, g) : Int32 × Int32 × Int32 × zM) = (fun k (x : Int32 × Int32 × zM) => (x.1, x.2.1, nI k, x.2.2)) 0 (-1, 0, g) from rfl, hr2, y_b1, y_u3]
    rcases y_ei h with rfl | rfl
    · rw [if_pos rfl, if_pos rfl]
      exact ⟨_, _, _, rfl, rfl, hks⟩
    · rw [if_neg (by decide), if_neg (by decide)]
      exact ⟨_, _, _, rfl, rfl, hks⟩
/-! ===== to meet ===== -/
noncomputable def yMe (a : yA) (b s : Nat) : Nat → Nat
  | 0 => 0
  | k + 1 => if s ≤ k ∧ k &&& s = s ∧ (yMe a b s k = 0 ∨ yPop k < yPop (yMe a b s k)) ∧ yFl a b (2 ^ yLb k) k = k then k else yMe a b s k
theorem yMe_lt (a : yA) (b s : Nat) : ∀ k, yMe a b s k ≤ k
  | 0 => Nat.le_refl _
  | k + 1 => by
    have := yMe_lt a b s k
    unfold yMe
    split <;> omega
theorem yMe_0 (a : yA) (b s : Nat) : ∀ k, k ≤ s → yMe a b s k = 0
  | 0, _ => rfl
  | k + 1, h => by
    unfold yMe
    rw [if_neg (fun z => by omega), yMe_0 a b s k (by omega)]
theorem s8_hasSet {w : zM} {a : yA} (ok : yOk a) (hc : yC w a) (x : Int32) : fX8_hasSet w x = some (yBl (zIn x (2 ^ a 0 0))) := by
  have h0 := ok.1
  have hall := y_all_lt (n := a 0 0) (by omega)
  have h1 := Nat.one_le_two_pow (n := a 0 0)
  unfold fX8_hasSet
  rw [s8_everybody ok hc, y_b1]
  rcases y_zin x (n := 2 ^ a 0 0) (by omega) with ⟨h, k, hk, rfl⟩ | ⟨h, h2⟩
  · rw [h, if_neg (nI_pos (by omega)), y_lt_f (by omega) (by omega)]; rfl
  · rw [h]
    by_cases q : x < 0
    · rw [if_pos q]; rfl
    · rw [if_neg q]
      obtain ⟨k, hk, rfl⟩ := nI_of q
      have h3 := h2.resolve_left q
      rw [y_le (by omega) hk] at h3
      rw [y_lt_t (by omega) hk]; rfl
theorem m_meet {gx w gn g : zM} {gl : zL} {a : yA} (ok : yOk a) (hc : yC w a) (hg : yG g a) (s x : Int32) : ∃ r gn', fX9_meet gx w gn s x = some (r, gn') ∧ fX10_meet g gl s x = some r := by
  have h0 := ok.1
  have hall := y_all_lt (n := a 0 0) (by omega)
  have h1 := Nat.one_le_two_pow (n := a 0 0)
  have hO := yOs_lt ok 0
  unfold fX9_meet fX10_meet
  rw [s10_all ok hg, y_b1, s10_in, y_b1, s8_hasSet ok hc, y_b1, s9_isEither, y_b1, s10_isSide, y_b1]
  have e1 : (nI (2 ^ a 0 0 - 1)).toInt = ((2 ^ a 0 0 - 1 : Nat) : Int) := nI_toInt (by omega)
  by_cases hs0 : s = 0
  · subst hs0
    rw [if_pos rfl, y_bl_f (by rw [show (1 : Int32).toInt = 1 from rfl, show (0 : Int32).toInt = 0 from rfl]; rfl)]
    exact ⟨_, _, rfl, rfl⟩
  · rw [if_neg hs0]
    have e2 : (decide ((1 : Int32).toInt ≤ s.toInt) && decide (s.toInt ≤ (nI (2 ^ a 0 0 - 1)).toInt)) = zIn s (2 ^ a 0 0) := by
      rw [y_zinI s (by omega), e1, Bool.eq_iff_iff]
      simp only [Bool.and_eq_true, decide_eq_true_eq]
      rw [show (1 : Int32).toInt = 1 from rfl]
      have hne : s.toInt ≠ 0 := fun z => hs0 (Int32.toInt_inj.mp z)
      have hc : ((2 ^ a 0 0 - 1 : Nat) : Int) = ((2 ^ a 0 0 : Nat) : Int) - 1 := by omega
      rw [hc]
      omega
    rw [e2]
    rcases y_zin s (n := 2 ^ a 0 0) (by omega) with ⟨hz, k, hk, rfl⟩ | ⟨hz, -⟩
    · rw [y_bl_t hz, y_bl_t hz]
      have hk0 : k ≠ 0 := fun z => hs0 (by rw [z]; rfl)
      cases h : yEi x
      · rw [y_bl_f rfl, y_bl_f rfl]
        exact ⟨_, _, rfl, rfl⟩
      · rw [y_bl_t rfl, y_bl_t rfl]
        obtain ⟨gn', e1, e2⟩ := s9_layOpenTies (gx := gx) (gn := gn) ok hc
        have k1 : ∃ r, zLp (fX9_meet_L33 (nI k) w gn') zFU ((fun k (x : Nat) => (nI x, nI k)) k 0) = some r ∧ r = nI (yMe a (yOs a 0) k (2 ^ a 0 0)) := by
          refine y_for (fun k (x : Nat) => (nI x, nI k)) (2 ^ a 0 0) (fun j x => k ≤ j ∧ x = yMe a (yOs a 0) k j) _ ?_ ?_ zFU k 0 (by omega) ⟨Nat.le_refl _, (yMe_0 a _ k k (Nat.le_refl _)).symm⟩ (by unfold zFU; omega)
          · rintro j x hj ⟨hkj, rfl⟩
            have hL := yMe_lt a (yOs a 0) k j
            refine ⟨yMe a (yOs a 0) k (j + 1), ?_, by omega, rfl⟩
            have hj10 : j < 2 ^ 10 := by omega
            have hjn : j ≠ 0 := by omega
            have ef := (s3_flood' (f := 2 ^ yLb j) (m := j) ok e2 (y_lbp hjn hj10) hj10).1
            have hflt := yFl_lt (b := yOs a 0) ok (y_lbp hjn hj10) hj10
            have hp := yPop_le (yMe a (yOs a 0) k j)
            have hp2 := yPop_le j
            unfold fX9_meet_L33 fX9_meet_L33J61 fX9_meet_L33J66 fX9_meet_L33J104
            rw [y_u2, s8_everybody ok hc, y_b1, y_lt_f (by omega) (by omega), y_bc (by omega), y_bc (by omega), y_b1, y_b1, y_and, y_low hjn (by omega), ef, y_b1, y_a1]
            rw [yMe]
            by_cases c1 : yMe a (yOs a 0) k j = 0
            · rw [y_0_t c1, if_neg (show ¬ (1 : Int32) = 0 by decide)]
              by_cases c2 : j &&& k = k
              · rw [y_eq_t c2]
                by_cases c3 : yFl a (yOs a 0) (2 ^ yLb j) j = j
                · rw [y_eq_t c3, if_pos ⟨hkj, c2, Or.inl c1, c3⟩]; rfl
                · rw [y_eq_f c3 (by omega) (by omega), if_neg (fun z => c3 z.2.2.2)]; rfl
              · have : j &&& k < 2 ^ 10 := y_and_lt hj10
                rw [y_eq_f c2 (by omega) (by omega), if_neg (fun z => c2 z.2.1)]; rfl
            · rw [y_0_f c1 (by omega)]
              by_cases c4 : yPop j < yPop (yMe a (yOs a 0) k j)
              · rw [y_le_f c4 (by omega), if_neg (show ¬ (1 : Int32) = 0 by decide)]
                by_cases c2 : j &&& k = k
                · rw [y_eq_t c2]
                  by_cases c3 : yFl a (yOs a 0) (2 ^ yLb j) j = j
                  · rw [y_eq_t c3, if_pos ⟨hkj, c2, Or.inr c4, c3⟩]; rfl
                  · rw [y_eq_f c3 (by omega) (by omega), if_neg (fun z => c3 z.2.2.2)]; rfl
                · have : j &&& k < 2 ^ 10 := y_and_lt hj10
                  rw [y_eq_f c2 (by omega) (by omega), if_neg (fun z => c2 z.2.1)]; rfl
              · rw [y_le_t (by omega) (by omega), if_pos rfl, if_neg (fun z => by rcases z.2.2.1 with z | z <;> omega)]; rfl
          · rintro x ⟨-, rfl⟩
            refine ⟨_, ?_, rfl⟩
            unfold fX9_meet_L33
            rw [y_u2, s8_everybody ok hc, y_b1, y_lt_t (by omega) (by omega)]
        have k2 : ∃ r, zLp (fX10_meet_L34 (nI k) g gl (nI (yOs a 0))) zFU ((fun k (x : Int32) => (x, nI k)) k (-3)) = some r ∧ r = (if yMe a (yOs a 0) k (2 ^ a 0 0) = 0 then -3 else nI (yMe a (yOs a 0) k (2 ^ a 0 0))) := by
          refine y_for (fun k (x : Int32) => (x, nI k)) (2 ^ a 0 0) (fun j x => k ≤ j ∧ x = (if yMe a (yOs a 0) k j = 0 then -3 else nI (yMe a (yOs a 0) k j))) _ ?_ ?_ zFU k _ (by omega) ⟨Nat.le_refl _, by rw [yMe_0 a _ k k (Nat.le_refl _)]; rfl⟩ (by unfold zFU; omega)
          · rintro j x hj ⟨hkj, hx⟩
            have hL := yMe_lt a (yOs a 0) k j
            refine ⟨(if yMe a (yOs a 0) k (j + 1) = 0 then -3 else nI (yMe a (yOs a 0) k (j + 1))), ?_, by omega, rfl⟩
            have hj10 : j < 2 ^ 10 := by omega
            have hjn : j ≠ 0 := by omega
            have ef := (s10_joinedBy' (gl := gl) (f := 2 ^ yLb j) (m := j) ok hg (y_lbp hjn hj10) hO hj10).1
            have hflt := yFl_lt (b := yOs a 0) ok (y_lbp hjn hj10) hj10
            have hp := yPop_le (yMe a (yOs a 0) k j)
            have hp2 := yPop_le j
            have hand : j &&& k < 2 ^ 10 := y_and_lt hj10
            unfold fX10_meet_L34 fX10_meet_L34J72 fX10_meet_L34J78 fX10_meet_L34J82 fX10_meet_L34J83 fX10_meet_L34J112
            rw [y_u2, s10_all ok hg, y_b1, y_lt_f (by omega) (by omega), s10_ones (a := j) (by omega), y_b1, y_and, y_low hjn (by omega), ef, y_b1, y_a1]
            have sp : ∀ v, yMe a (yOs a 0) k (j + 1) = v → v ≠ 0 → (if yMe a (yOs a 0) k (j + 1) = 0 then (-3 : Int32) else nI (yMe a (yOs a 0) k (j + 1))) = nI v := fun v e n => by rw [e, if_neg n]
            have sq : yMe a (yOs a 0) k (j + 1) = yMe a (yOs a 0) k j → (if yMe a (yOs a 0) k (j + 1) = 0 then (-3 : Int32) else nI (yMe a (yOs a 0) k (j + 1))) = x := fun e => by rw [e, hx]
            by_cases c2 : j &&& k = k
            · rw [y_eq_t c2]
              by_cases c1 : yMe a (yOs a 0) k j = 0
              · have hxn : x < 0 := by rw [hx, if_pos c1]; exact y_n3
                rw [if_pos hxn, if_neg (show ¬ (1 : Int32) = 0 by decide)]
                by_cases c3 : yFl a (yOs a 0) (2 ^ yLb j) j = j
                · rw [y_eq_t c3, sp j (by rw [yMe]; exact if_pos ⟨hkj, c2, Or.inl c1, c3⟩) hjn]; rfl
                · rw [y_eq_f c3 (by omega) (by omega), sq (by rw [yMe]; exact if_neg (fun z => c3 z.2.2.2))]; rfl
              · have hxe : x = nI (yMe a (yOs a 0) k j) := by rw [hx, if_neg c1]
                rw [if_neg (by rw [hxe]; exact y_nn (by omega)), if_pos (by rw [hxe]; exact nI_pos' (by omega)), show fX10_ones x = some (nI (yPop (yMe a (yOs a 0) k j))) from by rw [hxe]; exact s10_ones (by omega), y_b1]
                by_cases c4 : yPop j < yPop (yMe a (yOs a 0) k j)
                · rw [y_le_f c4 (by omega), if_neg (show ¬ (1 : Int32) = 0 by decide)]
                  by_cases c3 : yFl a (yOs a 0) (2 ^ yLb j) j = j
                  · rw [y_eq_t c3, sp j (by rw [yMe]; exact if_pos ⟨hkj, c2, Or.inr c4, c3⟩) hjn]; rfl
                  · rw [y_eq_f c3 (by omega) (by omega), sq (by rw [yMe]; exact if_neg (fun z => c3 z.2.2.2))]; rfl
                · rw [y_le_t (by omega) (by omega), if_pos rfl, sq (by rw [yMe]; exact if_neg (fun z => by rcases z.2.2.1 with z | z <;> omega))]; rfl
            · rw [y_eq_f c2 (by omega) (by omega), if_pos rfl, sq (by rw [yMe]; exact if_neg (fun z => c2 z.2.1))]; rfl
          · rintro x ⟨-, rfl⟩
            refine ⟨_, ?_, rfl⟩
            unfold fX10_meet_L34
            rw [y_u2, s10_all ok hg, y_b1, y_lt_t (by omega) (by omega)]
        obtain ⟨r1, hr1, rfl⟩ := k1
        obtain ⟨r2, hr2, rfl⟩ := k2
        have hL := yMe_lt a (yOs a 0) k (2 ^ a 0 0)
        rw [e1, y_b1, show ((0, nI k) : Int32 × Int32) = (fun k (x : Nat) => (nI x, nI k)) k 0 from rfl, hr1, y_b1, y_u1, s10_openOn0 ok hg, y_b1, show ((-3, nI k) : Int32 × Int32) = (fun k (x : Int32) => (x, nI k)) k (-3) from rfl, hr2, y_b1, y_u1]
        by_cases c : yMe a (yOs a 0) k (2 ^ a 0 0) = 0
        · rw [y_0_t c, if_pos c, if_neg (by decide)]
          exact ⟨_, _, rfl, rfl⟩
        · rw [y_0_f c (by omega), if_neg c, if_pos (nI_pos' (by omega)), s9_countOrSet (by omega) h, y_b1]
          rcases y_ei h with rfl | rfl
          · rw [if_pos rfl, if_pos rfl, s10_ones (by omega), y_b1]
            exact ⟨_, _, rfl, rfl⟩
          · rw [if_neg (by decide), if_neg (by decide)]
            exact ⟨_, _, rfl, rfl⟩
    · rw [y_bl_f hz, y_bl_f hz]
      exact ⟨_, _, rfl, rfl⟩
