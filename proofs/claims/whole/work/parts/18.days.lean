/-! ===== day by day ===== -/
theorem yCut_mono {a : yA} {k i d e : Nat} (h : d ≤ e) (hc : yCut a k i d = true) : yCut a k i e = true := by
  unfold yCut at hc ⊢
  by_cases h1 : a 8 k = 1
  · rw [if_pos h1] at hc ⊢; exact hc
  · rw [if_neg h1] at hc ⊢
    by_cases h2 : a 8 k = 2
    · rw [if_pos h2] at hc ⊢; exact hc
    · rw [if_neg h2] at hc ⊢
      by_cases h3 : a 8 k = 3
      · rw [if_pos h3] at hc ⊢; exact hc
      · rw [if_neg h3] at hc ⊢
        by_cases h4 : a 8 k = 4
        · rw [if_pos h4] at hc ⊢
          simp only [Bool.and_eq_true, decide_eq_true_eq] at hc ⊢
          exact ⟨hc.1, by omega⟩
        · rw [if_neg h4] at hc ⊢; exact hc
theorem yOpen_mono {a : yA} {i d e : Nat} (h : d ≤ e) (ho : yOpen a i e = true) : yOpen a i d = true := by
  have key : ∀ k, yOpenK a i e k = true → yOpenK a i d k = true := by
    intro k
    induction k with
    | zero => intro _; rfl
    | succ k ih =>
      unfold yOpenK
      intro hh
      rw [Bool.and_eq_true, Bool.not_eq_true'] at hh
      rw [Bool.and_eq_true, Bool.not_eq_true']
      refine ⟨ih hh.1, ?_⟩
      cases e2 : yCut a k i d
      · rfl
      · rw [yCut_mono h e2] at hh; cases hh.2
  exact key _ ho
theorem yOs_t (a : yA) (d i : Nat) : (yOs a d).testBit i = (decide (i < a 0 1) && yOpen a i d) := yMk_t _ _ _
def yKn (a : yA) (f : Nat) : Nat → Nat
  | 0 => f
  | d + 1 => yAr a (yOs a d) (yKn a f d)
theorem yKn_lt {a : yA} (ok : yOk a) {f : Nat} (hf : f < 2 ^ 10) : ∀ d, yKn a f d < 2 ^ 10
  | 0 => hf
  | d + 1 => yAr_lt ok (yKn_lt ok hf d)
theorem yKn_up {a : yA} (ok : yOk a) {f : Nat} {d e p : Nat} (h : d ≤ e) (hp : (yKn a f d).testBit p = true) : (yKn a f e).testBit p = true := by
  induction e with
  | zero => have : d = 0 := by omega
            subst this; exact hp
  | succ e ih =>
    by_cases q : d = e + 1
    · subst q; exact hp
    · exact (yAr_t ok _ _ _).mpr (Or.inl (ih (by omega)))
/-- behind a day without news none comes -/
theorem yKn_stop {a : yA} (ok : yOk a) {f d : Nat} (h : yKn a f (d + 1) = yKn a f d) : ∀ e, d ≤ e → yKn a f e = yKn a f d := by
  intro e
  induction e with
  | zero => intro he
            have : d = 0 := by omega
            subst this; rfl
  | succ e ih =>
    intro he
    by_cases q : d = e + 1
    · rw [q]
    · have ih := ih (by omega)
      apply Nat.eq_of_testBit_eq
      intro p
      cases e1 : (yKn a f d).testBit p
      · cases e2 : (yKn a f (e + 1)).testBit p
        · rfl
        · rcases (yAr_t ok _ _ _).mp e2 with h1 | ⟨r, h1, i, h2, h3, h4⟩
          · rw [ih, e1] at h1; cases h1
          · rw [ih] at h1
            have h5 : (yKn a f (d + 1)).testBit p = true := (yAr_t ok _ _ _).mpr (Or.inr ⟨r, h1, i, h2, by
              rw [yOs_t, Bool.and_eq_true] at h3 ⊢
              exact ⟨h3.1, yOpen_mono (by omega) h3.2⟩, h4⟩)
            rw [h, e1] at h5; cases h5
      · exact yKn_up ok he e1
def yOI : Option Nat → Int32
  | none => -3
  | some d => nI d
/-- the first of k days behind which one knows -/
def yEar (a : yA) (f p : Nat) : Nat → Option Nat
  | 0 => none
  | k + 1 => match yEar a f p k with
    | some d => some d
    | none => if (yKn a f k).testBit p = true then some k else none
theorem yEar_s {a : yA} {f p k d : Nat} (h : yEar a f p k = some d) : d < k ∧ (yKn a f d).testBit p = true ∧ ∀ j, j < d → (yKn a f j).testBit p = false := by
  induction k with
  | zero => cases h
  | succ k ih =>
    unfold yEar at h
    cases e : yEar a f p k with
    | some d' =>
      rw [e] at h
      cases h
      obtain ⟨h1, h2, h3⟩ := ih e
      exact ⟨by omega, h2, h3⟩
    | none =>
      rw [e] at h
      by_cases q : (yKn a f k).testBit p = true
      · have h : (if (yKn a f k).testBit p = true then some k else none) = some d := h
        rw [if_pos q] at h
        cases h
        refine ⟨by omega, q, ?_⟩
        have key : ∀ m, yEar a f p m = none → ∀ j, j < m → (yKn a f j).testBit p = false := by
          intro m
          induction m with
          | zero => intro _ j hj; omega
          | succ m ihm =>
            intro hm j hj
            unfold yEar at hm
            cases e2 : yEar a f p m with
            | some d' => rw [e2] at hm; cases hm
            | none =>
              rw [e2] at hm
              have hm : (if (yKn a f m).testBit p = true then some m else none) = none := hm
              by_cases q2 : (yKn a f m).testBit p = true
              · rw [if_pos q2] at hm; cases hm
              · by_cases e3 : j = m
                · subst e3; simpa using q2
                · exact ihm e2 j (by omega)
        exact key _ e
      · have h : (if (yKn a f k).testBit p = true then some k else none) = some d := h
        rw [if_neg q] at h
        cases h
theorem yEar_n {a : yA} {f p m : Nat} (hm : yEar a f p m = none) : ∀ j, j < m → (yKn a f j).testBit p = false := by
  induction m with
  | zero => intro j hj; omega
  | succ m ihm =>
    intro j hj
    unfold yEar at hm
    cases e2 : yEar a f p m with
    | some d' => rw [e2] at hm; cases hm
    | none =>
      rw [e2] at hm
      have hm : (if (yKn a f m).testBit p = true then some m else none) = none := hm
      by_cases q2 : (yKn a f m).testBit p = true
      · rw [if_pos q2] at hm; cases hm
      · by_cases e3 : j = m
        · subst e3; simpa using q2
        · exact ihm e2 j (by omega)
theorem yEar_is {a : yA} {f p k d : Nat} (h1 : d < k) (h2 : (yKn a f d).testBit p = true) (h3 : ∀ j, j < d → (yKn a f j).testBit p = false) : yEar a f p k = some d := by
  cases e : yEar a f p k with
  | none => rw [yEar_n e d h1] at h2; cases h2
  | some d' =>
    obtain ⟨g1, g2, g3⟩ := yEar_s e
    rcases Nat.lt_trichotomy d d' with q | q | q
    · rw [g3 d q] at h2; cases h2
    · rw [q]
    · rw [h3 d' q] at g2; cases g2
theorem yEar_no {a : yA} {f p k : Nat} (h : ∀ j, j < k → (yKn a f j).testBit p = false) : yEar a f p k = none := by
  cases e : yEar a f p k with
  | none => rfl
  | some d => obtain ⟨g1, g2, -⟩ := yEar_s e; rw [h d g1] at g2; cases g2
/-! ===== the class's days ===== -/
theorem s1_isAtEdge {w : zM} {a : yA} (ok : yOk a) (hc : yC w a) {i s : Nat} (hi : i < a 0 1) : fX1_isAtEdge w (nI i) (nI s) = some (yBl (decide (yIn a i s = 1))) := by
  have hE := yEn_lt ok hi
  have hp : yIn a i s ≤ 14 := yPop_le _
  have hand : yEn a i &&& s < 2 ^ 10 := y_and_lt hE
  unfold fX1_isAtEdge
  rw [s8_bothOf ok hc hi, y_b1, y_and, y_bc (by omega), y_b1]
  show (if nI (yIn a i s) = nI 1 then _ else _) = _
  by_cases q : yIn a i s = 1
  · rw [y_eq_t q, decide_eq_true q]; rfl
  · rw [y_eq_f q (by omega) (by omega), decide_eq_false q]; rfl
theorem s1_spread {w : zM} {a : yA} (ok : yOk a) (hc : yC w a) {s d : Nat} (hs : s < 2 ^ 10) (hd : d < 2147483648) : fX1_spread w (nI s) (nI d) = some (nI (yAr a (yOs a d) s)) := by
  have h0 := ok.1
  have key : ∃ r, zLp (fX1_spread_L5 (nI s) (nI d) w) zFU ((fun k (x : Nat) => (nI x, nI k)) 0 s) = some r ∧ r = nI (yAr a (yOs a d) s) := by
    refine y_for (fun k (x : Nat) => (nI x, nI k)) (a 0 1) (fun k x => x = yArK a (yOs a d) s k) _ ?_ ?_ zFU 0 s (by omega) rfl (by unfold zFU; omega)
    · intro k x hk hx
      refine ⟨x ||| (if (yOs a d).testBit k = true ∧ yIn a k s = 1 then yEn a k else 0), ?_, by rw [hx]; rfl⟩
      have ht : (yOs a d).testBit k = yOpen a k d := by rw [yOs_t, decide_eq_true hk]; rfl
      unfold fX1_spread_L5 fX1_spread_L5J43
      rw [y_u2, hc.1.2.1, y_le_f hk (by omega), s1_isAtEdge ok hc hk, y_b1]
      by_cases c2 : yIn a k s = 1
      · rw [y_bl_t (decide_eq_true c2), s8_isOpen ok hc hk hd, y_b1]
        cases c1 : yOpen a k d
        · rw [y_bl_f rfl, y_lt_e, y_a1, if_neg (fun z => by rw [ht, c1] at z; cases z.1), Nat.or_zero]
        · rw [y_bl_t rfl, s8_bothOf ok hc hk, y_b1, y_or, y_lt_e, y_lt_e, y_a1, if_pos ⟨by rw [ht, c1], c2⟩]
      · rw [y_bl_f (decide_eq_false c2), y_lt_e, y_a1, if_neg (fun z => c2 z.2), Nat.or_zero]
    · intro x hx
      refine ⟨_, ?_, rfl⟩
      unfold fX1_spread_L5
      rw [y_u2, hc.1.2.1, y_le_t (by omega) (by omega), hx]
      rfl
  obtain ⟨r, hr, rfl⟩ := key
  unfold fX1_spread
  rw [show ((nI s, 0) : Int32 × Int32) = (fun k (x : Nat) => (nI x, nI k)) 0 s from rfl, hr, y_b1, y_u1]
theorem s1_mark {w : zM} {a : yA} (ok : yOk a) (hc : yC w a) {d m : Nat} (hm : m < 2 ^ 10) (gd : zM) : ∃ r, zLp (fX1_follow_L54 w (nI d) (nI m)) zFU (0, gd) = some r ∧ (∀ p, p < a 0 0 → r 1 p = if m.testBit p = true then nI (d + 1) else gd 1 p) ∧ (∀ p, a 0 0 ≤ p → r 1 p = gd 1 p) ∧ r 2 = gd 2 := by
  have h0 := ok.1
  have key := y_for (body := fX1_follow_L54 w (nI d) (nI m)) (fun k (x : zM) => (nI k, x)) (a 0 0) (fun k x => (∀ p, p < k → x 1 p = if m.testBit p = true then nI (d + 1) else gd 1 p) ∧ (∀ p, k ≤ p → x 1 p = gd 1 p) ∧ x 2 = gd 2) (fun r => (∀ p, p < a 0 0 → r 1 p = if m.testBit p = true then nI (d + 1) else gd 1 p) ∧ (∀ p, a 0 0 ≤ p → r 1 p = gd 1 p) ∧ r 2 = gd 2) ?_ ?_ zFU 0 gd (by omega) ⟨fun p hp => by omega, fun p _ => rfl, rfl⟩ (by unfold zFU; omega)
  · exact key
  · rintro k x hk ⟨h1, h2, h3⟩
    by_cases c : m.testBit k = true
    · refine ⟨zPu x 1 k (nI (d + 1)), ?_, ?_, ?_, ?_⟩
      · unfold fX1_follow_L54 fX1_follow_L54J84
        rw [y_u2, hc.1.1, y_le_f hk (by omega), if_neg (by rw [y_bit0 (by omega) (by omega), c]; decide), y_a1, y_lt_e, y_gin (by omega) (by omega), y_lt_e, y_cl (k := k) (by omega), y_lt_e, y_a1]
      · intro p hp
        by_cases e : p = k
        · subst e; rw [zPu_s, if_pos c]
        · rw [zPu_j e]; exact h1 p (by omega)
      · intro p hp
        rw [zPu_j (by omega)]; exact h2 p (by omega)
      · rw [zPu_k (by omega)]; exact h3
    · refine ⟨x, ?_, ?_, ?_, h3⟩
      · unfold fX1_follow_L54 fX1_follow_L54J84
        rw [y_u2, hc.1.1, y_le_f hk (by omega), if_pos (by rw [y_bit0 (by omega) (by omega)]; simpa using c), y_lt_e, y_a1]
      · intro p hp
        by_cases e : p = k
        · subst e; rw [h2 p (Nat.le_refl _), if_neg c]
        · exact h1 p (by omega)
      · intro p hp; exact h2 p (by omega)
  · rintro x ⟨h1, h2, h3⟩
    refine ⟨x, ?_, h1, h2, h3⟩
    unfold fX1_follow_L54
    rw [y_u2, hc.1.1, y_le_t (by omega) (by omega)]
theorem s1_follow {gd w : zM} {a : yA} (ok : yOk a) (hc : yC w a) {f : Nat} (hf : f < a 0 0) : ∃ r, fX1_follow gd w (nI f) = some r ∧ (∀ p, p < 10 → r 1 p = yOI (yEar a (2 ^ f) p 101)) ∧ r 2 = gd 2 := by
  have h0 := ok.1
  have hf10 : 2 ^ f < 2 ^ 10 := Nat.pow_lt_pow_right (by omega) (by omega)
  obtain ⟨t, ht, htv⟩ := sJ_fill (n := 10) (by omega) (fun _ => gd 1) (-3)
  have hn3 : ∀ d, d ≤ 101 → ∀ p, a 0 0 ≤ p → yEar a (2 ^ f) p d = none := by
    intro d _ p hp
    refine yEar_no (fun j _ => ?_)
    cases e : (yKn a (2 ^ f) j).testBit p
    · rfl
    · exfalso
      have key : ∀ j, (yKn a (2 ^ f) j).testBit p = false := by
        intro j
        induction j with
        | zero => show (2 ^ f).testBit p = false; rw [Nat.testBit_two_pow]; exact decide_eq_false (by omega)
        | succ j ih =>
          cases e : (yKn a (2 ^ f) (j + 1)).testBit p
          · rfl
          · rcases (yAr_t ok _ _ _).mp e with h | ⟨r, -, h⟩
            · rw [ih] at h; cases h
            · have := (h.lt ok).2; omega
      rw [key j] at e; cases e
  have key : ∃ r, zLp (fX1_follow_L23 w) zFU (nI (2 ^ f), nI 0, zPu (zPr gd 1 (t 0)) 1 f 0) = some r ∧ ∃ g', (r = .inl g' ∨ r = .inr g') ∧ (∀ p, p < 10 → g' 1 p = yOI (yEar a (2 ^ f) p 101)) ∧ g' 2 = gd 2 := by
    refine y_lp (fun v => ∃ d x, d ≤ 100 ∧ v = (nI (yKn a (2 ^ f) d), nI d, x) ∧ (∀ p, p < 10 → x 1 p = yOI (yEar a (2 ^ f) p (d + 1))) ∧ x 2 = gd 2) (fun v => 100 - v.2.1.toNatClampNeg) _ ?_ zFU _ ?_ ?_
    · rintro v ⟨d, x, hd, rfl, h1, h2⟩
      have hK := yKn_lt ok hf10 d
      have hK1 := yKn_lt ok hf10 (d + 1)
      unfold fX1_follow_L23
      rw [y_u3, show (100 : Int32) = nI 100 from rfl]
      by_cases q : 100 ≤ d
      · rw [y_le_t q (by omega)]
        refine ⟨_, rfl, x, Or.inl rfl, ?_, h2⟩
        have : d = 100 := by omega
        subst this
        exact h1
      · rw [y_le_f (by omega) (by omega), s1_spread ok hc hK (by omega), y_b1, y_andn, y_lt_e]
        generalize hM : ySd (yAr a (yOs a d) (yKn a (2 ^ f) d)) (yKn a (2 ^ f) d) = M
        have hMt : ∀ p, M.testBit p = true ↔ ((yKn a (2 ^ f) (d + 1)).testBit p = true ∧ (yKn a (2 ^ f) d).testBit p = false) := by
          intro p
          rw [← hM, ySd_t, Bool.and_eq_true, Bool.not_eq_true']
          rfl
        have hM10 : M < 2 ^ 10 := by rw [← hM]; exact y_sd_lt hK1
        by_cases q2 : M = 0
        · rw [y_0_t q2]
          have hst : yKn a (2 ^ f) (d + 1) = yKn a (2 ^ f) d := by
            apply Nat.eq_of_testBit_eq
            intro p
            cases e : (yKn a (2 ^ f) d).testBit p
            · cases e2 : (yKn a (2 ^ f) (d + 1)).testBit p
              · rfl
              · have := (hMt p).mpr ⟨e2, e⟩
                rw [q2, Nat.zero_testBit] at this; cases this
            · exact yKn_up ok (by omega) e
          refine ⟨_, rfl, x, Or.inr rfl, ?_, h2⟩
          intro p hp
          rw [h1 p hp]
          cases e : yEar a (2 ^ f) p (d + 1) with
          | some d' =>
            obtain ⟨g1, g2, g3⟩ := yEar_s e
            rw [yEar_is (k := 101) (by omega) g2 g3]
          | none =>
            have g := yEar_n e
            rw [yEar_no (k := 101)]
            intro j hj
            by_cases c : j < d + 1
            · exact g j c
            · rw [yKn_stop ok hst j (by omega)]; exact g d (by omega)
        · rw [y_0_f q2 (by omega)]
          obtain ⟨r, hr, r1, r2, r3⟩ := s1_mark (d := d) ok hc hM10 x
          rw [hr, y_b1, y_u1, y_or, y_lt_e, y_a1, y_lt_e]
          have hor : yKn a (2 ^ f) d ||| M = yKn a (2 ^ f) (d + 1) := by
            apply Nat.eq_of_testBit_eq
            intro p
            rw [Nat.testBit_or]
            cases e : (yKn a (2 ^ f) d).testBit p
            · cases e2 : (yKn a (2 ^ f) (d + 1)).testBit p
              · cases e3 : M.testBit p
                · rfl
                · have := ((hMt p).mp e3).1; rw [e2] at this; cases this
              · rw [(hMt p).mpr ⟨e2, e⟩]; rfl
            · rw [yKn_up ok (show d ≤ d + 1 by omega) e]; rfl
          refine ⟨_, rfl, ⟨d + 1, r, by omega, by rw [hor], ?_, by rw [r3, h2]⟩, ?_⟩
          · intro p hp
            by_cases hpn : p < a 0 0
            · rw [r1 p hpn]
              by_cases c : M.testBit p = true
              · rw [if_pos c]
                obtain ⟨c1, c2⟩ := (hMt p).mp c
                rw [yEar_is (k := d + 1 + 1) (d := d + 1) (by omega) c1 (fun j hj => by
                  cases e : (yKn a (2 ^ f) j).testBit p
                  · rfl
                  · rw [yKn_up ok (show j ≤ d by omega) e] at c2; cases c2)]
                rfl
              · rw [if_neg c, h1 p hp]
                cases e : yEar a (2 ^ f) p (d + 1) with
                | some d' =>
                  obtain ⟨g1, g2, g3⟩ := yEar_s e
                  rw [yEar_is (k := d + 1 + 1) (by omega) g2 g3]
                | none =>
                  have g := yEar_n e
                  rw [yEar_no (k := d + 1 + 1)]
                  intro j hj
                  by_cases c5 : j < d + 1
                  · exact g j c5
                  · have : j = d + 1 := by omega
                    subst this
                    cases e2 : (yKn a (2 ^ f) (d + 1)).testBit p
                    · rfl
                    · exact absurd ((hMt p).mpr ⟨e2, g d (by omega)⟩) c
            · rw [r2 p (by omega), h1 p hp, hn3 _ (by omega) p (by omega), hn3 _ (by omega) p (by omega)]
          · show 100 - (nI (d + 1)).toNatClampNeg < 100 - (nI d).toNatClampNeg
            rw [y_cl (by omega), y_cl (by omega)]; omega
    · refine ⟨0, _, by omega, rfl, ?_, ?_⟩
      · intro p hp
        by_cases e : p = f
        · subst e
          rw [zPu_s, yEar_is (k := 0 + 1) (d := 0) (by omega) (by show (2 ^ p).testBit p = true; rw [Nat.testBit_two_pow]; simp) (fun j hj => by omega)]
          rfl
        · rw [zPu_j e, zPr_s, htv p, if_pos hp, yEar_no (k := 0 + 1)]
          · rfl
          · intro j hj
            have : j = 0 := by omega
            subst this
            show (2 ^ f).testBit p = false
            rw [Nat.testBit_two_pow]; exact decide_eq_false (fun z => e z.symm)
      · rw [zPu_k (by omega), zPr_k (by omega)]
    · show 100 - _ < zFU
      unfold zFU; omega
  obtain ⟨r, hr, g', hg', h1, h2⟩ := key
  refine ⟨g', ?_, h1, h2⟩
  unfold fX1_follow
  rw [ht, y_b1, y_lt_e, y_gin (by omega) (by omega), y_lt_e, y_cl (by omega), y_one (by omega), y_lt_e, show ((nI (2 ^ f), (0 : Int32), zPu (zPr gd 1 (t 0)) 1 f 0) : Int32 × Int32 × zM) = (nI (2 ^ f), nI 0, zPu (zPr gd 1 (t 0)) 1 f 0) from rfl, hr, y_b1]
  rcases hg' with rfl | rfl
  · rw [y_sml, y_u1]
  · rw [y_smr, y_u1]
theorem s1_knowingBehind {gd : zM} {a : yA} (ok : yOk a) {f d : Nat} (hf : f < a 0 0) (hd : d ≤ 100) (h : ∀ p, p < 10 → gd 1 p = yOI (yEar a (2 ^ f) p 101)) : fX1_knowingBehind gd (nI d) = some (nI (yKn a (2 ^ f) d)) := by
  have h0 := ok.1
  have hf10 : 2 ^ f < 2 ^ 10 := Nat.pow_lt_pow_right (by omega) (by omega)
  have hK := yKn_lt ok hf10 d
  have key : ∃ r, zLp (fX1_knowingBehind_L4 (nI d) gd) zFU ((fun k (x : Nat) => (nI x, nI k)) 0 0) = some r ∧ r = nI (yMk (fun p => (yKn a (2 ^ f) d).testBit p) 10) := by
    refine y_for (fun k (x : Nat) => (nI x, nI k)) 10 (fun k x => x = yMk (fun p => (yKn a (2 ^ f) d).testBit p) k) _ ?_ ?_ zFU 0 0 (by omega) rfl (by unfold zFU; omega)
    · intro k x hk hx
      refine ⟨x ||| (if (yKn a (2 ^ f) d).testBit k = true then 2 ^ k else 0), ?_, by rw [hx]; rfl⟩
      unfold fX1_knowingBehind_L4 fX1_knowingBehind_L4J35
      rw [y_u2, show (10 : Int32) = nI 10 from rfl, y_le_f hk (by omega), y_gin (by omega) (by omega), y_lt_e, y_gin (by omega) (by omega), y_lt_e, y_cl (k := k) (by omega), h k hk]
      cases e : yEar a (2 ^ f) k 101 with
      | none =>
        rw [if_pos (show yOI none < 0 from y_n3), y_a1, if_neg (by rw [yEar_n e d (by omega)]; decide), Nat.or_zero]
      | some d' =>
        obtain ⟨g1, g2, g3⟩ := yEar_s e
        show (if nI d' < 0 then _ else if nI d < nI d' then _ else _) = _
        rw [if_neg (y_nn (by omega))]
        by_cases c : d' ≤ d
        · rw [y_lt_f c (by omega), y_one (by omega), y_or, y_lt_e, y_lt_e, y_a1, if_pos (yKn_up ok c g2)]
        · rw [y_lt_t (by omega) (by omega), y_a1, if_neg (by rw [g3 d (by omega)]; decide), Nat.or_zero]
    · intro x hx
      refine ⟨_, ?_, rfl⟩
      unfold fX1_knowingBehind_L4
      rw [y_u2, show (10 : Int32) = nI 10 from rfl, y_le_t (by omega) (by omega), hx]
  obtain ⟨r, hr, rfl⟩ := key
  have e : yMk (fun p => (yKn a (2 ^ f) d).testBit p) 10 = yKn a (2 ^ f) d := by
    apply Nat.eq_of_testBit_eq
    intro i
    rw [yMk_t]
    by_cases c : i < 10
    · rw [decide_eq_true c]; rfl
    · rw [decide_eq_false c, y_tf hK (by omega)]; rfl
  unfold fX1_knowingBehind
  rw [show ((0, 0) : Int32 × Int32) = (fun k (x : Nat) => (nI x, nI k)) 0 0 from rfl, hr, y_b1, y_u1, e]
/-! ===== the model's days ===== -/
theorem s10_findDays {g : zM} {gl : zL} {a : yA} (ok : yOk a) (hg : yG g a) {f : Nat} (hf : f < 2 ^ a 0 0) : ∃ g', fX10_findDays g gl (nI f) = some g' ∧ yKs g g' ∧ (∀ d, d ≤ 100 → g' 13 d = nI (yKn a f d)) ∧ g' 17 = g 17 := by
  have h0 := ok.1
  have hall := y_all_lt (n := a 0 0) (by omega)
  have h1n := Nat.one_le_two_pow (n := a 0 0)
  have hf10 : f < 2 ^ 10 := by omega
  have key : ∃ r, zLp (fX10_findDays_L9 gl) zFU ((fun k (x : zM) => (nI k, x)) 0 (zPu g 13 0 (nI f))) = some r ∧ yKs g r ∧ (∀ d, d ≤ 100 → r 13 d = nI (yKn a f d)) ∧ r 17 = g 17 := by
    refine y_for (fun k (x : zM) => (nI k, x)) 100 (fun k x => yKs g x ∧ (∀ d, d ≤ k → x 13 d = nI (yKn a f d)) ∧ x 17 = g 17) _ ?_ ?_ zFU 0 _ (by omega) ⟨(yKs.rf g).pu (by decide), (fun d hd => by rw [Nat.le_zero.mp hd]; exact zPu_s), zPu_k (by decide)⟩ (by unfold zFU; omega)
    · rintro k x hk ⟨hks, h1, h2⟩
      have hgx := hg.ks hks
      have hK := yKn_lt ok hf10 k
      refine ⟨zPu x 13 (k + 1) (nI (yKn a f (k + 1))), ?_, hks.pu (by decide), ?_, ?_⟩
      · unfold fX10_findDays_L9 fX10_findDays_L9J57
        rw [y_u2, show (100 : Int32) = nI 100 from rfl, y_le_f hk (by omega), y_gin (by omega) (by omega), y_lt_e, y_cl (k := k) (by omega), h1 k (Nat.le_refl _), s10_all ok hgx, y_b1]
        by_cases c : yKn a f k = 2 ^ a 0 0 - 1
        · rw [y_eq_t c, y_b1, y_a1, y_gin (by omega) (by omega), y_lt_e, y_cl (k := k + 1) (by omega), y_lt_e]
          have : yKn a f (k + 1) = 2 ^ a 0 0 - 1 := by
            apply Nat.eq_of_testBit_eq
            intro p
            rw [y_all_t]
            by_cases hp : p < a 0 0
            · rw [decide_eq_true hp]
              exact yKn_up ok (show k ≤ k + 1 by omega) (by rw [c, y_all_t, decide_eq_true hp])
            · rw [decide_eq_false hp]
              cases e : (yKn a f (k + 1)).testBit p
              · rfl
              · rcases (yAr_t ok _ _ _).mp e with h | ⟨r, -, h⟩
                · rw [c, y_all_t, decide_eq_false hp] at h; cases h
                · have := (h.lt ok).2; omega
          rw [this]
        · rw [y_eq_f c (by omega) (by omega), y_gin (by omega) (by omega), y_lt_e, s10_openOn ok hgx (by omega), y_b1, s10_around ok hgx hK (yOs_lt ok k), y_b1, y_a1, y_gin (by omega) (by omega), y_lt_e, y_cl (k := k + 1) (by omega), y_lt_e]
          rfl
      · intro d hd
        by_cases e : d = k + 1
        · subst e; exact zPu_s
        · rw [zPu_j e]; exact h1 d (by omega)
      · rw [zPu_k (by decide)]; exact h2
    · rintro x ⟨hks, h1, h2⟩
      refine ⟨x, ?_, hks, h1, h2⟩
      unfold fX10_findDays_L9
      rw [y_u2, show (100 : Int32) = nI 100 from rfl, y_le_t (by omega) (by omega)]
  obtain ⟨r, hr, h1, h2, h3⟩ := key
  refine ⟨r, ?_, h1, h2, h3⟩
  unfold fX10_findDays
  rw [y_gd (by decide), y_lt_e, show (0 : Int32).toNatClampNeg = 0 from rfl, show ((0, zPu g 13 0 (nI f)) : Int32 × zM) = (fun k (x : zM) => (nI k, x)) 0 (zPu g 13 0 (nI f)) from rfl, hr, y_b1, y_u1]
theorem s10_earlyOf {g : zM} {gl : zL} {a : yA} (ok : yOk a) {f p : Nat} (hf : f < 2 ^ 10) (hp : p < 10) (h : ∀ d, d ≤ 100 → g 13 d = nI (yKn a f d)) : fX10_earlyOf g gl (nI p) = some (yOI (yEar a f p 101)) := by
  have key : ∃ r, zLp (fX10_earlyOf_L2 (nI p) g) zFU (nI 0) = some r ∧ (r = .inl () ∧ yEar a f p 101 = none ∨ ∃ d, r = .inr (nI d) ∧ yEar a f p 101 = some d) := by
    refine y_lp (fun v => ∃ d, d ≤ 101 ∧ v = nI d ∧ yEar a f p d = none) (fun v => 101 - v.toNatClampNeg) _ ?_ zFU _ ⟨0, by omega, rfl, rfl⟩ (by unfold zFU; omega)
    rintro v ⟨d, hd, rfl, he⟩
    have hK := yKn_lt ok hf d
    unfold fX10_earlyOf_L2
    rw [y_u1, show (100 : Int32) = nI 100 from rfl]
    by_cases q : 100 < d
    · rw [y_lt_t q (by omega)]
      refine ⟨_, rfl, Or.inl ⟨rfl, ?_⟩⟩
      have : d = 101 := by omega
      subst this
      exact he
    · rw [y_lt_f (by omega) (by omega), y_gin (by omega) (by omega), y_lt_e, y_cl (by omega), h d (by omega)]
      have hst : yEar a f p (d + 1) = (if (yKn a f d).testBit p = true then some d else none) := by rw [yEar, he]
      by_cases c : (yKn a f d).testBit p = true
      · rw [if_pos (by rw [y_bit1 (by omega) (by omega)]; exact c)]
        refine ⟨_, rfl, Or.inr ⟨d, rfl, ?_⟩⟩
        exact yEar_is (by omega) c (yEar_n he)
      · rw [if_neg (by rw [y_bit1 (by omega) (by omega)]; exact c), y_a1, y_lt_e]
        rw [if_neg c] at hst
        refine ⟨_, rfl, ⟨d + 1, by omega, rfl, hst⟩, ?_⟩
        rw [y_cl (by omega)]; omega
  obtain ⟨r, hr, hq⟩ := key
  unfold fX10_earlyOf
  rw [show (0 : Int32) = nI 0 from rfl, hr, y_b1]
  rcases hq with ⟨rfl, e⟩ | ⟨d, rfl, e⟩
  · rw [y_sml, y_u0, e]; rfl
  · rw [y_smr, y_u1, e]; rfl
/-! ===== early, could ===== -/
theorem y_pow_lt {k n : Nat} (h : k < n) : 2 ^ k < 2 ^ n := Nat.pow_lt_pow_right (by omega) h
theorem m_early {gx w gd g : zM} {gl : zL} {a : yA} (ok : yOk a) (hc : yC w a) (hg : yG g a) (x y : Int32) : ∃ r gd' g', fX9_early gx w gd x y = some (r, gd') ∧ fX10_early g gl x y = some (r, g') ∧ yKs g g' := by
  have h0 := ok.1
  unfold fX9_early fX10_early
  rw [s8_hasPerson ok hc, y_b1, s8_hasPerson ok hc, y_b1, s10_isPerson ok hg, y_b1, s10_isPerson ok hg, y_b1]
  rcases y_zin x (n := a 0 0) (by omega) with ⟨h, k, hk, rfl⟩ | ⟨h, -⟩
  · rw [y_bl_t h, y_bl_t h]
    rcases y_zin y (n := a 0 0) (by omega) with ⟨h2, j, hj, rfl⟩ | ⟨h2, -⟩
    · rw [y_bl_t h2, y_bl_t h2]
      obtain ⟨r, r1, r2, -⟩ := s1_follow (gd := gd) ok hc hk
      obtain ⟨g', q1, q2, q3, -⟩ := s10_findDays (gl := gl) ok hg (y_pow_lt hk)
      rw [r1, y_b1, y_gin (by omega) (by omega), y_lt_e, y_cl (by omega), r2 j (by omega), y_one (by omega), q1, y_b1, s10_earlyOf (f := 2 ^ k) ok (y_pow_lt (by omega)) (by omega) q3, y_b1]
      exact ⟨_, _, _, rfl, rfl, q2⟩
    · rw [y_bl_f h2, y_bl_f h2]
      exact ⟨_, _, _, rfl, rfl, yKs.rf g⟩
  · rw [y_bl_f h, y_bl_f h]
    exact ⟨_, _, _, rfl, rfl, yKs.rf g⟩
theorem y_days (x : Int32) (N : Nat) (hN : N < 2147483000) : (decide ((0 : Int32).toInt ≤ x.toInt) && decide (x.toInt ≤ (nI N).toInt)) = zIn x (N + 1) := by
  rw [y_zinI x (by omega), nI_toInt (by omega), show (0 : Int32).toInt = 0 from rfl]
  congr 1
  exact decide_eq_decide.mpr (by omega)
theorem m_could {gx w gd g : zM} {gl : zL} {a : yA} (ok : yOk a) (hc : yC w a) (hg : yG g a) (x y : Int32) : ∃ r gd' g', fX9_could gx w gd x y = some (r, gd') ∧ fX10_could g gl x y = some (r, g') ∧ yKs g g' := by
  have h0 := ok.1
  unfold fX9_could fX10_could
  rw [s8_hasPerson ok hc, y_b1, s10_isPerson ok hg, y_b1, s10_in, y_b1, show (100 : Int32) = nI 100 from rfl, y_days y 100 (by omega)]
  rcases y_zin x (n := a 0 0) (by omega) with ⟨h, k, hk, rfl⟩ | ⟨h, -⟩
  · rw [y_bl_t h, y_bl_t h]
    rcases y_zin y (n := 101) (by omega) with ⟨h2, j, hj, rfl⟩ | ⟨h2, h3⟩
    · rw [y_bl_t h2, if_neg (y_nn (by omega)), y_le_t (by omega) (by omega)]
      obtain ⟨r, r1, r2, -⟩ := s1_follow (gd := gd) ok hc hk
      obtain ⟨g', q1, q2, q3, -⟩ := s10_findDays (gl := gl) ok hg (y_pow_lt hk)
      rw [r1, y_b1, s1_knowingBehind ok hk (by omega) r2, y_b1, y_one (by omega), q1, y_b1, y_gin (by omega) (by omega), y_lt_e, y_cl (by omega), q3 j (by omega)]
      exact ⟨_, _, _, rfl, rfl, q2⟩
    · rw [y_bl_f h2]
      by_cases c : y < 0
      · rw [if_pos c]
        exact ⟨_, _, _, rfl, rfl, yKs.rf g⟩
      · rw [if_neg c, if_neg (by
          have := h3.resolve_left c
          obtain ⟨j, hj, rfl⟩ := nI_of c
          rw [y_le (by omega) hj] at this
          rw [y_le hj (by omega)]; omega)]
        exact ⟨_, _, _, rfl, rfl, yKs.rf g⟩
  · rw [y_bl_f h, y_bl_f h]
    exact ⟨_, _, _, rfl, rfl, yKs.rf g⟩
