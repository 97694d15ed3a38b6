/-! ===== memories: reading behind a write; what of the model's memory is more than scratch ===== -/
theorem zPu_k {w : zM} {k j k' : Nat} {v : Int32} (h : k' ≠ k) : zPu w k j v k' = w k' := by unfold zPu; rw [if_neg h]
theorem zPu_s {w : zM} {k j : Nat} {v : Int32} : zPu w k j v k j = v := by unfold zPu upd; rw [if_pos rfl, if_pos rfl]
theorem zPu_j {w : zM} {k j j' : Nat} {v : Int32} (h : j' ≠ j) : zPu w k j v k j' = w k j' := by unfold zPu upd; rw [if_pos rfl, if_neg h]
theorem zPr_k {w : zM} {k k' : Nat} {f : Nat → Int32} (h : k' ≠ k) : zPr w k f k' = w k' := by unfold zPr; rw [if_neg h]
theorem zPr_s {w : zM} {k : Nat} {f : Nat → Int32} : zPr w k f k = f := by unfold zPr; rw [if_pos rfl]
def yKs (g g' : zM) : Prop := (g' 0 0 = g 0 0 ∧ g' 0 2 = g 0 2 ∧ g' 0 4 = g 0 4 ∧ g' 0 7 = g 0 7 ∧ g' 0 9 = g 0 9 ∧ g' 0 36 = g 0 36 ∧ g' 0 48 = g 0 48 ∧ g' 0 50 = g 0 50) ∧ (g' 1 = g 1 ∧ g' 2 = g 2 ∧ g' 3 = g 3 ∧ g' 4 = g 4 ∧ g' 5 = g 5 ∧ g' 16 = g 16 ∧ g' 18 = g 18 ∧ g' 19 = g 19 ∧ g' 21 = g 21 ∧ g' 22 = g 22 ∧ g' 23 = g 23 ∧ g' 24 = g 24 ∧ g' 25 = g 25)
theorem yKs.rf (g : zM) : yKs g g := ⟨⟨rfl, rfl, rfl, rfl, rfl, rfl, rfl, rfl⟩, rfl, rfl, rfl, rfl, rfl, rfl, rfl, rfl, rfl, rfl, rfl, rfl, rfl⟩
theorem yKs.tr {g g' g'' : zM} (h : yKs g g') (h2 : yKs g' g'') : yKs g g'' := by
  obtain ⟨⟨a1, a2, a3, a4, a5, a6, a7, a8⟩, b1, b2, b3, b4, b5, b6, b7, b8, b9, b10, b11, b12, b13⟩ := h
  obtain ⟨⟨c1, c2, c3, c4, c5, c6, c7, c8⟩, d1, d2, d3, d4, d5, d6, d7, d8, d9, d10, d11, d12, d13⟩ := h2
  exact ⟨⟨c1.trans a1, c2.trans a2, c3.trans a3, c4.trans a4, c5.trans a5, c6.trans a6, c7.trans a7, c8.trans a8⟩, d1.trans b1, d2.trans b2, d3.trans b3, d4.trans b4, d5.trans b5, d6.trans b6, d7.trans b7, d8.trans b8, d9.trans b9, d10.trans b10, d11.trans b11, d12.trans b12, d13.trans b13⟩
theorem yG.ks {g g' : zM} {a : yA} (h : yG g a) (hk : yKs g g') : yG g' a := by
  obtain ⟨⟨a1, a2, a3, -⟩, b1, b2, b3, b4, -⟩ := hk
  unfold yG at h ⊢
  rw [a1, a2, a3, b1, b2, b3, b4]
  exact h
/-- a scalar of scratch -/
theorem yKs.pu0 {g g' : zM} (h : yKs g g') {j : Nat} {v : Int32} (hj : (j != 0 && j != 2 && j != 4 && j != 7 && j != 9 && j != 36 && j != 48 && j != 50) = true) : yKs g (zPu g' 0 j v) := by
  simp only [Bool.and_eq_true, bne_iff_ne] at hj
  obtain ⟨⟨⟨⟨⟨⟨⟨q0, q2⟩, q4⟩, q7⟩, q9⟩, q36⟩, q48⟩, q50⟩ := hj
  refine h.tr ⟨⟨zPu_j (Ne.symm q0), zPu_j (Ne.symm q2), zPu_j (Ne.symm q4), zPu_j (Ne.symm q7), zPu_j (Ne.symm q9), zPu_j (Ne.symm q36), zPu_j (Ne.symm q48), zPu_j (Ne.symm q50)⟩, ?_⟩
  refine ⟨zPu_k (by decide), zPu_k (by decide), zPu_k (by decide), zPu_k (by decide), zPu_k (by decide), zPu_k (by decide), zPu_k (by decide), zPu_k (by decide), zPu_k (by decide), zPu_k (by decide), zPu_k (by decide), zPu_k (by decide), zPu_k (by decide)⟩
/-- a row of scratch -/
theorem yKs.pu {g g' : zM} (h : yKs g g') {k j : Nat} {v : Int32} (hk : (k != 0 && k != 1 && k != 2 && k != 3 && k != 4 && k != 5 && k != 16 && k != 18 && k != 19 && k != 21 && k != 22 && k != 23 && k != 24 && k != 25) = true) : yKs g (zPu g' k j v) := by
  simp only [Bool.and_eq_true, bne_iff_ne] at hk
  obtain ⟨⟨⟨⟨⟨⟨⟨⟨⟨⟨⟨⟨⟨q0, q1⟩, q2⟩, q3⟩, q4⟩, q5⟩, q6⟩, q7⟩, q8⟩, q9⟩, q10⟩, q11⟩, q12⟩, q13⟩ := hk
  have e0 : zPu g' k j v 0 = g' 0 := zPu_k (Ne.symm q0)
  refine h.tr ⟨by rw [e0]; exact ⟨rfl, rfl, rfl, rfl, rfl, rfl, rfl, rfl⟩, ?_⟩
  exact ⟨zPu_k (Ne.symm q1), zPu_k (Ne.symm q2), zPu_k (Ne.symm q3), zPu_k (Ne.symm q4), zPu_k (Ne.symm q5), zPu_k (Ne.symm q6), zPu_k (Ne.symm q7), zPu_k (Ne.symm q8), zPu_k (Ne.symm q9), zPu_k (Ne.symm q10), zPu_k (Ne.symm q11), zPu_k (Ne.symm q12), zPu_k (Ne.symm q13)⟩
/-! ===== Arrays.fill ===== -/
theorem sJ_fill {n : Nat} (hn : n < 100000) (fa : zM) (v : Int32) : ∃ t, fJ7_fill_53178 n fa v = some t ∧ ∀ j, t 0 j = if j < n then v else fa 0 j := by
  have key : ∃ b, zLp (fJ7_fill_53178_L5 n v (nI n)) zFU ((fun k (x : zM) => (nI k, x)) 0 fa) = some b ∧ ∀ j, b 0 j = if j < n then v else fa 0 j := by
    refine y_for (fun k (x : zM) => (nI k, x)) n (fun k x => ∀ j, x 0 j = if j < k then v else fa 0 j) _ ?_ ?_ zFU 0 fa (by omega) (fun j => by simp) (by unfold zFU; omega)
    · intro k x hk hx
      refine ⟨zPu x 0 k v, ?_, ?_⟩
      · unfold fJ7_fill_53178_L5
        rw [y_u2, y_le_f hk (by omega), y_gin hk (by omega), y_lt_e, y_lt_e, y_cl (by omega), show (1 : Int32) = nI 1 from rfl, y_add]
      · intro j
        by_cases e : j = k
        · subst e; rw [zPu_s, if_pos (by omega)]
        · rw [zPu_j e, hx j]
          by_cases h2 : j < k
          · rw [if_pos h2, if_pos (by omega)]
          · rw [if_neg h2, if_neg (by omega)]
    · intro x hx
      refine ⟨x, ?_, hx⟩
      unfold fJ7_fill_53178_L5
      rw [y_u2, y_le_t (by omega) (by omega)]
  obtain ⟨b, hb, hq⟩ := key
  refine ⟨b, ?_, hq⟩
  unfold fJ7_fill_53178
  rw [y_lt_e, show Int32.ofNat n = nI n from rfl, show ((0, fa) : Int32 × zM) = (fun k (x : zM) => (nI k, x)) 0 fa from rfl, hb, y_b1, y_u1]
/-! ===== who is tied to whom by the ties of a set b; the least closed set ===== -/
def yAdj (a : yA) (b p q : Nat) : Prop := ∃ i, i < a 0 1 ∧ b.testBit i = true ∧ ((a 3 i = p ∧ a 4 i = q) ∨ (a 3 i = q ∧ a 4 i = p))
theorem yAdj.sy {a : yA} {b p q : Nat} (h : yAdj a b p q) : yAdj a b q p := by
  obtain ⟨i, h1, h2, h3⟩ := h
  exact ⟨i, h1, h2, h3.symm⟩
theorem yAdj.lt {a : yA} (ok : yOk a) {b p q : Nat} (h : yAdj a b p q) : p < a 0 0 ∧ q < a 0 0 := by
  obtain ⟨i, h1, -, h3⟩ := h
  obtain ⟨g1, g2, -⟩ := ok.2.2.1 i h1
  rcases h3 with ⟨rfl, rfl⟩ | ⟨rfl, rfl⟩ <;> omega
def yLf (a : yA) (b f m R : Nat) : Prop := (∀ p, f.testBit p = true → m.testBit p = true → R.testBit p = true) ∧ (∀ p, R.testBit p = true → m.testBit p = true) ∧ (∀ p q, R.testBit p = true → yAdj a b p q → m.testBit q = true → R.testBit q = true) ∧ (∀ C : Nat → Prop, (∀ p, f.testBit p = true → m.testBit p = true → C p) → (∀ p q, C p → yAdj a b p q → m.testBit q = true → C q) → ∀ p, R.testBit p = true → C p)
theorem yLf.un {a : yA} {b f m R R' : Nat} (h : yLf a b f m R) (h' : yLf a b f m R') : R = R' := by
  apply Nat.eq_of_testBit_eq
  intro i
  have h1 := h.2.2.2 (fun p => R'.testBit p = true) h'.1 h'.2.2.1 i
  have h2 := h'.2.2.2 (fun p => R.testBit p = true) h.1 h.2.2.1 i
  cases e : R.testBit i <;> cases e' : R'.testBit i
  · rfl
  · rw [e'] at h2; rw [e] at h2; exact absurd (h2 rfl) (by simp)
  · rw [e] at h1; rw [e'] at h1; exact absurd (h1 rfl) (by simp)
  · rfl
theorem yLf.lt {a : yA} {b f m R n : Nat} (h : yLf a b f m R) (hm : m < 2 ^ n) : R < 2 ^ n := y_ltp (fun i hi => by
  cases e : R.testBit i
  · rfl
  · have := h.2.1 i e
    rw [y_tf hm hi] at this
    cases this)
/-- the ways from f within m, by the ties of b -/
noncomputable def yFl (a : yA) (b f m : Nat) : Nat := Classical.epsilon (fun R => yLf a b f m R)
theorem yFl_eq {a : yA} {b f m R : Nat} (h : yLf a b f m R) : R = yFl a b f m := h.un (Classical.epsilon_spec (p := fun R => yLf a b f m R) ⟨R, h⟩)
theorem yFl_ok {a : yA} {b f m R : Nat} (h : yLf a b f m R) : yLf a b f m (yFl a b f m) := Classical.epsilon_spec (p := fun R => yLf a b f m R) ⟨R, h⟩
/-! ===== the model's flood ===== -/
def yArK (a : yA) (b s : Nat) : Nat → Nat
  | 0 => s
  | k + 1 => yArK a b s k ||| (if b.testBit k = true ∧ yIn a k s = 1 then yEn a k else 0)
def yAr (a : yA) (b s : Nat) : Nat := yArK a b s (a 0 1)
theorem yEn_t (a : yA) (i q : Nat) : (yEn a i).testBit q = (decide (a 3 i = q) || decide (a 4 i = q)) := by
  unfold yEn
  rw [Nat.testBit_or, Nat.testBit_two_pow, Nat.testBit_two_pow]
theorem yArK_t {a : yA} (ok : yOk a) (b s k : Nat) (hk : k ≤ a 0 1) (q : Nat) : (yArK a b s k).testBit q = true ↔ (s.testBit q = true ∨ ∃ i, i < k ∧ b.testBit i = true ∧ yIn a i s = 1 ∧ (a 3 i = q ∨ a 4 i = q)) := by
  induction k with
  | zero => simp [yArK]
  | succ k ih =>
    unfold yArK
    rw [Nat.testBit_or, Bool.or_eq_true, ih (by omega)]
    constructor
    · rintro ((h | ⟨i, h1, h2, h3, h4⟩) | h)
      · exact Or.inl h
      · exact Or.inr ⟨i, by omega, h2, h3, h4⟩
      · by_cases hc : b.testBit k = true ∧ yIn a k s = 1
        · rw [if_pos hc, yEn_t] at h
          exact Or.inr ⟨k, by omega, hc.1, hc.2, by simpa using h⟩
        · rw [if_neg hc, Nat.zero_testBit] at h
          cases h
    · rintro (h | ⟨i, h1, h2, h3, h4⟩)
      · exact Or.inl (Or.inl h)
      · by_cases e : i = k
        · subst e
          right
          rw [if_pos ⟨h2, h3⟩, yEn_t]
          simpa using h4
        · exact Or.inl (Or.inr ⟨i, by omega, h2, h3, h4⟩)
theorem yAr_t {a : yA} (ok : yOk a) (b s q : Nat) : (yAr a b s).testBit q = true ↔ (s.testBit q = true ∨ ∃ p, s.testBit p = true ∧ yAdj a b p q) := by
  unfold yAr
  rw [yArK_t ok b s _ (Nat.le_refl _) q]
  constructor
  · rintro (h | ⟨i, h1, h2, h3, h4⟩)
    · exact Or.inl h
    · rw [(yIn_eq ok h1 s).1] at h3
      by_cases e3 : s.testBit (a 3 i) = true
      · rcases h4 with h4 | h4
        · exact Or.inl (h4 ▸ e3)
        · exact Or.inr ⟨a 3 i, e3, i, h1, h2, Or.inl ⟨rfl, h4⟩⟩
      · by_cases e4 : s.testBit (a 4 i) = true
        · rcases h4 with h4 | h4
          · exact Or.inr ⟨a 4 i, e4, i, h1, h2, Or.inr ⟨h4, rfl⟩⟩
          · exact Or.inl (h4 ▸ e4)
        · simp [e3, e4] at h3
  · rintro (h | ⟨p, hp, i, h1, h2, h3⟩)
    · exact Or.inl h
    · by_cases hq : s.testBit q = true
      · exact Or.inl hq
      · refine Or.inr ⟨i, h1, h2, ?_, ?_⟩
        · rw [(yIn_eq ok h1 s).1]
          rcases h3 with ⟨rfl, rfl⟩ | ⟨rfl, rfl⟩ <;> simp [hp, hq]
        · rcases h3 with ⟨rfl, rfl⟩ | ⟨rfl, rfl⟩ <;> simp
theorem yAr_lt {a : yA} (ok : yOk a) {b s : Nat} (hs : s < 2 ^ 10) : yAr a b s < 2 ^ 10 := y_ltp (fun i hi => by
  cases e : (yAr a b s).testBit i
  · rfl
  · rcases (yAr_t ok b s i).mp e with h | ⟨p, -, h⟩
    · rw [y_tf hs hi] at h; cases h
    · have := (h.lt ok).2
      have := ok.1
      omega)
theorem s10_around {g : zM} {gl : zL} {a : yA} (ok : yOk a) (hg : yG g a) {s b : Nat} (hs : s < 2 ^ 10) (hb : b < 2 ^ 14) : fX10_around g gl (nI s) (nI b) = some (nI (yAr a b s)) := by
  have h0 := ok.1
  have key : ∃ r, zLp (fX10_around_L5 (nI s) (nI b) g gl) zFU ((fun k (x : Nat) => (nI x, nI k)) 0 s) = some r ∧ r = nI (yAr a b s) := by
    refine y_for (fun k (x : Nat) => (nI x, nI k)) (a 0 1) (fun k x => x = yArK a b s k) _ ?_ ?_ zFU 0 s (by omega) rfl (by unfold zFU; omega)
    · intro k x hk hx
      refine ⟨x ||| (if b.testBit k = true ∧ yIn a k s = 1 then yEn a k else 0), ?_, by rw [hx]; rfl⟩
      have hp : yIn a k s ≤ 14 := yPop_le _
      unfold fX10_around_L5 fX10_around_L5J45 fX10_around_L5J46
      rw [y_u2, hg.1.2.1, y_le_f hk (by omega)]
      by_cases c1 : b.testBit k = true
      · rw [if_pos (by rw [y_bit1 (by omega) (by omega)]; exact c1), s10_inSet ok hg hk, y_b1, show (1 : Int32) = nI 1 from rfl]
        by_cases c2 : yIn a k s = 1
        · rw [y_eq_t c2, s10_ends ok hg hk, y_b1, y_lt_e, y_lt_e, y_or, y_add, if_pos ⟨c1, c2⟩]
        · rw [y_eq_f c2 (by omega) (by omega), y_lt_e, y_lt_e, show (0 : Int32) = nI 0 from rfl, y_or, y_add, if_neg (fun z => c2 z.2)]
      · rw [if_neg (by rw [y_bit1 (by omega) (by omega)]; exact c1), y_lt_e, y_lt_e, show (0 : Int32) = nI 0 from rfl, y_or, show (1 : Int32) = nI 1 from rfl, y_add, if_neg (fun z => c1 z.1)]
    · intro x hx
      refine ⟨_, ?_, rfl⟩
      unfold fX10_around_L5
      rw [y_u2, hg.1.2.1, y_le_t (by omega) (by omega), hx]
      rfl
  obtain ⟨r, hr, rfl⟩ := key
  unfold fX10_around
  rw [show ((nI s, 0) : Int32 × Int32) = (fun k (x : Nat) => (nI x, nI k)) 0 s from rfl, hr, y_b1, y_u1]
theorem y_sub_le {x y : Nat} (h : ∀ i, x.testBit i = true → y.testBit i = true) : x ≤ y := by
  have : x &&& y = x := by
    apply Nat.eq_of_testBit_eq
    intro i
    rw [Nat.testBit_and]
    cases e : x.testBit i
    · rfl
    · rw [h i e]; rfl
  rw [← this]
  exact Nat.and_le_right
theorem s10_joinedBy {g : zM} {gl : zL} {a : yA} (ok : yOk a) (hg : yG g a) {f b m : Nat} (hf : f < 2 ^ 10) (hb : b < 2 ^ 14) (hm : m < 2 ^ 10) : ∃ R, fX10_joinedBy g gl (nI f) (nI b) (nI m) = some (nI R) ∧ yLf a b f m R := by
  have key : ∃ r, zLp (fX10_joinedBy_L8 (nI b) (nI m) g gl) zFU (nI 0, nI (f &&& m)) = some r ∧ ∃ R, r = nI R ∧ yLf a b f m R := by
    refine y_lp (fun v => ∃ W N, v = (nI W, nI N) ∧ W < 2 ^ 10 ∧ N < 2 ^ 10 ∧ (∀ i, W.testBit i = true → N.testBit i = true) ∧ (∀ p, f.testBit p = true → m.testBit p = true → N.testBit p = true) ∧ (∀ p, N.testBit p = true → m.testBit p = true) ∧ (W = 0 ∧ N = f &&& m ∨ N = yAr a b W &&& m) ∧ ∀ C : Nat → Prop, (∀ p, f.testBit p = true → m.testBit p = true → C p) → (∀ p q, C p → yAdj a b p q → m.testBit q = true → C q) → ∀ p, N.testBit p = true → C p) (fun v => 2 * (1024 - v.2.toNatClampNeg) + (if v.1 = v.2 then 0 else 1)) _ ?_ zFU _ ?_ ?_
    · rintro v ⟨W, N, rfl, hW, hN, h1, h2, h3, h4, h5⟩
      unfold fX10_joinedBy_L8
      rw [y_u2]
      by_cases q : N = W
      · rw [y_eq_t q]
        refine ⟨_, rfl, N, rfl, h2, h3, ?_, h5⟩
        intro p r hp had hmr
        rcases h4 with ⟨w0, -⟩ | h4
        · rw [q, w0, Nat.zero_testBit] at hp
          cases hp
        · rw [h4, Nat.testBit_and, hmr, Bool.and_true]
          exact (yAr_t ok b W r).mpr (Or.inr ⟨p, by rw [← q]; exact hp, had⟩)
      · rw [y_eq_f q (by omega) (by omega), s10_around ok hg hN hb, y_b1, y_lt_e, y_and]
        have hlt : yAr a b N &&& m < 2 ^ 10 := y_and_lt (yAr_lt ok hN)
        have hsub : ∀ i, N.testBit i = true → (yAr a b N &&& m).testBit i = true := fun i hi => by
          rw [Nat.testBit_and, h3 i hi, (yAr_t ok b N i).mpr (Or.inl hi)]; rfl
        refine ⟨_, rfl, ⟨N, yAr a b N &&& m, rfl, hN, hlt, hsub, fun p hp hq => hsub p (h2 p hp hq), ?_, Or.inr rfl, ?_⟩, ?_⟩
        · intro p hp
          rw [Nat.testBit_and, Bool.and_eq_true] at hp
          exact hp.2
        · intro C c1 c2 p hp
          rw [Nat.testBit_and, Bool.and_eq_true] at hp
          rcases (yAr_t ok b N p).mp hp.1 with h | ⟨r, hr, had⟩
          · exact h5 C c1 c2 p h
          · exact c2 r p (h5 C c1 c2 r hr) had hp.2
        · show 2 * (1024 - (nI (yAr a b N &&& m)).toNatClampNeg) + (if nI N = nI (yAr a b N &&& m) then 0 else 1) < 2 * (1024 - (nI N).toNatClampNeg) + (if nI W = nI N then 0 else 1)
          rw [y_cl (by omega), y_cl (by omega), if_neg (fun z : nI W = nI N => q ((nI_eq (by omega) (by omega)).mp z).symm)]
          have hle := y_sub_le hsub
          by_cases e : N = yAr a b N &&& m
          · rw [← e, if_pos rfl]; omega
          · rw [if_neg (fun z => e ((nI_eq (by omega) (by omega)).mp z))]; omega
    · refine ⟨0, f &&& m, rfl, by omega, y_and_lt hf, fun i hi => (by rw [Nat.zero_testBit] at hi; cases hi), ?_, ?_, Or.inl ⟨rfl, rfl⟩, ?_⟩
      · intro p h1 h2; rw [Nat.testBit_and, h1, h2]; rfl
      · intro p h; rw [Nat.testBit_and, Bool.and_eq_true] at h; exact h.2
      · intro C c1 _ p h; rw [Nat.testBit_and, Bool.and_eq_true] at h; exact c1 p h.1 h.2
    · show 2 * (1024 - _) + _ < zFU
      unfold zFU
      split <;> omega
  obtain ⟨r, hr, R, rfl, hR⟩ := key
  refine ⟨R, ?_, hR⟩
  unfold fX10_joinedBy
  rw [y_lt_e, y_and, show (0 : Int32) = nI 0 from rfl, hr, y_b1, y_u1]
theorem s10_joinedBy' {g : zM} {gl : zL} {a : yA} (ok : yOk a) (hg : yG g a) {f b m : Nat} (hf : f < 2 ^ 10) (hb : b < 2 ^ 14) (hm : m < 2 ^ 10) : fX10_joinedBy g gl (nI f) (nI b) (nI m) = some (nI (yFl a b f m)) ∧ yLf a b f m (yFl a b f m) := by
  obtain ⟨R, h1, h2⟩ := s10_joinedBy (gl := gl) ok hg hf hb hm
  rw [h1, yFl_eq h2]
  exact ⟨rfl, yFl_ok h2⟩
