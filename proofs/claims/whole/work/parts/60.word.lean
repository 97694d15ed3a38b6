/-! ===== words ===== -/
def yNm (f : Nat → Nat) : Nat → Nat
  | 0 => 0
  | k + 1 => 27 * yNm f k + f k
theorem yNm_inj {f h : Nat → Nat} : ∀ n m, (∀ i, i < n → 1 ≤ f i ∧ f i ≤ 26) → (∀ i, i < m → 1 ≤ h i ∧ h i ≤ 26) → yNm f n = yNm h m → n = m ∧ ∀ i, i < n → f i = h i
  | 0, 0, _, _, _ => ⟨rfl, fun i hi => absurd hi (by omega)⟩
  | 0, m + 1, _, h2, e => by
    have := h2 m (by omega)
    rw [show yNm f 0 = 0 from rfl, show yNm h (m + 1) = 27 * yNm h m + h m from rfl] at e
    omega
  | n + 1, 0, h1, _, e => by
    have := h1 n (by omega)
    rw [show yNm h 0 = 0 from rfl, show yNm f (n + 1) = 27 * yNm f n + f n from rfl] at e
    omega
  | n + 1, m + 1, h1, h2, e => by
    have a1 := h1 n (by omega)
    have a2 := h2 m (by omega)
    rw [show yNm h (m + 1) = 27 * yNm h m + h m from rfl, show yNm f (n + 1) = 27 * yNm f n + f n from rfl] at e
    obtain ⟨i1, i2⟩ := yNm_inj n m (fun i hi => h1 i (by omega)) (fun i hi => h2 i (by omega)) (by omega)
    subst i1
    refine ⟨rfl, fun i hi => ?_⟩
    by_cases c : i = n
    · subst c; omega
    · exact i2 i (by omega)
theorem yNm_b {f : Nat → Nat} : ∀ n, (∀ i, i < n → f i ≤ 26) → yNm f n < 27 ^ n
  | 0, _ => Nat.one_pos
  | n + 1, h => by
    have := yNm_b n (fun i hi => h i (by omega))
    have := h n (by omega)
    rw [show yNm f (n + 1) = 27 * yNm f n + f n from rfl, Nat.pow_succ]
    omega
def yLt (j i : Nat) : Nat := ((([[112, 101, 111, 112, 108, 101], [116, 105, 101], [119, 111, 114, 116, 104], [111, 100, 100, 115], [109, 117, 115, 116], [102, 105, 114, 115, 116], [119, 101, 105, 103, 104, 116], [115, 101, 97, 116], [97, 110, 100], [108, 97, 116, 101]] : List (List Nat)).getD j []).getD i 0)
def yWn (j : Nat) : Nat := ([232546955, 14828, 12532058, 298288, 271721, 3379448, 332864552, 377669, 1111, 237470] : List Nat).getD j 0
theorem yLt_ok : ∀ j, j < 10 → zLen.getD j 0 ≤ 6 ∧ zSl j = nI (zLen.getD j 0) ∧ yNm (fun i => yLt j i - 96) (zLen.getD j 0) = yWn j ∧ ∀ i, i < 6 → i < zLen.getD j 0 → 97 ≤ yLt j i ∧ yLt j i ≤ 122 ∧ zSc j (nI i) = nI (yLt j i) := by decide +kernel
theorem yWk_n {B : Nat → Nat} {s : Nat} : ∀ n, n ≤ 8 → (∀ i, i < n → 97 ≤ B (s + i) ∧ B (s + i) ≤ 122) → yWk B s n = lN (yNm (fun i => B (s + i) - 96) n)
  | 0, _, _ => rfl
  | n + 1, hn, h => by
    have ih := yWk_n n (by omega) (fun i hi => h i (by omega))
    have hb := h n (by omega)
    rw [yWk, if_pos (by omega), ih, show (27 : Int64) = lN 27 from rfl, lN_mul, nI_l (by omega), lN_add, show (96 : Int64) = lN 96 from rfl, lN_sub (by omega), show yNm (fun i => B (s + i) - 96) (n + 1) = 27 * yNm (fun i => B (s + i) - 96) n + (B (s + n) - 96) from rfl]
    congr 1
    omega
theorem yWk_9 {B : Nat → Nat} {s : Nat} : ∀ n, 9 ≤ n → yWk B s n = -1
  | 0, h => absurd h (by omega)
  | n + 1, h => by rw [yWk, if_neg (by omega)]
def yWd (B : Nat → Nat) (s e j : Nat) : Prop := e - s = zLen.getD j 0 ∧ ∀ i, i < zLen.getD j 0 → B (s + i) = yLt j i
theorem yWd_num {B : Nat → Nat} {s e j : Nat} (hj : j < 10) (hse : s < e) (hc : ∀ i, s ≤ i → i < e → yCl (B i) = 1) : yWd B s e j ↔ yWk B s (e - s) = lN (yWn j) := by
  obtain ⟨l1, l2, l3, l4⟩ := yLt_ok j hj
  have hb : ∀ i, i < e - s → 97 ≤ B (s + i) ∧ B (s + i) ≤ 122 := fun i hi => yCl_1 (hc (s + i) (by omega) (by omega))
  constructor
  · rintro ⟨h1, h2⟩
    rw [yWk_n (e - s) (by omega) hb, ← l3, h1]
    congr 1
    have : ∀ n, n ≤ zLen.getD j 0 → yNm (fun i => B (s + i) - 96) n = yNm (fun i => yLt j i - 96) n := by
      intro n
      induction n with
      | zero => intro _; rfl
      | succ n ih =>
        intro hn
        rw [show yNm (fun i => B (s + i) - 96) (n + 1) = 27 * yNm (fun i => B (s + i) - 96) n + (B (s + n) - 96) from rfl, show yNm (fun i => yLt j i - 96) (n + 1) = 27 * yNm (fun i => yLt j i - 96) n + (yLt j n - 96) from rfl, ih (by omega), h2 n (by omega)]
    exact this _ (Nat.le_refl _)
  · intro h
    have hW : yWn j < 2 ^ 63 := by
      have : ∀ j, j < 10 → yWn j < 2 ^ 63 := by decide +kernel
      exact this j hj
    by_cases c : e - s ≤ 8
    · rw [yWk_n (e - s) c hb] at h
      have hb2 : yNm (fun i => B (s + i) - 96) (e - s) < 27 ^ (e - s) := yNm_b _ (fun i hi => by have := hb i hi; omega)
      have hb3 : 27 ^ (e - s) ≤ 27 ^ 8 := Nat.pow_le_pow_right (by omega) c
      have h' := (pk_lEQ (by omega) hW).mp h
      rw [← l3] at h'
      obtain ⟨e1, e2⟩ := yNm_inj (e - s) (zLen.getD j 0) (fun i hi => by have := hb i hi; omega) (fun i hi => by have := l4 i (by omega) hi; omega) h'
      refine ⟨e1, fun i hi => ?_⟩
      have a1 := e2 i (by omega)
      have a2 := hb i (by omega)
      have a3 := l4 i (by omega) hi
      omega
    · rw [yWk_9 (e - s) (by omega)] at h
      exfalso
      have : ∀ j, j < 10 → ¬ (-1 : Int64) = lN (yWn j) := by decide +kernel
      exact this j hj h
theorem s7_isWord {B : Nat → Nat} {L s e j : Nat} {gt g : zM} (hT : pTB B L gt g) (hj : j < 10) (hs : s ≤ e) (he : e ≤ L) (hc : ∀ i, s ≤ i → i < e → yCl (B i) = 1) (h2 : gt 0 2 = nI s) (h3 : gt 0 3 = nI e) (h4 : gt 0 4 = nI 1) : (yWd B s e j ∧ fX7_isWord gt j = some 1) ∨ (¬ yWd B s e j ∧ fX7_isWord gt j = some 0) := by
  obtain ⟨t1, t2, t3, t4⟩ := hT
  obtain ⟨l1, l2, l3, l4⟩ := yLt_ok j hj
  unfold fX7_isWord
  rw [y_gd (decide_eq_true hj), h4, if_pos (show nI 1 = 1 from rfl), y_lt_e, h2, h3, y_sub hs, l2]
  by_cases c : e - s = zLen.getD j 0
  · rw [y_eq_t c]
    have key : ∃ r, zLp (fX7_isWord_L28 j gt) zFU (nI 0) = some r ∧ (r = .inl () ∧ yWd B s e j ∨ r = .inr () ∧ ¬ yWd B s e j) := by
      refine y_lp (fun v => ∃ k, k ≤ zLen.getD j 0 ∧ v = nI k ∧ ∀ i, i < k → B (s + i) = yLt j i) (fun v => zLen.getD j 0 - v.toNatClampNeg) _ ?_ zFU (nI 0) ⟨0, by omega, rfl, fun i hi => absurd hi (by omega)⟩ (by unfold zFU; omega)
      rintro v ⟨k, hk, rfl, hi⟩
      unfold fX7_isWord_L28
      rw [y_u1, y_lt_e, l2]
      by_cases d : zLen.getD j 0 ≤ k
      · rw [y_le_t d (by omega)]
        have : k = zLen.getD j 0 := by omega
        subst this
        exact ⟨_, rfl, Or.inl ⟨rfl, c, hi⟩⟩
      · have hb := t4 (s + k) (by omega)
        have hcl := yCl_1 (hc (s + k) (by omega) (by omega))
        have hlt := l4 k (by omega) (by omega)
        rw [y_le_f (by omega) (by omega), h2, y_add, y_gin (by omega) (by omega), y_lt_e, y_gin (by omega) (by omega), y_lt_e, hlt.2.2, y_cl (k := s + k) (by omega), hb.2.2, zSb_s _ (by omega)]
        by_cases f : B (s + k) = yLt j k
        · rw [y_eq_t f, y_lt_e, y_a1]
          refine ⟨_, rfl, ⟨k + 1, by omega, rfl, fun i hi' => ?_⟩, ?_⟩
          · by_cases x : i = k
            · subst x; exact f
            · exact hi i (by omega)
          · rw [y_cl (by omega), y_cl (by omega)]; omega
        · rw [y_eq_f f (by omega) (by omega)]
          exact ⟨_, rfl, Or.inr ⟨rfl, fun h => f (h.2 k (by omega))⟩⟩
    obtain ⟨r, er, hr⟩ := key
    have er' : zLp (fX7_isWord_L28 j gt) zFU 0 = some r := er
    rw [er', y_b1]
    rcases hr with ⟨rfl, h⟩ | ⟨rfl, h⟩
    · exact Or.inl ⟨h, rfl⟩
    · exact Or.inr ⟨h, rfl⟩
  · rw [y_eq_f c (by omega) (by omega)]
    exact Or.inr ⟨fun h => c h.1, rfl⟩
theorem s7_isWordN {gt : zM} {j : Nat} (hj : j < 10) (h4 : ¬ gt 0 4 = 1) : fX7_isWord gt j = some 0 := by
  unfold fX7_isWord
  rw [y_gd (decide_eq_true hj), if_neg h4]
/-! ===== class and model at the same token ===== -/
def yVl (x : Int32) : Prop := x = -1 ∨ ∃ v, v ≤ 99 ∧ x = nI v
def yAt (B : Nat → Nat) (L : Nat) (gt g : zM) (gl : zL) (e c : Nat) : Prop := pTB B L gt g ∧ e ≤ L ∧ gt 0 2 = g 0 11 ∧ gt 0 3 = nI e ∧ g 0 12 = nI e ∧ gt 0 4 = nI c ∧ ((c = 0 ∧ e = L ∧ g 0 10 = 0) ∨ (c = 1 ∧ g 0 10 = 1) ∨ (c = 2 ∧ g 0 10 = 2 ∧ gt 0 5 = g 0 14 ∧ yVl (g 0 14)) ∨ (c = 3 ∧ g 0 10 = 3 ∧ g 0 14 = 59) ∨ (c = 4 ∧ g 0 10 = 3 ∧ ¬ g 0 14 = 59)) ∧ ∀ j, j < 10 → ∃ b, fX7_isWord gt j = some (yBl b) ∧ fX10_isWord g gl (lN (yWn j)) = some (yBl b) ∧ (b = true → c = 1)
def pFw (g g' : zM) (gl gl' : zL) : Prop := (∀ k, k ≠ 0 → g' k = g k) ∧ (∀ j, j ≠ 10 → j ≠ 11 → j ≠ 12 → j ≠ 14 → g' 0 j = g 0 j) ∧ ∀ k, k ≠ 0 → gl' k = gl k
theorem yNk_v {B : Nat → Nat} {s : Nat} {n : Nat} (hn : 1 ≤ n) (h : ∀ i, i < n → 48 ≤ B (s + i) ∧ B (s + i) ≤ 57) : yVl (yNk B s n) := by
  match n, hn with
  | 1, _ =>
    have := h 0 (by omega)
    exact Or.inr ⟨B s - 48, by rw [Nat.add_zero] at this; omega, rfl⟩
  | 2, _ =>
    have h0 := h 0 (by omega)
    have h1 := h 1 (by omega)
    rw [Nat.add_zero] at h0
    exact Or.inr ⟨10 * (B s - 48) + (B (s + 1) - 48), by omega, rfl⟩
  | n + 3, _ => exact Or.inl rfl
theorem s_step {B : Nat → Nat} {L a : Nat} {gt g : zM} {gl : zL} (hT : pTB B L gt g) (ha : a ≤ L) (h3 : gt 0 3 = nI a) (h12 : g 0 12 = nI a) : ∃ gt' g' gl' e c, fX7_step gt = some gt' ∧ fX10_advance g gl = some (g', gl') ∧ yAt B L gt' g' gl' e c ∧ a ≤ e ∧ (c ≠ 0 → a < e) ∧ pFw g g' gl gl' := by
  obtain ⟨s, e, c, hk⟩ := yTok_ex B ha
  obtain ⟨gt', p1, p2, p3, p4, p5, p6, p7⟩ := s7_step hT hk h3
  obtain ⟨g', gl', q1, q2, q3, q4, q5, q6, q7, q8, q9⟩ := s10_advance (gl := gl) hT.m hk h12
  obtain ⟨t1, t2, t3, t4⟩ := hT
  obtain ⟨k1, k2, k3, k4⟩ := hk
  have hT' : pTB B L gt' g' := ⟨t1, by rw [p2]; exact t2, by rw [q7 9 (by decide) (by decide) (by decide) (by decide)]; exact t3, fun i hi => by rw [p3, q6 5 (by decide)]; exact t4 i hi⟩
  refine ⟨gt', g', gl', e, c, p1, q1, ?_, ?_, ?_, q6, q7, q9⟩
  · refine ⟨hT', ?_, by rw [p4, q3], p5, q4, p6, ?_, fun j hj => ?_⟩
    · rcases k4 with ⟨-, h, -⟩ | ⟨-, -, -, h, -⟩ <;> omega
    · rcases k4 with ⟨m1, m2, m3⟩ | ⟨m1, m2, m3, m4, m5, m6, m7, m8⟩
      · left; rw [m3] at q2; exact ⟨m3, m2, q2⟩
      · right
        have c4 := yCl_4 (B s)
        rw [← m5] at c4
        rcases c4 with d | d | d | d
        · left; rw [d] at q2; exact ⟨d, q2⟩
        · right; left
          rw [d, if_pos rfl] at p7
          rw [d, if_neg (by decide), if_pos rfl] at q5
          rw [d] at q2
          refine ⟨d, q2, by rw [p7, q5], ?_⟩
          rw [q5]
          exact yNk_v (by omega) (fun i hi => yCl_2 ((m6 (s + i) (by omega) (by omega)).trans d))
        · right; right; left
          rw [d] at q2
          rw [d, if_neg (by decide), if_neg (by decide)] at q5
          have hb : B s = 59 := yCl_3.mp (m5.symm.trans d)
          refine ⟨d, q2, ?_⟩
          rw [q5, hb]; rfl
        · right; right; right
          rw [d] at q2
          rw [d, if_neg (by decide), if_neg (by decide)] at q5
          refine ⟨d, q2, ?_⟩
          rw [q5]
          intro h
          have hb := (t4 s m1).1
          have : B s = 59 := (nI_eq (by omega) (by omega)).mp (h.trans (show (59 : Int32) = nI 59 from rfl))
          rw [yCl_3.mpr this] at m5
          omega
    · by_cases d : c = 1
      · rcases k4 with ⟨m1, m2, m3⟩ | ⟨m1, m2, m3, m4, m5, m6, m7, m8⟩
        · omega
        · have hcl : ∀ i, s ≤ i → i < e → yCl (B i) = 1 := fun i h1 h2 => (m6 i h1 h2).trans d
          have hn := yWd_num hj m3 hcl
          rw [d, if_pos rfl] at q8
          rw [d] at q2
          have hm : ∀ b : Bool, (b = true ↔ yWk B s (e - s) = lN (yWn j)) → fX10_isWord g' gl' (lN (yWn j)) = some (yBl b) := fun b hb => by
            unfold fX10_isWord
            rw [q2, if_pos (show nI (if 1 = 4 then 3 else 1) = 1 from rfl), q8]
            cases b
            · rw [if_neg (fun h => by have := hb.mpr ((lg_cmp_eq _ _).mp h); cases this)]; rfl
            · rw [if_pos ((lg_cmp_eq _ _).mpr (hb.mp rfl))]; rfl
          rcases s7_isWord hT' hj (by omega) m4 hcl p4 p5 (by rw [p6, d]) with ⟨w, f⟩ | ⟨w, f⟩
          · exact ⟨true, f, hm true ⟨fun _ => hn.mp w, fun _ => rfl⟩, fun _ => d⟩
          · exact ⟨false, f, hm false ⟨fun h => (Bool.false_ne_true h).elim, fun h => absurd (hn.mpr h) w⟩, fun h => (Bool.false_ne_true h).elim⟩
      · refine ⟨false, s7_isWordN hj ?_, ?_, fun h => by cases h⟩
        · rw [p6, show (1 : Int32) = nI 1 from rfl]
          intro h
          have hc4 : c ≤ 4 := by
            rcases k4 with ⟨-, -, m⟩ | ⟨-, -, -, -, m, -⟩
            · omega
            · have := yCl_4 (B s); omega
          exact d ((nI_eq (by omega) (by omega)).mp h)
        · unfold fX10_isWord
          rw [q2, if_neg ?_]
          · rfl
          · intro h
            have hc4 : c ≤ 4 := by
              rcases k4 with ⟨-, -, m⟩ | ⟨-, -, -, -, m, -⟩
              · omega
              · have := yCl_4 (B s); omega
            have := (nI_eq (by split <;> omega) (by omega)).mp (h.trans (show (1 : Int32) = nI 1 from rfl))
            split at this <;> omega
  · rcases k4 with ⟨m1, m2, -⟩ | ⟨m1, -, m3, -⟩ <;> omega
  · intro hc
    rcases k4 with ⟨-, -, m⟩ | ⟨m1, -, m3, -⟩ <;> omega
