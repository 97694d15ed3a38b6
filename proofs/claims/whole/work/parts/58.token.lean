/-! ===== tokens ===== -/
theorem zPu_zPu {g : zM} {k j : Nat} {u v : Int32} : zPu (zPu g k j u) k j v = zPu g k j v := by
  funext k' j'
  by_cases e : k' = k
  · subst e
    by_cases f : j' = j
    · subst f; rw [zPu_s, zPu_s]
    · rw [zPu_j f, zPu_j f, zPu_j f]
  · rw [zPu_k e, zPu_k e, zPu_k e]
theorem zPu_me {g : zM} {k j : Nat} {v : Int32} (h : g k j = v) : zPu g k j v = g := by
  funext k' j'
  by_cases e : k' = k
  · subst e
    by_cases f : j' = j
    · subst f; rw [zPu_s, h]
    · rw [zPu_j f]
  · rw [zPu_k e]
theorem y_scan (P : Nat → Prop) (L : Nat) : ∀ n a, L - a = n → a ≤ L → ∃ s, a ≤ s ∧ s ≤ L ∧ (∀ j, a ≤ j → j < s → P j) ∧ (s < L → ¬ P s) := by
  intro n
  induction n with
  | zero =>
    intro a hn ha
    exact ⟨a, Nat.le_refl _, ha, fun j h1 h2 => absurd h1 (by omega), fun h => absurd h (by omega)⟩
  | succ n ih =>
    intro a hn ha
    by_cases c : P a
    · obtain ⟨s, h1, h2, h3, h4⟩ := ih (a + 1) (by omega) (by omega)
      refine ⟨s, by omega, h2, fun j h5 h6 => ?_, h4⟩
      by_cases e : j = a
      · subst e; exact c
      · exact h3 j (by omega) h6
    · exact ⟨a, Nat.le_refl _, ha, fun j h1 h2 => absurd h1 (by omega), fun _ => c⟩
theorem y_run {α β : Type} {body : α → Option (α ⊕ β)} (S : Nat → α) (n : Nat) {b : β} (hn : n < 1000) (h : ∀ k, k < n → body (S k) = some (.inl (S (k + 1)))) (he : body (S n) = some (.inr b)) : zLp body zFU (S 0) = some b := by
  obtain ⟨j, j1, j2⟩ := y_stut S n (fun k hk => Or.inr (h k hk)) n (Nat.le_refl _)
  obtain ⟨M, hM⟩ : ∃ M, zFU = (M + 1) + j := ⟨zFU - 1 - j, by unfold zFU; omega⟩
  rw [hM, j2, y_lpr he]
def yCl (u : Nat) : Nat := if 97 ≤ u ∧ u ≤ 122 then 1 else if 48 ≤ u ∧ u ≤ 57 then 2 else if u = 59 then 3 else 4
theorem s7_sortOf : ∀ u, u < 256 → fX7_sortOf (zSb u) = some (nI (yCl u)) := by decide +kernel
theorem zSb_32 : ∀ u, u < 256 → (zSb u = 32 ↔ u = 32) := by decide +kernel
theorem s10_isLetter : ∀ u, u < 256 → fX10_isLetter (nI u) = some (yBl (decide (yCl u = 1))) := by decide +kernel
theorem s10_isDigit : ∀ u, u < 256 → fX10_isDigit (nI u) = some (yBl (decide (yCl u = 2))) := by decide +kernel
theorem s10_isLetterN : fX10_isLetter (-1) = some 0 := by decide +kernel
theorem s10_isDigitN : fX10_isDigit (-1) = some 0 := by decide +kernel
theorem yCl_4 (u : Nat) : yCl u = 1 ∨ yCl u = 2 ∨ yCl u = 3 ∨ yCl u = 4 := by
  unfold yCl
  split
  · exact Or.inl rfl
  · split
    · exact Or.inr (Or.inl rfl)
    · split
      · exact Or.inr (Or.inr (Or.inl rfl))
      · exact Or.inr (Or.inr (Or.inr rfl))
theorem yCl_1 {u : Nat} (h : yCl u = 1) : 97 ≤ u ∧ u ≤ 122 := by
  unfold yCl at h
  split at h
  · assumption
  · split at h
    · cases h
    · split at h <;> cases h
theorem yCl_2 {u : Nat} (h : yCl u = 2) : 48 ≤ u ∧ u ≤ 57 := by
  unfold yCl at h
  split at h
  · cases h
  · split at h
    · assumption
    · split at h <;> cases h
theorem yCl_3 {u : Nat} : yCl u = 3 ↔ u = 59 := by
  constructor
  · intro h
    unfold yCl at h
    split at h
    · cases h
    · split at h
      · cases h
      · split at h
        · assumption
        · cases h
  · rintro rfl; rfl
theorem zSb_s : ∀ u, u < 128 → zSb u = nI u := by decide +kernel
/-- a token from s to e, of the sort c -/
def yTok (B : Nat → Nat) (L a s e c : Nat) : Prop := a ≤ s ∧ s ≤ L ∧ (∀ j, a ≤ j → j < s → B j = 32) ∧ ((s = L ∧ e = L ∧ c = 0) ∨ (s < L ∧ B s ≠ 32 ∧ s < e ∧ e ≤ L ∧ c = yCl (B s) ∧ (∀ j, s ≤ j → j < e → yCl (B j) = c) ∧ ((c = 1 ∨ c = 2) → e < L → yCl (B e) ≠ c) ∧ ((c = 3 ∨ c = 4) → e = s + 1)))
theorem yTok_ex (B : Nat → Nat) {L a : Nat} (ha : a ≤ L) : ∃ s e c, yTok B L a s e c := by
  obtain ⟨s, s1, s2, s3, s4⟩ := y_scan (fun j => B j = 32) L _ a rfl ha
  rcases Nat.lt_or_ge s L with h | h
  · by_cases d : yCl (B s) = 1 ∨ yCl (B s) = 2
    · obtain ⟨e, e1, e2, e3, e4⟩ := y_scan (fun j => yCl (B j) = yCl (B s)) L _ (s + 1) rfl (by omega)
      refine ⟨s, e, yCl (B s), s1, s2, s3, Or.inr ⟨h, s4 h, by omega, e2, rfl, fun j h1 h2 => ?_, fun _ => e4, fun h3 => ?_⟩⟩
      · by_cases x : j = s
        · subst x; rfl
        · exact e3 j (by omega) h2
      · rcases d with d | d <;> rw [d] at h3 <;> omega
    · refine ⟨s, s + 1, yCl (B s), s1, s2, s3, Or.inr ⟨h, s4 h, by omega, by omega, rfl, fun j h1 h2 => ?_, fun h3 => absurd h3 d, fun _ => rfl⟩⟩
      have : j = s := by omega
      subst this; rfl
  · have : s = L := by omega
    exact ⟨s, L, 0, s1, s2, s3, Or.inl ⟨this, rfl, rfl⟩⟩
/-- what the digits of a token make -/
def yNk (B : Nat → Nat) (s : Nat) : Nat → Int32
  | 0 => 0
  | 1 => nI (B s - 48)
  | 2 => nI (10 * (B s - 48) + (B (s + 1) - 48))
  | _ => -1
theorem s7_skip {B : Nat → Nat} {L a s : Nat} {gt g : zM} (hT : pTB B L gt g) (ha : a ≤ s) (hs : s ≤ L) (h32 : ∀ j, a ≤ j → j < s → B j = 32) (hn : s < L → B s ≠ 32) (h3 : gt 0 3 = nI a) : zLp fX7_step_L0 zFU gt = some (zPu gt 0 3 (nI s)) := by
  obtain ⟨t1, t2, t3, t4⟩ := hT
  have e := y_run (body := fX7_step_L0) (fun k => zPu gt 0 3 (nI (a + k))) (s - a) (b := zPu gt 0 3 (nI s)) (by omega) (fun k hk => by
    have hb := t4 (a + k) (by omega)
    unfold fX7_step_L0
    rw [y_u1, zPu_s, zPu_j (by decide), zPu_k (by decide), t2, y_le_f (by omega) (by omega), y_gin (by omega) (by omega), y_lt_e, y_lt_e, y_lt_e, y_cl (by omega), hb.2.2, if_pos ((zSb_32 _ hb.1).mpr (h32 _ (by omega) (by omega))), y_a1, zPu_zPu]
    rfl) (by
    rw [show a + (s - a) = s by omega]
    unfold fX7_step_L0
    rw [y_u1, zPu_s, zPu_j (by decide), zPu_k (by decide), t2]
    rcases Nat.lt_or_ge s L with c | c
    · have hb := t4 s c
      rw [y_le_f c (by omega), y_gin (by omega) (by omega), y_lt_e, y_cl (by omega), hb.2.2, if_neg (fun h => hn c ((zSb_32 _ hb.1).mp h))]
    · rw [y_le_t c (by omega)])
  rw [show zPu gt 0 3 (nI (a + 0)) = gt from zPu_me h3] at e
  exact e
theorem s7_scan {B : Nat → Nat} {L s e c : Nat} {gt g : zM} (hT : pTB B L gt g) (hs : s < e) (he : e ≤ L) (hc : ∀ j, s ≤ j → j < e → yCl (B j) = c) (hn : e < L → yCl (B e) ≠ c) (h3 : gt 0 3 = nI (s + 1)) (h4 : gt 0 4 = nI c) (hc4 : c ≤ 4) : zLp (fX7_step_L116 1) zFU gt = some (zPu gt 0 3 (nI e)) := by
  obtain ⟨t1, t2, t3, t4⟩ := hT
  have h := y_run (body := fX7_step_L116 1) (fun k => zPu gt 0 3 (nI (s + 1 + k))) (e - (s + 1)) (b := zPu gt 0 3 (nI e)) (by omega) (fun k hk => by
    have hb := t4 (s + 1 + k) (by omega)
    have hj := hc (s + 1 + k) (by omega) (by omega)
    unfold fX7_step_L116
    rw [y_u1, if_neg (show ¬ (1 : Int32) = 0 by decide), zPu_s, zPu_j (by decide), zPu_j (by decide), zPu_k (by decide), t2, y_le_f (by omega) (by omega), y_gin (by omega) (by omega), y_lt_e, y_cl (by omega), hb.2.2, s7_sortOf _ hb.1, y_b1, hj, h4, if_pos rfl, y_lt_e, y_lt_e, y_a1, zPu_zPu]
    rfl) (by
    rw [show s + 1 + (e - (s + 1)) = e by omega]
    unfold fX7_step_L116
    rw [y_u1, if_neg (show ¬ (1 : Int32) = 0 by decide), zPu_s, zPu_j (by decide), zPu_j (by decide), zPu_k (by decide), t2]
    rcases Nat.lt_or_ge e L with d | d
    · have hb := t4 e d
      have := yCl_4 (B e)
      rw [y_le_f d (by omega), y_gin (by omega) (by omega), y_lt_e, y_cl (by omega), hb.2.2, s7_sortOf _ hb.1, y_b1, h4, y_eq_f (hn d) (by omega) (by omega)]
    · rw [y_le_t d (by omega)])
  rw [show zPu gt 0 3 (nI (s + 1 + 0)) = gt from zPu_me h3] at h
  exact h
theorem s7_readNumber {B : Nat → Nat} {L s e : Nat} {gt g : zM} (hT : pTB B L gt g) (hs : s < e) (he : e ≤ L) (hc : ∀ j, s ≤ j → j < e → yCl (B j) = 2) (h2 : gt 0 2 = nI s) (h3 : gt 0 3 = nI e) (h5 : gt 0 5 = -1) : fX7_readNumber gt = some (zPu gt 0 5 (yNk B s (e - s))) := by
  obtain ⟨t1, t2, t3, t4⟩ := hT
  unfold fX7_readNumber
  rw [h2, h3, y_sub (by omega), show (2 : Int32) = nI 2 from rfl]
  by_cases c : e - s ≤ 2
  · have d0 := yCl_2 (hc s (Nat.le_refl _) hs)
    have b0 := t4 s (by omega)
    rw [y_le_t c (by omega), y_lt_e, y_lt_e, zPu_j (by decide), h2]
    have h := y_run (body := fX7_readNumber_L24) (fun k => (nI (s + k), zPu gt 0 5 (yNk B s k))) (e - s) (b := zPu gt 0 5 (yNk B s (e - s))) (by omega) (fun k hk => by
      have hk2 : k = 0 ∨ k = 1 := by omega
      have hb := t4 (s + k) (by omega)
      have hd := yCl_2 (hc (s + k) (by omega) (by omega))
      unfold fX7_readNumber_L24
      rw [y_u2, zPu_s, zPu_j (by decide), zPu_k (by decide), h3, y_le_f (by omega) (by omega), y_gin (by omega) (by omega), y_lt_e, y_lt_e, y_lt_e, y_lt_e, y_cl (by omega), hb.2.2, zSb_s _ (by omega), y_a1, zPu_zPu, show (48 : Int32) = nI 48 from rfl, y_sub (by omega)]
      rcases hk2 with rfl | rfl
      · show some (Sum.inl (nI (s + 0 + 1), zPu gt 0 5 (nI 0 * nI 10 + nI (B (s + 0) - 48)))) = some (Sum.inl (nI (s + (0 + 1)), zPu gt 0 5 (nI (B s - 48))))
        rw [y_mul, y_add]
        simp only [Nat.add_zero, Nat.zero_mul, Nat.zero_add]
      · show some (Sum.inl (nI (s + 1 + 1), zPu gt 0 5 (nI (B s - 48) * nI 10 + nI (B (s + 1) - 48)))) = some (Sum.inl (nI (s + (1 + 1)), zPu gt 0 5 (nI (10 * (B s - 48) + (B (s + 1) - 48)))))
        rw [y_mul, y_add, Nat.mul_comm]) (by
      unfold fX7_readNumber_L24
      rw [y_u2, zPu_j (by decide), h3, show s + (e - s) = e by omega, y_le_t (Nat.le_refl _) (by omega)])
    have h' : zLp fX7_readNumber_L24 zFU (nI s, zPu gt 0 5 0) = some (zPu gt 0 5 (yNk B s (e - s))) := h
    rw [h', y_b1, y_u1]
  · rw [y_le_f (by omega) (by omega)]
    obtain ⟨m, hm⟩ : ∃ m, e - s = m + 3 := ⟨e - s - 3, by omega⟩
    rw [hm]
    show some gt = some (zPu gt 0 5 (-1))
    rw [zPu_me h5]
theorem s7_step {B : Nat → Nat} {L a s e c : Nat} {gt g : zM} (hT : pTB B L gt g) (hk : yTok B L a s e c) (h3 : gt 0 3 = nI a) : ∃ gt', fX7_step gt = some gt' ∧ gt' 0 1 = gt 0 1 ∧ gt' 1 = gt 1 ∧ gt' 0 2 = nI s ∧ gt' 0 3 = nI e ∧ gt' 0 4 = nI c ∧ gt' 0 5 = (if c = 2 then yNk B s (e - s) else -1) := by
  have hT0 := hT
  obtain ⟨t1, t2, t3, t4⟩ := hT
  obtain ⟨k1, k2, k3, k4⟩ := hk
  unfold fX7_step
  rcases k4 with ⟨rfl, rfl, rfl⟩ | ⟨m1, m2, m3, m4, m5, m6, m7, m8⟩
  · rw [s7_skip hT0 k1 k2 k3 (fun h => absurd h (by omega)) h3, y_b1, y_u1, y_lt_e, y_lt_e, y_lt_e, zPu_s, show (zPu (zPu (zPu gt 0 3 (nI e)) 0 2 (nI e)) 0 5 (-1)) 0 3 = nI e from by rw [zPu_j (by decide), zPu_j (by decide), zPu_s], show (zPu (zPu (zPu gt 0 3 (nI e)) 0 2 (nI e)) 0 5 (-1)) 0 1 = nI e from by rw [zPu_j (by decide), zPu_j (by decide), zPu_j (by decide)]; exact t2, y_lt_f (Nat.le_refl _) (by omega), y_lt_e]
    refine ⟨_, rfl, ?_, ?_, ?_, ?_, zPu_s, ?_⟩
    · rw [zPu_j (by decide), zPu_j (by decide), zPu_j (by decide), zPu_j (by decide)]
    · rw [zPu_k (by decide), zPu_k (by decide), zPu_k (by decide), zPu_k (by decide)]
    · rw [zPu_j (by decide), zPu_j (by decide), zPu_s]
    · rw [zPu_j (by decide), zPu_j (by decide), zPu_j (by decide), zPu_s]
    · rw [zPu_j (by decide), zPu_s]; rfl
  · have hb := t4 s m1
    rw [s7_skip hT0 k1 k2 k3 (fun _ => m2) h3, y_b1, y_u1, y_lt_e, y_lt_e, y_lt_e, zPu_s]
    generalize hG : zPu (zPu (zPu gt 0 3 (nI s)) 0 2 (nI s)) 0 5 (-1) = G
    have G3 : G 0 3 = nI s := by rw [← hG, zPu_j (by decide), zPu_j (by decide), zPu_s]
    have G1 : G 0 1 = nI L := by rw [← hG, zPu_j (by decide), zPu_j (by decide), zPu_j (by decide)]; exact t2
    have G2 : G 0 2 = nI s := by rw [← hG, zPu_j (by decide), zPu_s]
    have G5 : G 0 5 = -1 := by rw [← hG, zPu_s]
    have Gb : G 1 = gt 1 := by rw [← hG, zPu_k (by decide), zPu_k (by decide), zPu_k (by decide)]
    rw [G3, G1, y_lt_t m1 (by omega), y_gin (by omega) (by omega), y_lt_e, y_cl (by omega), Gb, hb.2.2, s7_sortOf _ hb.1, y_b1, y_lt_e, y_lt_e, y_lt_e, show (zPu G 0 4 (nI (yCl (B s)))) 0 3 = nI s from by rw [zPu_j (by decide)]; exact G3, y_a1, ← m5]
    generalize hF : zPu (zPu G 0 4 (nI c)) 0 3 (nI (s + 1)) = F
    have F1 : F 0 1 = nI L := by rw [← hF, zPu_j (by decide), zPu_j (by decide)]; exact G1
    have F2 : F 0 2 = nI s := by rw [← hF, zPu_j (by decide), zPu_j (by decide)]; exact G2
    have F3 : F 0 3 = nI (s + 1) := by rw [← hF, zPu_s]
    have F4 : F 0 4 = nI c := by rw [← hF, zPu_j (by decide), zPu_s]
    have F5 : F 0 5 = -1 := by rw [← hF, zPu_j (by decide), zPu_j (by decide)]; exact G5
    have Fb : F 1 = gt 1 := by rw [← hF, zPu_k (by decide), zPu_k (by decide)]; exact Gb
    have hTF : pTB B L F g := ⟨t1, F1, t3, fun i hi => by rw [Fb]; exact t4 i hi⟩
    have c4 := yCl_4 (B s)
    rw [← m5] at c4
    have fin : ∀ R : zM, (R = zPu F 0 3 (nI e) ∧ c ≠ 2) ∨ (R = zPu (zPu F 0 3 (nI e)) 0 5 (yNk B s (e - s)) ∧ c = 2) → R 0 1 = gt 0 1 ∧ R 1 = gt 1 ∧ R 0 2 = nI s ∧ R 0 3 = nI e ∧ R 0 4 = nI c ∧ R 0 5 = (if c = 2 then yNk B s (e - s) else -1) := by
      rintro R (⟨rfl, hc⟩ | ⟨rfl, hc⟩)
      · refine ⟨?_, ?_, ?_, zPu_s, ?_, ?_⟩
        · rw [zPu_j (by decide), F1, t2]
        · rw [zPu_k (by decide), Fb]
        · rw [zPu_j (by decide), F2]
        · rw [zPu_j (by decide), F4]
        · rw [zPu_j (by decide), F5, if_neg hc]
      · refine ⟨?_, ?_, ?_, ?_, ?_, ?_⟩
        · rw [zPu_j (by decide), zPu_j (by decide), F1, t2]
        · rw [zPu_k (by decide), zPu_k (by decide), Fb]
        · rw [zPu_j (by decide), zPu_j (by decide), F2]
        · rw [zPu_j (by decide), zPu_s]
        · rw [zPu_j (by decide), zPu_j (by decide), F4]
        · rw [zPu_s, if_pos hc]
    have scan0 : zLp (fX7_step_L116 0) zFU F = some F := by
      obtain ⟨M, hM, -⟩ := y_fu 1 (by omega)
      rw [hM]
      apply y_lpr
      unfold fX7_step_L116
      rw [y_u1, if_pos rfl]
    rcases c4 with d | d | d | d
    · have hsc := s7_scan hTF m3 m4 m6 (m7 (Or.inl d)) F3 F4 (by omega)
      unfold fX7_step_J110 fX7_step_J115
      rw [F4, d, if_pos (show nI 1 = 1 from rfl), hsc, y_b1, y_u1, zPu_j (by decide), F4, d, if_neg (show ¬ nI 1 = 2 by decide)]
      refine ⟨_, rfl, ?_⟩
      have hfin := fin (zPu F 0 3 (nI e)) (Or.inl ⟨rfl, by omega⟩)
      rw [d] at hfin
      exact hfin
    · have hsc := s7_scan hTF m3 m4 m6 (m7 (Or.inr d)) F3 F4 (by omega)
      have hT2 : pTB B L (zPu F 0 3 (nI e)) g := ⟨t1, by rw [zPu_j (by decide)]; exact F1, t3, fun i hi => by rw [zPu_k (by decide), Fb]; exact t4 i hi⟩
      have hrn := s7_readNumber (gt := zPu F 0 3 (nI e)) hT2 m3 m4 (fun j h1 h2 => (m6 j h1 h2).trans d) (by rw [zPu_j (by decide)]; exact F2) zPu_s (by rw [zPu_j (by decide)]; exact F5)
      unfold fX7_step_J110 fX7_step_J115
      rw [F4, d, if_neg (show ¬ nI 2 = 1 by decide), if_pos (show nI 2 = 2 from rfl), hsc, y_b1, y_u1, zPu_j (by decide), F4, d, if_pos (show nI 2 = 2 from rfl), hrn, y_b1]
      refine ⟨_, rfl, ?_⟩
      have hfin := fin (zPu (zPu F 0 3 (nI e)) 0 5 (yNk B s (e - s))) (Or.inr ⟨rfl, d⟩)
      rw [d] at hfin
      exact hfin
    · have e1 : e = s + 1 := m8 (Or.inl d)
      unfold fX7_step_J115
      rw [F4, d, if_neg (show ¬ nI 3 = 1 by decide), if_neg (show ¬ nI 3 = 2 by decide), scan0, y_b1, y_u1, F4, d, if_neg (show ¬ nI 3 = 2 by decide)]
      refine ⟨_, rfl, ?_⟩
      have hfin := fin F (Or.inl ⟨by rw [e1, zPu_me F3], by omega⟩)
      rw [d] at hfin
      exact hfin
    · have e1 : e = s + 1 := m8 (Or.inr d)
      unfold fX7_step_J115
      rw [F4, d, if_neg (show ¬ nI 4 = 1 by decide), if_neg (show ¬ nI 4 = 2 by decide), scan0, y_b1, y_u1, F4, d, if_neg (show ¬ nI 4 = 2 by decide)]
      refine ⟨_, rfl, ?_⟩
      have hfin := fin F (Or.inl ⟨by rw [e1, zPu_me F3], by omega⟩)
      rw [d] at hfin
      exact hfin
