/-! ===== sets that hold so many ===== -/
theorem yCnt_le (l : List Nat) (s : Nat) : ∀ p, yCnt l s p ≤ p
  | 0 => Nat.le_refl _
  | p + 1 => by
    have := yCnt_le l s p
    unfold yCnt
    split <;> omega
theorem s4_size {gp : zM} {n p : Nat} {l : List Nat} (hn : n ≤ 7) (hl : ∀ p, l.getD p 0 ≤ 7) (h : yPt gp 1 n l) (hp : p < n) : zLp (fX4_holds_L15 gp (nI p)) zFU (1, 0) = some (nI (yCnt l (l.getD p 0) p + 1)) := by
  have key : ∃ b, zLp (fX4_holds_L15 gp (nI p)) zFU ((fun k (x : Nat) => (nI x, nI k)) 0 1) = some b ∧ b = nI (yCnt l (l.getD p 0) p + 1) := by
    refine y_for (fun k (x : Nat) => (nI x, nI k)) p (fun k x => x = yCnt l (l.getD p 0) k + 1) _ ?_ ?_ zFU 0 1 (by omega) rfl (by unfold zFU; omega)
    · rintro k x hk rfl
      refine ⟨yCnt l (l.getD p 0) (k + 1) + 1, ?_, rfl⟩
      have hlk := hl k
      have hlp := hl p
      show fX4_holds_L15 gp (nI p) (nI (yCnt l (l.getD p 0) k + 1), nI k) = _
      unfold fX4_holds_L15 fX4_holds_L15J40
      rw [y_u2, y_le_f hk (by omega), y_gin (by omega) (by omega), y_lt_e, y_gin (by omega) (by omega), y_lt_e, y_lt_e, y_lt_e, y_lt_e, y_cl (by omega), y_cl (by omega), h k (by omega), h p hp, y_a1, y_a1, yCnt]
      by_cases c : l.getD k 0 = l.getD p 0
      · rw [y_eq_t c, if_pos c]
      · rw [y_eq_f c (by omega) (by omega), if_neg c]
    · rintro x rfl
      refine ⟨_, ?_, rfl⟩
      show fX4_holds_L15 gp (nI p) (nI (yCnt l (l.getD p 0) p + 1), nI p) = _
      unfold fX4_holds_L15
      rw [y_u2, y_le_t (by omega) (by omega)]
  obtain ⟨b, e, rfl⟩ := key
  exact e
theorem yHo_f {l : List Nat} {m p q : Nat} (h : p ≤ q) (hf : yHo l m p = false) : yHo l m q = false := by
  induction q with
  | zero => have : p = 0 := by omega
            subst this; exact hf
  | succ q ih =>
    by_cases e : p = q + 1
    · subst e; exact hf
    · unfold yHo; rw [ih (by omega)]; rfl
theorem s4_holds {gp : zM} {n m : Nat} {l : List Nat} (hn : n ≤ 7) (hm : m ≤ 10) (hl : ∀ p, l.getD p 0 ≤ 7) (h0 : gp 0 1 = nI n) (h : yPt gp 1 n l) : fX4_holds gp (nI m) = some (yBl (yHo l m n)) := by
  have key : ∃ b, zLp (fX4_holds_L2 (nI m) gp) zFU 0 = some b ∧ ((yHo l m n = true ∧ b = .inl ()) ∨ (yHo l m n = false ∧ b = .inr ())) := by
    refine y_lp (fun s => ∃ p, s = nI p ∧ p ≤ n ∧ yHo l m p = true) (fun s => 20 - s.toNatClampNeg) _ ?_ zFU 0 ⟨0, rfl, by omega, rfl⟩ (by unfold zFU; omega)
    rintro s ⟨p, rfl, hp, hH⟩
    unfold fX4_holds_L2
    rw [y_u1, h0]
    by_cases c : p < n
    · have hc := yCnt_le l (l.getD p 0) p
      rw [y_le_f c (by omega), s4_size hn hl h c, y_b1, y_u1]
      by_cases d : yCnt l (l.getD p 0) p + 1 ≤ m
      · rw [y_le_t d (by omega), y_lt_e, y_a1]
        refine ⟨_, rfl, ⟨p + 1, rfl, by omega, ?_⟩, by rw [y_cl (by omega), y_cl (by omega)]; omega⟩
        unfold yHo; rw [hH, decide_eq_true d]; rfl
      · rw [y_le_f (by omega) (by omega)]
        refine ⟨_, rfl, Or.inr ⟨yHo_f (p := p + 1) (by omega) ?_, rfl⟩⟩
        unfold yHo; rw [decide_eq_false d, Bool.and_false]
    · have e : p = n := by omega
      subst e
      rw [y_le_t (by omega) (by omega)]
      exact ⟨_, rfl, Or.inl ⟨hH, rfl⟩⟩
  obtain ⟨b, e, h⟩ := key
  unfold fX4_holds
  rw [e, y_b1]
  rcases h with ⟨h, rfl⟩ | ⟨h, rfl⟩ <;> rw [h] <;> rfl
theorem s10_isSmall {g : zM} {gl : zL} {n m : Nat} {l : List Nat} (hn : n ≤ 7) (hm : m ≤ 10) (hl : ∀ p, p < n → l.getD p 0 < n) (h0 : g 0 0 = nI n) (h : yPt g 11 n l) : ∃ g', fX10_isSmall g gl (nI m) = some (yBl (yHo l m n), g') ∧ ∀ k, k ≠ 12 → g' k = g k := by
  have k1 : ∃ b, zLp fX10_isSmall_L2 zFU ((fun k (x : zM) => (nI k, x)) 0 g) = some b ∧ ((∀ k, k ≠ 12 → b k = g k) ∧ ∀ s, s < n → b 12 s = 0) := by
    refine y_for (fun k (x : zM) => (nI k, x)) n (fun k x => (∀ k, k ≠ 12 → x k = g k) ∧ ∀ s, s < k → x 12 s = 0) _ ?_ ?_ zFU 0 g (by omega) ⟨fun _ _ => rfl, fun s hs => absurd hs (by omega)⟩ (by unfold zFU; omega)
    · rintro k x hk ⟨i1, i2⟩
      refine ⟨zPu x 12 k 0, ?_, fun m hm => by rw [zPu_k hm]; exact i1 m hm, fun s hs => ?_⟩
      · show fX10_isSmall_L2 (nI k, x) = _
        unfold fX10_isSmall_L2
        rw [y_u2, i1 0 (by omega), h0, y_le_f (by omega) (by omega), y_gin (by omega) (by omega), y_lt_e, y_lt_e, y_cl (by omega), y_a1]
      · by_cases e : s = k
        · subst e; rw [zPu_s]
        · rw [zPu_j e]; exact i2 s (by omega)
    · intro x hx
      refine ⟨x, ?_, hx⟩
      show fX10_isSmall_L2 (nI n, x) = _
      unfold fX10_isSmall_L2
      rw [y_u2, hx.1 0 (by omega), h0, y_le_t (by omega) (by omega)]
  obtain ⟨g1, e1, e2, e3⟩ := k1
  have k2 : ∃ b, zLp (fX10_isSmall_L25 (nI m)) zFU (0, g1) = some b ∧ ((yHo l m n = true ∧ ∃ g', b = .inl g' ∧ ∀ k, k ≠ 12 → g' k = g k) ∨ (yHo l m n = false ∧ ∃ g', b = .inr g' ∧ ∀ k, k ≠ 12 → g' k = g k)) := by
    refine y_lp (fun s => ∃ p x, s = (nI p, x) ∧ p ≤ n ∧ yHo l m p = true ∧ (∀ k, k ≠ 12 → x k = g k) ∧ ∀ s, s < n → x 12 s = nI (yCnt l s p)) (fun s => 20 - s.1.toNatClampNeg) _ ?_ zFU (0, g1) ⟨0, g1, rfl, by omega, rfl, e2, e3⟩ (by unfold zFU; show 20 - _ < _; omega)
    rintro s ⟨p, x, rfl, hp, hH, i1, i2⟩
    unfold fX10_isSmall_L25
    rw [y_u2, i1 0 (by omega), h0]
    by_cases c : p < n
    · have hlp := hl p c
      have hc := yCnt_le l (l.getD p 0) p
      have e11 : x 11 p = nI (l.getD p 0) := by rw [i1 11 (by omega)]; exact h p c
      have e11' : ∀ v j, zPu x 12 j v 11 p = nI (l.getD p 0) := fun v j => by rw [zPu_k (by omega)]; exact e11
      rw [y_le_f c (by omega), y_gin (by omega) (by omega), y_lt_e, y_cl (by omega), e11, y_gin (by omega) (by omega), y_lt_e, y_lt_e, y_gin (by omega) (by omega), y_lt_e, y_gin (by omega) (by omega), y_lt_e, y_cl (by omega), e11', y_gin (by omega) (by omega), y_lt_e, y_cl (by omega), zPu_s, i2 _ hlp, y_a1]
      have hx' : (∀ k, k ≠ 12 → zPu x 12 (l.getD p 0) (nI (yCnt l (l.getD p 0) p + 1)) k = g k) := fun k hk => by rw [zPu_k hk]; exact i1 k hk
      by_cases d : yCnt l (l.getD p 0) p + 1 ≤ m
      · rw [y_le_t d (by omega), y_lt_e, y_a1]
        refine ⟨_, rfl, ⟨p + 1, _, rfl, by omega, ?_, hx', ?_⟩, ?_⟩
        · unfold yHo; rw [hH, decide_eq_true d]; rfl
        · intro s hs
          rw [yCnt]
          by_cases e : s = l.getD p 0
          · rw [e, zPu_s, if_pos rfl]
          · rw [zPu_j e, if_neg (fun q => e q.symm)]; exact i2 s hs
        · show 20 - (nI (p + 1)).toNatClampNeg < 20 - p
          rw [y_cl (by omega)]; omega
      · rw [y_le_f (by omega) (by omega)]
        refine ⟨_, rfl, Or.inr ⟨yHo_f (p := p + 1) (by omega) ?_, _, rfl, hx'⟩⟩
        unfold yHo; rw [decide_eq_false d, Bool.and_false]
    · have e : p = n := by omega
      subst e
      rw [y_le_t (by omega) (by omega)]
      exact ⟨_, rfl, Or.inl ⟨hH, x, rfl, i1⟩⟩
  obtain ⟨b, f1, f2⟩ := k2
  unfold fX10_isSmall
  have e1' : zLp fX10_isSmall_L2 zFU (0, g) = some g1 := e1
  rw [e1', y_b1, y_u1, f1, y_b1]
  rcases f2 with ⟨h, g', rfl, hg'⟩ | ⟨h, g', rfl, hg'⟩
  · rw [h]; exact ⟨g', rfl, hg'⟩
  · rw [h]; exact ⟨g', rfl, hg'⟩
/-! ===== what is within ===== -/
def yWw (a : yA) (W : Nat → Bool) : Nat → Nat
  | 0 => 0
  | k + 1 => yWw a W k + (if W k then a 5 k else 0)
theorem yWw_bd {a : yA} (ok : yOk a) (W : Nat → Bool) : ∀ k, k ≤ a 0 1 → yWw a W k ≤ 99 * k
  | 0, _ => Nat.le_refl _
  | k + 1, hk => by
    have ih := yWw_bd ok W k (by omega)
    have o := ok.2.2.1 k (by omega)
    unfold yWw
    split <;> omega
theorem s4_worth {gp w : zM} {a : yA} (ok : yOk a) (hc : yC w a) (W : Nat → Bool) (hW : ∀ i, i < a 0 1 → fX4_isWithin gp w (nI i) = some (yBl (W i))) : fX4_worthWithin gp w = some (nI (yWw a W (a 0 1))) := by
  have h0 := ok.1
  have key : ∃ b, zLp (fX4_worthWithin_L4 gp w) zFU ((fun k (x : Nat) => (nI x, nI k)) 0 0) = some b ∧ b = nI (yWw a W (a 0 1)) := by
    refine y_for (fun k (x : Nat) => (nI x, nI k)) (a 0 1) (fun k x => x = yWw a W k) _ ?_ ?_ zFU 0 0 (by omega) rfl (by unfold zFU; omega)
    · rintro k x hk rfl
      refine ⟨yWw a W (k + 1), ?_, rfl⟩
      show fX4_worthWithin_L4 gp w (nI (yWw a W k), nI k) = _
      unfold fX4_worthWithin_L4 fX4_worthWithin_L4J30
      rw [y_u2, hc.1.2.1, y_le_f hk (by omega), hW k hk, y_b1, yWw]
      cases W k
      · rw [y_bl_f rfl, y_lt_e, y_a1]; rfl
      · rw [y_bl_t rfl, y_gin (by omega) (by omega), y_lt_e, y_lt_e, y_lt_e, y_cl (by omega), hc.2.2.2.2.2.1 k hk, y_add, y_a1]; rfl
    · rintro x rfl
      refine ⟨_, ?_, rfl⟩
      show fX4_worthWithin_L4 gp w (nI (yWw a W (a 0 1)), nI (a 0 1)) = _
      unfold fX4_worthWithin_L4
      rw [y_u2, hc.1.2.1, y_le_t (by omega) (by omega)]
  obtain ⟨b, e, rfl⟩ := key
  unfold fX4_worthWithin
  rw [show ((0, 0) : Int32 × Int32) = (fun k (x : Nat) => (nI x, nI k)) 0 0 from rfl, e, y_b1, y_u1]
def yWi (a : yA) (l : List Nat) (i : Nat) : Bool := decide (l.getD (a 3 i) 0 = l.getD (a 4 i) 0)
theorem s10_isWithin {g : zM} {gl : zL} {a : yA} {l : List Nat} (ok : yOk a) (hg : yG g a) (hl : ∀ p, l.getD p 0 ≤ 7) (h : yPt g 11 (a 0 0) l) {i : Nat} (hi : i < a 0 1) : fX10_isWithin g gl (nI i) = some (yBl (yWi a l i)) := by
  have h0 := ok.1
  have o := ok.2.2.1 i hi
  have l1 := hl (a 3 i)
  have l2 := hl (a 4 i)
  have i0 : fX10_its g gl (nI i) 0 = some (g 2 (5 * i + 0)) := s10_its (j := 0) (by omega) (by omega)
  have i1 : fX10_its g gl (nI i) 1 = some (g 2 (5 * i + 1)) := s10_its (j := 1) (by omega) (by omega)
  unfold fX10_isWithin yWi
  rw [i0, y_b1, Nat.add_zero, hg.2.2.2.1 i hi, y_gin (by omega) (by omega), y_lt_e, i1, y_b1, hg.2.2.2.2.1 i hi, y_gin (by omega) (by omega), y_lt_e, y_cl (by omega), y_cl (by omega), h _ (by omega), h _ (by omega)]
  by_cases e : l.getD (a 3 i) 0 = l.getD (a 4 i) 0
  · rw [y_eq_t e, decide_eq_true e]; rfl
  · rw [y_eq_f e (by omega) (by omega), decide_eq_false e]; rfl
theorem s4_isWithinL {gp w : zM} {a : yA} {l : List Nat} (ok : yOk a) (hc : yC w a) (hl : ∀ p, l.getD p 0 ≤ 7) (h : yPt gp 1 (a 0 0) l) {i : Nat} (hi : i < a 0 1) : fX4_isWithin gp w (nI i) = some (yBl (yWi a l i)) := by
  have o := ok.2.2.1 i hi
  have l1 := hl (a 3 i)
  have l2 := hl (a 4 i)
  rw [s4_isWithin ok hc hi, h _ (by omega), h _ (by omega)]
  unfold yWi
  congr 2
  exact decide_eq_decide.mpr (nI_eq (by omega) (by omega))
theorem s10_smallL {g : zM} {gl : zL} {a : yA} {l : List Nat} (ok : yOk a) (hg : yG g a) (hl : ∀ p, l.getD p 0 ≤ 7) (h : yPt g 11 (a 0 0) l) {o : Nat} (hO : o < 2 ^ 14) : ∃ g1 g', fX10_beginCut g gl = some g1 ∧ zLp (fX10_small_L63 gl (nI o)) zFU (0, g1) = some g' ∧ yKs g g' ∧ g' 11 = g 11 ∧ yCt g' (yCc a (fun i => o.testBit i && !yWi a l i) (a 0 1)) := by
  have h0 := ok.1
  obtain ⟨g1, b1, b2, b3, b4⟩ := s10_beginCut g gl
  generalize hcc : (fun i => o.testBit i && !yWi a l i) = cc
  have hcc' : ∀ i, cc i = (o.testBit i && !yWi a l i) := fun i => by rw [← hcc]
  have key : ∃ b, zLp (fX10_small_L63 gl (nI o)) zFU ((fun k (x : zM) => (nI k, x)) 0 g1) = some b ∧ (yKs g b ∧ b 11 = g 11 ∧ yCt b (yCc a cc (a 0 1))) := by
    refine y_for (fun k (x : zM) => (nI k, x)) (a 0 1) (fun k b => yKs g b ∧ b 11 = g 11 ∧ yCt b (yCc a cc k)) _ ?_ ?_ zFU 0 g1 (by omega) ⟨b2, b4, b3⟩ (by unfold zFU; omega)
    · rintro k x hk ⟨i1, i3, i2⟩
      have hg' := hg.ks i1
      have hpt : yPt x 11 (a 0 0) l := fun p hp => by rw [i3]; exact h p hp
      obtain ⟨g', c1, c2, c3, c4⟩ := s10_countCut (gl := gl) ok hg' hk i2
      have hck := hcc' k
      have st : fX10_small_L63 gl (nI o) (nI k, x) = if (o.testBit k = true) then (if yBl (yWi a l k) = 0 then some (.inl (nI (k + 1), g')) else some (.inl (nI (k + 1), x))) else some (.inl (nI (k + 1), x)) := by
        unfold fX10_small_L63 fX10_small_L63J97
        simp only [y_u2, hg'.1.2.1, y_le_f hk (show a 0 1 < 2147483648 by omega), y_bit1 (show o < 2147483648 by omega) (show k < 31 by omega), s10_isWithin ok hg' hl hpt hk, y_b1, c1, y_lt_e, y_a1]
      by_cases q : cc k = true
      · refine ⟨g', ?_, i1.tr c2, c4.trans i3, by rw [yCc, if_pos q]; exact c3⟩
        rw [hck, Bool.and_eq_true] at q
        show fX10_small_L63 gl (nI o) (nI k, x) = _
        rw [st, if_pos q.1, y_bl_f (by simpa using q.2)]
      · refine ⟨x, ?_, i1, i3, by rw [yCc, if_neg q]; exact i2⟩
        show fX10_small_L63 gl (nI o) (nI k, x) = _
        rw [st]
        by_cases d : o.testBit k = true
        · rw [if_pos d]
          rw [hck, d, Bool.true_and] at q
          rw [y_bl_t (by simpa using q)]
        · rw [if_neg d]
    · intro x hx
      refine ⟨x, ?_, hx⟩
      show fX10_small_L63 gl (nI o) (nI (a 0 1), x) = _
      unfold fX10_small_L63
      rw [y_u2, (hg.ks hx.1).1.2.1, y_le_t (by omega) (by omega)]
  obtain ⟨b, e, h⟩ := key
  exact ⟨g1, b, b1, e, h.1, h.2.1, h.2.2⟩
theorem s10_sitL {g : zM} {gl : zL} {a : yA} {l : List Nat} (ok : yOk a) (hg : yG g a) (hl : ∀ p, l.getD p 0 ≤ 7) (h : yPt g 11 (a 0 0) l) : zLp (fX10_sit_L54 gl g) zFU (0, 0) = some (nI (yWw a (yWi a l) (a 0 1))) := by
  have h0 := ok.1
  have key : ∃ b, zLp (fX10_sit_L54 gl g) zFU ((fun k (x : Nat) => (nI x, nI k)) 0 0) = some b ∧ b = nI (yWw a (yWi a l) (a 0 1)) := by
    refine y_for (fun k (x : Nat) => (nI x, nI k)) (a 0 1) (fun k x => x = yWw a (yWi a l) k) _ ?_ ?_ zFU 0 0 (by omega) rfl (by unfold zFU; omega)
    · rintro k x hk rfl
      refine ⟨yWw a (yWi a l) (k + 1), ?_, rfl⟩
      have i2 : fX10_its g gl (nI k) 2 = some (g 2 (5 * k + 2)) := s10_its (j := 2) (by omega) (by omega)
      show fX10_sit_L54 gl g (nI (yWw a (yWi a l) k), nI k) = _
      unfold fX10_sit_L54 fX10_sit_L54J85
      rw [y_u2, hg.1.2.1, y_le_f hk (by omega), s10_isWithin ok hg hl h hk, y_b1, i2, y_b1, hg.2.2.2.2.2.1 k hk, yWw]
      cases yWi a l k
      · rw [y_bl_f rfl, y_lt_e, y_lt_e, show (0 : Int32) = nI 0 from rfl, y_add, y_a1]; rfl
      · rw [y_bl_t rfl, y_lt_e, y_lt_e, y_add, y_a1]; rfl
    · rintro x rfl
      refine ⟨_, ?_, rfl⟩
      show fX10_sit_L54 gl g (nI (yWw a (yWi a l) (a 0 1)), nI (a 0 1)) = _
      unfold fX10_sit_L54
      rw [y_u2, hg.1.2.1, y_le_t (by omega) (by omega)]
  obtain ⟨b, e, rfl⟩ := key
  exact e
theorem s4_begin {gp : zM} {n : Nat} (hn : n ≤ 7) : ∃ gp', fX4_begin gp (nI n) = some (1, gp') ∧ gp' 0 1 = nI n ∧ yPt gp' 1 n (List.replicate n 0) := by
  unfold fX4_begin
  obtain ⟨t, t1, t2⟩ := sJ_fill (n := 10) (by omega) (fun _ => zPu gp 0 1 (nI n) 1) 0
  rw [y_lt_e, if_neg (show ¬ (10 : Int32) < nI n from fun e => by have : nI 10 < nI n := e; rw [y_lt (by omega) (by omega)] at this; omega), y_lt_e, t1, y_b1, y_lt_e]
  refine ⟨_, rfl, by rw [zPr_k (by omega), zPu_s], fun p hp => ?_⟩
  rw [zPr_s, t2, if_pos (by omega), List.getD_eq_getElem?_getD, List.getElem?_replicate, if_pos hp]; rfl
theorem s10_beginP {g : zM} {gl : zL} {n : Nat} (hn : n ≤ 7) : ∃ g', fX10_beginPartings g gl = some g' ∧ (∀ k, k ≠ 11 → g' k = g k) ∧ yPt g' 11 n (List.replicate n 0) := by
  have key : ∃ b, zLp fX10_beginPartings_L2 zFU ((fun k (x : zM) => (nI k, x)) 0 g) = some b ∧ ((∀ k, k ≠ 11 → b k = g k) ∧ ∀ p, p < 10 → b 11 p = 0) := by
    refine y_for (fun k (x : zM) => (nI k, x)) 10 (fun k b => (∀ k, k ≠ 11 → b k = g k) ∧ ∀ p, p < k → b 11 p = 0) _ ?_ ?_ zFU 0 g (by omega) ⟨fun _ _ => rfl, fun p hp => absurd hp (by omega)⟩ (by unfold zFU; omega)
    · rintro k x hk ⟨i1, i2⟩
      refine ⟨zPu x 11 k 0, ?_, fun m hm => by rw [zPu_k hm]; exact i1 m hm, fun p hp => ?_⟩
      · show fX10_beginPartings_L2 (nI k, x) = _
        unfold fX10_beginPartings_L2
        rw [y_u2, show (10 : Int32) = nI 10 from rfl, y_le_f (by omega) (by omega), y_gin (by omega) (by omega), y_lt_e, y_lt_e, y_cl (by omega), y_a1]
      · by_cases e : p = k
        · subst e; rw [zPu_s]
        · rw [zPu_j e]; exact i2 p (by omega)
    · intro x hx
      refine ⟨x, ?_, hx⟩
      show fX10_beginPartings_L2 (nI 10, x) = _
      unfold fX10_beginPartings_L2
      rw [y_u2, show (10 : Int32) = nI 10 from rfl, y_le_t (by omega) (by omega)]
  obtain ⟨b, e, h1, h2⟩ := key
  unfold fX10_beginPartings
  have e' : zLp fX10_beginPartings_L2 zFU (0, g) = some b := e
  rw [e', y_b1, y_u1]
  refine ⟨b, rfl, h1, fun p hp => ?_⟩
  rw [h2 p (by omega), List.getD_eq_getElem?_getD, List.getElem?_replicate, if_pos hp]; rfl
