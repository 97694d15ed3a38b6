/-! ===== partings ===== -/
def yMx (l : List Nat) : Nat → Nat
  | 0 => 0
  | p + 1 => if yMx l p < l.getD p 0 then l.getD p 0 else yMx l p
def yFd (l : List Nat) : Nat → Option Nat
  | 0 => none
  | p + 1 => if l.getD (p + 1) 0 ≤ yMx l (p + 1) then some (p + 1) else yFd l p
def yNxl (n : Nat) (l : List Nat) (p : Nat) : List Nat := (List.range n).map (fun q => if q < p then l.getD q 0 else if q = p then l.getD p 0 + 1 else 0)
def yNx (n : Nat) (l : List Nat) : Option (List Nat) := (yFd l (n - 1)).map (yNxl n l)
def yCnt (l : List Nat) (s : Nat) : Nat → Nat
  | 0 => 0
  | q + 1 => yCnt l s q + (if l.getD q 0 = s then 1 else 0)
def yHo (l : List Nat) (m : Nat) : Nat → Bool
  | 0 => true
  | p + 1 => yHo l m p && decide (yCnt l (l.getD p 0) p + 1 ≤ m)
def yChk (n : Nat) : Nat → List Nat → Bool
  | 0, _ => false
  | f + 1, l => l.all (fun x => Nat.blt x n) && ((yNx n l).elim (yHo l 1 n) (fun l' => yChk n f l'))
theorem yChkK : ((List.range 7).all fun n => yChk (n + 1) 877 (List.replicate (n + 1) 0)) = true := by decide +kernel
theorem yChk_0 {n : Nat} (h1 : 1 ≤ n) (h7 : n ≤ 7) : yChk n 877 (List.replicate n 0) = true := by
  have := List.all_eq_true.mp yChkK (n - 1) (List.mem_range.mpr (by omega))
  rw [Nat.sub_add_cancel h1] at this; exact this
theorem yChk_s {n f : Nat} {l : List Nat} (h : yChk n f l = true) : ∃ f', f = f' + 1 ∧ (∀ p, l.getD p 0 < n ∨ l.getD p 0 = 0) ∧ (yNx n l = none → yHo l 1 n = true) ∧ ∀ l', yNx n l = some l' → yChk n f' l' = true := by
  match f, h with
  | f + 1, h =>
    unfold yChk at h
    rw [Bool.and_eq_true] at h
    obtain ⟨h1, h2⟩ := h
    refine ⟨f, rfl, ?_, ?_, ?_⟩
    · intro p
      by_cases c : p < l.length
      · left
        rw [List.getD_eq_getElem?_getD, List.getElem?_eq_getElem c]
        have := List.all_eq_true.mp h1 _ (List.getElem_mem c)
        exact Nat.le_of_ble_eq_true this
      · right
        rw [List.getD_eq_getElem?_getD, List.getElem?_eq_none (by omega)]; rfl
    · intro e; rw [e] at h2; exact h2
    · intro l' e; rw [e] at h2; exact h2
theorem yHo_mono {l : List Nat} {m : Nat} (hm : 1 ≤ m) : ∀ p, yHo l 1 p = true → yHo l m p = true
  | 0, _ => rfl
  | p + 1, h => by
    unfold yHo at h ⊢
    rw [Bool.and_eq_true, decide_eq_true_eq] at h ⊢
    exact ⟨yHo_mono hm p h.1, by omega⟩
theorem yMx_le {l : List Nat} {N : Nat} (h : ∀ p, l.getD p 0 ≤ N) : ∀ p, yMx l p ≤ N
  | 0 => Nat.zero_le _
  | p + 1 => by
    unfold yMx
    split
    · exact h p
    · exact yMx_le h p
theorem yFd_s {l : List Nat} {m p : Nat} (h : yFd l m = some p) : 1 ≤ p ∧ p ≤ m := by
  induction m with
  | zero => cases h
  | succ m ih =>
    unfold yFd at h
    split at h
    · cases h; omega
    · have := ih h; omega
theorem yNxl_g {n : Nat} {l : List Nat} {p q : Nat} (hq : q < n) : (yNxl n l p).getD q 0 = if q < p then l.getD q 0 else if q = p then l.getD p 0 + 1 else 0 := by
  unfold yNxl
  rw [List.getD_eq_getElem?_getD, List.getElem?_map, List.getElem?_range hq]
  rfl
/-- the row of set numbers in a memory cell -/
def yPt (g : zM) (c n : Nat) (l : List Nat) : Prop := ∀ p, p < n → g c p = nI (l.getD p 0)
theorem s4_unused {gp : zM} {n p : Nat} {l : List Nat} (hn : n ≤ 7) (hl : ∀ p, l.getD p 0 ≤ 7) (h : yPt gp 1 n l) (hp1 : 1 ≤ p) (hp : p ≤ n) : fX4_unusedBefore gp (nI p) = some (nI (yMx l p + 1)) := by
  have key : ∃ b, zLp (fX4_unusedBefore_L4 (nI p) gp) zFU ((fun k (x : Int32) => (x, nI k)) 0 (-1)) = some b ∧ b = nI (yMx l p) := by
    refine y_for (fun k (x : Int32) => (x, nI k)) p (fun k x => (k = 0 ∧ x = -1) ∨ (0 < k ∧ x = nI (yMx l k))) _ ?_ ?_ zFU 0 (-1) (by omega) (Or.inl ⟨rfl, rfl⟩) (by unfold zFU; omega)
    · intro k x hk hx
      refine ⟨nI (yMx l (k + 1)), ?_, Or.inr ⟨by omega, rfl⟩⟩
      have hmx := yMx_le hl k
      have hlk := hl k
      show fX4_unusedBefore_L4 (nI p) gp (x, nI k) = _
      unfold fX4_unusedBefore_L4
      rw [y_u2, y_le_f hk (by omega), y_gin (by omega) (by omega), y_lt_e, y_cl (by omega), h k (by omega), y_lt_e, y_lt_e, y_a1]
      rcases hx with ⟨rfl, rfl⟩ | ⟨_, rfl⟩
      · rw [if_pos (show (-1 : Int32) < nI (l.getD 0 0) from by
          rw [Int32.lt_iff_toInt_lt, nI_toInt (by omega)]
          have : (-1 : Int32).toInt = -1 := rfl
          omega)]
        have : yMx l (0 + 1) = l.getD 0 0 := by
          unfold yMx yMx
          split
          · rfl
          · omega
        rw [this]
      · rw [yMx]
        by_cases c : yMx l k < l.getD k 0
        · rw [y_lt_t c (by omega), if_pos c]
        · rw [y_lt_f (by omega) (by omega), if_neg c]
    · intro x hx
      rcases hx with ⟨e, -⟩ | ⟨-, rfl⟩
      · omega
      · refine ⟨_, ?_, rfl⟩
        show fX4_unusedBefore_L4 (nI p) gp (nI (yMx l p), nI p) = _
        unfold fX4_unusedBefore_L4
        rw [y_u2, y_le_t (by omega) (by omega)]
  obtain ⟨b, e, rfl⟩ := key
  unfold fX4_unusedBefore
  show zB1 (zLp (fX4_unusedBefore_L4 (nI p) gp) zFU ((fun k (x : Int32) => (x, nI k)) 0 (-1))) _ = _
  rw [e, y_b1, y_u1, y_a1]
theorem s10_most {g : zM} {n p : Nat} {l : List Nat} (hn : n ≤ 7) (hl : ∀ p, l.getD p 0 ≤ 7) (h : yPt g 11 n l) (hp : p ≤ n) : zLp (fX10_nextParting_L15 g (nI p)) zFU (0, 0) = some (nI (yMx l p)) := by
  have key : ∃ b, zLp (fX10_nextParting_L15 g (nI p)) zFU ((fun k (x : Nat) => (nI x, nI k)) 0 0) = some b ∧ b = nI (yMx l p) := by
    refine y_for (fun k (x : Nat) => (nI x, nI k)) p (fun k x => x = yMx l k) _ ?_ ?_ zFU 0 0 (by omega) rfl (by unfold zFU; omega)
    · rintro k x hk rfl
      refine ⟨yMx l (k + 1), ?_, rfl⟩
      have hmx := yMx_le hl k
      have hlk := hl k
      show fX10_nextParting_L15 g (nI p) (nI (yMx l k), nI k) = _
      unfold fX10_nextParting_L15 fX10_nextParting_L15J40
      rw [y_u2, y_le_f hk (by omega), y_gin (by omega) (by omega), y_lt_e, y_gin (by omega) (by omega), y_lt_e, y_lt_e, y_lt_e, y_cl (by omega), h k (by omega), y_a1, yMx]
      by_cases c : yMx l k < l.getD k 0
      · rw [y_le_f c (by omega), if_pos c]
      · rw [y_le_t (by omega) (by omega), if_neg c]
    · rintro x rfl
      refine ⟨_, ?_, rfl⟩
      show fX10_nextParting_L15 g (nI p) (nI (yMx l p), nI p) = _
      unfold fX10_nextParting_L15
      rw [y_u2, y_le_t (by omega) (by omega)]
  obtain ⟨b, e, rfl⟩ := key
  exact e
theorem s4_find {gp : zM} {n : Nat} {l : List Nat} (h1 : 1 ≤ n) (hn : n ≤ 7) (hl : ∀ p, l.getD p 0 ≤ 7) (h : yPt gp 1 n l) : zLp (fX4_advance_L7 gp) zFU (nI (n - 1)) = some ((yFd l (n - 1)).elim (.inl ()) (fun p => .inr (nI p))) := by
  have key : ∃ b, zLp (fX4_advance_L7 gp) zFU (nI (n - 1)) = some b ∧ b = (yFd l (n - 1)).elim (.inl ()) (fun p => .inr (nI p)) := by
    refine y_lp (fun s => ∃ m, s = nI m ∧ m < n ∧ yFd l m = yFd l (n - 1)) (fun s => s.toNatClampNeg) _ ?_ zFU _ ⟨n - 1, rfl, by omega, rfl⟩ (by rw [y_cl (by omega)]; unfold zFU; omega)
    rintro s ⟨m, rfl, hm, hF⟩
    unfold fX4_advance_L7
    rw [y_u1]
    match m, hm, hF with
    | 0, hm, hF =>
      rw [if_pos (show nI 0 ≤ 0 by decide)]
      refine ⟨_, rfl, ?_⟩
      show Sum.inl () = _
      rw [← hF]; rfl
    | m + 1, hm, hF =>
      have hmx := yMx_le hl (m + 1)
      have hlk := hl (m + 1)
      rw [if_neg (show ¬ nI (m + 1) ≤ 0 from fun e => by have : nI (m + 1) ≤ nI 0 := e; rw [y_le (by omega) (by omega)] at this; omega), y_gin (by omega) (by omega), y_lt_e, y_cl (by omega), h _ hm, s4_unused hn hl h (by omega) (by omega), y_b1]
      rw [yFd] at hF
      by_cases c : l.getD (m + 1) 0 ≤ yMx l (m + 1)
      · rw [y_le_f (by omega) (by omega)]
        rw [if_pos c] at hF
        refine ⟨_, rfl, ?_⟩
        show Sum.inr (nI (m + 1)) = _
        rw [← hF]; rfl
      · rw [y_le_t (by omega) (by omega), y_lt_e, y_m1, y_s1n]
        rw [if_neg c] at hF
        exact ⟨_, rfl, ⟨m, rfl, by omega, hF⟩, by rw [y_cl (by omega)]; omega⟩
  obtain ⟨b, e, rfl⟩ := key
  exact e
theorem s10_find {g : zM} {n : Nat} {l : List Nat} (h1 : 1 ≤ n) (hn : n ≤ 7) (hl : ∀ p, l.getD p 0 ≤ 7) (h : yPt g 11 n l) : zLp (fX10_nextParting_L7 g) zFU (nI (n - 1)) = some ((yFd l (n - 1)).elim (.inl ()) (fun p => .inr (nI p))) := by
  have key : ∃ b, zLp (fX10_nextParting_L7 g) zFU (nI (n - 1)) = some b ∧ b = (yFd l (n - 1)).elim (.inl ()) (fun p => .inr (nI p)) := by
    refine y_lp (fun s => ∃ m, s = nI m ∧ m < n ∧ yFd l m = yFd l (n - 1)) (fun s => s.toNatClampNeg) _ ?_ zFU _ ⟨n - 1, rfl, by omega, rfl⟩ (by rw [y_cl (by omega)]; unfold zFU; omega)
    rintro s ⟨m, rfl, hm, hF⟩
    unfold fX10_nextParting_L7
    rw [y_u1]
    match m, hm, hF with
    | 0, hm, hF =>
      rw [if_pos (show nI 0 ≤ 0 by decide)]
      refine ⟨_, rfl, ?_⟩
      show Sum.inl () = _
      rw [← hF]; rfl
    | m + 1, hm, hF =>
      have hmx := yMx_le hl (m + 1)
      have hlk := hl (m + 1)
      rw [if_neg (show ¬ nI (m + 1) ≤ 0 from fun e => by have : nI (m + 1) ≤ nI 0 := e; rw [y_le (by omega) (by omega)] at this; omega), s10_most hn hl h (by omega), y_b1, y_u1, y_gin (by omega) (by omega), y_lt_e, y_cl (by omega), h _ hm]
      rw [yFd] at hF
      by_cases c : l.getD (m + 1) 0 ≤ yMx l (m + 1)
      · rw [y_lt_f (by omega) (by omega)]
        rw [if_pos c] at hF
        refine ⟨_, rfl, ?_⟩
        show Sum.inr (nI (m + 1)) = _
        rw [← hF]; rfl
      · rw [y_lt_t (by omega) (by omega), y_lt_e, y_m1, y_s1n]
        rw [if_neg c] at hF
        exact ⟨_, rfl, ⟨m, rfl, by omega, hF⟩, by rw [y_cl (by omega)]; omega⟩
  obtain ⟨b, e, rfl⟩ := key
  exact e
theorem s4_zero {gp : zM} {n p : Nat} (hn : n ≤ 7) (hp : p ≤ n) (h : gp 0 1 = nI n) : ∃ gp', zLp fX4_advance_L39 zFU (nI p, gp) = some gp' ∧ gp' 0 = gp 0 ∧ (∀ q, q < p → gp' 1 q = gp 1 q) ∧ ∀ q, p ≤ q → q < n → gp' 1 q = 0 := by
  have key := y_for (body := fX4_advance_L39) (fun k (x : zM) => (nI k, x)) n (fun k x => p ≤ k ∧ x 0 = gp 0 ∧ (∀ q, q < p → x 1 q = gp 1 q) ∧ ∀ q, p ≤ q → q < k → x 1 q = 0) (fun b => b 0 = gp 0 ∧ (∀ q, q < p → b 1 q = gp 1 q) ∧ ∀ q, p ≤ q → q < n → b 1 q = 0) (by
    rintro k x hk ⟨kp, i1, i2, i3⟩
    refine ⟨zPu x 1 k 0, ?_, by omega, ?_, ?_, ?_⟩
    · show fX4_advance_L39 (nI k, x) = _
      unfold fX4_advance_L39
      rw [y_u2, i1, h, y_le_f (by omega) (by omega), y_gin (by omega) (by omega), y_lt_e, y_lt_e, y_cl (by omega), y_a1]
    · rw [zPu_k (by omega)]; exact i1
    · intro q hq; rw [zPu_j (by omega)]; exact i2 q hq
    · intro q h1 h2
      by_cases e : q = k
      · subst e; rw [zPu_s]
      · rw [zPu_j e]; exact i3 q h1 (by omega)) (by
    intro x hx
    refine ⟨x, ?_, hx.2⟩
    show fX4_advance_L39 (nI n, x) = _
    unfold fX4_advance_L39
    rw [y_u2, hx.2.1, h, y_le_t (by omega) (by omega)]) zFU p gp hp ⟨Nat.le_refl _, rfl, fun _ _ => rfl, fun q h1 h2 => absurd h2 (by omega)⟩ (by unfold zFU; omega)
  exact key
theorem s10_zero {g : zM} {n p : Nat} (hn : n ≤ 7) (hp : p ≤ n) (h : g 0 0 = nI n) : ∃ g', zLp fX10_nextParting_L71 zFU (nI p, g) = some g' ∧ (∀ k, k ≠ 11 → g' k = g k) ∧ (∀ q, q < p → g' 11 q = g 11 q) ∧ ∀ q, p ≤ q → q < n → g' 11 q = 0 := by
  have key := y_for (body := fX10_nextParting_L71) (fun k (x : zM) => (nI k, x)) n (fun k x => p ≤ k ∧ (∀ k, k ≠ 11 → x k = g k) ∧ (∀ q, q < p → x 11 q = g 11 q) ∧ ∀ q, p ≤ q → q < k → x 11 q = 0) (fun b => (∀ k, k ≠ 11 → b k = g k) ∧ (∀ q, q < p → b 11 q = g 11 q) ∧ ∀ q, p ≤ q → q < n → b 11 q = 0) (by
    rintro k x hk ⟨kp, i1, i2, i3⟩
    refine ⟨zPu x 11 k 0, ?_, by omega, ?_, ?_, ?_⟩
    · show fX10_nextParting_L71 (nI k, x) = _
      unfold fX10_nextParting_L71
      rw [y_u2, i1 0 (by omega), h, y_le_f (by omega) (by omega), y_gin (by omega) (by omega), y_lt_e, y_lt_e, y_cl (by omega), y_a1]
    · intro m hm; rw [zPu_k hm]; exact i1 m hm
    · intro q hq; rw [zPu_j (by omega)]; exact i2 q hq
    · intro q h1 h2
      by_cases e : q = k
      · subst e; rw [zPu_s]
      · rw [zPu_j e]; exact i3 q h1 (by omega)) (by
    intro x hx
    refine ⟨x, ?_, hx.2⟩
    show fX10_nextParting_L71 (nI n, x) = _
    unfold fX10_nextParting_L71
    rw [y_u2, hx.2.1 0 (by omega), h, y_le_t (by omega) (by omega)]) zFU p g hp ⟨Nat.le_refl _, fun _ _ => rfl, fun _ _ => rfl, fun q h1 h2 => absurd h2 (by omega)⟩ (by unfold zFU; omega)
  exact key
theorem s4_advance {gp : zM} {n : Nat} {l : List Nat} (h1 : 1 ≤ n) (hn : n ≤ 7) (hl : ∀ p, l.getD p 0 ≤ 7) (h0 : gp 0 1 = nI n) (h : yPt gp 1 n l) : (yNx n l = none ∧ fX4_advance gp = some (0, gp)) ∨ ∃ l' gp', yNx n l = some l' ∧ fX4_advance gp = some (1, gp') ∧ gp' 0 1 = nI n ∧ yPt gp' 1 n l' := by
  unfold fX4_advance yNx
  rw [h0, y_lt_e, y_s1 h1, s4_find h1 hn hl h, y_b1]
  cases e : yFd l (n - 1) with
  | none => left; exact ⟨rfl, rfl⟩
  | some p =>
    right
    obtain ⟨p1, p2⟩ := yFd_s e
    have hlp := hl p
    show ∃ l' gp', _ ∧ (zSm (Sum.inr (nI p)) _ _) = _ ∧ _
    rw [y_smr, y_u1, y_gin (by omega) (by omega), y_lt_e, y_lt_e, y_gin (by omega) (by omega), y_lt_e, y_lt_e, y_cl (by omega), h p (by omega), y_a1, y_a1]
    obtain ⟨gp', z1, z2, z3, z4⟩ := s4_zero (gp := zPu gp 1 p (nI (l.getD p 0 + 1))) (n := n) (p := p + 1) hn (by omega) (by rw [zPu_k (by omega)]; exact h0)
    rw [z1, y_b1, y_u1]
    refine ⟨yNxl n l p, gp', rfl, rfl, by rw [z2, zPu_k (by omega)]; exact h0, ?_⟩
    intro q hq
    rw [yNxl_g hq]
    by_cases c : q < p
    · rw [if_pos c, z3 q (by omega), zPu_j (by omega)]; exact h q hq
    · rw [if_neg c]
      by_cases d : q = p
      · subst d; rw [if_pos rfl, z3 q (by omega), zPu_s]
      · rw [if_neg d, z4 q (by omega) hq]; rfl
theorem s10_next {g : zM} {gl : zL} {n : Nat} {l : List Nat} (h1 : 1 ≤ n) (hn : n ≤ 7) (hl : ∀ p, l.getD p 0 ≤ 7) (h0 : g 0 0 = nI n) (h : yPt g 11 n l) : (yNx n l = none ∧ fX10_nextParting g gl = some (0, g)) ∨ ∃ l' g', yNx n l = some l' ∧ fX10_nextParting g gl = some (1, g') ∧ (∀ k, k ≠ 11 → g' k = g k) ∧ yPt g' 11 n l' := by
  unfold fX10_nextParting yNx
  rw [h0, y_lt_e, y_s1 h1, s10_find h1 hn hl h, y_b1]
  cases e : yFd l (n - 1) with
  | none => left; exact ⟨rfl, rfl⟩
  | some p =>
    right
    obtain ⟨p1, p2⟩ := yFd_s e
    have hlp := hl p
    show ∃ l' g', _ ∧ (zSm (Sum.inr (nI p)) _ _) = _ ∧ _
    rw [y_smr, y_u1, y_gin (by omega) (by omega), y_lt_e, y_lt_e, y_gin (by omega) (by omega), y_lt_e, y_lt_e, y_cl (by omega), h p (by omega), y_a1, y_a1]
    obtain ⟨g', z1, z2, z3, z4⟩ := s10_zero (g := zPu g 11 p (nI (l.getD p 0 + 1))) (n := n) (p := p + 1) hn (by omega) (by rw [zPu_k (by omega)]; exact h0)
    rw [z1, y_b1, y_u1]
    refine ⟨yNxl n l p, g', rfl, rfl, fun k hk => by rw [z2 k hk, zPu_k hk], ?_⟩
    intro q hq
    rw [yNxl_g hq]
    by_cases c : q < p
    · rw [if_pos c, z3 q (by omega), zPu_j (by omega)]; exact h q hq
    · rw [if_neg c]
      by_cases d : q = p
      · subst d; rw [if_pos rfl, z3 q (by omega), zPu_s]
      · rw [if_neg d, z4 q (by omega) hq]; rfl
