/-! ===== long numbers (wb_ rows from kit/laws/BITS.to-paste) ===== -/
theorem wb_tb (n : Nat) : (lN n).toBitVec = BitVec.ofNat 64 n := rfl
theorem wb_inj {a b : Int64} (h : a.toBitVec = b.toBitVec) : a = b := Int64.toBitVec_inj.mp h
theorem wb_c : ∀ k, k < 64 → ((nI k).toInt64 &&& 63) = lN k := by decide +kernel
theorem wb_sm : ∀ k, k < 64 → (BitVec.ofNat 64 k).smod 64 = BitVec.ofNat 64 k := by decide +kernel
theorem wb_shl (n : Nat) {k : Nat} (hk : k < 64) : lN n <<< ((nI k).toInt64 &&& 63) = lN (n * 2 ^ k) := by
  rw [wb_c k hk]
  apply wb_inj
  rw [Int64.toBitVec_shiftLeft, wb_tb, wb_tb, wb_tb, wb_sm k hk]
  apply BitVec.eq_of_toNat_eq
  rw [BitVec.shiftLeft_eq', BitVec.toNat_shiftLeft, BitVec.toNat_ofNat, BitVec.toNat_ofNat, BitVec.toNat_ofNat, Nat.mod_eq_of_lt (show k < 2 ^ 64 by omega), Nat.shiftLeft_eq, Nat.mul_mod, Nat.mod_mod, ← Nat.mul_mod]
theorem y_cmp_t {α : Type} {k : Nat} {hd : Decidable (lg_cmp (lN k) 0 = 0)} {x y : α} (h : k = 0) : (@ite _ (lg_cmp (lN k) 0 = 0) hd x y) = x := if_pos ((lg_cmp_eq _ _).mpr (by rw [h]; rfl))
theorem y_cmp_f {α : Type} {k : Nat} {hd : Decidable (lg_cmp (lN k) 0 = 0)} {x y : α} (h : k ≠ 0) (hk : k < 2 ^ 63) : (@ite _ (lg_cmp (lN k) 0 = 0) hd x y) = y := if_neg (fun z => h ((pk_lEQ (b := 0) hk (by omega)).mp ((lg_cmp_eq _ _).mp z)))
theorem y_nz {k : Nat} (h : k ≠ 0) (hk : k < 2 ^ 63) : zNzL (lN k) = true := decide_eq_true (fun z => h ((pk_lEQ (b := 0) hk (by omega)).mp z))
theorem y_eucE {x i N N' : Nat} (hi : i < 200) : zLp fX9_partOf_L9 (N + 1) (lN x, lN 0, nI i) = some (lN x) ∧ zLp fX10_lowest_L6 (N' + 1) (lN x, lN 0) = some (lN x) := by
  constructor
  · apply y_lpr
    unfold fX9_partOf_L9
    rw [y_u3, show (200 : Int32) = nI 200 from rfl, y_le_f hi (by omega), y_cmp_t rfl]
  · apply y_lpr
    unfold fX10_lowest_L6
    rw [y_u2, y_cmp_t rfl]
theorem y_eucS {x y i N N' : Nat} (hi : i < 200) (hx : x < 2 ^ 63) (hy : y < 2 ^ 63) (h0 : y ≠ 0) : zLp fX9_partOf_L9 (N + 1) (lN x, lN y, nI i) = zLp fX9_partOf_L9 N (lN y, lN (x % y), nI (i + 1)) ∧ zLp fX10_lowest_L6 (N' + 1) (lN x, lN y) = zLp fX10_lowest_L6 N' (lN y, lN (x % y)) := by
  constructor
  · apply y_lpl
    unfold fX9_partOf_L9
    rw [y_u3, show (200 : Int32) = nI 200 from rfl, y_le_f hi (by omega), y_cmp_f h0 hy, y_gd (y_nz h0 hy), y_lt_e, y_lt_e, pk_lRem hx (by omega) hy, y_a1]
  · apply y_lpl
    unfold fX10_lowest_L6
    rw [y_u2, y_cmp_f h0 hy, y_gd (y_nz h0 hy), y_lt_e, pk_lRem hx (by omega) hy]
theorem y_euc : ∀ (k x y i N N' : Nat), y ≤ x → x < 2 ^ 63 → x ≠ 0 → x * y < 2 ^ k → i + k < 200 → k < N → k < N' → ∃ G, G ≠ 0 ∧ G < 2 ^ 63 ∧ zLp fX9_partOf_L9 N (lN x, lN y, nI i) = some (lN G) ∧ zLp fX10_lowest_L6 N' (lN x, lN y) = some (lN G) := by
  intro k
  induction k with
  | zero =>
    intro x y i N N' h1 h2 h3 h4 h5 h6 h7
    have hy : y = 0 := by
      rcases Nat.eq_zero_or_pos y with h | h
      · exact h
      · have : 1 ≤ x * y := Nat.mul_pos (by omega) h
        omega
    subst hy
    obtain ⟨M, rfl⟩ : ∃ M, N = M + 1 := ⟨N - 1, by omega⟩
    obtain ⟨M', rfl⟩ : ∃ M, N' = M + 1 := ⟨N' - 1, by omega⟩
    exact ⟨x, h3, h2, (y_eucE (N' := 0) (by omega)).1, (y_eucE (N := 0) (i := 0) (by omega)).2⟩
  | succ k ih =>
    intro x y i N N' h1 h2 h3 h4 h5 h6 h7
    obtain ⟨M, rfl⟩ : ∃ M, N = M + 1 := ⟨N - 1, by omega⟩
    obtain ⟨M', rfl⟩ : ∃ M, N' = M + 1 := ⟨N' - 1, by omega⟩
    rcases Nat.eq_zero_or_pos y with h | h
    · subst h
      exact ⟨x, h3, h2, (y_eucE (N' := 0) (by omega)).1, (y_eucE (N := 0) (i := 0) (by omega)).2⟩
    · have hr : x % y < y := Nat.mod_lt _ h
      have hx2 : 2 * (x % y) ≤ x := by
        have e := Nat.div_add_mod x y
        have : 1 ≤ x / y := (Nat.one_le_div_iff h).mpr h1
        have : y * 1 ≤ y * (x / y) := Nat.mul_le_mul_left y this
        omega
      have hp : y * (x % y) < 2 ^ k := by
        have e : y * (2 * (x % y)) ≤ y * x := Nat.mul_le_mul_left y hx2
        rw [Nat.mul_left_comm, Nat.mul_comm y x] at e
        rw [Nat.pow_succ] at h4
        omega
      obtain ⟨G, g1, g2, g3, g4⟩ := ih y (x % y) (i + 1) M M' (by omega) (by omega) (by omega) hp (by omega) (by omega) (by omega)
      have e := y_eucS (x := x) (y := y) (i := i) (N := M) (N' := M') (by omega) h2 (by omega) (by omega)
      exact ⟨G, g1, g2, by rw [e.1]; exact g3, by rw [e.2]; exact g4⟩
theorem y_fu (k : Nat) (h : k ≤ 1000) : ∃ M, zFU = M + 1 ∧ k < M := ⟨99999999, rfl, by omega⟩
theorem s9_partOf {x y : Nat} (c : Int32) (hx : x < 2 ^ 50) (hy : y < 2 ^ 50) (h0 : y ≠ 0) (g : zM) (gl : zL) : ∃ u v gl', fX9_partOf (lN x) (lN y) c = some (if c = 0 then u else v) ∧ fX10_lowest g gl (lN x) (lN y) = some gl' ∧ gl' 0 25 = u ∧ gl' 0 26 = v ∧ ∀ k, k ≠ 0 → gl' k = gl k := by
  obtain ⟨M, hM, hM2⟩ := y_fu 1000 (by omega)
  have hr : x % y < y := Nat.mod_lt _ (by omega)
  have hp : y * (x % y) < 2 ^ 100 := by
    have : y * (x % y) < 2 ^ 50 * 2 ^ 50 := Nat.mul_lt_mul'' hy (by omega)
    rw [← Nat.pow_add] at this
    exact this
  obtain ⟨G, g1, g2, g3, g4⟩ := y_euc 100 y (x % y) 1 M M (by omega) (by omega) h0 hp (by omega) (by omega) (by omega)
  have e := y_eucS (x := x) (y := y) (i := 0) (N := M) (N' := M) (by omega) (by omega) (by omega) h0
  have e1 : zLp fX9_partOf_L9 zFU (lN x, lN y, 0) = some (lN G) := by rw [hM]; exact e.1.trans g3
  have e2 : zLp fX10_lowest_L6 zFU (lN x, lN y) = some (lN G) := by rw [hM]; exact e.2.trans g4
  refine ⟨lN x / lN G, lN y / lN G, zPuL (zPuL gl 0 25 (lN x / lN G)) 0 26 (lN y / lN G), ?_, ?_, ?_, zPuL_s, fun k hk => ?_⟩
  · unfold fX9_partOf
    rw [e1, y_b1, y_u1, y_cmp_f g1 g2, y_gd (y_nz g1 g2), y_gd (y_nz g1 g2)]
    by_cases c0 : c = 0
    · rw [if_pos c0, if_pos c0]
    · rw [if_neg c0, if_neg c0]
  · unfold fX10_lowest
    rw [e2, y_b1, y_u1, y_gd (y_nz g1 g2), y_lt_e, y_lt_e, y_gd (y_nz g1 g2), y_lt_e, y_lt_e]
  · rw [zPuL_j (by decide), zPuL_s]
  · rw [zPuL_k hk, zPuL_k hk]
