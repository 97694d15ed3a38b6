/-! ===== the tape ===== -/
def zSb (u : Nat) : Int32 := (nI u).toInt8.toInt32
theorem zSb_nar : ∀ u, u < 256 → vp_nar .byte (zSb u) = zSb u := by decide +kernel
theorem wb_cu : ∀ k, k < 64 → ((nI k).toInt64.toUInt64 &&& Int64.toUInt64 63) = UInt64.ofNat k := by decide +kernel
theorem y_255 : ∀ i, i < 64 → (255 : Int64).toBitVec.getLsbD i = decide (i < 8) := by decide +kernel
theorem y_byte (x : Int64) {k : Nat} (hk : k < 8) : ∃ u, u < 256 ∧ ((x >>> ((8 * nI k).toInt64 &&& 63)) &&& 255).toInt32 = nI u ∧ (((x.toUInt64 >>> ((8 * nI k).toInt64.toUInt64 &&& Int64.toUInt64 63)).toInt64).toInt32).toInt8.toInt32 = zSb u := by
  have e8 : (8 : Int32) * nI k = nI (8 * k) := y_mul 8 k
  refine ⟨x.toBitVec.toNat / 2 ^ (8 * k) % 2 ^ 8, Nat.mod_lt _ (by decide), ?_, ?_⟩
  · rw [e8, wb_c (8 * k) (by omega)]
    apply Int32.toBitVec_inj.mp
    rw [Int64.toBitVec_toInt32, Int64.toBitVec_and, Int64.toBitVec_shiftRight, wb_tb, wb_sm (8 * k) (by omega)]
    show _ = BitVec.ofNat 32 _
    apply BitVec.eq_of_getLsbD_eq
    intro i hi
    rw [BitVec.getLsbD_signExtend, decide_eq_true hi, Bool.true_and, if_pos (show i < 64 by omega), BitVec.getLsbD_and, y_255 i (by omega), BitVec.getLsbD_ofNat, decide_eq_true hi, Bool.true_and, Nat.testBit_mod_two_pow, Nat.testBit_div_two_pow]
    rw [BitVec.sshiftRight_eq', BitVec.toNat_ofNat, Nat.mod_eq_of_lt (show 8 * k < 2 ^ 64 by omega), BitVec.getLsbD_sshiftRight]
    by_cases c : i < 8
    · rw [decide_eq_true c, Bool.and_true, Bool.true_and, if_pos (show 8 * k + i < 64 by omega), decide_eq_false (show ¬ 64 ≤ i by omega)]
      rw [Nat.add_comm i]
      rfl
    · rw [decide_eq_false c, Bool.and_false, Bool.false_and]
  · rw [e8, wb_cu (8 * k) (by omega)]
    unfold zSb
    congr 1
    apply Int8.toBitVec_inj.mp
    rw [Int32.toBitVec_toInt8, Int32.toBitVec_toInt8, Int64.toBitVec_toInt32, UInt64.toBitVec_toInt64, UInt64.toBitVec_shiftRight]
    apply BitVec.eq_of_getLsbD_eq
    intro i hi
    rw [BitVec.getLsbD_signExtend, BitVec.getLsbD_signExtend, BitVec.getLsbD_signExtend, decide_eq_true hi, Bool.true_and, Bool.true_and, if_pos (show i < 32 by omega), if_pos (show i < 32 by omega), if_pos (show i < 64 by omega), decide_eq_true (show i < 32 by omega), Bool.true_and]
    show _ = (BitVec.ofNat 32 _).getLsbD i
    rw [BitVec.getLsbD_ofNat, decide_eq_true (show i < 32 by omega), Bool.true_and, Nat.testBit_mod_two_pow, Nat.testBit_div_two_pow, decide_eq_true hi, Bool.true_and]
    rw [show (UInt64.ofNat (8 * k)).toBitVec = BitVec.ofNat 64 (8 * k) from rfl, show (BitVec.ofNat 64 (8 * k) % 64) = BitVec.ofNat 64 (8 * k) from ?_, BitVec.ushiftRight_eq', BitVec.toNat_ofNat, Nat.mod_eq_of_lt (show 8 * k < 2 ^ 64 by omega), BitVec.getLsbD_ushiftRight, Nat.add_comm i]
    · rfl
    · have : ∀ j, j < 64 → (BitVec.ofNat 64 j % 64) = BitVec.ofNat 64 j := by decide +kernel
      exact this (8 * k) (by omega)
def pTB (B : Nat → Nat) (L : Nat) (gt g : zM) : Prop := L ≤ 200 ∧ gt 0 1 = nI L ∧ g 0 9 = nI L ∧ ∀ i, i < L → B i < 256 ∧ g 5 i = nI (B i) ∧ gt 1 i = zSb (B i)
def pT (gt g : zM) : Prop := ∃ B L, pTB B L gt g
theorem pT.eq {gt g g' : zM} (h : pT gt g) (e : eqT g g') : pT gt g' := by
  obtain ⟨B, L, h1, h2, h3, h4⟩ := h
  exact ⟨B, L, h1, h2, by rw [e.1]; exact h3, fun i hi => by rw [e.2]; exact h4 i hi⟩
def pFt (g g' : zM) : Prop := (∀ k, k ≠ 0 → k ≠ 5 → g' k = g k) ∧ ∀ j, j ≠ 9 → g' 0 j = g 0 j
theorem pTB_push {B : Nat → Nat} {L u : Nat} {gt g : zM} (h : pTB B L gt g) (hL : L < 200) (hu : u < 256) : pTB (fun i => if i = L then u else B i) (L + 1) (zPu (zPu gt 1 L (zSb u)) 0 1 (nI (L + 1))) (zPu (zPu g 5 L (nI u)) 0 9 (nI (L + 1))) := by
  refine ⟨by omega, zPu_s, zPu_s, fun i hi => ?_⟩
  rw [zPu_k (show (5 : Nat) ≠ 0 by decide), zPu_k (show (1 : Nat) ≠ 0 by decide)]
  show (if i = L then u else B i) < 256 ∧ _ = nI (if i = L then u else B i) ∧ _ = zSb (if i = L then u else B i)
  by_cases e : i = L
  · subst e; rw [if_pos rfl, zPu_s, zPu_s]; exact ⟨hu, rfl, rfl⟩
  · rw [if_neg e, zPu_j e, zPu_j e]; exact h.2.2.2 i (by omega)
theorem m_feed {gx gt g : zM} {gl : zL} (h : pT gt g) (x : Int64) (y : Int32) : ∃ r gt' g', fX9_feed gx gt x y = some (r, gt') ∧ fX10_feed g gl x y = some (r, g') ∧ pT gt' g' ∧ pFt g g' := by
  have hbad : ∀ {v : Int32}, ∃ r gt' g', some (v, gt) = some (r, gt') ∧ some (v, g) = some (r, g') ∧ pT gt' g' ∧ pFt g g' := fun {v} => ⟨v, gt, g, rfl, rfl, h, fun _ _ _ => rfl, fun _ _ => rfl⟩
  unfold fX9_feed fX10_feed fX7_take
  rcases y_rng y (L := 1) (M := 8) (l := 1) (m := 8) rfl rfl (by omega) (by omega) with ⟨n, n1, n2, rfl, e1, e2, e3, e4⟩ | ⟨e1, e2⟩
  · obtain ⟨B, L, hT⟩ := h
    have hT' := hT
    obtain ⟨t1, t2, t3, t4⟩ := hT'
    rw [e1, y_b1, if_neg (show ¬ (1 : Int32) = 0 by decide), if_neg e2, if_pos e4, t2, t3, y_add, show (200 : Int32) = nI 200 from rfl]
    by_cases c : L + n ≤ 200
    · rw [y_le_t c (by omega), y_le_t c (by omega)]
      obtain ⟨b, b', q1, q2, q3, q4⟩ := y_lk (body := fX7_take_L17 x (nI n)) (body' := fX10_feed_L30 x (nI n)) (fun s s' => ∃ k B gt' g', k ≤ n ∧ s = (nI k, gt') ∧ s' = (nI k, g') ∧ pTB B (L + k) gt' g' ∧ pFt g g') (fun s => 100 - s.1.toNatClampNeg) (fun b b' => (∃ B, pTB B (L + n) b b') ∧ pFt g b') (by
        rintro s s' ⟨k, B, gt', g', hk, rfl, rfl, hp, hf⟩
        obtain ⟨p1, p2, p3, p4⟩ := hp
        unfold fX7_take_L17 fX10_feed_L30
        rw [y_u2, y_u2]
        by_cases d : n ≤ k
        · right
          have : k = n := by omega
          subst this
          rw [y_le_t d (by omega), y_le_t d (by omega)]
          exact ⟨_, _, rfl, rfl, ⟨B, p1, p2, p3, p4⟩, hf⟩
        · left
          obtain ⟨u, u1, u2, u3⟩ := y_byte x (k := k) (by omega)
          rw [y_le_f (by omega) (by omega), y_le_f (by omega) (by omega), u2, u3, p2, p3]
          simp only [y_lt_e]
          rw [y_gin (by omega) (by omega), y_gin (by omega) (by omega), y_cl (by omega), zSb_nar u u1, zPu_k (by decide), zPu_k (by decide), p2, p3, y_a1, y_a1]
          refine ⟨_, _, rfl, rfl, ⟨k + 1, _, _, _, by omega, rfl, rfl, pTB_push (L := L + k) ⟨p1, p2, p3, p4⟩ (by omega) u1, ⟨fun k' h1 h2 => ?_, fun j hj => ?_⟩⟩, ?_⟩
          · rw [zPu_k h1, zPu_k h2]; exact hf.1 k' h1 h2
          · rw [zPu_j hj, zPu_k (by decide)]; exact hf.2 j hj
          · show 100 - (nI (k + 1)).toNatClampNeg < 100 - (nI k).toNatClampNeg
            rw [y_cl (by omega), y_cl (by omega)]; omega) zFU (0, gt) (0, g) ⟨0, B, gt, g, by omega, rfl, rfl, hT, fun _ _ _ => rfl, fun _ _ => rfl⟩ (by
          show 100 - (nI 0).toNatClampNeg < zFU
          unfold zFU; omega)
      obtain ⟨B', hB⟩ := q3
      rw [q1, y_b1, y_u1, y_b2, if_neg (show ¬ (1 : Int32) = 0 by decide), q2, y_b1, y_u1, hB.2.1, hB.2.2.1]
      exact ⟨_, _, _, rfl, rfl, ⟨_, _, hB⟩, q4⟩
    · rw [y_le_f (by omega) (by omega), y_le_f (by omega) (by omega), y_b2, if_pos rfl]
      exact ⟨_, _, _, rfl, rfl, ⟨B, L, hT⟩, fun _ _ _ => rfl, fun _ _ => rfl⟩
  · rw [e1, y_b1, if_pos rfl]
    rcases e2 with e2 | ⟨e2, -, e3⟩
    · rw [if_pos e2]; exact hbad
    · rw [if_neg e2, if_neg e3]; exact hbad
