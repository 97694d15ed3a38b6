/-! ===== numbers ===== -/
theorem y_le {a b : Nat} (ha : a < 2147483648) (hb : b < 2147483648) : (nI a ≤ nI b) = (a ≤ b) := propext (nI_leI ha hb)
theorem y_lt {a b : Nat} (ha : a < 2147483648) (hb : b < 2147483648) : (nI a < nI b) = (a < b) := propext (nI_ltI ha hb)
theorem y_eq {a b : Nat} (ha : a < 2147483648) (hb : b < 2147483648) : (nI a = nI b) = (a = b) := propext (nI_eq ha hb)
theorem y_cl {k : Nat} (h : k < 2147483648) : (nI k).toNatClampNeg = k := nI_clamp h
theorem y_lit (k : Nat) : @OfNat.ofNat Int32 k Int32.instOfNat = nI (OfNat.ofNat k) := rfl
theorem y_add (a b : Nat) : nI a + nI b = nI (a + b) := nI_add a b
theorem y_mul (a b : Nat) : nI a * nI b = nI (a * b) := pk_mul a b
theorem y_sub {a b : Nat} (h : b ≤ a) : nI a - nI b = nI (a - b) := pk_sub h
theorem y_and (a b : Nat) : nI a &&& nI b = nI (a &&& b) := by
  unfold nI
  rw [← Int32.toBitVec_inj]
  simp [BitVec.ofNat_and]
theorem y_or (a b : Nat) : nI a ||| nI b = nI (a ||| b) := by
  unfold nI
  rw [← Int32.toBitVec_inj]
  simp [BitVec.ofNat_or]
theorem y_xor (a b : Nat) : nI a ^^^ nI b = nI (a ^^^ b) := by
  unfold nI
  rw [← Int32.toBitVec_inj]
  simp [BitVec.ofNat_xor]
theorem y_gd {α : Type} {b : Bool} {x : Option α} (h : b = true) : zGd b x = x := by unfold zGd; rw [if_pos h]
theorem y_in {k N : Nat} (h : k < N) (hk : k < 2147483648) : zIn (nI k) N = true := by
  unfold zIn
  rw [y_cl hk, Bool.and_eq_true, decide_eq_true_eq, decide_eq_true_eq]
  exact ⟨nI_pos' hk, h⟩
theorem y_gin {α : Type} {k N : Nat} {x : Option α} (h : k < N) (hk : k < 2147483648) : zGd (zIn (nI k) N) x = x := y_gd (y_in h hk)
theorem y_lt_e {α β : Type} (e : α) (f : α → β) : zLt e f = f e := rfl
theorem y_b1 {α γ : Type} (a : α) (f : α → Option γ) : zB1 (some a) f = f a := rfl
theorem y_b2 {α β γ : Type} (a : α) (b : β) (f : α → β → Option γ) : zB2 (some (a, b)) f = f a b := rfl
theorem y_b3 {α β δ γ : Type} (a : α) (b : β) (c : δ) (f : α → β → δ → Option γ) : zB3 (some (a, b, c)) f = f a b c := rfl
theorem y_b4 {α β δ ε γ : Type} (a : α) (b : β) (c : δ) (d : ε) (f : α → β → δ → ε → Option γ) : zB4 (some (a, b, c, d)) f = f a b c d := rfl
theorem y_b5 {α β δ ε ζ γ : Type} (a : α) (b : β) (c : δ) (d : ε) (e : ζ) (f : α → β → δ → ε → ζ → Option γ) : zB5 (some (a, b, c, d, e)) f = f a b c d e := rfl
theorem y_sml {α β γ : Type} (a : α) (f : α → γ) (g : β → γ) : zSm (.inl a) f g = f a := rfl
theorem y_smr {α β γ : Type} (b : β) (f : α → γ) (g : β → γ) : zSm (.inr b) f g = g b := rfl
theorem y_u0 {γ : Type} (z : Unit) (f : γ) : zU0 z f = f := rfl
theorem y_u1 {α γ : Type} (a : α) (f : α → γ) : zU1 a f = f a := rfl
theorem y_u2 {α β γ : Type} (a : α) (b : β) (f : α → β → γ) : zU2 (a, b) f = f a b := rfl
theorem y_u3 {α β δ γ : Type} (a : α) (b : β) (c : δ) (f : α → β → δ → γ) : zU3 (a, b, c) f = f a b c := rfl
theorem y_u4 {α β δ ε γ : Type} (a : α) (b : β) (c : δ) (d : ε) (f : α → β → δ → ε → γ) : zU4 (a, b, c, d) f = f a b c d := rfl
theorem y_u5 {α β δ ε ζ γ : Type} (a : α) (b : β) (c : δ) (d : ε) (e : ζ) (f : α → β → δ → ε → ζ → γ) : zU5 (a, b, c, d, e) f = f a b c d e := rfl
theorem y_if_t {α : Type} {c : Prop} {hd : Decidable c} {x y : α} (h : c) : (@ite _ c hd x y) = x := if_pos h
theorem y_if_f {α : Type} {c : Prop} {hd : Decidable c} {x y : α} (h : ¬ c) : (@ite _ c hd x y) = y := if_neg h
/-! ===== loops ===== -/
theorem y_lp {α β : Type} {body : α → Option (α ⊕ β)} (I : α → Prop) (μ : α → Nat) (Q : β → Prop) (h : ∀ a, I a → ∃ z, body a = some z ∧ zSm z (fun a' => I a' ∧ μ a' < μ a) Q) : ∀ (n : Nat) (a : α), I a → μ a < n → ∃ b, zLp body n a = some b ∧ Q b := by
  intro n
  induction n with
  | zero => intro a _ h1; omega
  | succ n ih =>
    intro a hI hm
    obtain ⟨z, hz, hq⟩ := h a hI
    unfold zLp
    rw [hz]
    cases z with
    | inl a' =>
      obtain ⟨h1, h2⟩ : I a' ∧ μ a' < μ a := hq
      exact ih a' h1 (by omega)
    | inr b => exact ⟨b, rfl, hq⟩
/-- a counting loop: from state e k x to state e (k+1) (f k x), up to N -/
theorem y_for {α β σ : Type} {body : α → Option (α ⊕ β)} (e : Nat → σ → α) (N : Nat) (I : Nat → σ → Prop) (Q : β → Prop) (hs : ∀ k x, k < N → I k x → ∃ y, body (e k x) = some (.inl (e (k + 1) y)) ∧ I (k + 1) y) (he : ∀ x, I N x → ∃ b, body (e N x) = some (.inr b) ∧ Q b) : ∀ (n k : Nat) (x : σ), k ≤ N → I k x → N - k < n → ∃ b, zLp body n (e k x) = some b ∧ Q b := by
  intro n
  induction n with
  | zero => intro k x _ _ h; omega
  | succ n ih =>
    intro k x hk hI hn
    unfold zLp
    by_cases h : k < N
    · obtain ⟨y, hy, hI'⟩ := hs k x h hI
      rw [hy]
      exact ih (k + 1) y (by omega) hI' (by omega)
    · have : k = N := by omega
      subst this
      obtain ⟨b, hb, hQ⟩ := he x hI
      rw [hb]
      exact ⟨b, rfl, hQ⟩
/-! ===== bits ===== -/
def ySd (a b : Nat) : Nat := a ^^^ (a &&& b)
theorem ySd_t (a b i : Nat) : (ySd a b).testBit i = (a.testBit i && !b.testBit i) := by
  unfold ySd
  rw [Nat.testBit_xor, Nat.testBit_and]
  cases a.testBit i <;> cases b.testBit i <;> rfl
def yPopK : Nat → Nat → Nat
  | 0, _ => 0
  | k + 1, a => a % 2 + yPopK k (a / 2)
def yPop (a : Nat) : Nat := yPopK 14 a
def yLb (a : Nat) : Nat := ((List.range 14).find? (fun i => a.testBit i)).getD 0
theorem y_shr {a k : Nat} (ha : a < 2147483648) (hk : k < 31) : nI a >>> (nI k &&& 31) = nI (a / 2 ^ k) := by
  have h : nI k &&& 31 = nI k := by
    rw [show (31 : Int32) = nI 31 from rfl, y_and, show (31 : Nat) = 2 ^ 5 - 1 from rfl, Nat.and_two_pow_sub_one_eq_mod, Nat.mod_eq_of_lt (by omega)]
  rw [h]
  refine pk_shrN ha (nI k) k ?_
  have : ∀ j, j < 31 → ((nI j).toBitVec.smod 32).toNat = j := by decide +kernel
  exact this k hk
theorem y_bit {a k : Nat} (ha : a < 2147483648) (hk : k < 31) : (nI a >>> (nI k &&& 31)) &&& 1 = nI (if a.testBit k then 1 else 0) := by
  rw [y_shr ha hk, show (1 : Int32) = nI 1 from rfl, y_and]
  congr 1
  rw [Nat.and_one_is_mod, Nat.testBit_eq_decide_div_mod_eq]
  have h2 := Nat.mod_two_eq_zero_or_one (a / 2 ^ k)
  rcases h2 with h | h <;> simp [h]
theorem y_bit0 {a k : Nat} (ha : a < 2147483648) (hk : k < 31) : ((nI a >>> (nI k &&& 31)) &&& 1 = 0) = (a.testBit k = false) := by
  rw [y_bit ha hk]
  cases a.testBit k <;> decide
theorem y_bit1 {a k : Nat} (ha : a < 2147483648) (hk : k < 31) : ((nI a >>> (nI k &&& 31)) &&& 1 = 1) = (a.testBit k = true) := by
  rw [y_bit ha hk]
  cases a.testBit k <;> decide
theorem y_one {k : Nat} (hk : k < 31) : (1 : Int32) <<< (nI k &&& 31) = nI (2 ^ k) := by
  have : ∀ j, j < 31 → (1 : Int32) <<< (nI j &&& 31) = nI (2 ^ j) := by decide +kernel
  exact this k hk
theorem y_all {n : Nat} (hn : n < 31) : (1 : Int32) <<< (nI n &&& 31) - 1 = nI (2 ^ n - 1) := by
  rw [y_one hn, show (1 : Int32) = nI 1 from rfl, y_sub (Nat.one_le_two_pow)]
theorem y_andn (a b : Nat) : nI a &&& (nI b ^^^ (-1)) = nI (ySd a b) := by
  have h1 : (-1 : Int32) = nI 4294967295 := by decide
  rw [h1, y_xor, y_and]
  unfold nI
  rw [← Int32.toBitVec_inj]
  simp only [Int32.toBitVec_ofNat']
  apply BitVec.eq_of_getLsbD_eq
  intro i hi
  rw [BitVec.getLsbD_ofNat, BitVec.getLsbD_ofNat, Nat.testBit_and, Nat.testBit_xor, ySd_t]
  have h2 : (4294967295 : Nat).testBit i = true := by
    have : ∀ j, j < 32 → (4294967295 : Nat).testBit j = true := by decide +kernel
    exact this i hi
  rw [h2]
  cases a.testBit i <;> cases b.testBit i <;> simp
theorem y_ushr {a : Nat} (ha : a < 2 ^ 32) (k : Nat) (hk : k < 32) : ((nI a).toUInt32 >>> ((nI k).toUInt32 &&& Int32.toUInt32 31)).toInt32 = nI (a / 2 ^ k) := by
  refine pk_ushrN ha (nI k) k ?_
  have : ∀ j, j < 32 → (((nI j).toUInt32 &&& Int32.toUInt32 31).toBitVec % 32).toNat = j := by decide +kernel
  exact this k hk
def yBc (a : Nat) : Nat :=
  let v1 := a - ((a / 2 ^ 1) &&& 1431655765)
  let v2 := (v1 &&& 858993459) + ((v1 / 2 ^ 2) &&& 858993459)
  let v3 := (v2 + v2 / 2 ^ 4) &&& 252645135
  let v4 := v3 + v3 / 2 ^ 8
  let v5 := v4 + v4 / 2 ^ 16
  v5 &&& 63
theorem y_bcN {a : Nat} (ha : a < 2 ^ 30) : fJ6_bitCount_0f7a4 (nI a) = some (nI (yBc a)) := by
  unfold fJ6_bitCount_0f7a4 yBc
  simp only [y_lt_e]
  have e1 : (1 : Int32) = nI 1 := rfl
  have e2 : (2 : Int32) = nI 2 := rfl
  have e4 : (4 : Int32) = nI 4 := rfl
  have e8 : (8 : Int32) = nI 8 := rfl
  have e16 : (16 : Int32) = nI 16 := rfl
  have c1 : (1431655765 : Int32) = nI 1431655765 := rfl
  have c2 : (858993459 : Int32) = nI 858993459 := rfl
  have c3 : (252645135 : Int32) = nI 252645135 := rfl
  have c4 : (63 : Int32) = nI 63 := rfl
  have hle1 : (a / 2 ^ 1) &&& 1431655765 ≤ a := Nat.le_trans Nat.and_le_left (Nat.div_le_self _ _)
  rw [e1, y_ushr (by omega) 1 (by omega), c1, y_and, y_sub hle1]
  generalize hv1 : a - ((a / 2 ^ 1) &&& 1431655765) = v1
  have b1 : v1 < 2 ^ 30 := by omega
  rw [c2, e2, y_ushr (by omega) 2 (by omega), y_and, y_and, y_add]
  have b2 : (v1 &&& 858993459) + ((v1 / 2 ^ 2) &&& 858993459) < 2 ^ 31 := by
    have g1 : v1 &&& 858993459 ≤ 858993459 := Nat.and_le_right
    have g2 : (v1 / 2 ^ 2) &&& 858993459 ≤ 858993459 := Nat.and_le_right
    omega
  generalize (v1 &&& 858993459) + ((v1 / 2 ^ 2) &&& 858993459) = v2 at b2 ⊢
  rw [e4, y_ushr (by omega) 4 (by omega), y_add, c3, y_and]
  have b3 : (v2 + v2 / 2 ^ 4) &&& 252645135 ≤ 252645135 := Nat.and_le_right
  generalize (v2 + v2 / 2 ^ 4) &&& 252645135 = v3 at b3 ⊢
  rw [e8, y_ushr (by omega) 8 (by omega), y_add]
  have b4 : v3 + v3 / 2 ^ 8 < 2 ^ 30 := by omega
  generalize v3 + v3 / 2 ^ 8 = v4 at b4 ⊢
  rw [e16, y_ushr (by omega) 16 (by omega), y_add, c4, y_and]
theorem y_bcK : (List.range 16384).all (fun a => Nat.beq (yBc a) (yPop a)) = true := by decide +kernel
/-- bitCount of up to 14 bits -/
theorem y_bc {a : Nat} (ha : a < 16384) : fJ6_bitCount_0f7a4 (nI a) = some (nI (yPop a)) := by
  rw [y_bcN (by omega), Nat.eq_of_beq_eq_true (List.all_eq_true.mp y_bcK a (List.mem_range.mpr ha))]
def yLbOk (a : Nat) : Bool := Nat.beq a 0 || ((a.testBit (yLb a)) && decide (yLb a < 14) && (List.range (yLb a)).all (fun j => !(a.testBit j)) && Nat.beq (a &&& (a - 1)) (ySd a (2 ^ yLb a)) && Nat.beq (yPop (ySd a (2 ^ yLb a)) + 1) (yPop a) && Nat.beq (a &&& (4294967296 - a)) (2 ^ yLb a))
theorem y_lbK : (List.range 16384).all yLbOk = true := by decide +kernel
