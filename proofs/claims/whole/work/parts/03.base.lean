/-! ===== pure words: memories of groups of cells, guards, loops ===== -/
abbrev zM : Type := Nat → Nat → Int32
abbrev zL : Type := Nat → Nat → Int64
def zFU : Nat := 100000000
def zLt {α β : Type} (e : α) (f : α → β) : β := f e
def zGd {α : Type} (b : Bool) (x : Option α) : Option α := if b = true then x else none
def zB1 {α γ : Type} (x : Option α) (f : α → Option γ) : Option γ := x.bind f
def zB2 {α β γ : Type} (x : Option (α × β)) (f : α → β → Option γ) : Option γ := x.bind (fun z => f z.1 z.2)
def zB3 {α β δ γ : Type} (x : Option (α × β × δ)) (f : α → β → δ → Option γ) : Option γ := x.bind (fun z => f z.1 z.2.1 z.2.2)
def zB4 {α β δ ε γ : Type} (x : Option (α × β × δ × ε)) (f : α → β → δ → ε → Option γ) : Option γ := x.bind (fun z => f z.1 z.2.1 z.2.2.1 z.2.2.2)
def zB5 {α β δ ε ζ γ : Type} (x : Option (α × β × δ × ε × ζ)) (f : α → β → δ → ε → ζ → Option γ) : Option γ := x.bind (fun z => f z.1 z.2.1 z.2.2.1 z.2.2.2.1 z.2.2.2.2)
def zB6 {α β δ ε ζ η γ : Type} (x : Option (α × β × δ × ε × ζ × η)) (f : α → β → δ → ε → ζ → η → Option γ) : Option γ := x.bind (fun z => f z.1 z.2.1 z.2.2.1 z.2.2.2.1 z.2.2.2.2.1 z.2.2.2.2.2)
def zB7 {α β δ ε ζ η θ γ : Type} (x : Option (α × β × δ × ε × ζ × η × θ)) (f : α → β → δ → ε → ζ → η → θ → Option γ) : Option γ := x.bind (fun z => f z.1 z.2.1 z.2.2.1 z.2.2.2.1 z.2.2.2.2.1 z.2.2.2.2.2.1 z.2.2.2.2.2.2)
def zU1 {α γ : Type} (z : α) (f : α → γ) : γ := f z
def zU2 {α β γ : Type} (z : α × β) (f : α → β → γ) : γ := f z.1 z.2
def zU3 {α β δ γ : Type} (z : α × β × δ) (f : α → β → δ → γ) : γ := f z.1 z.2.1 z.2.2
def zU4 {α β δ ε γ : Type} (z : α × β × δ × ε) (f : α → β → δ → ε → γ) : γ := f z.1 z.2.1 z.2.2.1 z.2.2.2
def zU5 {α β δ ε ζ γ : Type} (z : α × β × δ × ε × ζ) (f : α → β → δ → ε → ζ → γ) : γ := f z.1 z.2.1 z.2.2.1 z.2.2.2.1 z.2.2.2.2
def zU6 {α β δ ε ζ η γ : Type} (z : α × β × δ × ε × ζ × η) (f : α → β → δ → ε → ζ → η → γ) : γ := f z.1 z.2.1 z.2.2.1 z.2.2.2.1 z.2.2.2.2.1 z.2.2.2.2.2
def zU7 {α β δ ε ζ η θ γ : Type} (z : α × β × δ × ε × ζ × η × θ) (f : α → β → δ → ε → ζ → η → θ → γ) : γ := f z.1 z.2.1 z.2.2.1 z.2.2.2.1 z.2.2.2.2.1 z.2.2.2.2.2.1 z.2.2.2.2.2.2
def zSm {α β γ : Type} (x : α ⊕ β) (f : α → γ) (g : β → γ) : γ := match x with
  | .inl a => f a
  | .inr b => g b
def zLp {α β : Type} (body : α → Option (α ⊕ β)) : Nat → α → Option β
  | 0, _ => none
  | n + 1, a => (body a).bind (fun z => zSm z (fun a' => zLp body n a') (fun b => some b))
def zIn (i : Int32) (n : Nat) : Bool := decide (0 ≤ i) && decide (i.toNatClampNeg < n)
def zNz (y : Int32) : Bool := decide (¬ y = 0)
def zNzL (y : Int64) : Bool := decide (¬ y = 0)
def zBo (v : Int32) : Bool := decide (v = 0) || decide (v = 1)
/-- cell k of a memory, at j, becomes v -/
def zPu (w : zM) (k j : Nat) (v : Int32) : zM := fun k' => if k' = k then upd (w k) j v else w k'
def zPuL (w : zL) (k j : Nat) (v : Int64) : zL := fun k' => if k' = k then vp_updL (w k) j v else w k'
/-- cell k of a memory becomes a row -/
def zPr (w : zM) (k : Nat) (f : Nat → Int32) : zM := fun k' => if k' = k then f else w k'
theorem zLt_at {α β : Type} {e v : α} {f : α → Option β} {r : β} (hv : v = e) (h : zLt e f = some r) : f v = some r := by rw [hv]; exact h
theorem zGd_ok {α : Type} {b : Bool} {x : Option α} {r : α} (h : zGd b x = some r) : b = true ∧ x = some r := by
  unfold zGd at h
  by_cases hb : b = true
  · rw [if_pos hb] at h; exact ⟨hb, h⟩
  · rw [if_neg hb] at h; cases h
theorem zB1_ok {α γ : Type} {x : Option α} {f : α → Option γ} {r : γ} (h : zB1 x f = some r) : ∃ a, x = some a ∧ f a = some r := Option.bind_eq_some_iff.mp h
theorem zB2_ok {α β γ : Type} {x : Option (α × β)} {f : α → β → Option γ} {r : γ} (h : zB2 x f = some r) : ∃ a b, x = some (a, b) ∧ f a b = some r := by
  obtain ⟨⟨a, b⟩, h1, h2⟩ := Option.bind_eq_some_iff.mp h; exact ⟨a, b, h1, h2⟩
theorem zB3_ok {α β δ γ : Type} {x : Option (α × β × δ)} {f : α → β → δ → Option γ} {r : γ} (h : zB3 x f = some r) : ∃ a b c, x = some (a, b, c) ∧ f a b c = some r := by
  obtain ⟨⟨a, b, c⟩, h1, h2⟩ := Option.bind_eq_some_iff.mp h; exact ⟨a, b, c, h1, h2⟩
theorem zB4_ok {α β δ ε γ : Type} {x : Option (α × β × δ × ε)} {f : α → β → δ → ε → Option γ} {r : γ} (h : zB4 x f = some r) : ∃ a b c d, x = some (a, b, c, d) ∧ f a b c d = some r := by
  obtain ⟨⟨a, b, c, d⟩, h1, h2⟩ := Option.bind_eq_some_iff.mp h; exact ⟨a, b, c, d, h1, h2⟩
theorem zB5_ok {α β δ ε ζ γ : Type} {x : Option (α × β × δ × ε × ζ)} {f : α → β → δ → ε → ζ → Option γ} {r : γ} (h : zB5 x f = some r) : ∃ a b c d e, x = some (a, b, c, d, e) ∧ f a b c d e = some r := by
  obtain ⟨⟨a, b, c, d, e⟩, h1, h2⟩ := Option.bind_eq_some_iff.mp h; exact ⟨a, b, c, d, e, h1, h2⟩
theorem zB6_ok {α β δ ε ζ η γ : Type} {x : Option (α × β × δ × ε × ζ × η)} {f : α → β → δ → ε → ζ → η → Option γ} {r : γ} (h : zB6 x f = some r) : ∃ a b c d e g, x = some (a, b, c, d, e, g) ∧ f a b c d e g = some r := by
  obtain ⟨⟨a, b, c, d, e, g⟩, h1, h2⟩ := Option.bind_eq_some_iff.mp h; exact ⟨a, b, c, d, e, g, h1, h2⟩
theorem zB7_ok {α β δ ε ζ η θ γ : Type} {x : Option (α × β × δ × ε × ζ × η × θ)} {f : α → β → δ → ε → ζ → η → θ → Option γ} {r : γ} (h : zB7 x f = some r) : ∃ a b c d e g i, x = some (a, b, c, d, e, g, i) ∧ f a b c d e g i = some r := by
  obtain ⟨⟨a, b, c, d, e, g, i⟩, h1, h2⟩ := Option.bind_eq_some_iff.mp h; exact ⟨a, b, c, d, e, g, i, h1, h2⟩
theorem zIf_t {c : Prop} {hd : Decidable c} {α : Type} {x y : Option α} {r : α} (hc : c) (h : (@ite _ c hd x y) = some r) : x = some r := by rw [if_pos hc] at h; exact h
theorem zIf_f {c : Prop} {hd : Decidable c} {α : Type} {x y : Option α} {r : α} (hc : ¬ c) (h : (@ite _ c hd x y) = some r) : y = some r := by rw [if_neg hc] at h; exact h
theorem zIn_ok {i : Int32} {n : Nat} (h : zIn i n = true) : vp_in i n := by
  unfold zIn at h
  rw [Bool.and_eq_true, decide_eq_true_eq, decide_eq_true_eq] at h
  intro q
  rcases q with q | q
  · have h1 := Int32.le_iff_toInt_le.mp h.1
    have h2 := Int32.lt_iff_toInt_lt.mp q
    omega
  · omega
theorem zNz_ok {y : Int32} (h : zNz y = true) : ¬ y = 0 := of_decide_eq_true h
theorem zNzL_ok {y : Int64} (h : zNzL y = true) : ¬ y = 0 := of_decide_eq_true h
theorem zBo_ok {v : Int32} (h : zBo v = true) : narrow .boolean (.int v) = .int v ∧ fits .boolean (.int v) = true := by
  unfold zBo at h
  rw [Bool.or_eq_true, decide_eq_true_eq, decide_eq_true_eq] at h
  rcases h with rfl | rfl <;> decide
theorem zNe {x k : Int32} {z : Int} (h : ¬ x = k) (hk : k.toInt = z) : x.toInt ≠ z := fun q => h (Int32.toInt_inj.mp (q.trans hk.symm))
/-- a loop, walked once: from every state of the loop the goal follows, if it follows from the next state, or from the end b -/
theorem zLp_sound {α β : Type} {body : α → Option (α ⊕ β)} {b : β} (G : α → Prop) (hb : ∀ (a : α) (z : α ⊕ β), body a = some z → zSm z G (fun b' => b' = b) → G a) : ∀ (n : Nat) (a : α), zLp body n a = some b → G a := by
  intro n
  induction n with
  | zero => intro a h; cases h
  | succ n ih =>
    intro a h
    obtain ⟨z, hz, h⟩ := Option.bind_eq_some_iff.mp h
    refine hb a z hz ?_
    cases z with
    | inl a' => exact ih a' h
    | inr b' => exact Option.some.inj h
theorem zI1 {α : Type} {a1 b1 : α} (h : some a1 = some b1) : a1 = b1 ∧ True := ⟨Option.some.inj h, trivial⟩
theorem zI2 {α β : Type} {a1 b1 : α} {a2 b2 : β} (h : some (a1, a2) = some (b1, b2)) : a1 = b1 ∧ a2 = b2 := ⟨congrArg (fun z => z.1) (Option.some.inj h), congrArg (fun z => z.2) (Option.some.inj h)⟩
theorem zI3 {α β δ : Type} {a1 b1 : α} {a2 b2 : β} {a3 b3 : δ} (h : some (a1, a2, a3) = some (b1, b2, b3)) : a1 = b1 ∧ a2 = b2 ∧ a3 = b3 := ⟨congrArg (fun z => z.1) (Option.some.inj h), congrArg (fun z => z.2.1) (Option.some.inj h), congrArg (fun z => z.2.2) (Option.some.inj h)⟩
theorem zI4 {α β δ ε : Type} {a1 b1 : α} {a2 b2 : β} {a3 b3 : δ} {a4 b4 : ε} (h : some (a1, a2, a3, a4) = some (b1, b2, b3, b4)) : a1 = b1 ∧ a2 = b2 ∧ a3 = b3 ∧ a4 = b4 := ⟨congrArg (fun z => z.1) (Option.some.inj h), congrArg (fun z => z.2.1) (Option.some.inj h), congrArg (fun z => z.2.2.1) (Option.some.inj h), congrArg (fun z => z.2.2.2) (Option.some.inj h)⟩
theorem zI5 {α β δ ε ζ : Type} {a1 b1 : α} {a2 b2 : β} {a3 b3 : δ} {a4 b4 : ε} {a5 b5 : ζ} (h : some (a1, a2, a3, a4, a5) = some (b1, b2, b3, b4, b5)) : a1 = b1 ∧ a2 = b2 ∧ a3 = b3 ∧ a4 = b4 ∧ a5 = b5 := ⟨congrArg (fun z => z.1) (Option.some.inj h), congrArg (fun z => z.2.1) (Option.some.inj h), congrArg (fun z => z.2.2.1) (Option.some.inj h), congrArg (fun z => z.2.2.2.1) (Option.some.inj h), congrArg (fun z => z.2.2.2.2) (Option.some.inj h)⟩
theorem zI6 {α β δ ε ζ η : Type} {a1 b1 : α} {a2 b2 : β} {a3 b3 : δ} {a4 b4 : ε} {a5 b5 : ζ} {a6 b6 : η} (h : some (a1, a2, a3, a4, a5, a6) = some (b1, b2, b3, b4, b5, b6)) : a1 = b1 ∧ a2 = b2 ∧ a3 = b3 ∧ a4 = b4 ∧ a5 = b5 ∧ a6 = b6 := ⟨congrArg (fun z => z.1) (Option.some.inj h), congrArg (fun z => z.2.1) (Option.some.inj h), congrArg (fun z => z.2.2.1) (Option.some.inj h), congrArg (fun z => z.2.2.2.1) (Option.some.inj h), congrArg (fun z => z.2.2.2.2.1) (Option.some.inj h), congrArg (fun z => z.2.2.2.2.2) (Option.some.inj h)⟩
theorem zI7 {α β δ ε ζ η θ : Type} {a1 b1 : α} {a2 b2 : β} {a3 b3 : δ} {a4 b4 : ε} {a5 b5 : ζ} {a6 b6 : η} {a7 b7 : θ} (h : some (a1, a2, a3, a4, a5, a6, a7) = some (b1, b2, b3, b4, b5, b6, b7)) : a1 = b1 ∧ a2 = b2 ∧ a3 = b3 ∧ a4 = b4 ∧ a5 = b5 ∧ a6 = b6 ∧ a7 = b7 := ⟨congrArg (fun z => z.1) (Option.some.inj h), congrArg (fun z => z.2.1) (Option.some.inj h), congrArg (fun z => z.2.2.1) (Option.some.inj h), congrArg (fun z => z.2.2.2.1) (Option.some.inj h), congrArg (fun z => z.2.2.2.2.1) (Option.some.inj h), congrArg (fun z => z.2.2.2.2.2.1) (Option.some.inj h), congrArg (fun z => z.2.2.2.2.2.2) (Option.some.inj h)⟩
def zU0 {γ : Type} (_ : Unit) (f : γ) : γ := f
theorem zSmR {α β γ : Type} {x : α ⊕ β} {t : β} {f : α → Option γ} {g : β → Option γ} {r : γ} (hx : x = .inr t) (h : zSm x f g = some r) : g t = some r := by rw [hx] at h; exact h
theorem zSw {x k : Int32} {G : Prop} (h1 : x = k → G) (h2 : ¬ x = k → G) : G := (Decidable.em (x = k)).elim h1 h2
theorem zIn_lt {i : Int32} {n : Nat} (h : zIn i n = true) : i.toNatClampNeg < n := by unfold zIn at h; rw [Bool.and_eq_true, decide_eq_true_eq, decide_eq_true_eq] at h; exact h.2
theorem zEx0 {ex : Unit} {γ : Type} {x : Option γ} {r : γ} (_ : ex = ()) (h : zU0 ex x = some r) : x = some r := h
theorem zExL0 {β γ : Type} {ex : Unit ⊕ β} {x : Option γ} {g : β → Option γ} {r : γ} (he : ex = .inl ()) (h : zSm ex (fun b => zU0 b x) g = some r) : x = some r := by rw [he] at h; exact h
theorem zUk1 {α γ : Type} {F : α → Option γ} {r : γ} {v1 : α} (h : zU1 v1 F = some r) : F v1 = some r := h
theorem zEx1 {α γ : Type} {ex : α} {F : α → Option γ} {r : γ} {v1 : α} (he : ex = v1) (h : zU1 ex F = some r) : F v1 = some r := by rw [he] at h; exact h
theorem zExL1 {α κ γ : Type} {ex : (α) ⊕ κ} {F : α → Option γ} {g : κ → Option γ} {r : γ} {v1 : α} (he : ex = .inl v1) (h : zSm ex (fun b => zU1 b F) g = some r) : F v1 = some r := by rw [he] at h; exact h
theorem zLpS1 {α κ : Type} {body : (α) → Option ((α) ⊕ κ)} {b : κ} (G : α → Prop) (hb : ∀ (v1 : α) (z : (α) ⊕ κ), body v1 = some z → zSm z (fun s => G s) (fun b' => b' = b) → G v1) : ∀ (n : Nat) (v1 : α), zLp body n v1 = some b → G v1 := fun n v1 h => zLp_sound (fun s => G s) (fun s z h1 h2 => hb s z h1 h2) n v1 h
theorem zUk2 {α β γ : Type} {F : α → β → Option γ} {r : γ} {v1 : α} {v2 : β} (h : zU2 (v1, v2) F = some r) : F v1 v2 = some r := h
theorem zEx2 {α β γ : Type} {ex : α × β} {F : α → β → Option γ} {r : γ} {v1 : α} {v2 : β} (he : ex = (v1, v2)) (h : zU2 ex F = some r) : F v1 v2 = some r := by rw [he] at h; exact h
theorem zExL2 {α β κ γ : Type} {ex : (α × β) ⊕ κ} {F : α → β → Option γ} {g : κ → Option γ} {r : γ} {v1 : α} {v2 : β} (he : ex = .inl (v1, v2)) (h : zSm ex (fun b => zU2 b F) g = some r) : F v1 v2 = some r := by rw [he] at h; exact h
theorem zLpS2 {α β κ : Type} {body : (α × β) → Option ((α × β) ⊕ κ)} {b : κ} (G : α → β → Prop) (hb : ∀ (v1 : α) (v2 : β) (z : (α × β) ⊕ κ), body (v1, v2) = some z → zSm z (fun s => G s.1 s.2) (fun b' => b' = b) → G v1 v2) : ∀ (n : Nat) (v1 : α) (v2 : β), zLp body n (v1, v2) = some b → G v1 v2 := fun n v1 v2 h => zLp_sound (fun s => G s.1 s.2) (fun s z h1 h2 => hb s.1 s.2 z h1 h2) n (v1, v2) h
theorem zUk3 {α β δ γ : Type} {F : α → β → δ → Option γ} {r : γ} {v1 : α} {v2 : β} {v3 : δ} (h : zU3 (v1, v2, v3) F = some r) : F v1 v2 v3 = some r := h
theorem zEx3 {α β δ γ : Type} {ex : α × β × δ} {F : α → β → δ → Option γ} {r : γ} {v1 : α} {v2 : β} {v3 : δ} (he : ex = (v1, v2, v3)) (h : zU3 ex F = some r) : F v1 v2 v3 = some r := by rw [he] at h; exact h
theorem zExL3 {α β δ κ γ : Type} {ex : (α × β × δ) ⊕ κ} {F : α → β → δ → Option γ} {g : κ → Option γ} {r : γ} {v1 : α} {v2 : β} {v3 : δ} (he : ex = .inl (v1, v2, v3)) (h : zSm ex (fun b => zU3 b F) g = some r) : F v1 v2 v3 = some r := by rw [he] at h; exact h
theorem zLpS3 {α β δ κ : Type} {body : (α × β × δ) → Option ((α × β × δ) ⊕ κ)} {b : κ} (G : α → β → δ → Prop) (hb : ∀ (v1 : α) (v2 : β) (v3 : δ) (z : (α × β × δ) ⊕ κ), body (v1, v2, v3) = some z → zSm z (fun s => G s.1 s.2.1 s.2.2) (fun b' => b' = b) → G v1 v2 v3) : ∀ (n : Nat) (v1 : α) (v2 : β) (v3 : δ), zLp body n (v1, v2, v3) = some b → G v1 v2 v3 := fun n v1 v2 v3 h => zLp_sound (fun s => G s.1 s.2.1 s.2.2) (fun s z h1 h2 => hb s.1 s.2.1 s.2.2 z h1 h2) n (v1, v2, v3) h
theorem zUk4 {α β δ ε γ : Type} {F : α → β → δ → ε → Option γ} {r : γ} {v1 : α} {v2 : β} {v3 : δ} {v4 : ε} (h : zU4 (v1, v2, v3, v4) F = some r) : F v1 v2 v3 v4 = some r := h
theorem zEx4 {α β δ ε γ : Type} {ex : α × β × δ × ε} {F : α → β → δ → ε → Option γ} {r : γ} {v1 : α} {v2 : β} {v3 : δ} {v4 : ε} (he : ex = (v1, v2, v3, v4)) (h : zU4 ex F = some r) : F v1 v2 v3 v4 = some r := by rw [he] at h; exact h
theorem zExL4 {α β δ ε κ γ : Type} {ex : (α × β × δ × ε) ⊕ κ} {F : α → β → δ → ε → Option γ} {g : κ → Option γ} {r : γ} {v1 : α} {v2 : β} {v3 : δ} {v4 : ε} (he : ex = .inl (v1, v2, v3, v4)) (h : zSm ex (fun b => zU4 b F) g = some r) : F v1 v2 v3 v4 = some r := by rw [he] at h; exact h
theorem zLpS4 {α β δ ε κ : Type} {body : (α × β × δ × ε) → Option ((α × β × δ × ε) ⊕ κ)} {b : κ} (G : α → β → δ → ε → Prop) (hb : ∀ (v1 : α) (v2 : β) (v3 : δ) (v4 : ε) (z : (α × β × δ × ε) ⊕ κ), body (v1, v2, v3, v4) = some z → zSm z (fun s => G s.1 s.2.1 s.2.2.1 s.2.2.2) (fun b' => b' = b) → G v1 v2 v3 v4) : ∀ (n : Nat) (v1 : α) (v2 : β) (v3 : δ) (v4 : ε), zLp body n (v1, v2, v3, v4) = some b → G v1 v2 v3 v4 := fun n v1 v2 v3 v4 h => zLp_sound (fun s => G s.1 s.2.1 s.2.2.1 s.2.2.2) (fun s z h1 h2 => hb s.1 s.2.1 s.2.2.1 s.2.2.2 z h1 h2) n (v1, v2, v3, v4) h
theorem zUk5 {α β δ ε ζ γ : Type} {F : α → β → δ → ε → ζ → Option γ} {r : γ} {v1 : α} {v2 : β} {v3 : δ} {v4 : ε} {v5 : ζ} (h : zU5 (v1, v2, v3, v4, v5) F = some r) : F v1 v2 v3 v4 v5 = some r := h
theorem zEx5 {α β δ ε ζ γ : Type} {ex : α × β × δ × ε × ζ} {F : α → β → δ → ε → ζ → Option γ} {r : γ} {v1 : α} {v2 : β} {v3 : δ} {v4 : ε} {v5 : ζ} (he : ex = (v1, v2, v3, v4, v5)) (h : zU5 ex F = some r) : F v1 v2 v3 v4 v5 = some r := by rw [he] at h; exact h
theorem zExL5 {α β δ ε ζ κ γ : Type} {ex : (α × β × δ × ε × ζ) ⊕ κ} {F : α → β → δ → ε → ζ → Option γ} {g : κ → Option γ} {r : γ} {v1 : α} {v2 : β} {v3 : δ} {v4 : ε} {v5 : ζ} (he : ex = .inl (v1, v2, v3, v4, v5)) (h : zSm ex (fun b => zU5 b F) g = some r) : F v1 v2 v3 v4 v5 = some r := by rw [he] at h; exact h
theorem zLpS5 {α β δ ε ζ κ : Type} {body : (α × β × δ × ε × ζ) → Option ((α × β × δ × ε × ζ) ⊕ κ)} {b : κ} (G : α → β → δ → ε → ζ → Prop) (hb : ∀ (v1 : α) (v2 : β) (v3 : δ) (v4 : ε) (v5 : ζ) (z : (α × β × δ × ε × ζ) ⊕ κ), body (v1, v2, v3, v4, v5) = some z → zSm z (fun s => G s.1 s.2.1 s.2.2.1 s.2.2.2.1 s.2.2.2.2) (fun b' => b' = b) → G v1 v2 v3 v4 v5) : ∀ (n : Nat) (v1 : α) (v2 : β) (v3 : δ) (v4 : ε) (v5 : ζ), zLp body n (v1, v2, v3, v4, v5) = some b → G v1 v2 v3 v4 v5 := fun n v1 v2 v3 v4 v5 h => zLp_sound (fun s => G s.1 s.2.1 s.2.2.1 s.2.2.2.1 s.2.2.2.2) (fun s z h1 h2 => hb s.1 s.2.1 s.2.2.1 s.2.2.2.1 s.2.2.2.2 z h1 h2) n (v1, v2, v3, v4, v5) h
theorem zUk6 {α β δ ε ζ η γ : Type} {F : α → β → δ → ε → ζ → η → Option γ} {r : γ} {v1 : α} {v2 : β} {v3 : δ} {v4 : ε} {v5 : ζ} {v6 : η} (h : zU6 (v1, v2, v3, v4, v5, v6) F = some r) : F v1 v2 v3 v4 v5 v6 = some r := h
theorem zEx6 {α β δ ε ζ η γ : Type} {ex : α × β × δ × ε × ζ × η} {F : α → β → δ → ε → ζ → η → Option γ} {r : γ} {v1 : α} {v2 : β} {v3 : δ} {v4 : ε} {v5 : ζ} {v6 : η} (he : ex = (v1, v2, v3, v4, v5, v6)) (h : zU6 ex F = some r) : F v1 v2 v3 v4 v5 v6 = some r := by rw [he] at h; exact h
theorem zExL6 {α β δ ε ζ η κ γ : Type} {ex : (α × β × δ × ε × ζ × η) ⊕ κ} {F : α → β → δ → ε → ζ → η → Option γ} {g : κ → Option γ} {r : γ} {v1 : α} {v2 : β} {v3 : δ} {v4 : ε} {v5 : ζ} {v6 : η} (he : ex = .inl (v1, v2, v3, v4, v5, v6)) (h : zSm ex (fun b => zU6 b F) g = some r) : F v1 v2 v3 v4 v5 v6 = some r := by rw [he] at h; exact h
theorem zLpS6 {α β δ ε ζ η κ : Type} {body : (α × β × δ × ε × ζ × η) → Option ((α × β × δ × ε × ζ × η) ⊕ κ)} {b : κ} (G : α → β → δ → ε → ζ → η → Prop) (hb : ∀ (v1 : α) (v2 : β) (v3 : δ) (v4 : ε) (v5 : ζ) (v6 : η) (z : (α × β × δ × ε × ζ × η) ⊕ κ), body (v1, v2, v3, v4, v5, v6) = some z → zSm z (fun s => G s.1 s.2.1 s.2.2.1 s.2.2.2.1 s.2.2.2.2.1 s.2.2.2.2.2) (fun b' => b' = b) → G v1 v2 v3 v4 v5 v6) : ∀ (n : Nat) (v1 : α) (v2 : β) (v3 : δ) (v4 : ε) (v5 : ζ) (v6 : η), zLp body n (v1, v2, v3, v4, v5, v6) = some b → G v1 v2 v3 v4 v5 v6 := fun n v1 v2 v3 v4 v5 v6 h => zLp_sound (fun s => G s.1 s.2.1 s.2.2.1 s.2.2.2.1 s.2.2.2.2.1 s.2.2.2.2.2) (fun s z h1 h2 => hb s.1 s.2.1 s.2.2.1 s.2.2.2.1 s.2.2.2.2.1 s.2.2.2.2.2 z h1 h2) n (v1, v2, v3, v4, v5, v6) h
theorem zUk7 {α β δ ε ζ η θ γ : Type} {F : α → β → δ → ε → ζ → η → θ → Option γ} {r : γ} {v1 : α} {v2 : β} {v3 : δ} {v4 : ε} {v5 : ζ} {v6 : η} {v7 : θ} (h : zU7 (v1, v2, v3, v4, v5, v6, v7) F = some r) : F v1 v2 v3 v4 v5 v6 v7 = some r := h
theorem zEx7 {α β δ ε ζ η θ γ : Type} {ex : α × β × δ × ε × ζ × η × θ} {F : α → β → δ → ε → ζ → η → θ → Option γ} {r : γ} {v1 : α} {v2 : β} {v3 : δ} {v4 : ε} {v5 : ζ} {v6 : η} {v7 : θ} (he : ex = (v1, v2, v3, v4, v5, v6, v7)) (h : zU7 ex F = some r) : F v1 v2 v3 v4 v5 v6 v7 = some r := by rw [he] at h; exact h
theorem zExL7 {α β δ ε ζ η θ κ γ : Type} {ex : (α × β × δ × ε × ζ × η × θ) ⊕ κ} {F : α → β → δ → ε → ζ → η → θ → Option γ} {g : κ → Option γ} {r : γ} {v1 : α} {v2 : β} {v3 : δ} {v4 : ε} {v5 : ζ} {v6 : η} {v7 : θ} (he : ex = .inl (v1, v2, v3, v4, v5, v6, v7)) (h : zSm ex (fun b => zU7 b F) g = some r) : F v1 v2 v3 v4 v5 v6 v7 = some r := by rw [he] at h; exact h
theorem zLpS7 {α β δ ε ζ η θ κ : Type} {body : (α × β × δ × ε × ζ × η × θ) → Option ((α × β × δ × ε × ζ × η × θ) ⊕ κ)} {b : κ} (G : α → β → δ → ε → ζ → η → θ → Prop) (hb : ∀ (v1 : α) (v2 : β) (v3 : δ) (v4 : ε) (v5 : ζ) (v6 : η) (v7 : θ) (z : (α × β × δ × ε × ζ × η × θ) ⊕ κ), body (v1, v2, v3, v4, v5, v6, v7) = some z → zSm z (fun s => G s.1 s.2.1 s.2.2.1 s.2.2.2.1 s.2.2.2.2.1 s.2.2.2.2.2.1 s.2.2.2.2.2.2) (fun b' => b' = b) → G v1 v2 v3 v4 v5 v6 v7) : ∀ (n : Nat) (v1 : α) (v2 : β) (v3 : δ) (v4 : ε) (v5 : ζ) (v6 : η) (v7 : θ), zLp body n (v1, v2, v3, v4, v5, v6, v7) = some b → G v1 v2 v3 v4 v5 v6 v7 := fun n v1 v2 v3 v4 v5 v6 v7 h => zLp_sound (fun s => G s.1 s.2.1 s.2.2.1 s.2.2.2.1 s.2.2.2.2.1 s.2.2.2.2.2.1 s.2.2.2.2.2.2) (fun s z h1 h2 => hb s.1 s.2.1 s.2.2.1 s.2.2.2.1 s.2.2.2.2.1 s.2.2.2.2.2.1 s.2.2.2.2.2.2 z h1 h2) n (v1, v2, v3, v4, v5, v6, v7) h
def zAllB (f : Nat → Int32) (n : Nat) : Bool := (List.range n).all (fun i => zBo (f i))
theorem zAllB_ok {f : Nat → Int32} {n : Nat} (h : zAllB f n = true) : ∀ i, i < n → fits .boolean (.int (f i)) = true := fun i hi => (zBo_ok (List.all_eq_true.mp h i (List.mem_range.mpr hi))).2
theorem zRow10 {P : Nat → Prop} (h0 : P 0) (h1 : P 1) (h2 : P 2) (h3 : P 3) (h4 : P 4) (h5 : P 5) (h6 : P 6) (h7 : P 7) (h8 : P 8) (h9 : P 9) {k : Nat} (hk : k < 10) : P k := by
  have h : k = 0 ∨ k = 1 ∨ k = 2 ∨ k = 3 ∨ k = 4 ∨ k = 5 ∨ k = 6 ∨ k = 7 ∨ k = 8 ∨ k = 9 := by omega
  rcases h with rfl | rfl | rfl | rfl | rfl | rfl | rfl | rfl | rfl | rfl <;> assumption
theorem zRow4 {P : Nat → Prop} (h0 : P 0) (h1 : P 1) (h2 : P 2) (h3 : P 3) {k : Nat} (hk : k < 4) : P k := by
  have h : k = 0 ∨ k = 1 ∨ k = 2 ∨ k = 3 := by omega
  rcases h with rfl | rfl | rfl | rfl <;> assumption
def wFA (T : Nat → ClassId) (h : Nat → Nat) (n : Nat) (w : zM) : va_W := [(h 0, .inl (T 0, n, .inl (w 0)))]
/-! ===== contracts ===== -/
def zTx : List (Nat × String) := [(34, "people"), (54, "tie"), (92, "worth"), (94, "odds"), (96, "must"), (60, "first"), (110, "weight"), (65, "seat"), (117, "and"), (70, "late")]
def zLen : List Nat := [6, 3, 5, 4, 4, 5, 6, 4, 3, 4]
def zByt : List (List Int32) := [[112, 101, 111, 112, 108, 101], [116, 105, 101], [119, 111, 114, 116, 104], [111, 100, 100, 115], [109, 117, 115, 116], [102, 105, 114, 115, 116], [119, 101, 105, 103, 104, 116], [115, 101, 97, 116], [97, 110, 100], [108, 97, 116, 101]]
/-- the length of a text, and its char at i, as the JDK's own code has them -/
def zSl (j : Nat) : Int32 := Int32.ofNat (zLen.getD j 0) >>> ((0 : Int32) &&& 31)
def zSc (j : Nat) (i : Int32) : Int32 := (((zByt.getD j []).getD i.toNatClampNeg 0 &&& 255).toUInt32 % 65536).toInt32
def zTys (T : Nat → ClassId) : List (ClassId × FieldType) := [(T 0, .int), (T 1, .long), (T 2, .boolean), (T 3, .byte), (T 4, .array .int)]
/-- what the walk knows of the heap that was there before: the table of kinds at X.1, the texts at X.2.1 with their bytes at X.2.2 -/
abbrev zFP : Type := Nat × (Nat → Nat) × (Nat → Nat)
def zKaI (j : Nat) : Int32 := [-1, 0, 0, 2, 1, 3, 0].getD j 0
def zKa : Nat → Value := fun j => .int (zKaI j)
def zFx (X : zFP) (A : Nat → Prop) (U : State) (H : Heap) : Prop := va_Z RX8 "KIND_ABOVE" "[I" (.ref X.1) A U H ∧ va_T .int X.1 7 zKa A U H ∧ va_Z "java/lang/String" "COMPACT_STRINGS" "Z" (.int 1) A U H ∧ va_Zq "jdk/internal/util/Preconditions" "SIOOBE_FORMATTER" "Ljava/util/function/BiFunction;" A U H ∧ vk_S 10 zLen zByt X.2.1 X.2.2 A U H ∧ ∀ (i : Nat) (q : Nat × String), zTx[i]? = some q → vk_R RX7 q.1 q.2 (X.2.1 i) U
theorem zFx.warm {X : zFP} {A : Nat → Prop} {s U : State} {H : Heap} (hW : s.WarmedH U.vm) (h : zFx X A s H) : zFx X A U H := ⟨h.1.moved hW.alike, h.2.1.moved hW.alike, h.2.2.1.moved hW.alike, h.2.2.2.1.moved hW.alike, h.2.2.2.2.1.moved hW.alike, fun i q hq => (h.2.2.2.2.2 i q hq).warm hW⟩
theorem zFx.same {X : zFP} {A : Nat → Prop} {s U : State} {H : Heap} (hv : U.vm = s.vm) (h : zFx X A s H) : zFx X A U H := by
  have ha : s.vm.Alike U.vm := by rw [hv]; exact Vm.Alike.refl s.vm
  exact ⟨h.1.moved ha, h.2.1.moved ha, h.2.2.1.moved ha, h.2.2.2.1.moved ha, h.2.2.2.2.1.moved ha, fun i q hq => (h.2.2.2.2.2 i q hq).same hv⟩
theorem zFx.kept {X : zFP} {A : Nat → Prop} {U : State} {H H1 : Heap} (h : zFx X A U H) (hq : ∀ a : Nat, a < H.size → ¬ A a → H1[a]? = H[a]?) : zFx X A U H1 := ⟨h.1.kept hq, h.2.1.kept hq, h.2.2.1.kept hq, h.2.2.2.1.kept hq, h.2.2.2.2.1.kept hq, h.2.2.2.2.2⟩
theorem zFx.narrow {X : zFP} {A B : Nat → Prop} {U : State} {H : Heap} (h : zFx X A U H) (hAB : ∀ q, B q → A q) : zFx X B U H := ⟨h.1.narrow hAB, h.2.1.narrow hAB, h.2.2.1.narrow hAB, h.2.2.2.1.narrow hAB, h.2.2.2.2.1.narrow hAB, h.2.2.2.2.2⟩
def zPre (D : va_G) (T : Nat → ClassId) (X : zFP) (av : List Value) (wc : va_W) (sz : Nat) : Array Value → State → Prop := va_Pc av (fun U => U.heap.size = sz ∧ va_P D vwCl wc U.heap ∧ va_K D vwCl (zTys T) U ∧ va_D (fun _ => True) wc ∧ zFx X (va_A wc sz) U U.heap)
def zEnd (D : va_G) (T : Nat → ClassId) (w1 wc : va_W) (sz : Nat) : Unit → State → Prop := fun _ t => va_P D vwCl w1 t.heap ∧ va_K D vwCl (zTys T) t ∧ va_D (va_A wc sz) w1
def zQi (D : va_G) (T : Nat → ClassId) (r : Int32) (w1 wc : va_W) (sz : Nat) : Array Value → State → Outcome → State → Prop := va_Qi (fun (r' : Int32) (_ : Unit) => r' = r) (zEnd D T w1 wc sz) (va_A wc sz)
def zQl (D : va_G) (T : Nat → ClassId) (r : Int64) (w1 wc : va_W) (sz : Nat) : Array Value → State → Outcome → State → Prop := va_Ql (fun (r' : Int64) (_ : Unit) => r' = r) (zEnd D T w1 wc sz) (va_A wc sz)
def zQv (D : va_G) (T : Nat → ClassId) (w1 wc : va_W) (sz : Nat) : Array Value → State → Outcome → State → Prop := va_Qv (fun (_ : Unit) => True) (zEnd D T w1 wc sz) (va_A wc sz)
theorem zBlind {D : va_G} {T : Nat → ClassId} {X : zFP} {av : List Value} {wc : va_W} {sz : Nat} : FrameBlind (zPre D T X av wc sz) := fun a U g mk q => by
  obtain ⟨q0, q1, qP, qK, qD, qX⟩ := q
  exact ⟨q0, q1, qP, va_K.moved (u := U) (U := U.calling g mk a) (Vm.Alike.refl U.vm) qK, qD, zFx.same (U := U.calling g mk a) rfl qX⟩
theorem zStart {l : Launch} {y : MethodName} {ws ws' : List Cond} {rm : Room} {Qc : Array Value → State → Outcome → State → Prop} {mc ms : Nat} {free : Addr → Prop} {cc : ByteArray} {maxL : Nat} {ret : Option FieldType} {av : List Value} {D : va_G} {T : Nat → ClassId} {X : zFP} {wc : va_W} {sz : Nat} (lv : List (Nat × Value))
    (hy : plainName y.cls = true) (hw : ws = Cond.code y cc maxL ret :: ws') (hn : (lg_sl av).length ≤ maxL) (hlv : lv_args 0 av = lv)
    (body : ∀ (p : Program) (e : Env) (s : State) (m : MethodId) (args : Array Value) (below : List Frame) (meth : Method) (c : Code) (A : Nat → Prop) (Q : State → Prop) (ls : Array Slot), p.tables.exec = Jvm.exec → c.code = cc → meth.sig.returnType = ret → c.maxLocals = maxL → s.vm.findClass y.cls = some m.cls → meth.locks = false → (∀ w ∈ ws, w.before args s = true) → s.heap.size = sz → va_A wc sz = A → MQ below Qc args s mc ms free = Q → (∀ q : Nat, s.heap.size ≤ q → A q) → va_K D vwCl (zTys T) s → zFx X A s s.heap → va_P D vwCl wc s.heap → va_D A wc → va_S A s.heap s.heap [] → lv_has ls maxL lv →
      W p l e rm s m args below meth c s.heap [] 0 0 Q (F0 m 0 ls [])) : Met l y ws rm (zPre D T X av wc sz) Qc mc ms free := by
  refine Met.ofW (cc := cc) (maxL := maxL) (ret := ret) hy hw ?_
  intro p e s m args below meth c s₁ B hml hv
  obtain ⟨rfl, hsz, hP, hK, hD0, hX⟩ := hv
  have hts := atoms_spec (ws := ws) B.pre
  have hl := lv_entry av (n := maxL) hn
  rw [lg_entry_eq]
  rw [hlv] at hl
  generalize (lg_sl av ++ List.replicate (maxL - (lg_sl av).length) Slot.unset).toArray = ls at hl ⊢
  exact body p e s m av.toArray below meth c (va_A wc sz) _ ls B.exec B.bytes B.returns hml (findClass_of_methodNamed B.named) B.notSynchronized hts hsz rfl rfl (fun q h => Or.inr (hsz ▸ h)) hK hX hP (hD0.self) va_S.rf hl
theorem zFm {α β : Type} {f : α → Option β} : ∀ {is : List α} {l : List β}, is.map f = l.map some → is.filterMap f = l
  | [], [], _ => rfl
  | [], _ :: _, h => by cases h
  | _ :: _, [], h => by cases h
  | i :: is, x :: l, h => by
    rw [List.map_cons, List.map_cons] at h
    obtain ⟨h1, h2⟩ := List.cons.inj h
    rw [List.filterMap_cons, h1]
    exact congrArg (x :: ·) (zFm h2)
section ZR
variable {p : Program} {l : Launch} {e : Env} {R : Room} {s : State} {m : MethodId} {args : Array Value} {below : List Frame} {meth : Method} {c : Code} {H : Heap} {locs : List Loc} {cells slots : Nat} {Q : State → Prop}
variable {cc : ByteArray} {pc : Nat} {ls : Array Slot} {rest : List Value} {D : va_G} {T : Nat → ClassId} {A : Nat → Prop} {a : Nat} {ws : va_W} {H0 : Heap}
theorem zRetI {r v : Int32} {w1 wc : va_W} {sz : Nat} (hQ : MQ below (zQi D T r w1 wc sz) args s cells slots (va_A wc sz) = Q) (hx : p.tables.exec = Jvm.exec) (hb : c.code = cc) (hr : meth.sig.returnType = some .int) (hlocks : meth.locks = false) (hA : va_A wc sz = A) (hK : va_K D vwCl (zTys T) s) (hP : va_P D vwCl w1 H) (hD : va_D A w1) (hS : va_S A s.heap H locs) (hv : v = r) (hdg : decode cc pc = .ok (.ireturn, 1)) : W p l e R s m args below meth c H locs cells slots Q (F0 m pc ls [.int v]) := by
  subst hQ
  subst hA
  subst hv
  exact W.iret hx hb hr (fun t ht hW => ⟨⟨v, (), rfl, rfl, by rw [ht]; exact hP, va_K.moved hW.alike hK, hD⟩, hS.F ht⟩) hS.2.2 hdg hlocks
theorem zRetZ {r v : Int32} {w1 wc : va_W} {sz : Nat} (hQ : MQ below (zQi D T r w1 wc sz) args s cells slots (va_A wc sz) = Q) (hx : p.tables.exec = Jvm.exec) (hb : c.code = cc) (hr : meth.sig.returnType = some .boolean) (hlocks : meth.locks = false) (hA : va_A wc sz = A) (hK : va_K D vwCl (zTys T) s) (hP : va_P D vwCl w1 H) (hD : va_D A w1) (hS : va_S A s.heap H locs) (hz : zBo v = true) (hv : v = r) (hdg : decode cc pc = .ok (.ireturn, 1)) : W p l e R s m args below meth c H locs cells slots Q (F0 m pc ls [.int v]) := by
  subst hQ
  subst hA
  subst hv
  exact W.zret hx hb hr (zBo_ok hz).1 (fun t ht hW => ⟨⟨v, (), rfl, rfl, by rw [ht]; exact hP, va_K.moved hW.alike hK, hD⟩, hS.F ht⟩) hS.2.2 hdg hlocks
theorem zRetT {ty : FieldType} {r v : Int32} {w1 wc : va_W} {sz : Nat} (hQ : MQ below (zQi D T r w1 wc sz) args s cells slots (va_A wc sz) = Q) (hx : p.tables.exec = Jvm.exec) (hb : c.code = cc) (hr : meth.sig.returnType = some ty) (hlocks : meth.locks = false) (hA : va_A wc sz = A) (hK : va_K D vwCl (zTys T) s) (hP : va_P D vwCl w1 H) (hD : va_D A w1) (hS : va_S A s.heap H locs) (hn : narrow ty (.int v) = .int v) (hv : v = r) (hdg : decode cc pc = .ok (.ireturn, 1)) : W p l e R s m args below meth c H locs cells slots Q (F0 m pc ls [.int v]) := by
  subst hQ
  subst hA
  subst hv
  exact W.zret hx hb hr hn (fun t ht hW => ⟨⟨v, (), rfl, rfl, by rw [ht]; exact hP, va_K.moved hW.alike hK, hD⟩, hS.F ht⟩) hS.2.2 hdg hlocks
theorem zRetL {r v : Int64} {w1 wc : va_W} {sz : Nat} (hQ : MQ below (zQl D T r w1 wc sz) args s cells slots (va_A wc sz) = Q) (hx : p.tables.exec = Jvm.exec) (hb : c.code = cc) (hr : meth.sig.returnType = some .long) (hlocks : meth.locks = false) (hA : va_A wc sz = A) (hK : va_K D vwCl (zTys T) s) (hP : va_P D vwCl w1 H) (hD : va_D A w1) (hS : va_S A s.heap H locs) (hv : v = r) (hdg : decode cc pc = .ok (.lreturn, 1)) : W p l e R s m args below meth c H locs cells slots Q (F0 m pc ls [.long v]) := by
  subst hQ
  subst hA
  subst hv
  exact W.lret hx hb hr (fun t ht hW => ⟨⟨v, (), rfl, rfl, by rw [ht]; exact hP, va_K.moved hW.alike hK, hD⟩, hS.F ht⟩) hS.2.2 hdg hlocks
theorem zRetV {w1 wc : va_W} {sz : Nat} (hQ : MQ below (zQv D T w1 wc sz) args s cells slots (va_A wc sz) = Q) (hx : p.tables.exec = Jvm.exec) (hb : c.code = cc) (hr : meth.sig.returnType = none) (hlocks : meth.locks = false) (hA : va_A wc sz = A) (hK : va_K D vwCl (zTys T) s) (hP : va_P D vwCl w1 H) (hD : va_D A w1) (hS : va_S A s.heap H locs) (hdg : decode cc pc = .ok (.return_, 1)) : W p l e R s m args below meth c H locs cells slots Q (F0 m pc ls []) := by
  subst hQ
  subst hA
  exact W.vret hx hb hr (fun t ht hW => ⟨⟨(), rfl, trivial, by rw [ht]; exact hP, va_K.moved hW.alike hK, hD⟩, hS.F ht⟩) hS.2.2 hdg hlocks
theorem zGet (hx : p.tables.exec = Jvm.exec) (hb : c.code = cc) {own ref C : String} {F : u_T} {N ci index : Nat} {Ts : List Cond} (hts : ∀ w ∈ Ts, w.before args s = true) (hin : ∀ w ∈ u_ws C F N, w ∈ Ts) (hown : s.vm.findClass own = some m.cls) (hK : va_K D vwCl (zTys T) s) (hP : va_P D vwCl ws H) (q0 k i : Nat) {v : Value} {fs : List Value} (he : ws[q0]? = some (a, .inr (ci, fs))) (hc : vwCl[ci]? = some (C, F, N)) (hk : k < N) (hi : Ts[i]? = some (Cond.fieldLink own index ref (F k).2.1 (F k).2.2.1)) (hr : ref = (F k).1) (hv : fs[k]? = some v) (hdg : decode cc pc = .ok (.getfield index, 3))
    (kk : W p l e R s m args below meth c H locs cells slots Q (F0 m (pc + 3) ls (v :: rest))) : W p l e R s m args below meth c H locs cells slots Q (F0 m pc ls (.ref a :: rest)) :=
  va_get hx hb hts hin hown hK hP q0 he hc k hk (hts _ (List.mem_of_getElem? hi)) (fun _ h => hr ▸ h) hv hdg kk
/-- an int field is written: the group's memory w becomes zPu w 0 k v -/
theorem zPut (hx : p.tables.exec = Jvm.exec) (hb : c.code = cc) {own ref C : String} {F : u_T} {N ci index : Nat} {Ts : List Cond} (hts : ∀ w ∈ Ts, w.before args s = true) (hin : ∀ w ∈ u_ws C F N, w ∈ Ts) (ty0 : Nat → FieldType) (hty : ∀ k, k < N → parseFieldDescriptor (F k).2.2.1 = some (ty0 k)) (hnm : ∀ a, a < N → ∀ b, b < N → a ≠ b → (F a).2.1 ≠ (F b).2.1) (hown : s.vm.findClass own = some m.cls) (hK : va_K D vwCl (zTys T) s) (hP : va_P D vwCl ws H) (hD : va_D A ws) (hS : va_S A H0 H locs) (Wf : zM → va_W) {w : zM} (q0 k i : Nat) {fs : List Value} {x : Int32} (he : ws[q0]? = some (a, .inr (ci, fs))) (hc : vwCl[ci]? = some (C, F, N)) (hk : k < N) (hi : Ts[i]? = some (Cond.fieldLink own index ref (F k).2.1 (F k).2.2.1)) (hr : ref = (F k).1) (hfin : (F k).2.2.2 = false) (hn : narrow (ty0 k) (.int x) = .int x ∧ fits (ty0 k) (.int x) = true) (hl : k < fs.length) (hnew : ws.set q0 (a, .inr (ci, fs.set k (.int x))) = Wf (zPu w 0 k x))
    (hdg : decode cc pc = .ok (.putfield index, 3)) (kk : ∀ w1 : zM, w1 = zPu w 0 k x → ∀ (H1 : Heap) (locs1 : List Loc), va_P D vwCl (Wf w1) H1 → va_D A (Wf w1) → va_S A H0 H1 locs1 → W p l e R s m args below meth c H1 locs1 cells slots Q (F0 m (pc + 3) ls rest)) : W p l e R s m args below meth c H locs cells slots Q (F0 m pc ls (.int x :: .ref a :: rest)) :=
  va_put hx hb hts hin ty0 hty hnm hown hK hP hD hS q0 he hc k hk (hts _ (List.mem_of_getElem? hi)) (fun _ h => hr ▸ h) hfin (hty k hk) hn.1 hn.2 hl hdg (fun H1 locs1 hP hD hS => kk _ rfl H1 locs1 (hnew ▸ hP) (hnew ▸ hD) hS)
theorem zPutL (hx : p.tables.exec = Jvm.exec) (hb : c.code = cc) {own ref C : String} {F : u_T} {N ci index : Nat} {Ts : List Cond} (hts : ∀ w ∈ Ts, w.before args s = true) (hin : ∀ w ∈ u_ws C F N, w ∈ Ts) (ty0 : Nat → FieldType) (hty : ∀ k, k < N → parseFieldDescriptor (F k).2.2.1 = some (ty0 k)) (hnm : ∀ a, a < N → ∀ b, b < N → a ≠ b → (F a).2.1 ≠ (F b).2.1) (hown : s.vm.findClass own = some m.cls) (hK : va_K D vwCl (zTys T) s) (hP : va_P D vwCl ws H) (hD : va_D A ws) (hS : va_S A H0 H locs) (Wf : zL → va_W) {w : zL} (q0 k i : Nat) {fs : List Value} {x : Int64} (he : ws[q0]? = some (a, .inr (ci, fs))) (hc : vwCl[ci]? = some (C, F, N)) (hk : k < N) (hi : Ts[i]? = some (Cond.fieldLink own index ref (F k).2.1 (F k).2.2.1)) (hr : ref = (F k).1) (hfin : (F k).2.2.2 = false) (hn : narrow (ty0 k) (.long x) = .long x ∧ fits (ty0 k) (.long x) = true) (hl : k < fs.length) (hnew : ws.set q0 (a, .inr (ci, fs.set k (.long x))) = Wf (zPuL w 0 k x))
    (hdg : decode cc pc = .ok (.putfield index, 3)) (kk : ∀ w1 : zL, w1 = zPuL w 0 k x → ∀ (H1 : Heap) (locs1 : List Loc), va_P D vwCl (Wf w1) H1 → va_D A (Wf w1) → va_S A H0 H1 locs1 → W p l e R s m args below meth c H1 locs1 cells slots Q (F0 m (pc + 3) ls rest)) : W p l e R s m args below meth c H locs cells slots Q (F0 m pc ls (.long x :: .ref a :: rest)) :=
  va_put hx hb hts hin ty0 hty hnm hown hK hP hD hS q0 he hc k hk (hts _ (List.mem_of_getElem? hi)) (fun _ h => hr ▸ h) hfin (hty k hk) hn.1 hn.2 hl hdg (fun H1 locs1 hP hD hS => kk _ rfl H1 locs1 (hnew ▸ hP) (hnew ▸ hD) hS)
theorem zAldI (hx : p.tables.exec = Jvm.exec) (hb : c.code = cc) (hK : va_K D vwCl (zTys T) s) (hP : va_P D vwCl ws H) (q0 : Nat) {n : Nat} {f : Nat → Int32} {i : Int32} (ha : ws[q0]? = some (a, .inl (T 0, n, .inl f))) (hin : zIn i n = true) (hdg : decode cc pc = .ok (.iaload, 1))
    (kk : ∀ v : Int32, v = f i.toNatClampNeg → W p l e R s m args below meth c H locs cells slots Q (F0 m (pc + 1) ls (.int v :: rest))) : W p l e R s m args below meth c H locs cells slots Q (F0 m pc ls (.int i :: .ref a :: rest)) := va_iald hx hb hK hP q0 0 ha rfl (zIn_ok hin) hdg (kk _ rfl)
theorem zAldZ (hx : p.tables.exec = Jvm.exec) (hb : c.code = cc) (hK : va_K D vwCl (zTys T) s) (hP : va_P D vwCl ws H) (q0 : Nat) {n : Nat} {f : Nat → Int32} {i : Int32} (ha : ws[q0]? = some (a, .inl (T 2, n, .inl f))) (hin : zIn i n = true) (hdg : decode cc pc = .ok (.baload, 1))
    (kk : ∀ v : Int32, v = f i.toNatClampNeg → W p l e R s m args below meth c H locs cells slots Q (F0 m (pc + 1) ls (.int v :: rest))) : W p l e R s m args below meth c H locs cells slots Q (F0 m pc ls (.int i :: .ref a :: rest)) := va_zald hx hb hK hP q0 2 ha rfl (zIn_ok hin) hdg (kk _ rfl)
theorem zAldB (hx : p.tables.exec = Jvm.exec) (hb : c.code = cc) (hK : va_K D vwCl (zTys T) s) (hP : va_P D vwCl ws H) (q0 : Nat) {n : Nat} {f : Nat → Int32} {i : Int32} (ha : ws[q0]? = some (a, .inl (T 3, n, .inl f))) (hin : zIn i n = true) (hdg : decode cc pc = .ok (.baload, 1))
    (kk : ∀ v : Int32, v = f i.toNatClampNeg → W p l e R s m args below meth c H locs cells slots Q (F0 m (pc + 1) ls (.int v :: rest))) : W p l e R s m args below meth c H locs cells slots Q (F0 m pc ls (.int i :: .ref a :: rest)) := va_bald hx hb hK hP q0 3 ha rfl (zIn_ok hin) hdg (kk _ rfl)
theorem zAldL (hx : p.tables.exec = Jvm.exec) (hb : c.code = cc) (hK : va_K D vwCl (zTys T) s) (hP : va_P D vwCl ws H) (q0 : Nat) {n : Nat} {f : Nat → Int64} {i : Int32} (ha : ws[q0]? = some (a, .inl (T 1, n, .inr (.inl f)))) (hin : zIn i n = true) (hdg : decode cc pc = .ok (.laload, 1))
    (kk : ∀ v : Int64, v = f i.toNatClampNeg → W p l e R s m args below meth c H locs cells slots Q (F0 m (pc + 1) ls (.long v :: rest))) : W p l e R s m args below meth c H locs cells slots Q (F0 m pc ls (.int i :: .ref a :: rest)) := va_lald hx hb hK hP q0 1 ha rfl (zIn_ok hin) hdg (kk _ rfl)
theorem zAstI (hx : p.tables.exec = Jvm.exec) (hb : c.code = cc) (hK : va_K D vwCl (zTys T) s) (hP : va_P D vwCl ws H) (hD : va_D A ws) (hS : va_S A H0 H locs) (Wf : zM → va_W) {w : zM} (q0 k : Nat) {n : Nat} {f : Nat → Int32} {i x : Int32} (ha : ws[q0]? = some (a, .inl (T 0, n, .inl f))) (hin : zIn i n = true) (hnew : ws.set q0 (a, .inl (T 0, n, .inl (upd f i.toNatClampNeg x))) = Wf (zPu w k i.toNatClampNeg x)) (hdg : decode cc pc = .ok (.iastore, 1))
    (kk : ∀ w1 : zM, w1 = zPu w k i.toNatClampNeg x → ∀ (H1 : Heap) (locs1 : List Loc), va_P D vwCl (Wf w1) H1 → va_D A (Wf w1) → va_S A H0 H1 locs1 → W p l e R s m args below meth c H1 locs1 cells slots Q (F0 m (pc + 1) ls rest)) : W p l e R s m args below meth c H locs cells slots Q (F0 m pc ls (.int x :: .int i :: .ref a :: rest)) :=
  va_iast hx hb hK hP hD hS q0 0 ha rfl (zIn_ok hin) hdg (fun H1 locs1 hP hD hS => kk _ rfl H1 locs1 (hnew ▸ hP) (hnew ▸ hD) hS)
theorem zAstZ (hx : p.tables.exec = Jvm.exec) (hb : c.code = cc) (hK : va_K D vwCl (zTys T) s) (hP : va_P D vwCl ws H) (hD : va_D A ws) (hS : va_S A H0 H locs) (Wf : zM → va_W) {w : zM} (q0 k : Nat) {n : Nat} {f : Nat → Int32} {i x : Int32} (ha : ws[q0]? = some (a, .inl (T 2, n, .inl f))) (hin : zIn i n = true) (hnew : ws.set q0 (a, .inl (T 2, n, .inl (upd f i.toNatClampNeg (vp_nar .boolean x)))) = Wf (zPu w k i.toNatClampNeg (vp_nar .boolean x))) (hdg : decode cc pc = .ok (.bastore, 1))
    (kk : ∀ w1 : zM, w1 = zPu w k i.toNatClampNeg (vp_nar .boolean x) → ∀ (H1 : Heap) (locs1 : List Loc), va_P D vwCl (Wf w1) H1 → va_D A (Wf w1) → va_S A H0 H1 locs1 → W p l e R s m args below meth c H1 locs1 cells slots Q (F0 m (pc + 1) ls rest)) : W p l e R s m args below meth c H locs cells slots Q (F0 m pc ls (.int x :: .int i :: .ref a :: rest)) :=
  va_zast hx hb hK hP hD hS q0 2 ha rfl (zIn_ok hin) hdg (fun H1 locs1 hP hD hS => kk _ rfl H1 locs1 (hnew ▸ hP) (hnew ▸ hD) hS)
theorem zAstB (hx : p.tables.exec = Jvm.exec) (hb : c.code = cc) (hK : va_K D vwCl (zTys T) s) (hP : va_P D vwCl ws H) (hD : va_D A ws) (hS : va_S A H0 H locs) (Wf : zM → va_W) {w : zM} (q0 k : Nat) {n : Nat} {f : Nat → Int32} {i x : Int32} (ha : ws[q0]? = some (a, .inl (T 3, n, .inl f))) (hin : zIn i n = true) (hnew : ws.set q0 (a, .inl (T 3, n, .inl (upd f i.toNatClampNeg (vp_nar .byte x)))) = Wf (zPu w k i.toNatClampNeg (vp_nar .byte x))) (hdg : decode cc pc = .ok (.bastore, 1))
    (kk : ∀ w1 : zM, w1 = zPu w k i.toNatClampNeg (vp_nar .byte x) → ∀ (H1 : Heap) (locs1 : List Loc), va_P D vwCl (Wf w1) H1 → va_D A (Wf w1) → va_S A H0 H1 locs1 → W p l e R s m args below meth c H1 locs1 cells slots Q (F0 m (pc + 1) ls rest)) : W p l e R s m args below meth c H locs cells slots Q (F0 m pc ls (.int x :: .int i :: .ref a :: rest)) :=
  va_bast hx hb hK hP hD hS q0 3 ha rfl (zIn_ok hin) hdg (fun H1 locs1 hP hD hS => kk _ rfl H1 locs1 (hnew ▸ hP) (hnew ▸ hD) hS)
theorem zAstL (hx : p.tables.exec = Jvm.exec) (hb : c.code = cc) (hK : va_K D vwCl (zTys T) s) (hP : va_P D vwCl ws H) (hD : va_D A ws) (hS : va_S A H0 H locs) (Wf : zL → va_W) {w : zL} (q0 k : Nat) {n : Nat} {f : Nat → Int64} {i : Int32} {x : Int64} (ha : ws[q0]? = some (a, .inl (T 1, n, .inr (.inl f)))) (hin : zIn i n = true) (hnew : ws.set q0 (a, .inl (T 1, n, .inr (.inl (vp_updL f i.toNatClampNeg x)))) = Wf (zPuL w k i.toNatClampNeg x)) (hdg : decode cc pc = .ok (.lastore, 1))
    (kk : ∀ w1 : zL, w1 = zPuL w k i.toNatClampNeg x → ∀ (H1 : Heap) (locs1 : List Loc), va_P D vwCl (Wf w1) H1 → va_D A (Wf w1) → va_S A H0 H1 locs1 → W p l e R s m args below meth c H1 locs1 cells slots Q (F0 m (pc + 1) ls rest)) : W p l e R s m args below meth c H locs cells slots Q (F0 m pc ls (.long x :: .int i :: .ref a :: rest)) :=
  va_last hx hb hK hP hD hS q0 1 ha rfl (zIn_ok hin) hdg (fun H1 locs1 hP hD hS => kk _ rfl H1 locs1 (hnew ▸ hP) (hnew ▸ hD) hS)
theorem zAldA (hx : p.tables.exec = Jvm.exec) (hb : c.code = cc) (hK : va_K D vwCl (zTys T) s) (hP : va_P D vwCl ws H) (q0 base : Nat) {h : Nat → Nat} {n : Nat} {i : Int32} (ha : ws[q0]? = some (a, .inl (T 4, n, .inr (.inr (.inr (.inr (fun i => if i < n then some (h (base + i)) else none))))))) (hin : zIn i n = true) (hdg : decode cc pc = .ok (.aaload, 1))
    (kk : W p l e R s m args below meth c H locs cells slots Q (F0 m (pc + 1) ls (.ref (h (base + i.toNatClampNeg)) :: rest))) : W p l e R s m args below meth c H locs cells slots Q (F0 m pc ls (.int i :: .ref a :: rest)) := by
  have hlt : i.toNatClampNeg < n := zIn_lt hin
  refine W.aald (v := .ref (h (base + i.toNatClampNeg))) (ty := .array .int) hx hb (hP q0 _ ha) ((hK.2 4 _ rfl).1 n (fun j => va_rf (if j < n then some (h (base + j)) else none))) rfl (fun q => by cases q) (by show ¬ (i < 0 ∨ (arrV _ _ _).slots.size ≤ _); rw [arrV_size]; exact zIn_ok hin) (by show (arrV _ _ _).slots[_]? = _; rw [arrV_read _ _ hlt]; show some (va_rf (if i.toNatClampNeg < n then some (h (base + i.toNatClampNeg)) else none)) = _; rw [if_pos hlt]; rfl) rfl rfl hdg kk
theorem zCpy {own : String} {index nL : Nat} {Ts : List Cond} (hx : p.tables.exec = Jvm.exec) (hb : c.code = cc) (hml : c.maxLocals = nL) (hsz : ls.size = nL) (hown : s.vm.findClass own = some m.cls) (hts : ∀ w ∈ Ts, w.before args s = true) (i1 i2 i3 i4 : Nat) (h1 : Ts[i1]? = some (.methodLink own index arraycopyName)) (h2 : Ts[i2]? = some (.native arraycopyName)) (h3 : Ts[i3]? = some (.static arraycopyName)) (h4 : Ts[i4]? = some (.initialized "java/lang/System"))
    (hK : va_K D vwCl (zTys T) s) (hP : va_P D vwCl ws H) (hD : va_D A ws) (hS : va_S A H0 H locs) (Wf : zM → va_W) {w : zM} (q0 q1 t k N : Nat) {a0 n0 n1 : Nat} {f g : Nat → Int32} {ty : FieldType} (ha0 : ws[q0]? = some (a0, .inl (T t, n0, .inl f))) (ha1 : ws[q1]? = some (a, .inl (T t, n1, .inl g))) (ht : (zTys T)[t]? = some (T t, ty)) (hprim : refKind ty = false) {n : Int32} (hn : n.toNatClampNeg = N) (hn0 : ¬ n < 0) (hN : N ≤ n0 ∧ N ≤ n1) (hfit : ∀ i, i < N → fits ty (.int (f i)) = true)
    (hframes : 1 ≤ R.frames) (hlocals : (rest.map fun v => v.category).sum + (nativeFrameWords "java/lang/System" "arraycopy" 5 + 11) ≤ R.locals) (hnew : ws.set q1 (a, .inl (T t, n1, .inl (va_cpy f g 0 0 N))) = Wf (zPr w k (va_cpy f g 0 0 N))) (hdg : decode cc pc = .ok (.invokestatic index, 3))
    (kk : ∀ w1 : zM, w1 = zPr w k (va_cpy f g 0 0 N) → ∀ (H1 : Heap) (locs1 : List Loc), va_P D vwCl (Wf w1) H1 → va_D A (Wf w1) → va_S A H0 H1 locs1 → W p l e R s m args below meth c H1 locs1 cells slots Q (F0 m (pc + 3) ls rest)) : W p l e R s m args below meth c H locs cells slots Q (F0 m pc ls (.int n :: .int 0 :: .ref a :: .int 0 :: .ref a0 :: rest)) := by
  have z0 : (0 : Int32).toNatClampNeg = 0 := by decide
  refine va_copyi hx hb (hml.trans hsz.symm) hown (hts _ (List.mem_of_getElem? h1)) (hts _ (List.mem_of_getElem? h2)) (hts _ (List.mem_of_getElem? h3)) (hts _ (List.mem_of_getElem? h4)) hK hP hD hS q0 q1 t t ha0 ha1 ht ht hprim (by decide) (by decide) hn0 (by rw [z0, hn]; omega) (by rw [z0, hn]; omega) (fun i hi => by rw [hn] at hi; rw [z0, Nat.zero_add]; exact hfit i hi) hframes hlocals hdg (fun H1 locs1 hP hD hS => ?_)
  rw [z0, hn, hnew] at hP hD
  exact kk _ rfl H1 locs1 hP hD hS
/-- behind a call: the caller's cells in their old order -/
theorem zJoin {wc wr w1 ws' : va_W} {H1 : Heap} (hP : va_P D vwCl ws H) (hD : va_D A ws) (isC isR pm : List Nat) (hC : isC.map (fun i => ws[i]?) = wc.map some) (hR : isR.map (fun i => ws[i]?) = wr.map some) (hn : va_nd isR = true) (hdis : ∀ i ∈ isR, i ∉ isC) (hpm : pm.map (fun i => (wr ++ w1)[i]?) = ws'.map some) (hpn : va_nd pm = true)
    (hk : ∀ q : Nat, q < H.size → ¬ va_A wc H.size q → H1[q]? = H[q]?) (hF : ∀ q, va_A wc H.size q → A q) (hP1 : va_P D vwCl w1 H1) (hD1 : va_D (va_A wc H.size) w1) : va_P D vwCl ws' H1 ∧ va_D A ws' := by
  obtain ⟨h1, h2⟩ := va_join hP hD isC isR hC hR hn hdis hk hF hP1 hD1
  exact ⟨h1.sub pm (zFm hpm), h2.sub pm hpn hpm⟩
end ZR
