/-! ===== the law's entry: what its start gives ===== -/
theorem yInv_new {gs : Nat → zM} (h0 : gs 0 = mX9) (h1 : okX8 (gs 1)) (h2 : okX8 (gs 2)) (h3 : okX8 (gs 3)) (h4 : okX7 (gs 4)) (h9 : okX5 (gs 9)) (h10 : okX2 (gs 10)) (h11 : okX0 (gs 11)) : yInv gs mX10 lX10 := by
  obtain ⟨a1, a2, a3, a4, a5, a6⟩ := h1
  have h4' : gs 4 = mX7 := h4
  have h9' : gs 9 = mX5 := h9
  have h10' : gs 10 = mX2 := h10
  have h11' : gs 11 = mX0 := h11
  have v0 : ∀ {P : Nat → Prop} (i : Nat), i < yNew 1 0 1 → P i := fun i hi => absurd hi (Nat.not_lt_zero i)
  have v2 : ∀ {P : Nat → Prop} (i : Nat), i < yNew 1 0 2 → P i := fun i hi => absurd hi (Nat.not_lt_zero i)
  have vp : ∀ {P : Nat → Prop}, P 0 → ∀ i : Nat, i < yNew 1 0 0 → P i := fun {P} hp i hi => by
    have : i = 0 := by have : i < 1 := hi; omega
    rw [this]; exact hp
  refine ⟨yNew 1, yNew_ok (by omega) (by omega), ?_, ?_, ?_, ?_, ?_, ?_, ?_, ?_, ?_, ?_⟩
  · exact ⟨⟨a1, a2, a3⟩, vp (P := fun p => gs 1 1 p = nI (yNew 1 1 p)) (a5 0 (by omega)).1, vp (P := fun p => gs 1 2 p = nI (yNew 1 2 p) - 1) (a5 0 (by omega)).2, v0, v0, v0, v0, v0, v2, v2, v2⟩
  · exact ⟨⟨rfl, rfl, rfl⟩, vp (P := fun p => mX10 1 p = nI (yNew 1 1 p)) rfl, vp (P := fun p => mX10 4 p = nI (yNew 1 2 p)) rfl, v0, v0, v0, v0, v0, v2, v2, v2⟩
  · exact a4
  · rw [a6]; decide
  · rw [h2.2.2.2.2.2]; decide
  · rw [h4']; exact ⟨fun _ => 0, 0, Nat.zero_le _, rfl, rfl, fun i hi => absurd hi (Nat.not_lt_zero i)⟩
  · rw [h9']; exact ⟨0, Nat.zero_le _, rfl, rfl, fun i j hi => absurd hi (Nat.not_lt_zero i)⟩
  · rw [h10']
    refine ⟨fun s hs => ?_, fun s i hs hi => ?_⟩
    · refine zRow4 (P := fun s => pHs mX2 mX10 s) ?_ ?_ ?_ ?_ hs
      · exact ⟨rfl, rfl, Or.inl rfl, ⟨0, Nat.zero_le _, rfl⟩, Or.inl ⟨rfl, rfl⟩⟩
      · exact ⟨rfl, rfl, Or.inl rfl, ⟨0, Nat.zero_le _, rfl⟩, Or.inl ⟨rfl, rfl⟩⟩
      · exact ⟨rfl, rfl, Or.inl rfl, ⟨0, Nat.zero_le _, rfl⟩, Or.inl ⟨rfl, rfl⟩⟩
      · exact ⟨rfl, rfl, Or.inl rfl, ⟨0, Nat.zero_le _, rfl⟩, Or.inl ⟨rfl, rfl⟩⟩
    · refine zRow4 (P := fun s => mX2 (7 + s) i = (lX10 20 (40 * s + i)).toInt32) rfl rfl rfl rfl hs
  · rw [h11']; exact ⟨0, Nat.zero_le _, rfl, rfl, fun i hi => absurd hi (Nat.not_lt_zero i)⟩
  · refine ⟨?_, ?_, Or.inl rfl⟩
    · rw [h0]; rfl
    · rw [h3.2.2.2.2.2]; decide
def wsEn : List Cond := [.arrayOver (.array .int), .methodLinkNest RX9 28 yX7_init RX9, .methodLinkNest RX9 35 yX3_init RX9, .methodLinkNest RX9 42 yX6_init RX9, .methodLinkNest RX9 49 yX4_init RX9, .methodLinkNest RX9 56 yX1_init RX9, .methodLinkNest RX9 63 yX5_init RX9, .methodLinkNest RX9 70 yX2_init RX9, .methodLinkNest RX9 77 yX0_init RX9, .laysStatic RX8 "KIND_ABOVE" "[I", .initialized RX8, .laysStatic "java/lang/String" "COMPACT_STRINGS" "Z", .initialized "java/lang/String", .laysStatic "jdk/internal/util/Preconditions" "SIOOBE_FORMATTER" "Ljava/util/function/BiFunction;", .initialized "jdk/internal/util/Preconditions", .arrayClass .int, .arrayClass .long, .arrayClass .boolean, .arrayClass .byte]
set_option maxRecDepth 100000 in
theorem lin_wsEn : ∀ w ∈ wsEn, w ∈ lw_tbl := zMemR wsEn [302, 214, 242, 253, 269, 282, 297, 314, 345, 982, 94, 448, 105, 464, 107, 210, 1212, 211, 239] (by decide +kernel)
def wsEs : List Cond := [.stringRef RX7 34 "people", .stringRef RX7 54 "tie", .stringRef RX7 92 "worth", .stringRef RX7 94 "odds", .stringRef RX7 96 "must", .stringRef RX7 60 "first", .stringRef RX7 110 "weight", .stringRef RX7 65 "seat", .stringRef RX7 117 "and", .stringRef RX7 70 "late"]
set_option maxRecDepth 100000 in
theorem lin_wsEs : ∀ w ∈ wsEs, w ∈ lw_tbl := zMemR wsEs [434, 499, 526, 527, 528, 529, 534, 535, 540, 545] (by decide +kernel)
def wsEi : List Cond := [.instantiable RX0 6, .instantiable RX1 2, .instantiable RX2 6, .instantiable RX3 1, .instantiable RX4 2, .instantiable RX5 2, .instantiable RX6 3, .instantiable RX7 6, .instantiable RX8 14, .instantiable RX9 12, .instantiable RX10 54]
set_option maxRecDepth 100000 in
theorem lin_wsEi : ∀ w ∈ wsEi, w ∈ lw_tbl := zMemR wsEi [344, 281, 313, 241, 268, 296, 252, 213, 121, 113, 1043] (by decide +kernel)
theorem zArT {args : Array Value} {s : State} {ty : FieldType} (h : (Cond.arrayClass ty).before args s = true) (hob : ∀ C, ty ≠ .object C) : ∃ c, ArrOfT s c ty ∧ va_RA s c ty := by
  obtain ⟨c, k, comp, h1, h2, h3⟩ := Cond.arrayClass_spec h
  refine ⟨c, fun n z => ⟨fun x => by (intro h9; cases h9), k, h2, comp, h3⟩, ?_⟩
  cases ty with
  | object C => exact absurd rfl (hob C)
  | _ => exact h1
theorem zArA {s : State} (h : va_AOA .int s) : ∃ c, ArrOfT s c (.array .int) ∧ va_RA s c (.array .int) := by
  obtain ⟨comp, c, k, h1, h2, h3, h4⟩ := Cond.arrayOver_specA h
  exact ⟨c, fun n z => ⟨fun x => by (intro h9; cases h9), k, h2, comp, h3⟩, h4⟩
theorem zEnK {args : Array Value} {s : State} (hts : ∀ w ∈ lw_tbl, w.before args s = true) : ∃ (D : va_G) (T : Nat → ClassId), va_K D vwCl (zTys T) s := by
  have hq : ∀ {w : Cond} (i : Nat), wsEn[i]? = some w → w.before args s = true := fun i h => hts _ (lin_wsEn _ (List.mem_of_getElem? h))
  have hi : ∀ {w : Cond} (i : Nat), wsEi[i]? = some w → w.before args s = true := fun i h => hts _ (lin_wsEi _ (List.mem_of_getElem? h))
  obtain ⟨c0, i0, k0⟩ := u_known (C := RX0) (T := TX0) (N := 6) (n := 6) hts lin_wsX00 (hi 0 rfl)
  obtain ⟨c1, i1, k1⟩ := u_known (C := RX1) (T := TX1) (N := 2) (n := 2) hts lin_wsX10 (hi 1 rfl)
  obtain ⟨c2, i2, k2⟩ := u_known (C := RX2) (T := TX2) (N := 6) (n := 6) hts lin_wsX20 (hi 2 rfl)
  obtain ⟨c3, i3, k3⟩ := u_known (C := RX3) (T := TX3) (N := 1) (n := 1) hts lin_wsX30 (hi 3 rfl)
  obtain ⟨c4, i4, k4⟩ := u_known (C := RX4) (T := TX4) (N := 2) (n := 2) hts lin_wsX40 (hi 4 rfl)
  obtain ⟨c5, i5, k5⟩ := u_known (C := RX5) (T := TX5) (N := 2) (n := 2) hts lin_wsX50 (hi 5 rfl)
  obtain ⟨c6, i6, k6⟩ := u_known (C := RX6) (T := TX6) (N := 3) (n := 3) hts lin_wsX60 (hi 6 rfl)
  obtain ⟨c7, i7, k7⟩ := u_known (C := RX7) (T := TX7) (N := 6) (n := 6) hts lin_wsX70 (hi 7 rfl)
  obtain ⟨c8, i8, k8⟩ := u_known (C := RX8) (T := TX8) (N := 14) (n := 14) hts lin_wsX80 (hi 8 rfl)
  obtain ⟨c9, i9, k9⟩ := u_known (C := RX9) (T := TX9) (N := 12) (n := 12) hts lin_wsX90 (hi 9 rfl)
  obtain ⟨c10, i10, k10⟩ := u_known (C := RX10) (T := TX10) (N := 54) (n := 54) hts lin_wsX100 (hi 10 rfl)
  obtain ⟨t0, e0⟩ := zArT (hq 15 rfl) (fun C h => by cases h)
  obtain ⟨t1, e1⟩ := zArT (hq 16 rfl) (fun C h => by cases h)
  obtain ⟨t2, e2⟩ := zArT (hq 17 rfl) (fun C h => by cases h)
  obtain ⟨t3, e3⟩ := zArT (hq 18 rfl) (fun C h => by cases h)
  obtain ⟨t4, e4⟩ := zArA (va_AOA.of (hq 0 rfl))
  refine ⟨(fun k => [c0, c1, c2, c3, c4, c5, c6, c7, c8, c9, c10].getD k c0, fun k => [i0, i1, i2, i3, i4, i5, i6, i7, i8, i9, i10].getD k i0), fun k => [t0, t1, t2, t3, t4].getD k t0, ?_, ?_⟩
  · intro k q hk
    match k, hk with
    | 0, hk => cases hk; exact k0
    | 1, hk => cases hk; exact k1
    | 2, hk => cases hk; exact k2
    | 3, hk => cases hk; exact k3
    | 4, hk => cases hk; exact k4
    | 5, hk => cases hk; exact k5
    | 6, hk => cases hk; exact k6
    | 7, hk => cases hk; exact k7
    | 8, hk => cases hk; exact k8
    | 9, hk => cases hk; exact k9
    | 10, hk => cases hk; exact k10
    | k + 11, hk => simp [vwCl] at hk
  · intro k q hk
    match k, hk with
    | 0, hk => cases hk; exact e0
    | 1, hk => cases hk; exact e1
    | 2, hk => cases hk; exact e2
    | 3, hk => cases hk; exact e3
    | 4, hk => cases hk; exact e4
    | k + 5, hk => simp [zTys] at hk
theorem zEnN {args : Array Value} {s : State} (hts : ∀ w ∈ lw_tbl, w.before args s = true) : zNs s := by
  have hq : ∀ {w : Cond} (i : Nat), wsEn[i]? = some w → w.before args s = true := fun i h => hts _ (lin_wsEn _ (List.mem_of_getElem? h))
  exact ⟨va_AOA.of (hq 0 rfl), .of rfl (hq 1 rfl), .of rfl (hq 2 rfl), .of rfl (hq 3 rfl), .of rfl (hq 4 rfl), .of rfl (hq 5 rfl), .of rfl (hq 6 rfl), .of rfl (hq 7 rfl), .of rfl (hq 8 rfl)⟩
def zTm (i : Nat) : Term := .string RX7 (zTx.getD i (0, "")).1
abbrev zKt : Term := .static RX8 "KIND_ABOVE" "[I"
def zFl : List Cond := flatC (Jvm.Cond.and given_1 narrow_1)
theorem zFl_ex : ∀ i, i < 10 → Cond.exactly (zTm i) "java/lang/String" ∈ zFl := by decide +kernel
theorem zFl_co : ∀ i, i < 10 → Cond.eq (.field (zTm i) "java/lang/String" "coder" "B") (.int 0) ∈ zFl := by decide +kernel
theorem zFl_ar : ∀ i, i < 10 → Cond.arrayOf (.field (zTm i) "java/lang/String" "value" "[B") .byte ∈ zFl := by decide +kernel
theorem zFl_le : ∀ i, i < 10 → Cond.eq (.length (.field (zTm i) "java/lang/String" "value" "[B")) (.int (Int32.ofNat (zLen.getD i 0))) ∈ zFl := by decide +kernel
theorem zFl_el : ∀ i, i < 10 → ∀ j, j < zLen.getD i 0 → Cond.eq (.elem (.field (zTm i) "java/lang/String" "value" "[B") (.int (Int32.ofNat j))) (.int ((zByt.getD i []).getD j 0)) ∈ zFl := by decide +kernel
theorem zFl_ne : ∀ i, i < 10 → ∀ j, j < 10 → i ≠ j → Cond.not (Cond.eq (zTm i) (zTm j)) ∈ zFl ∨ Cond.not (Cond.eq (zTm j) (zTm i)) ∈ zFl := by decide +kernel
theorem zFl_kl : Cond.eq (.length zKt) (.int (Int32.ofNat 7)) ∈ zFl := by decide +kernel
theorem zFl_ka : Cond.arrayOf zKt .int ∈ zFl := by decide +kernel
theorem zFl_ke : ∀ j, j < 7 → Cond.eq (.elem zKt (.int (Int32.ofNat j))) (.int (zKaI j)) ∈ zFl := by decide +kernel
theorem zFl_cs : Cond.eq (.static "java/lang/String" "COMPACT_STRINGS" "Z") (.int 1) ∈ zFl := by decide +kernel
theorem zFl_sf : Cond.isRef (.static "jdk/internal/util/Preconditions" "SIOOBE_FORMATTER" "Ljava/util/function/BiFunction;") ∈ zFl := by decide +kernel
theorem zEnX {args : Array Value} {s : State} (hts : ∀ w ∈ lw_tbl, w.before args s = true) (hgv : (Jvm.Cond.and given_1 narrow_1).before args s = true) {A : Nat → Prop} (hA : ∀ a : Nat, a < s.heap.size → ¬ A a) : ∃ X : zFP, zFx X A s s.heap := by
  have hq : ∀ {w : Cond} (i : Nat), wsEn[i]? = some w → w.before args s = true := fun i h => hts _ (lin_wsEn _ (List.mem_of_getElem? h))
  have hz : ∀ {w : Cond} (i : Nat), wsEs[i]? = some w → w.before args s = true := fun i h => hts _ (lin_wsEs _ (List.mem_of_getElem? h))
  have hs : ∀ w ∈ zFl, w.before args s = true := flat_of_before _ hgv
  obtain ⟨t, ht, hT⟩ := va_Tof (tm := zKt) (ty := .int) (N := 7) (f := zKa) (A := A) (by decide) (hs _ zFl_ka) (va_eqt (hs _ zFl_kl)) (fun j hj => va_eqt (hs _ (zFl_ke j hj))) hA
  obtain ⟨adK, adV, hK, hE⟩ := vk_Sof (args := args) (s := s) (N := 10) (tm := zTm) (len := zLen) (byt := zByt) (A := A) (by decide) (fun i hi => hs _ (zFl_ex i hi)) (fun i hi => hs _ (zFl_co i hi)) (fun i hi => hs _ (zFl_ar i hi)) (fun i hi => hs _ (zFl_le i hi)) (fun i hi j hj => hs _ (zFl_el i hi j hj)) (fun i j hi hj hn => (zFl_ne i hi j hj hn).elim (fun h => Or.inl (hs _ h)) (fun h => Or.inr (hs _ h))) hA
  refine ⟨(t, adK, adV), va_Zref (hq 9 rfl) (hq 10 rfl) ht hA, hT, va_Zof (hq 11 rfl) (hq 12 rfl) (va_eqt (hs _ zFl_cs)) hA, va_Zqof (hq 13 rfl) (hq 14 rfl) (hs _ zFl_sf) hA, hK, ?_⟩
  intro i q hk
  have hi : i < 10 := (List.getElem?_eq_some_iff.mp hk).1
  match i, hk, hi with
  | 0, hk, _ => cases hk; exact vk_R.of (hz 0 rfl) (hE 0 (by decide))
  | 1, hk, _ => cases hk; exact vk_R.of (hz 1 rfl) (hE 1 (by decide))
  | 2, hk, _ => cases hk; exact vk_R.of (hz 2 rfl) (hE 2 (by decide))
  | 3, hk, _ => cases hk; exact vk_R.of (hz 3 rfl) (hE 3 (by decide))
  | 4, hk, _ => cases hk; exact vk_R.of (hz 4 rfl) (hE 4 (by decide))
  | 5, hk, _ => cases hk; exact vk_R.of (hz 5 rfl) (hE 5 (by decide))
  | 6, hk, _ => cases hk; exact vk_R.of (hz 6 rfl) (hE 6 (by decide))
  | 7, hk, _ => cases hk; exact vk_R.of (hz 7 rfl) (hE 7 (by decide))
  | 8, hk, _ => cases hk; exact vk_R.of (hz 8 rfl) (hE 8 (by decide))
  | 9, hk, _ => cases hk; exact vk_R.of (hz 9 rfl) (hE 9 (by decide))
  | i + 10, hk, hi => omega
