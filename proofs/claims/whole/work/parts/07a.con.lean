-- X0_forget X0_begin X0_parts X0_shareOut X0_shares X0_costs X0_tells X0_perform J7_fill_53178 X8_bothOf J6_bitCount_0f7a4 X1_isAtEdge X8_isCutBy X8_isOpen X1_spread X1_follow X1_knowingBehind X1_fillReached X1_reachedBy X1_chanceDay X2_hasPlace X2_renew X2_refusalOf X2_narrowed X2_holdCut X2_holdRow X2_holdNothing X2_isRow X2_cutOn X3_lay X3_flood X3_around X3_isThreatened
set_option maxHeartbeats 4000000 in
set_option maxRecDepth 100000 in
theorem pX0_forget (l : Launch) (D : va_G) (T : Nat → ClassId) (X : zFP) (hga : Nat → Nat) (sz : Nat) (ga : zM) (nga : zM) (hf : fX0_forget ga = some nga) : Met l yX0_forget wsX0_forget rX0_forget (zPre D T X [.ref (hga 0)] (wX0 T hga ga) sz) (zQv D T (wX0 T hga nga) (wX0 T hga ga) sz) 0 0 (va_A (wX0 T hga ga) sz) := by
  unfold fX0_forget at hf
  refine zStart [(0, .ref (hga 0))] (by decide) rfl (Nat.le_of_ble_eq_true rfl) rfl ?_
  intro p e s m args below meth c A Q ls hx hb hr hml hown hlocks hts hsz hA0 hQ hA hK hX hP hD hS hl
  replace hown : s.vm.findClass RX0 = some m.cls := hown
  have hH := hsz
  have hiX0 : ∀ w ∈ u_ws RX0 TX0 6, w ∈ wsX0_forget := fun w h => List.mem_cons_of_mem _ (List.mem_append_right _ (h))
  obtain ⟨H, hHe⟩ : ∃ H : Heap, H = s.heap := ⟨_, rfl⟩
  obtain ⟨locs, hLe⟩ : ∃ L : List Loc, L = [] := ⟨_, rfl⟩
  replace hP : va_P D vwCl (wX0 T hga ga) H := by rw [hHe]; exact hP
  replace hS : va_S A s.heap H locs := by rw [hHe, hLe]; exact hS
  suffices hgo : W p l e rX0_forget s m args below meth c H locs 0 0 Q (F0 m 0 ls []) by rw [hHe, hLe] at hgo; exact hgo
  clear hHe hLe
  refine lv_aload_n hx hb dX0_forget_0 rfl (lv_at hl 0 rfl) ?_
  refine lv_iconst (v := 0) hx hb dX0_forget_1 (by decide) ?_
  refine zPut (ci := 0) (C := RX0) (F := TX0) (N := 6) (x := 0) (w := ga) hx hb hts hiX0 tyX0 tyX0_ok nmX0 hown hK hP hD hS (fun g => wX0 T hga g) 0 1 1 rfl rfl (by decide) rfl rfl rfl ⟨rfl, rfl⟩ (Nat.le_of_ble_eq_true rfl) rfl dX0_forget_2 (fun ga_1 ega_1 H locs hP hD hS => ?_)
  replace hP : va_P D vwCl (wX0 T hga ga_1) H := hP
  replace hD : va_D A (wX0 T hga ga_1) := hD
  replace hf := zLt_at ega_1 hf
  refine lv_aload_n hx hb dX0_forget_5 rfl (lv_at hl 0 rfl) ?_
  refine lv_iconst (v := 0) hx hb dX0_forget_6 (by decide) ?_
  refine zPut (ci := 0) (C := RX0) (F := TX0) (N := 6) (x := 0) (w := ga_1) hx hb hts hiX0 tyX0 tyX0_ok nmX0 hown hK hP hD hS (fun g => wX0 T hga g) 0 2 2 rfl rfl (by decide) rfl rfl rfl (by decide) (Nat.le_of_ble_eq_true rfl) rfl dX0_forget_7 (fun ga_2 ega_2 H locs hP hD hS => ?_)
  replace hP : va_P D vwCl (wX0 T hga ga_2) H := hP
  replace hD : va_D A (wX0 T hga ga_2) := hD
  replace hf := zLt_at ega_2 hf
  obtain ⟨q1, -⟩ := zI1 hf
  subst q1
  exact zRetV hQ hx hb hr hlocks hA0 hK hP hD hS dX0_forget_10
set_option maxHeartbeats 4000000 in
set_option maxRecDepth 100000 in
theorem pX0_begin (l : Launch) (D : va_G) (T : Nat → ClassId) (X : zFP) (hga : Nat → Nat) (sz : Nat) (ga : zM) (a1 : Int32) (nga : zM) (hf : fX0_begin ga a1 = some nga) : Met l yX0_begin wsX0_begin rX0_begin (zPre D T X [.ref (hga 0), .int a1] (wX0 T hga ga) sz) (zQv D T (wX0 T hga nga) (wX0 T hga ga) sz) 0 0 (va_A (wX0 T hga ga) sz) := by
  unfold fX0_begin at hf
  refine zStart [(0, .ref (hga 0)), (1, .int a1)] (by decide) rfl (Nat.le_of_ble_eq_true rfl) rfl ?_
  intro p e s m args below meth c A Q ls hx hb hr hml hown hlocks hts hsz hA0 hQ hA hK hX hP hD hS hl
  replace hown : s.vm.findClass RX0 = some m.cls := hown
  have hH := hsz
  have hiX0 : ∀ w ∈ u_ws RX0 TX0 6, w ∈ wsX0_begin := fun w h => List.mem_cons_of_mem _ (List.mem_append_right _ (h))
  obtain ⟨H, hHe⟩ : ∃ H : Heap, H = s.heap := ⟨_, rfl⟩
  obtain ⟨locs, hLe⟩ : ∃ L : List Loc, L = [] := ⟨_, rfl⟩
  replace hP : va_P D vwCl (wX0 T hga ga) H := by rw [hHe]; exact hP
  replace hS : va_S A s.heap H locs := by rw [hHe, hLe]; exact hS
  suffices hgo : W p l e rX0_begin s m args below meth c H locs 0 0 Q (F0 m 0 ls []) by rw [hHe, hLe] at hgo; exact hgo
  clear hHe hLe
  refine lv_aload_n hx hb dX0_begin_0 rfl (lv_at hl 0 rfl) ?_
  refine zGet (ci := 0) (C := RX0) (F := TX0) (N := 6) (v := .int (ga 0 2)) hx hb hts hiX0 hown hK hP 0 2 1 rfl rfl (by decide) rfl rfl rfl dX0_begin_1 ?_
  refine lv_if_ne (tgt := 36) hx hb dX0_begin_4 (by decide) (fun hc => ?_) (fun hc => ?_)
  · replace hf := zIf_f hc hf
    obtain ⟨q1, -⟩ := zI1 hf
    subst q1
    exact zRetV hQ hx hb hr hlocks hA0 hK hP hD hS dX0_begin_36
  · replace hf := zIf_t hc hf
    refine lv_aload_n hx hb dX0_begin_7 rfl (lv_at hl 0 rfl) ?_
    refine zGet (ci := 0) (C := RX0) (F := TX0) (N := 6) (v := .int (ga 0 1)) hx hb hts hiX0 hown hK hP 0 1 2 rfl rfl (by decide) rfl rfl rfl dX0_begin_8 ?_
    refine lv_bipush (v := 30) hx hb dX0_begin_11 (by decide) ?_
    refine lv_icmp_ge (tgt := 36) hx hb dX0_begin_13 (by decide) (fun hc => ?_) (fun hc => ?_)
    · replace hf := zIf_t hc hf
      obtain ⟨q1, -⟩ := zI1 hf
      subst q1
      exact zRetV hQ hx hb hr hlocks hA0 hK hP hD hS dX0_begin_36
    · replace hf := zIf_f hc hf
      refine lv_aload_n hx hb dX0_begin_16 rfl (lv_at hl 0 rfl) ?_
      refine zGet (ci := 0) (C := RX0) (F := TX0) (N := 6) (v := .ref (hga 1)) hx hb hts hiX0 hown hK hP 0 0 3 rfl rfl (by decide) rfl rfl rfl dX0_begin_17 ?_
      refine lv_aload_n hx hb dX0_begin_20 rfl (lv_at hl 0 rfl) ?_
      refine zGet (ci := 0) (C := RX0) (F := TX0) (N := 6) (v := .int (ga 0 1)) hx hb hts hiX0 hown hK hP 0 1 2 rfl rfl (by decide) rfl rfl rfl dX0_begin_21 ?_
      refine lv_iload_n hx hb dX0_begin_24 rfl (lv_at hl 1 rfl) ?_
      obtain ⟨hg, hf⟩ := zGd_ok hf
      refine zAstI (w := ga) hx hb hK hP hD hS (fun g => wX0 T hga g) 1 1 rfl hg rfl dX0_begin_25 (fun ga_1 ega_1 H locs hP hD hS => ?_)
      replace hP : va_P D vwCl (wX0 T hga ga_1) H := hP
      replace hD : va_D A (wX0 T hga ga_1) := hD
      replace hf := zLt_at ega_1 hf
      refine lv_aload_n hx hb dX0_begin_26 rfl (lv_at hl 0 rfl) ?_
      refine lv_dup hx hb dX0_begin_27 rfl ?_
      refine zGet (ci := 0) (C := RX0) (F := TX0) (N := 6) (v := .int (ga_1 0 1)) hx hb hts hiX0 hown hK hP 0 1 2 rfl rfl (by decide) rfl rfl rfl dX0_begin_28 ?_
      refine lv_iconst (v := 1) hx hb dX0_begin_31 (by decide) ?_
      refine lv_iadd hx hb dX0_begin_32 ?_
      refine lv_topi (fun v2 ev2 => ?_)
      replace hf := zLt_at ev2 hf
      refine zPut (ci := 0) (C := RX0) (F := TX0) (N := 6) (x := v2) (w := ga_1) hx hb hts hiX0 tyX0 tyX0_ok nmX0 hown hK hP hD hS (fun g => wX0 T hga g) 0 1 2 rfl rfl (by decide) rfl rfl rfl ⟨rfl, rfl⟩ (Nat.le_of_ble_eq_true rfl) rfl dX0_begin_33 (fun ga_3 ega_3 H locs hP hD hS => ?_)
      replace hP : va_P D vwCl (wX0 T hga ga_3) H := hP
      replace hD : va_D A (wX0 T hga ga_3) := hD
      replace hf := zLt_at ega_3 hf
      obtain ⟨q1, -⟩ := zI1 hf
      subst q1
      exact zRetV hQ hx hb hr hlocks hA0 hK hP hD hS dX0_begin_36
set_option maxHeartbeats 4000000 in
set_option maxRecDepth 100000 in
theorem pX0_parts_B (l : Launch) (D : va_G) (T : Nat → ClassId) (X : zFP) (hga : Nat → Nat) (sz : Nat) (rm : Room) (hrm : rm.cells = 0 ∧ rm.slots = 0 ∧ 0 ≤ rm.frames ∧ 30 ≤ rm.locals) (lk : zM → Int32 → Int32 → Option (Int32 × zM)) (ga : zM) (a1 : Int32) (a2 : Int32) (r : Int32) (nga : zM) (ih : ∀ (hga : Nat → Nat) (sz : Nat) (ga : zM) (a1 : Int32) (a2 : Int32) (r : Int32) (nga : zM) , lk ga a1 a2 = some (r, nga) → Met l yX0_parts wsX0_parts rm (zPre D T X [.ref (hga 0), .int a1, .int a2] (wX0 T hga ga) sz) (zQi D T r (wX0 T hga nga) (wX0 T hga ga) sz) 0 0 (va_A (wX0 T hga ga) sz)) (hf : fX0_parts_B lk ga a1 a2 = some (r, nga)) : Met l yX0_parts wsX0_parts (rX0_parts_B rm) (zPre D T X [.ref (hga 0), .int a1, .int a2] (wX0 T hga ga) sz) (zQi D T r (wX0 T hga nga) (wX0 T hga ga) sz) 0 0 (va_A (wX0 T hga ga) sz) := by
  unfold fX0_parts_B at hf
  refine zStart [(0, .ref (hga 0)), (1, .int a1), (2, .int a2)] (by decide) rfl (Nat.le_of_ble_eq_true rfl) rfl ?_
  intro p e s m args below meth c A Q ls hx hb hr hml hown hlocks hts hsz hA0 hQ hA hK hX hP hD hS hl
  replace hown : s.vm.findClass RX0 = some m.cls := hown
  have hH := hsz
  have hiX0 : ∀ w ∈ u_ws RX0 TX0 6, w ∈ wsX0_parts := fun w h => List.mem_cons_of_mem _ (List.mem_append_right _ (h))
  obtain ⟨H, hHe⟩ : ∃ H : Heap, H = s.heap := ⟨_, rfl⟩
  obtain ⟨locs, hLe⟩ : ∃ L : List Loc, L = [] := ⟨_, rfl⟩
  replace hP : va_P D vwCl (wX0 T hga ga) H := by rw [hHe]; exact hP
  replace hS : va_S A s.heap H locs := by rw [hHe, hLe]; exact hS
  suffices hgo : W p l e (rX0_parts_B rm) s m args below meth c H locs 0 0 Q (F0 m 0 ls []) by rw [hHe, hLe] at hgo; exact hgo
  clear hHe hLe
  refine lv_iload_n hx hb dX0_parts_0 rfl (lv_at hl 1 rfl) ?_
  refine zSw (x := a1) (k := 1) (fun hc => ?_) (fun hk1 => ?_)
  · replace hf := zIf_t hc hf
    refine lv_tableIn (off := 105) (tgt := 106) hx hb dX0_parts_1 (by rw [hc]; decide) (by rw [hc]; decide) (by rw [hc]; decide) (by decide) ?_
    refine lv_aload_n hx hb dX0_parts_106 rfl (lv_at hl 0 rfl) ?_
    refine lv_iconst (v := 0) hx hb dX0_parts_107 (by decide) ?_
    refine lv_iload_n hx hb dX0_parts_108 rfl (lv_at hl 2 rfl) ?_
    obtain ⟨v1, ga_2, hc109, hf⟩ := zB2_ok hf
    refine zCallVEI [.int 0, .int a2] ⟨hx, hb, hml, hown, hts⟩ (ih hga H.size ga 0 a2 v1 ga_2 hc109) (cwV 2 hts gX0_parts_X0_parts rfl hrm.1 hrm.2.1 (by decide +kernel) ⟨by show rm.frames + 1 ≤ rm.frames + 1; omega, by show 8 + (3 + 11) + rm.locals ≤ rm.locals + 22; omega⟩) hK hP hD hS hA hX 0 rfl rfl rfl hl.1 rfl (Nat.le_of_ble_eq_true rfl) dX0_parts_109 ⟨Nat.zero_le _, Nat.zero_le _⟩ (fun H locs hP hD hS => ?_)
    obtain ⟨q1, q2⟩ := zI2 hf
    subst q1
    subst q2
    exact zRetI hQ hx hb hr hlocks hA0 hK hP hD hS rfl dX0_parts_112
  replace hf := zIf_f hk1 hf
  refine zSw (x := a1) (k := 2) (fun hc => ?_) (fun hk2 => ?_)
  · replace hf := zIf_t hc hf
    refine lv_tableIn (off := 39) (tgt := 40) hx hb dX0_parts_1 (by rw [hc]; decide) (by rw [hc]; decide) (by rw [hc]; decide) (by decide) ?_
    refine lv_aload_n hx hb dX0_parts_40 rfl (lv_at hl 0 rfl) ?_
    refine lv_bipush (v := 30) hx hb dX0_parts_41 (by decide) ?_
    obtain ⟨ga_3, hc43, hf⟩ := zB1_ok hf
    refine zCallVEV [.int 30] ⟨hx, hb, hml, hown, hts⟩ (pX0_begin l D T X hga H.size ga 30 ga_3 hc43) (cwV 1 hts gX0_parts_X0_begin rfl rfl rfl (by decide +kernel) ⟨by have h1 := hrm.2.2.1; have h2 := hrm.2.2.2; show 0 + 1 ≤ rm.frames + 1; omega, by have h1 := hrm.2.2.1; have h2 := hrm.2.2.2; show 8 + (2 + 11) + 0 ≤ rm.locals + 22; omega⟩) hK hP hD hS hA hX 0 rfl rfl rfl hl.1 rfl (Nat.le_of_ble_eq_true rfl) dX0_parts_43 ⟨Nat.zero_le _, Nat.zero_le _⟩ (fun H locs hP hD hS => ?_)
    refine lv_aload_n hx hb dX0_parts_46 rfl (lv_at hl 0 rfl) ?_
    refine lv_iconst (v := 0) hx hb dX0_parts_47 (by decide) ?_
    refine lv_iload_n hx hb dX0_parts_48 rfl (lv_at hl 2 rfl) ?_
    obtain ⟨v4, ga_5, hc49, hf⟩ := zB2_ok hf
    refine zCallVEI [.int 0, .int a2] ⟨hx, hb, hml, hown, hts⟩ (ih hga H.size ga_3 0 a2 v4 ga_5 hc49) (cwV 2 hts gX0_parts_X0_parts rfl hrm.1 hrm.2.1 (by decide +kernel) ⟨by show rm.frames + 1 ≤ rm.frames + 1; omega, by show 8 + (3 + 11) + rm.locals ≤ rm.locals + 22; omega⟩) hK hP hD hS hA hX 0 rfl rfl rfl hl.1 rfl (Nat.le_of_ble_eq_true rfl) dX0_parts_49 ⟨Nat.zero_le _, Nat.zero_le _⟩ (fun H locs hP hD hS => ?_)
    refine lv_iconst (v := 3) hx hb dX0_parts_52 (by decide) ?_
    refine lv_imul hx hb dX0_parts_53 ?_
    obtain ⟨q1, q2⟩ := zI2 hf
    subst q1
    subst q2
    exact zRetI hQ hx hb hr hlocks hA0 hK hP hD hS rfl dX0_parts_54
  replace hf := zIf_f hk2 hf
  refine zSw (x := a1) (k := 3) (fun hc => ?_) (fun hk3 => ?_)
  · replace hf := zIf_t hc hf
    refine lv_tableIn (off := 54) (tgt := 55) hx hb dX0_parts_1 (by rw [hc]; decide) (by rw [hc]; decide) (by rw [hc]; decide) (by decide) ?_
    refine lv_aload_n hx hb dX0_parts_55 rfl (lv_at hl 0 rfl) ?_
    refine lv_bipush (v := 41) hx hb dX0_parts_56 (by decide) ?_
    obtain ⟨ga_6, hc58, hf⟩ := zB1_ok hf
    refine zCallVEV [.int 41] ⟨hx, hb, hml, hown, hts⟩ (pX0_begin l D T X hga H.size ga 41 ga_6 hc58) (cwV 1 hts gX0_parts_X0_begin rfl rfl rfl (by decide +kernel) ⟨by have h1 := hrm.2.2.1; have h2 := hrm.2.2.2; show 0 + 1 ≤ rm.frames + 1; omega, by have h1 := hrm.2.2.1; have h2 := hrm.2.2.2; show 8 + (2 + 11) + 0 ≤ rm.locals + 22; omega⟩) hK hP hD hS hA hX 0 rfl rfl rfl hl.1 rfl (Nat.le_of_ble_eq_true rfl) dX0_parts_58 ⟨Nat.zero_le _, Nat.zero_le _⟩ (fun H locs hP hD hS => ?_)
    refine lv_aload_n hx hb dX0_parts_61 rfl (lv_at hl 0 rfl) ?_
    refine lv_iconst (v := 2) hx hb dX0_parts_62 (by decide) ?_
    refine lv_iload_n hx hb dX0_parts_63 rfl (lv_at hl 2 rfl) ?_
    obtain ⟨v7, ga_8, hc64, hf⟩ := zB2_ok hf
    refine zCallVEI [.int 2, .int a2] ⟨hx, hb, hml, hown, hts⟩ (ih hga H.size ga_6 2 a2 v7 ga_8 hc64) (cwV 2 hts gX0_parts_X0_parts rfl hrm.1 hrm.2.1 (by decide +kernel) ⟨by show rm.frames + 1 ≤ rm.frames + 1; omega, by show 8 + (3 + 11) + rm.locals ≤ rm.locals + 22; omega⟩) hK hP hD hS hA hX 0 rfl rfl rfl hl.1 rfl (Nat.le_of_ble_eq_true rfl) dX0_parts_64 ⟨Nat.zero_le _, Nat.zero_le _⟩ (fun H locs hP hD hS => ?_)
    refine lv_aload_n hx hb dX0_parts_67 rfl (lv_at hl 0 rfl) ?_
    refine zGet (ci := 0) (C := RX0) (F := TX0) (N := 6) (v := .int (ga_8 0 4)) hx hb hts hiX0 hown hK hP 0 4 1 rfl rfl (by decide) rfl rfl rfl dX0_parts_68 ?_
    refine lv_isub hx hb dX0_parts_71 ?_
    obtain ⟨q1, q2⟩ := zI2 hf
    subst q1
    subst q2
    exact zRetI hQ hx hb hr hlocks hA0 hK hP hD hS rfl dX0_parts_72
  replace hf := zIf_f hk3 hf
  refine zSw (x := a1) (k := 4) (fun hc => ?_) (fun hk4 => ?_)
  · replace hf := zIf_t hc hf
    refine lv_tableIn (off := 72) (tgt := 73) hx hb dX0_parts_1 (by rw [hc]; decide) (by rw [hc]; decide) (by rw [hc]; decide) (by decide) ?_
    refine lv_aload_n hx hb dX0_parts_73 rfl (lv_at hl 0 rfl) ?_
    refine lv_bipush (v := 50) hx hb dX0_parts_74 (by decide) ?_
    obtain ⟨ga_9, hc76, hf⟩ := zB1_ok hf
    refine zCallVEV [.int 50] ⟨hx, hb, hml, hown, hts⟩ (pX0_begin l D T X hga H.size ga 50 ga_9 hc76) (cwV 1 hts gX0_parts_X0_begin rfl rfl rfl (by decide +kernel) ⟨by have h1 := hrm.2.2.1; have h2 := hrm.2.2.2; show 0 + 1 ≤ rm.frames + 1; omega, by have h1 := hrm.2.2.1; have h2 := hrm.2.2.2; show 8 + (2 + 11) + 0 ≤ rm.locals + 22; omega⟩) hK hP hD hS hA hX 0 rfl rfl rfl hl.1 rfl (Nat.le_of_ble_eq_true rfl) dX0_parts_76 ⟨Nat.zero_le _, Nat.zero_le _⟩ (fun H locs hP hD hS => ?_)
    refine lv_iconst (v := 0) hx hb dX0_parts_79 (by decide) ?_
    refine lv_aload_n hx hb dX0_parts_80 rfl (lv_at hl 0 rfl) ?_
    refine lv_iconst (v := 1) hx hb dX0_parts_81 (by decide) ?_
    refine lv_iload_n hx hb dX0_parts_82 rfl (lv_at hl 2 rfl) ?_
    obtain ⟨v10, ga_11, hc83, hf⟩ := zB2_ok hf
    refine zCallVEI [.int 1, .int a2] ⟨hx, hb, hml, hown, hts⟩ (ih hga H.size ga_9 1 a2 v10 ga_11 hc83) (cwV 2 hts gX0_parts_X0_parts rfl hrm.1 hrm.2.1 (by decide +kernel) ⟨by show rm.frames + 1 ≤ rm.frames + 1; omega, by show 8 + (3 + 11) + rm.locals ≤ rm.locals + 22; omega⟩) hK hP hD hS hA hX 0 rfl rfl rfl hl.1 rfl (Nat.le_of_ble_eq_true rfl) dX0_parts_83 ⟨Nat.zero_le _, Nat.zero_le _⟩ (fun H locs hP hD hS => ?_)
    refine lv_isub hx hb dX0_parts_86 ?_
    obtain ⟨q1, q2⟩ := zI2 hf
    subst q1
    subst q2
    exact zRetI hQ hx hb hr hlocks hA0 hK hP hD hS rfl dX0_parts_87
  replace hf := zIf_f hk4 hf
  refine zSw (x := a1) (k := 5) (fun hc => ?_) (fun hk5 => ?_)
  · replace hf := zIf_t hc hf
    refine lv_tableIn (off := 112) (tgt := 113) hx hb dX0_parts_1 (by rw [hc]; decide) (by rw [hc]; decide) (by rw [hc]; decide) (by decide) ?_
    refine lv_aload_n hx hb dX0_parts_113 rfl (lv_at hl 0 rfl) ?_
    refine lv_iconst (v := 3) hx hb dX0_parts_114 (by decide) ?_
    refine lv_iload_n hx hb dX0_parts_115 rfl (lv_at hl 2 rfl) ?_
    obtain ⟨v12, ga_13, hc116, hf⟩ := zB2_ok hf
    refine zCallVEI [.int 3, .int a2] ⟨hx, hb, hml, hown, hts⟩ (ih hga H.size ga 3 a2 v12 ga_13 hc116) (cwV 2 hts gX0_parts_X0_parts rfl hrm.1 hrm.2.1 (by decide +kernel) ⟨by show rm.frames + 1 ≤ rm.frames + 1; omega, by show 8 + (3 + 11) + rm.locals ≤ rm.locals + 22; omega⟩) hK hP hD hS hA hX 0 rfl rfl rfl hl.1 rfl (Nat.le_of_ble_eq_true rfl) dX0_parts_116 ⟨Nat.zero_le _, Nat.zero_le _⟩ (fun H locs hP hD hS => ?_)
    obtain ⟨q1, q2⟩ := zI2 hf
    subst q1
    subst q2
    exact zRetI hQ hx hb hr hlocks hA0 hK hP hD hS rfl dX0_parts_119
  replace hf := zIf_f hk5 hf
  refine zSw (x := a1) (k := 6) (fun hc => ?_) (fun hk6 => ?_)
  · replace hf := zIf_t hc hf
    refine lv_tableIn (off := 87) (tgt := 88) hx hb dX0_parts_1 (by rw [hc]; decide) (by rw [hc]; decide) (by rw [hc]; decide) (by decide) ?_
    refine lv_aload_n hx hb dX0_parts_88 rfl (lv_at hl 0 rfl) ?_
    refine lv_bipush (v := 70) hx hb dX0_parts_89 (by decide) ?_
    obtain ⟨ga_14, hc91, hf⟩ := zB1_ok hf
    refine zCallVEV [.int 70] ⟨hx, hb, hml, hown, hts⟩ (pX0_begin l D T X hga H.size ga 70 ga_14 hc91) (cwV 1 hts gX0_parts_X0_begin rfl rfl rfl (by decide +kernel) ⟨by have h1 := hrm.2.2.1; have h2 := hrm.2.2.2; show 0 + 1 ≤ rm.frames + 1; omega, by have h1 := hrm.2.2.1; have h2 := hrm.2.2.2; show 8 + (2 + 11) + 0 ≤ rm.locals + 22; omega⟩) hK hP hD hS hA hX 0 rfl rfl rfl hl.1 rfl (Nat.le_of_ble_eq_true rfl) dX0_parts_91 ⟨Nat.zero_le _, Nat.zero_le _⟩ (fun H locs hP hD hS => ?_)
    refine lv_aload_n hx hb dX0_parts_94 rfl (lv_at hl 0 rfl) ?_
    refine lv_iconst (v := 0) hx hb dX0_parts_95 (by decide) ?_
    refine lv_iload_n hx hb dX0_parts_96 rfl (lv_at hl 2 rfl) ?_
    obtain ⟨v15, ga_16, hc97, hf⟩ := zB2_ok hf
    refine zCallVEI [.int 0, .int a2] ⟨hx, hb, hml, hown, hts⟩ (ih hga H.size ga_14 0 a2 v15 ga_16 hc97) (cwV 2 hts gX0_parts_X0_parts rfl hrm.1 hrm.2.1 (by decide +kernel) ⟨by show rm.frames + 1 ≤ rm.frames + 1; omega, by show 8 + (3 + 11) + rm.locals ≤ rm.locals + 22; omega⟩) hK hP hD hS hA hX 0 rfl rfl rfl hl.1 rfl (Nat.le_of_ble_eq_true rfl) dX0_parts_97 ⟨Nat.zero_le _, Nat.zero_le _⟩ (fun H locs hP hD hS => ?_)
    refine lv_aload_n hx hb dX0_parts_100 rfl (lv_at hl 0 rfl) ?_
    refine zGet (ci := 0) (C := RX0) (F := TX0) (N := 6) (v := .int (ga_16 0 5)) hx hb hts hiX0 hown hK hP 0 5 2 rfl rfl (by decide) rfl rfl rfl dX0_parts_101 ?_
    refine lv_ixor hx hb dX0_parts_104 ?_
    obtain ⟨q1, q2⟩ := zI2 hf
    subst q1
    subst q2
    exact zRetI hQ hx hb hr hlocks hA0 hK hP hD hS rfl dX0_parts_105
  replace hf := zIf_f hk6 hf
  refine lv_tableOut (tgt := 120) hx hb dX0_parts_1 (by have := zNe hk1 (z := 1) (by decide); have := zNe hk2 (z := 2) (by decide); have := zNe hk3 (z := 3) (by decide); have := zNe hk4 (z := 4) (by decide); have := zNe hk5 (z := 5) (by decide); have := zNe hk6 (z := 6) (by decide); omega) (by decide) ?_
  refine lv_aload_n hx hb dX0_parts_120 rfl (lv_at hl 0 rfl) ?_
  refine lv_bipush (v := 10) hx hb dX0_parts_121 (by decide) ?_
  obtain ⟨ga_17, hc123, hf⟩ := zB1_ok hf
  refine zCallVEV [.int 10] ⟨hx, hb, hml, hown, hts⟩ (pX0_begin l D T X hga H.size ga 10 ga_17 hc123) (cwV 1 hts gX0_parts_X0_begin rfl rfl rfl (by decide +kernel) ⟨by have h1 := hrm.2.2.1; have h2 := hrm.2.2.2; show 0 + 1 ≤ rm.frames + 1; omega, by have h1 := hrm.2.2.1; have h2 := hrm.2.2.2; show 8 + (2 + 11) + 0 ≤ rm.locals + 22; omega⟩) hK hP hD hS hA hX 0 rfl rfl rfl hl.1 rfl (Nat.le_of_ble_eq_true rfl) dX0_parts_123 ⟨Nat.zero_le _, Nat.zero_le _⟩ (fun H locs hP hD hS => ?_)
  refine lv_iload_n hx hb dX0_parts_126 rfl (lv_at hl 2 rfl) ?_
  refine lv_aload_n hx hb dX0_parts_127 rfl (lv_at hl 0 rfl) ?_
  refine zGet (ci := 0) (C := RX0) (F := TX0) (N := 6) (v := .int (ga_17 0 4)) hx hb hts hiX0 hown hK hP 0 4 1 rfl rfl (by decide) rfl rfl rfl dX0_parts_128 ?_
  refine lv_iadd hx hb dX0_parts_131 ?_
  obtain ⟨q1, q2⟩ := zI2 hf
  subst q1
  subst q2
  exact zRetI hQ hx hb hr hlocks hA0 hK hP hD hS rfl dX0_parts_132
theorem rX0_parts_0 : ∀ d, (rX0_parts d).cells = 0 ∧ (rX0_parts d).slots = 0 ∧ 0 ≤ (rX0_parts d).frames ∧ 30 ≤ (rX0_parts d).locals
  | 0 => ⟨rfl, rfl, Nat.le_refl _, Nat.le_refl _⟩
  | d + 1 => ⟨rfl, rfl, Nat.le_trans (rX0_parts_0 d).2.2.1 (Nat.le_add_right _ _), Nat.le_trans (rX0_parts_0 d).2.2.2 (Nat.le_add_right _ _)⟩
theorem pX0_parts_d (l : Launch) (D : va_G) (T : Nat → ClassId) (X : zFP) : ∀ (d : Nat) (hga : Nat → Nat) (sz : Nat) (ga : zM) (a1 : Int32) (a2 : Int32) (r : Int32) (nga : zM) (_ : fX0_parts d ga a1 a2 = some (r, nga)), Met l yX0_parts wsX0_parts (rX0_parts d) (zPre D T X [.ref (hga 0), .int a1, .int a2] (wX0 T hga ga) sz) (zQi D T r (wX0 T hga nga) (wX0 T hga ga) sz) 0 0 (va_A (wX0 T hga ga) sz) := by
  intro d
  induction d with
  | zero => intro hga sz ga a1 a2 r nga hf; cases hf
  | succ d ihd =>
    intro hga sz ga a1 a2 r nga hf
    exact pX0_parts_B l D T X hga sz (rX0_parts d) (rX0_parts_0 d) (fX0_parts d) ga a1 a2 r nga ihd hf
theorem pX0_parts (l : Launch) (D : va_G) (T : Nat → ClassId) (X : zFP) (hga : Nat → Nat) (sz : Nat) (d : Nat) (ga : zM) (a1 : Int32) (a2 : Int32) (r : Int32) (nga : zM) (hf : fX0_parts d ga a1 a2 = some (r, nga)) : Met l yX0_parts wsX0_parts (rX0_parts d) (zPre D T X [.ref (hga 0), .int a1, .int a2] (wX0 T hga ga) sz) (zQi D T r (wX0 T hga nga) (wX0 T hga ga) sz) 0 0 (va_A (wX0 T hga ga) sz) := pX0_parts_d l D T X d hga sz ga a1 a2 r nga hf
set_option maxHeartbeats 4000000 in
set_option maxRecDepth 100000 in
theorem pX0_shareOut (l : Launch) (D : va_G) (T : Nat → ClassId) (X : zFP) (hga : Nat → Nat) (sz : Nat) (ga : zM) (a1 : Int32) (r : Int32) (nga : zM) (hf : fX0_shareOut ga a1 = some (r, nga)) : Met l yX0_shareOut wsX0_shareOut rX0_shareOut (zPre D T X [.ref (hga 0), .int a1] (wX0 T hga ga) sz) (zQi D T r (wX0 T hga nga) (wX0 T hga ga) sz) 0 0 (va_A (wX0 T hga ga) sz) := by
  unfold fX0_shareOut at hf
  refine zStart [(0, .ref (hga 0)), (1, .int a1)] (by decide) rfl (Nat.le_of_ble_eq_true rfl) rfl ?_
  intro p e s m args below meth c A Q ls hx hb hr hml hown hlocks hts hsz hA0 hQ hA hK hX hP hD hS hl
  replace hown : s.vm.findClass RX0 = some m.cls := hown
  have hH := hsz
  have hiX0 : ∀ w ∈ u_ws RX0 TX0 6, w ∈ wsX0_shareOut := fun w h => List.mem_cons_of_mem _ (List.mem_append_right _ (h))
  obtain ⟨H, hHe⟩ : ∃ H : Heap, H = s.heap := ⟨_, rfl⟩
  obtain ⟨locs, hLe⟩ : ∃ L : List Loc, L = [] := ⟨_, rfl⟩
  replace hP : va_P D vwCl (wX0 T hga ga) H := by rw [hHe]; exact hP
  replace hS : va_S A s.heap H locs := by rw [hHe, hLe]; exact hS
  suffices hgo : W p l e rX0_shareOut s m args below meth c H locs 0 0 Q (F0 m 0 ls []) by rw [hHe, hLe] at hgo; exact hgo
  clear hHe hLe
  refine lv_aload_n hx hb dX0_shareOut_0 rfl (lv_at hl 0 rfl) ?_
  refine zGet (ci := 0) (C := RX0) (F := TX0) (N := 6) (v := .int (ga 0 5)) hx hb hts hiX0 hown hK hP 0 5 1 rfl rfl (by decide) rfl rfl rfl dX0_shareOut_1 ?_
  refine lv_aload_n hx hb dX0_shareOut_4 rfl (lv_at hl 0 rfl) ?_
  refine zGet (ci := 0) (C := RX0) (F := TX0) (N := 6) (v := .int (ga 0 4)) hx hb hts hiX0 hown hK hP 0 4 2 rfl rfl (by decide) rfl rfl rfl dX0_shareOut_5 ?_
  refine lv_isub hx hb dX0_shareOut_8 ?_
  refine lv_topi (fun v1 ev1 => ?_)
  replace hf := zLt_at ev1 hf
  refine lv_istore_n (lv' := [(2, .int v1), (0, .ref (hga 0)), (1, .int a1)]) hx hb dX0_shareOut_9 rfl hl (by decide) rfl (fun ls hl => ?_)
  refine lv_iload_n hx hb dX0_shareOut_10 rfl (lv_at hl 0 rfl) ?_
  refine lv_if_ne (tgt := 21) hx hb dX0_shareOut_11 (by decide) (fun hc => ?_) (fun hc => ?_)
  · replace hf := zIf_f hc hf
    refine lv_iload_n hx hb dX0_shareOut_21 rfl (lv_at hl 2 rfl) ?_
    refine lv_iload_n hx hb dX0_shareOut_22 rfl (lv_at hl 0 rfl) ?_
    obtain ⟨hg, hf⟩ := zGd_ok hf
    refine lv_idiv hx hb dX0_shareOut_23 (zNz_ok hg) ?_
    obtain ⟨q1, q2⟩ := zI2 hf
    subst q1
    subst q2
    exact zRetI hQ hx hb hr hlocks hA0 hK hP hD hS rfl dX0_shareOut_24
  · replace hf := zIf_t hc hf
    refine lv_aload_n hx hb dX0_shareOut_14 rfl (lv_at hl 1 rfl) ?_
    refine lv_iconst (v := 1) hx hb dX0_shareOut_15 (by decide) ?_
    refine zPut (ci := 0) (C := RX0) (F := TX0) (N := 6) (x := 1) (w := ga) hx hb hts hiX0 tyX0 tyX0_ok nmX0 hown hK hP hD hS (fun g => wX0 T hga g) 0 2 3 rfl rfl (by decide) rfl rfl rfl (by decide) (Nat.le_of_ble_eq_true rfl) rfl dX0_shareOut_16 (fun ga_2 ega_2 H locs hP hD hS => ?_)
    replace hP : va_P D vwCl (wX0 T hga ga_2) H := hP
    replace hD : va_D A (wX0 T hga ga_2) := hD
    replace hf := zLt_at ega_2 hf
    refine lv_iconst (v := 0) hx hb dX0_shareOut_19 (by decide) ?_
    obtain ⟨q1, q2⟩ := zI2 hf
    subst q1
    subst q2
    exact zRetI hQ hx hb hr hlocks hA0 hK hP hD hS rfl dX0_shareOut_20
set_option maxHeartbeats 4000000 in
set_option maxRecDepth 100000 in
theorem pX0_shares_B (l : Launch) (D : va_G) (T : Nat → ClassId) (X : zFP) (hga : Nat → Nat) (sz : Nat) (rm : Room) (hrm : rm.cells = 0 ∧ rm.slots = 0 ∧ 6 ≤ rm.frames ∧ 300 ≤ rm.locals) (lk : zM → Int32 → Int32 → Option (Int32 × zM)) (ga : zM) (a1 : Int32) (a2 : Int32) (r : Int32) (nga : zM) (ih : ∀ (hga : Nat → Nat) (sz : Nat) (ga : zM) (a1 : Int32) (a2 : Int32) (r : Int32) (nga : zM) , lk ga a1 a2 = some (r, nga) → Met l yX0_shares wsX0_shares rm (zPre D T X [.ref (hga 0), .int a1, .int a2] (wX0 T hga ga) sz) (zQi D T r (wX0 T hga nga) (wX0 T hga ga) sz) 0 0 (va_A (wX0 T hga ga) sz)) (hf : fX0_shares_B lk ga a1 a2 = some (r, nga)) : Met l yX0_shares wsX0_shares (rX0_shares_B rm) (zPre D T X [.ref (hga 0), .int a1, .int a2] (wX0 T hga ga) sz) (zQi D T r (wX0 T hga nga) (wX0 T hga ga) sz) 0 0 (va_A (wX0 T hga ga) sz) := by
  unfold fX0_shares_B at hf
  refine zStart [(0, .ref (hga 0)), (1, .int a1), (2, .int a2)] (by decide) rfl (Nat.le_of_ble_eq_true rfl) rfl ?_
  intro p e s m args below meth c A Q ls hx hb hr hml hown hlocks hts hsz hA0 hQ hA hK hX hP hD hS hl
  replace hown : s.vm.findClass RX0 = some m.cls := hown
  have hH := hsz
  have hiX0 : ∀ w ∈ u_ws RX0 TX0 6, w ∈ wsX0_shares := fun w h => List.mem_cons_of_mem _ (List.mem_append_right _ (h))
  obtain ⟨H, hHe⟩ : ∃ H : Heap, H = s.heap := ⟨_, rfl⟩
  obtain ⟨locs, hLe⟩ : ∃ L : List Loc, L = [] := ⟨_, rfl⟩
  replace hP : va_P D vwCl (wX0 T hga ga) H := by rw [hHe]; exact hP
  replace hS : va_S A s.heap H locs := by rw [hHe, hLe]; exact hS
  suffices hgo : W p l e (rX0_shares_B rm) s m args below meth c H locs 0 0 Q (F0 m 0 ls []) by rw [hHe, hLe] at hgo; exact hgo
  clear hHe hLe
  refine lv_iload_n hx hb dX0_shares_0 rfl (lv_at hl 1 rfl) ?_
  refine zSw (x := a1) (k := 1) (fun hc => ?_) (fun hk1 => ?_)
  · replace hf := zIf_t hc hf
    refine lv_tableIn (off := 96) (tgt := 97) hx hb dX0_shares_1 (by rw [hc]; decide) (by rw [hc]; decide) (by rw [hc]; decide) (by decide) ?_
    refine lv_aload_n hx hb dX0_shares_97 rfl (lv_at hl 0 rfl) ?_
    refine lv_iconst (v := 0) hx hb dX0_shares_98 (by decide) ?_
    refine lv_iload_n hx hb dX0_shares_99 rfl (lv_at hl 2 rfl) ?_
    obtain ⟨v1, ga_2, hc100, hf⟩ := zB2_ok hf
    refine zCallVEI [.int 0, .int a2] ⟨hx, hb, hml, hown, hts⟩ (ih hga H.size ga 0 a2 v1 ga_2 hc100) (cwV 2 hts gX0_shares_X0_shares rfl hrm.1 hrm.2.1 (by decide +kernel) ⟨by show rm.frames + 1 ≤ rm.frames + 1; omega, by show 8 + (3 + 11) + rm.locals ≤ rm.locals + 22; omega⟩) hK hP hD hS hA hX 0 rfl rfl rfl hl.1 rfl (Nat.le_of_ble_eq_true rfl) dX0_shares_100 ⟨Nat.zero_le _, Nat.zero_le _⟩ (fun H locs hP hD hS => ?_)
    obtain ⟨q1, q2⟩ := zI2 hf
    subst q1
    subst q2
    exact zRetI hQ hx hb hr hlocks hA0 hK hP hD hS rfl dX0_shares_103
  replace hf := zIf_f hk1 hf
  refine zSw (x := a1) (k := 2) (fun hc => ?_) (fun hk2 => ?_)
  · replace hf := zIf_t hc hf
    refine lv_tableIn (off := 96) (tgt := 97) hx hb dX0_shares_1 (by rw [hc]; decide) (by rw [hc]; decide) (by rw [hc]; decide) (by decide) ?_
    refine lv_aload_n hx hb dX0_shares_97 rfl (lv_at hl 0 rfl) ?_
    refine lv_iconst (v := 0) hx hb dX0_shares_98 (by decide) ?_
    refine lv_iload_n hx hb dX0_shares_99 rfl (lv_at hl 2 rfl) ?_
    obtain ⟨v3, ga_4, hc100, hf⟩ := zB2_ok hf
    refine zCallVEI [.int 0, .int a2] ⟨hx, hb, hml, hown, hts⟩ (ih hga H.size ga 0 a2 v3 ga_4 hc100) (cwV 2 hts gX0_shares_X0_shares rfl hrm.1 hrm.2.1 (by decide +kernel) ⟨by show rm.frames + 1 ≤ rm.frames + 1; omega, by show 8 + (3 + 11) + rm.locals ≤ rm.locals + 22; omega⟩) hK hP hD hS hA hX 0 rfl rfl rfl hl.1 rfl (Nat.le_of_ble_eq_true rfl) dX0_shares_100 ⟨Nat.zero_le _, Nat.zero_le _⟩ (fun H locs hP hD hS => ?_)
    obtain ⟨q1, q2⟩ := zI2 hf
    subst q1
    subst q2
    exact zRetI hQ hx hb hr hlocks hA0 hK hP hD hS rfl dX0_shares_103
  replace hf := zIf_f hk2 hf
  refine zSw (x := a1) (k := 3) (fun hc => ?_) (fun hk3 => ?_)
  · replace hf := zIf_t hc hf
    refine lv_tableIn (off := 39) (tgt := 40) hx hb dX0_shares_1 (by rw [hc]; decide) (by rw [hc]; decide) (by rw [hc]; decide) (by decide) ?_
    refine lv_aload_n hx hb dX0_shares_40 rfl (lv_at hl 0 rfl) ?_
    refine lv_bipush (v := 40) hx hb dX0_shares_41 (by decide) ?_
    obtain ⟨ga_5, hc43, hf⟩ := zB1_ok hf
    refine zCallVEV [.int 40] ⟨hx, hb, hml, hown, hts⟩ (pX0_begin l D T X hga H.size ga 40 ga_5 hc43) (cwV 1 hts gX0_shares_X0_begin rfl rfl rfl (by decide +kernel) ⟨by have h1 := hrm.2.2.1; have h2 := hrm.2.2.2; show 0 + 1 ≤ rm.frames + 1; omega, by have h1 := hrm.2.2.1; have h2 := hrm.2.2.2; show 8 + (2 + 11) + 0 ≤ rm.locals + 22; omega⟩) hK hP hD hS hA hX 0 rfl rfl rfl hl.1 rfl (Nat.le_of_ble_eq_true rfl) dX0_shares_43 ⟨Nat.zero_le _, Nat.zero_le _⟩ (fun H locs hP hD hS => ?_)
    refine lv_aload_n hx hb dX0_shares_46 rfl (lv_at hl 0 rfl) ?_
    refine lv_iconst (v := 2) hx hb dX0_shares_47 (by decide) ?_
    refine lv_iload_n hx hb dX0_shares_48 rfl (lv_at hl 2 rfl) ?_
    refine lv_iconst (v := 2) hx hb dX0_shares_49 (by decide) ?_
    refine lv_iadd hx hb dX0_shares_50 ?_
    obtain ⟨v6, ga_7, hc51, hf⟩ := zB2_ok hf
    refine zCallVEI [.int 2, .int (a2 + 2)] ⟨hx, hb, hml, hown, hts⟩ (ih hga H.size ga_5 2 (a2 + 2) v6 ga_7 hc51) (cwV 2 hts gX0_shares_X0_shares rfl hrm.1 hrm.2.1 (by decide +kernel) ⟨by show rm.frames + 1 ≤ rm.frames + 1; omega, by show 8 + (3 + 11) + rm.locals ≤ rm.locals + 22; omega⟩) hK hP hD hS hA hX 0 rfl rfl rfl hl.1 rfl (Nat.le_of_ble_eq_true rfl) dX0_shares_51 ⟨Nat.zero_le _, Nat.zero_le _⟩ (fun H locs hP hD hS => ?_)
    refine lv_iconst (v := 1) hx hb dX0_shares_54 (by decide) ?_
    refine lv_ixor hx hb dX0_shares_55 ?_
    obtain ⟨q1, q2⟩ := zI2 hf
    subst q1
    subst q2
    exact zRetI hQ hx hb hr hlocks hA0 hK hP hD hS rfl dX0_shares_56
  replace hf := zIf_f hk3 hf
  refine zSw (x := a1) (k := 4) (fun hc => ?_) (fun hk4 => ?_)
  · replace hf := zIf_t hc hf
    refine lv_tableIn (off := 89) (tgt := 90) hx hb dX0_shares_1 (by rw [hc]; decide) (by rw [hc]; decide) (by rw [hc]; decide) (by decide) ?_
    refine lv_aload_n hx hb dX0_shares_90 rfl (lv_at hl 0 rfl) ?_
    refine lv_iconst (v := 1) hx hb dX0_shares_91 (by decide) ?_
    refine lv_iload_n hx hb dX0_shares_92 rfl (lv_at hl 2 rfl) ?_
    obtain ⟨v8, ga_9, hc93, hf⟩ := zB2_ok hf
    refine zCallVEI [.int 1, .int a2] ⟨hx, hb, hml, hown, hts⟩ (ih hga H.size ga 1 a2 v8 ga_9 hc93) (cwV 2 hts gX0_shares_X0_shares rfl hrm.1 hrm.2.1 (by decide +kernel) ⟨by show rm.frames + 1 ≤ rm.frames + 1; omega, by show 8 + (3 + 11) + rm.locals ≤ rm.locals + 22; omega⟩) hK hP hD hS hA hX 0 rfl rfl rfl hl.1 rfl (Nat.le_of_ble_eq_true rfl) dX0_shares_93 ⟨Nat.zero_le _, Nat.zero_le _⟩ (fun H locs hP hD hS => ?_)
    obtain ⟨q1, q2⟩ := zI2 hf
    subst q1
    subst q2
    exact zRetI hQ hx hb hr hlocks hA0 hK hP hD hS rfl dX0_shares_96
  replace hf := zIf_f hk4 hf
  refine zSw (x := a1) (k := 5) (fun hc => ?_) (fun hk5 => ?_)
  · replace hf := zIf_t hc hf
    refine lv_tableIn (off := 82) (tgt := 83) hx hb dX0_shares_1 (by rw [hc]; decide) (by rw [hc]; decide) (by rw [hc]; decide) (by decide) ?_
    refine lv_aload_n hx hb dX0_shares_83 rfl (lv_at hl 0 rfl) ?_
    refine lv_iconst (v := 3) hx hb dX0_shares_84 (by decide) ?_
    refine lv_iload_n hx hb dX0_shares_85 rfl (lv_at hl 2 rfl) ?_
    obtain ⟨v10, ga_11, hc86, hf⟩ := zB2_ok hf
    refine zCallVEI [.int 3, .int a2] ⟨hx, hb, hml, hown, hts⟩ (ih hga H.size ga 3 a2 v10 ga_11 hc86) (cwV 2 hts gX0_shares_X0_shares rfl hrm.1 hrm.2.1 (by decide +kernel) ⟨by show rm.frames + 1 ≤ rm.frames + 1; omega, by show 8 + (3 + 11) + rm.locals ≤ rm.locals + 22; omega⟩) hK hP hD hS hA hX 0 rfl rfl rfl hl.1 rfl (Nat.le_of_ble_eq_true rfl) dX0_shares_86 ⟨Nat.zero_le _, Nat.zero_le _⟩ (fun H locs hP hD hS => ?_)
    obtain ⟨q1, q2⟩ := zI2 hf
    subst q1
    subst q2
    exact zRetI hQ hx hb hr hlocks hA0 hK hP hD hS rfl dX0_shares_89
  replace hf := zIf_f hk5 hf
  refine zSw (x := a1) (k := 6) (fun hc => ?_) (fun hk6 => ?_)
  · replace hf := zIf_t hc hf
    refine lv_tableIn (off := 56) (tgt := 57) hx hb dX0_shares_1 (by rw [hc]; decide) (by rw [hc]; decide) (by rw [hc]; decide) (by decide) ?_
    refine lv_aload_n hx hb dX0_shares_57 rfl (lv_at hl 0 rfl) ?_
    refine lv_bipush (v := 71) hx hb dX0_shares_58 (by decide) ?_
    obtain ⟨ga_12, hc60, hf⟩ := zB1_ok hf
    refine zCallVEV [.int 71] ⟨hx, hb, hml, hown, hts⟩ (pX0_begin l D T X hga H.size ga 71 ga_12 hc60) (cwV 1 hts gX0_shares_X0_begin rfl rfl rfl (by decide +kernel) ⟨by have h1 := hrm.2.2.1; have h2 := hrm.2.2.2; show 0 + 1 ≤ rm.frames + 1; omega, by have h1 := hrm.2.2.1; have h2 := hrm.2.2.2; show 8 + (2 + 11) + 0 ≤ rm.locals + 22; omega⟩) hK hP hD hS hA hX 0 rfl rfl rfl hl.1 rfl (Nat.le_of_ble_eq_true rfl) dX0_shares_60 ⟨Nat.zero_le _, Nat.zero_le _⟩ (fun H locs hP hD hS => ?_)
    refine lv_aload_n hx hb dX0_shares_63 rfl (lv_at hl 0 rfl) ?_
    refine lv_iconst (v := 0) hx hb dX0_shares_64 (by decide) ?_
    refine lv_iload_n hx hb dX0_shares_65 rfl (lv_at hl 2 rfl) ?_
    obtain ⟨v13, ga_14, hc66, hf⟩ := zB2_ok hf
    refine zCallVEI [.int 0, .int a2] ⟨hx, hb, hml, hown, hts⟩ (ih hga H.size ga_12 0 a2 v13 ga_14 hc66) (cwV 2 hts gX0_shares_X0_shares rfl hrm.1 hrm.2.1 (by decide +kernel) ⟨by show rm.frames + 1 ≤ rm.frames + 1; omega, by show 8 + (3 + 11) + rm.locals ≤ rm.locals + 22; omega⟩) hK hP hD hS hA hX 0 rfl rfl rfl hl.1 rfl (Nat.le_of_ble_eq_true rfl) dX0_shares_66 ⟨Nat.zero_le _, Nat.zero_le _⟩ (fun H locs hP hD hS => ?_)
    refine lv_aload_n hx hb dX0_shares_69 rfl (lv_at hl 0 rfl) ?_
    refine lv_aload_n hx hb dX0_shares_70 rfl (lv_at hl 0 rfl) ?_
    refine zGet (ci := 0) (C := RX0) (F := TX0) (N := 6) (v := .int (ga_14 0 3)) hx hb hts hiX0 hown hK hP 0 3 1 rfl rfl (by decide) rfl rfl rfl dX0_shares_71 ?_
    refine lv_aload_n hx hb dX0_shares_74 rfl (lv_at hl 0 rfl) ?_
    refine zGet (ci := 0) (C := RX0) (F := TX0) (N := 6) (v := .int (ga_14 0 5)) hx hb hts hiX0 hown hK hP 0 5 2 rfl rfl (by decide) rfl rfl rfl dX0_shares_75 ?_
    obtain ⟨v15, ga_16, hc78, hf⟩ := zB2_ok hf
    refine zCallVEI [.int (ga_14 0 3), .int (ga_14 0 5)] ⟨hx, hb, hml, hown, hts⟩ (pX0_parts l D T X hga H.size 4 ga_14 (ga_14 0 3) (ga_14 0 5) v15 ga_16 hc78) (cwV 2 hts gX0_shares_X0_parts rfl rfl rfl (by decide +kernel) ⟨by have h1 := hrm.2.2.1; have h2 := hrm.2.2.2; show 4 + 1 ≤ rm.frames + 1; omega, by have h1 := hrm.2.2.1; have h2 := hrm.2.2.2; show 8 + (3 + 11) + 118 ≤ rm.locals + 22; omega⟩) hK hP hD hS hA hX 0 rfl rfl rfl hl.1 rfl (Nat.le_of_ble_eq_true rfl) dX0_shares_78 ⟨Nat.zero_le _, Nat.zero_le _⟩ (fun H locs hP hD hS => ?_)
    refine lv_iadd hx hb dX0_shares_81 ?_
    obtain ⟨q1, q2⟩ := zI2 hf
    subst q1
    subst q2
    exact zRetI hQ hx hb hr hlocks hA0 hK hP hD hS rfl dX0_shares_82
  replace hf := zIf_f hk6 hf
  refine lv_tableOut (tgt := 104) hx hb dX0_shares_1 (by have := zNe hk1 (z := 1) (by decide); have := zNe hk2 (z := 2) (by decide); have := zNe hk3 (z := 3) (by decide); have := zNe hk4 (z := 4) (by decide); have := zNe hk5 (z := 5) (by decide); have := zNe hk6 (z := 6) (by decide); omega) (by decide) ?_
  refine lv_aload_n hx hb dX0_shares_104 rfl (lv_at hl 0 rfl) ?_
  refine lv_bipush (v := 12) hx hb dX0_shares_105 (by decide) ?_
  obtain ⟨ga_17, hc107, hf⟩ := zB1_ok hf
  refine zCallVEV [.int 12] ⟨hx, hb, hml, hown, hts⟩ (pX0_begin l D T X hga H.size ga 12 ga_17 hc107) (cwV 1 hts gX0_shares_X0_begin rfl rfl rfl (by decide +kernel) ⟨by have h1 := hrm.2.2.1; have h2 := hrm.2.2.2; show 0 + 1 ≤ rm.frames + 1; omega, by have h1 := hrm.2.2.1; have h2 := hrm.2.2.2; show 8 + (2 + 11) + 0 ≤ rm.locals + 22; omega⟩) hK hP hD hS hA hX 0 rfl rfl rfl hl.1 rfl (Nat.le_of_ble_eq_true rfl) dX0_shares_107 ⟨Nat.zero_le _, Nat.zero_le _⟩ (fun H locs hP hD hS => ?_)
  refine lv_aload_n hx hb dX0_shares_110 rfl (lv_at hl 0 rfl) ?_
  refine lv_iload_n hx hb dX0_shares_111 rfl (lv_at hl 2 rfl) ?_
  obtain ⟨v18, ga_19, hc112, hf⟩ := zB2_ok hf
  refine zCallVEI [.int a2] ⟨hx, hb, hml, hown, hts⟩ (pX0_shareOut l D T X hga H.size ga_17 a2 v18 ga_19 hc112) (cwV 1 hts gX0_shares_X0_shareOut rfl rfl rfl (by decide +kernel) ⟨by have h1 := hrm.2.2.1; have h2 := hrm.2.2.2; show 0 + 1 ≤ rm.frames + 1; omega, by have h1 := hrm.2.2.1; have h2 := hrm.2.2.2; show 8 + (3 + 11) + 0 ≤ rm.locals + 22; omega⟩) hK hP hD hS hA hX 0 rfl rfl rfl hl.1 rfl (Nat.le_of_ble_eq_true rfl) dX0_shares_112 ⟨Nat.zero_le _, Nat.zero_le _⟩ (fun H locs hP hD hS => ?_)
  obtain ⟨q1, q2⟩ := zI2 hf
  subst q1
  subst q2
  exact zRetI hQ hx hb hr hlocks hA0 hK hP hD hS rfl dX0_shares_115
theorem rX0_shares_0 : ∀ d, (rX0_shares d).cells = 0 ∧ (rX0_shares d).slots = 0 ∧ 6 ≤ (rX0_shares d).frames ∧ 300 ≤ (rX0_shares d).locals
  | 0 => ⟨rfl, rfl, Nat.le_refl _, Nat.le_refl _⟩
  | d + 1 => ⟨rfl, rfl, Nat.le_trans (rX0_shares_0 d).2.2.1 (Nat.le_add_right _ _), Nat.le_trans (rX0_shares_0 d).2.2.2 (Nat.le_add_right _ _)⟩
theorem pX0_shares_d (l : Launch) (D : va_G) (T : Nat → ClassId) (X : zFP) : ∀ (d : Nat) (hga : Nat → Nat) (sz : Nat) (ga : zM) (a1 : Int32) (a2 : Int32) (r : Int32) (nga : zM) (_ : fX0_shares d ga a1 a2 = some (r, nga)), Met l yX0_shares wsX0_shares (rX0_shares d) (zPre D T X [.ref (hga 0), .int a1, .int a2] (wX0 T hga ga) sz) (zQi D T r (wX0 T hga nga) (wX0 T hga ga) sz) 0 0 (va_A (wX0 T hga ga) sz) := by
  intro d
  induction d with
  | zero => intro hga sz ga a1 a2 r nga hf; cases hf
  | succ d ihd =>
    intro hga sz ga a1 a2 r nga hf
    exact pX0_shares_B l D T X hga sz (rX0_shares d) (rX0_shares_0 d) (fX0_shares d) ga a1 a2 r nga ihd hf
theorem pX0_shares (l : Launch) (D : va_G) (T : Nat → ClassId) (X : zFP) (hga : Nat → Nat) (sz : Nat) (d : Nat) (ga : zM) (a1 : Int32) (a2 : Int32) (r : Int32) (nga : zM) (hf : fX0_shares d ga a1 a2 = some (r, nga)) : Met l yX0_shares wsX0_shares (rX0_shares d) (zPre D T X [.ref (hga 0), .int a1, .int a2] (wX0 T hga ga) sz) (zQi D T r (wX0 T hga nga) (wX0 T hga ga) sz) 0 0 (va_A (wX0 T hga ga) sz) := pX0_shares_d l D T X d hga sz ga a1 a2 r nga hf
set_option maxHeartbeats 4000000 in
set_option maxRecDepth 100000 in
theorem pX0_costs_B (l : Launch) (D : va_G) (T : Nat → ClassId) (X : zFP) (hga : Nat → Nat) (sz : Nat) (rm : Room) (hrm : rm.cells = 0 ∧ rm.slots = 0 ∧ 12 ≤ rm.frames ∧ 600 ≤ rm.locals) (lk : zM → Int32 → Int32 → Option (Int32 × zM)) (ga : zM) (a1 : Int32) (a2 : Int32) (r : Int32) (nga : zM) (ih : ∀ (hga : Nat → Nat) (sz : Nat) (ga : zM) (a1 : Int32) (a2 : Int32) (r : Int32) (nga : zM) , lk ga a1 a2 = some (r, nga) → Met l yX0_costs wsX0_costs rm (zPre D T X [.ref (hga 0), .int a1, .int a2] (wX0 T hga ga) sz) (zQi D T r (wX0 T hga nga) (wX0 T hga ga) sz) 0 0 (va_A (wX0 T hga ga) sz)) (hf : fX0_costs_B lk ga a1 a2 = some (r, nga)) : Met l yX0_costs wsX0_costs (rX0_costs_B rm) (zPre D T X [.ref (hga 0), .int a1, .int a2] (wX0 T hga ga) sz) (zQi D T r (wX0 T hga nga) (wX0 T hga ga) sz) 0 0 (va_A (wX0 T hga ga) sz) := by
  unfold fX0_costs_B at hf
  refine zStart [(0, .ref (hga 0)), (1, .int a1), (2, .int a2)] (by decide) rfl (Nat.le_of_ble_eq_true rfl) rfl ?_
  intro p e s m args below meth c A Q ls hx hb hr hml hown hlocks hts hsz hA0 hQ hA hK hX hP hD hS hl
  replace hown : s.vm.findClass RX0 = some m.cls := hown
  have hH := hsz
  have hiX0 : ∀ w ∈ u_ws RX0 TX0 6, w ∈ wsX0_costs := fun w h => List.mem_cons_of_mem _ (List.mem_append_right _ (h))
  obtain ⟨H, hHe⟩ : ∃ H : Heap, H = s.heap := ⟨_, rfl⟩
  obtain ⟨locs, hLe⟩ : ∃ L : List Loc, L = [] := ⟨_, rfl⟩
  replace hP : va_P D vwCl (wX0 T hga ga) H := by rw [hHe]; exact hP
  replace hS : va_S A s.heap H locs := by rw [hHe, hLe]; exact hS
  suffices hgo : W p l e (rX0_costs_B rm) s m args below meth c H locs 0 0 Q (F0 m 0 ls []) by rw [hHe, hLe] at hgo; exact hgo
  clear hHe hLe
  refine lv_iload_n hx hb dX0_costs_0 rfl (lv_at hl 1 rfl) ?_
  refine zSw (x := a1) (k := 1) (fun hc => ?_) (fun hk1 => ?_)
  · replace hf := zIf_t hc hf
    refine lv_tableIn (off := 39) (tgt := 40) hx hb dX0_costs_1 (by rw [hc]; decide) (by rw [hc]; decide) (by rw [hc]; decide) (by decide) ?_
    refine lv_aload_n hx hb dX0_costs_40 rfl (lv_at hl 0 rfl) ?_
    refine lv_bipush (v := 20) hx hb dX0_costs_41 (by decide) ?_
    obtain ⟨ga_1, hc43, hf⟩ := zB1_ok hf
    refine zCallVEV [.int 20] ⟨hx, hb, hml, hown, hts⟩ (pX0_begin l D T X hga H.size ga 20 ga_1 hc43) (cwV 1 hts gX0_costs_X0_begin rfl rfl rfl (by decide +kernel) ⟨by have h1 := hrm.2.2.1; have h2 := hrm.2.2.2; show 0 + 1 ≤ rm.frames + 1; omega, by have h1 := hrm.2.2.1; have h2 := hrm.2.2.2; show 8 + (2 + 11) + 0 ≤ rm.locals + 22; omega⟩) hK hP hD hS hA hX 0 rfl rfl rfl hl.1 rfl (Nat.le_of_ble_eq_true rfl) dX0_costs_43 ⟨Nat.zero_le _, Nat.zero_le _⟩ (fun H locs hP hD hS => ?_)
    refine lv_aload_n hx hb dX0_costs_46 rfl (lv_at hl 0 rfl) ?_
    refine lv_iconst (v := 0) hx hb dX0_costs_47 (by decide) ?_
    refine lv_iload_n hx hb dX0_costs_48 rfl (lv_at hl 2 rfl) ?_
    obtain ⟨v2, ga_3, hc49, hf⟩ := zB2_ok hf
    refine zCallVEI [.int 0, .int a2] ⟨hx, hb, hml, hown, hts⟩ (ih hga H.size ga_1 0 a2 v2 ga_3 hc49) (cwV 2 hts gX0_costs_X0_costs rfl hrm.1 hrm.2.1 (by decide +kernel) ⟨by show rm.frames + 1 ≤ rm.frames + 1; omega, by show 8 + (3 + 11) + rm.locals ≤ rm.locals + 22; omega⟩) hK hP hD hS hA hX 0 rfl rfl rfl hl.1 rfl (Nat.le_of_ble_eq_true rfl) dX0_costs_49 ⟨Nat.zero_le _, Nat.zero_le _⟩ (fun H locs hP hD hS => ?_)
    refine lv_aload_n hx hb dX0_costs_52 rfl (lv_at hl 0 rfl) ?_
    refine zGet (ci := 0) (C := RX0) (F := TX0) (N := 6) (v := .int (ga_3 0 5)) hx hb hts hiX0 hown hK hP 0 5 1 rfl rfl (by decide) rfl rfl rfl dX0_costs_53 ?_
    refine lv_isub hx hb dX0_costs_56 ?_
    obtain ⟨q1, q2⟩ := zI2 hf
    subst q1
    subst q2
    exact zRetI hQ hx hb hr hlocks hA0 hK hP hD hS rfl dX0_costs_57
  replace hf := zIf_f hk1 hf
  refine zSw (x := a1) (k := 2) (fun hc => ?_) (fun hk2 => ?_)
  · replace hf := zIf_t hc hf
    refine lv_tableIn (off := 116) (tgt := 117) hx hb dX0_costs_1 (by rw [hc]; decide) (by rw [hc]; decide) (by rw [hc]; decide) (by decide) ?_
    refine lv_aload_n hx hb dX0_costs_117 rfl (lv_at hl 0 rfl) ?_
    refine lv_iconst (v := 0) hx hb dX0_costs_118 (by decide) ?_
    refine lv_iload_n hx hb dX0_costs_119 rfl (lv_at hl 2 rfl) ?_
    obtain ⟨v4, ga_5, hc120, hf⟩ := zB2_ok hf
    refine zCallVEI [.int 0, .int a2] ⟨hx, hb, hml, hown, hts⟩ (ih hga H.size ga 0 a2 v4 ga_5 hc120) (cwV 2 hts gX0_costs_X0_costs rfl hrm.1 hrm.2.1 (by decide +kernel) ⟨by show rm.frames + 1 ≤ rm.frames + 1; omega, by show 8 + (3 + 11) + rm.locals ≤ rm.locals + 22; omega⟩) hK hP hD hS hA hX 0 rfl rfl rfl hl.1 rfl (Nat.le_of_ble_eq_true rfl) dX0_costs_120 ⟨Nat.zero_le _, Nat.zero_le _⟩ (fun H locs hP hD hS => ?_)
    obtain ⟨q1, q2⟩ := zI2 hf
    subst q1
    subst q2
    exact zRetI hQ hx hb hr hlocks hA0 hK hP hD hS rfl dX0_costs_123
  replace hf := zIf_f hk2 hf
  refine zSw (x := a1) (k := 3) (fun hc => ?_) (fun hk3 => ?_)
  · replace hf := zIf_t hc hf
    refine lv_tableIn (off := 109) (tgt := 110) hx hb dX0_costs_1 (by rw [hc]; decide) (by rw [hc]; decide) (by rw [hc]; decide) (by decide) ?_
    refine lv_aload_n hx hb dX0_costs_110 rfl (lv_at hl 0 rfl) ?_
    refine lv_iconst (v := 2) hx hb dX0_costs_111 (by decide) ?_
    refine lv_iload_n hx hb dX0_costs_112 rfl (lv_at hl 2 rfl) ?_
    obtain ⟨v6, ga_7, hc113, hf⟩ := zB2_ok hf
    refine zCallVEI [.int 2, .int a2] ⟨hx, hb, hml, hown, hts⟩ (ih hga H.size ga 2 a2 v6 ga_7 hc113) (cwV 2 hts gX0_costs_X0_costs rfl hrm.1 hrm.2.1 (by decide +kernel) ⟨by show rm.frames + 1 ≤ rm.frames + 1; omega, by show 8 + (3 + 11) + rm.locals ≤ rm.locals + 22; omega⟩) hK hP hD hS hA hX 0 rfl rfl rfl hl.1 rfl (Nat.le_of_ble_eq_true rfl) dX0_costs_113 ⟨Nat.zero_le _, Nat.zero_le _⟩ (fun H locs hP hD hS => ?_)
    obtain ⟨q1, q2⟩ := zI2 hf
    subst q1
    subst q2
    exact zRetI hQ hx hb hr hlocks hA0 hK hP hD hS rfl dX0_costs_116
  replace hf := zIf_f hk3 hf
  refine zSw (x := a1) (k := 4) (fun hc => ?_) (fun hk4 => ?_)
  · replace hf := zIf_t hc hf
    refine lv_tableIn (off := 57) (tgt := 58) hx hb dX0_costs_1 (by rw [hc]; decide) (by rw [hc]; decide) (by rw [hc]; decide) (by decide) ?_
    refine lv_aload_n hx hb dX0_costs_58 rfl (lv_at hl 0 rfl) ?_
    refine lv_bipush (v := 51) hx hb dX0_costs_59 (by decide) ?_
    obtain ⟨ga_8, hc61, hf⟩ := zB1_ok hf
    refine zCallVEV [.int 51] ⟨hx, hb, hml, hown, hts⟩ (pX0_begin l D T X hga H.size ga 51 ga_8 hc61) (cwV 1 hts gX0_costs_X0_begin rfl rfl rfl (by decide +kernel) ⟨by have h1 := hrm.2.2.1; have h2 := hrm.2.2.2; show 0 + 1 ≤ rm.frames + 1; omega, by have h1 := hrm.2.2.1; have h2 := hrm.2.2.2; show 8 + (2 + 11) + 0 ≤ rm.locals + 22; omega⟩) hK hP hD hS hA hX 0 rfl rfl rfl hl.1 rfl (Nat.le_of_ble_eq_true rfl) dX0_costs_61 ⟨Nat.zero_le _, Nat.zero_le _⟩ (fun H locs hP hD hS => ?_)
    refine lv_aload_n hx hb dX0_costs_64 rfl (lv_at hl 0 rfl) ?_
    refine lv_iconst (v := 1) hx hb dX0_costs_65 (by decide) ?_
    refine lv_iload_n hx hb dX0_costs_66 rfl (lv_at hl 2 rfl) ?_
    obtain ⟨v9, ga_10, hc67, hf⟩ := zB2_ok hf
    refine zCallVEI [.int 1, .int a2] ⟨hx, hb, hml, hown, hts⟩ (ih hga H.size ga_8 1 a2 v9 ga_10 hc67) (cwV 2 hts gX0_costs_X0_costs rfl hrm.1 hrm.2.1 (by decide +kernel) ⟨by show rm.frames + 1 ≤ rm.frames + 1; omega, by show 8 + (3 + 11) + rm.locals ≤ rm.locals + 22; omega⟩) hK hP hD hS hA hX 0 rfl rfl rfl hl.1 rfl (Nat.le_of_ble_eq_true rfl) dX0_costs_67 ⟨Nat.zero_le _, Nat.zero_le _⟩ (fun H locs hP hD hS => ?_)
    refine lv_aload_n hx hb dX0_costs_70 rfl (lv_at hl 0 rfl) ?_
    refine lv_aload_n hx hb dX0_costs_71 rfl (lv_at hl 0 rfl) ?_
    refine zGet (ci := 0) (C := RX0) (F := TX0) (N := 6) (v := .int (ga_10 0 3)) hx hb hts hiX0 hown hK hP 0 3 2 rfl rfl (by decide) rfl rfl rfl dX0_costs_72 ?_
    refine lv_aload_n hx hb dX0_costs_75 rfl (lv_at hl 0 rfl) ?_
    refine zGet (ci := 0) (C := RX0) (F := TX0) (N := 6) (v := .int (ga_10 0 4)) hx hb hts hiX0 hown hK hP 0 4 3 rfl rfl (by decide) rfl rfl rfl dX0_costs_76 ?_
    obtain ⟨v11, ga_12, hc79, hf⟩ := zB2_ok hf
    refine zCallVEI [.int (ga_10 0 3), .int (ga_10 0 4)] ⟨hx, hb, hml, hown, hts⟩ (pX0_parts l D T X hga H.size 4 ga_10 (ga_10 0 3) (ga_10 0 4) v11 ga_12 hc79) (cwV 2 hts gX0_costs_X0_parts rfl rfl rfl (by decide +kernel) ⟨by have h1 := hrm.2.2.1; have h2 := hrm.2.2.2; show 4 + 1 ≤ rm.frames + 1; omega, by have h1 := hrm.2.2.1; have h2 := hrm.2.2.2; show 8 + (3 + 11) + 118 ≤ rm.locals + 22; omega⟩) hK hP hD hS hA hX 0 rfl rfl rfl hl.1 rfl (Nat.le_of_ble_eq_true rfl) dX0_costs_79 ⟨Nat.zero_le _, Nat.zero_le _⟩ (fun H locs hP hD hS => ?_)
    refine lv_iadd hx hb dX0_costs_82 ?_
    obtain ⟨q1, q2⟩ := zI2 hf
    subst q1
    subst q2
    exact zRetI hQ hx hb hr hlocks hA0 hK hP hD hS rfl dX0_costs_83
  replace hf := zIf_f hk4 hf
  refine zSw (x := a1) (k := 5) (fun hc => ?_) (fun hk5 => ?_)
  · replace hf := zIf_t hc hf
    refine lv_tableIn (off := 83) (tgt := 84) hx hb dX0_costs_1 (by rw [hc]; decide) (by rw [hc]; decide) (by rw [hc]; decide) (by decide) ?_
    refine lv_aload_n hx hb dX0_costs_84 rfl (lv_at hl 0 rfl) ?_
    refine lv_bipush (v := 60) hx hb dX0_costs_85 (by decide) ?_
    obtain ⟨ga_13, hc87, hf⟩ := zB1_ok hf
    refine zCallVEV [.int 60] ⟨hx, hb, hml, hown, hts⟩ (pX0_begin l D T X hga H.size ga 60 ga_13 hc87) (cwV 1 hts gX0_costs_X0_begin rfl rfl rfl (by decide +kernel) ⟨by have h1 := hrm.2.2.1; have h2 := hrm.2.2.2; show 0 + 1 ≤ rm.frames + 1; omega, by have h1 := hrm.2.2.1; have h2 := hrm.2.2.2; show 8 + (2 + 11) + 0 ≤ rm.locals + 22; omega⟩) hK hP hD hS hA hX 0 rfl rfl rfl hl.1 rfl (Nat.le_of_ble_eq_true rfl) dX0_costs_87 ⟨Nat.zero_le _, Nat.zero_le _⟩ (fun H locs hP hD hS => ?_)
    refine lv_aload_n hx hb dX0_costs_90 rfl (lv_at hl 0 rfl) ?_
    refine lv_iconst (v := 3) hx hb dX0_costs_91 (by decide) ?_
    refine lv_iload_n hx hb dX0_costs_92 rfl (lv_at hl 2 rfl) ?_
    obtain ⟨v14, ga_15, hc93, hf⟩ := zB2_ok hf
    refine zCallVEI [.int 3, .int a2] ⟨hx, hb, hml, hown, hts⟩ (ih hga H.size ga_13 3 a2 v14 ga_15 hc93) (cwV 2 hts gX0_costs_X0_costs rfl hrm.1 hrm.2.1 (by decide +kernel) ⟨by show rm.frames + 1 ≤ rm.frames + 1; omega, by show 8 + (3 + 11) + rm.locals ≤ rm.locals + 22; omega⟩) hK hP hD hS hA hX 0 rfl rfl rfl hl.1 rfl (Nat.le_of_ble_eq_true rfl) dX0_costs_93 ⟨Nat.zero_le _, Nat.zero_le _⟩ (fun H locs hP hD hS => ?_)
    refine lv_aload_n hx hb dX0_costs_96 rfl (lv_at hl 0 rfl) ?_
    refine lv_aload_n hx hb dX0_costs_97 rfl (lv_at hl 0 rfl) ?_
    refine zGet (ci := 0) (C := RX0) (F := TX0) (N := 6) (v := .int (ga_15 0 3)) hx hb hts hiX0 hown hK hP 0 3 2 rfl rfl (by decide) rfl rfl rfl dX0_costs_98 ?_
    refine lv_aload_n hx hb dX0_costs_101 rfl (lv_at hl 0 rfl) ?_
    refine zGet (ci := 0) (C := RX0) (F := TX0) (N := 6) (v := .int (ga_15 0 5)) hx hb hts hiX0 hown hK hP 0 5 1 rfl rfl (by decide) rfl rfl rfl dX0_costs_102 ?_
    obtain ⟨v16, ga_17, hc105, hf⟩ := zB2_ok hf
    refine zCallVEI [.int (ga_15 0 3), .int (ga_15 0 5)] ⟨hx, hb, hml, hown, hts⟩ (pX0_shares l D T X hga H.size 4 ga_15 (ga_15 0 3) (ga_15 0 5) v16 ga_17 hc105) (cwV 2 hts gX0_costs_X0_shares rfl rfl rfl (by decide +kernel) ⟨by have h1 := hrm.2.2.1; have h2 := hrm.2.2.2; show 10 + 1 ≤ rm.frames + 1; omega, by have h1 := hrm.2.2.1; have h2 := hrm.2.2.2; show 8 + (3 + 11) + 388 ≤ rm.locals + 22; omega⟩) hK hP hD hS hA hX 0 rfl rfl rfl hl.1 rfl (Nat.le_of_ble_eq_true rfl) dX0_costs_105 ⟨Nat.zero_le _, Nat.zero_le _⟩ (fun H locs hP hD hS => ?_)
    refine lv_iadd hx hb dX0_costs_108 ?_
    obtain ⟨q1, q2⟩ := zI2 hf
    subst q1
    subst q2
    exact zRetI hQ hx hb hr hlocks hA0 hK hP hD hS rfl dX0_costs_109
  replace hf := zIf_f hk5 hf
  refine zSw (x := a1) (k := 6) (fun hc => ?_) (fun hk6 => ?_)
  · replace hf := zIf_t hc hf
    refine lv_tableIn (off := 116) (tgt := 117) hx hb dX0_costs_1 (by rw [hc]; decide) (by rw [hc]; decide) (by rw [hc]; decide) (by decide) ?_
    refine lv_aload_n hx hb dX0_costs_117 rfl (lv_at hl 0 rfl) ?_
    refine lv_iconst (v := 0) hx hb dX0_costs_118 (by decide) ?_
    refine lv_iload_n hx hb dX0_costs_119 rfl (lv_at hl 2 rfl) ?_
    obtain ⟨v18, ga_19, hc120, hf⟩ := zB2_ok hf
    refine zCallVEI [.int 0, .int a2] ⟨hx, hb, hml, hown, hts⟩ (ih hga H.size ga 0 a2 v18 ga_19 hc120) (cwV 2 hts gX0_costs_X0_costs rfl hrm.1 hrm.2.1 (by decide +kernel) ⟨by show rm.frames + 1 ≤ rm.frames + 1; omega, by show 8 + (3 + 11) + rm.locals ≤ rm.locals + 22; omega⟩) hK hP hD hS hA hX 0 rfl rfl rfl hl.1 rfl (Nat.le_of_ble_eq_true rfl) dX0_costs_120 ⟨Nat.zero_le _, Nat.zero_le _⟩ (fun H locs hP hD hS => ?_)
    obtain ⟨q1, q2⟩ := zI2 hf
    subst q1
    subst q2
    exact zRetI hQ hx hb hr hlocks hA0 hK hP hD hS rfl dX0_costs_123
  replace hf := zIf_f hk6 hf
  refine lv_tableOut (tgt := 124) hx hb dX0_costs_1 (by have := zNe hk1 (z := 1) (by decide); have := zNe hk2 (z := 2) (by decide); have := zNe hk3 (z := 3) (by decide); have := zNe hk4 (z := 4) (by decide); have := zNe hk5 (z := 5) (by decide); have := zNe hk6 (z := 6) (by decide); omega) (by decide) ?_
  refine lv_aload_n hx hb dX0_costs_124 rfl (lv_at hl 0 rfl) ?_
  refine lv_bipush (v := 11) hx hb dX0_costs_125 (by decide) ?_
  obtain ⟨ga_20, hc127, hf⟩ := zB1_ok hf
  refine zCallVEV [.int 11] ⟨hx, hb, hml, hown, hts⟩ (pX0_begin l D T X hga H.size ga 11 ga_20 hc127) (cwV 1 hts gX0_costs_X0_begin rfl rfl rfl (by decide +kernel) ⟨by have h1 := hrm.2.2.1; have h2 := hrm.2.2.2; show 0 + 1 ≤ rm.frames + 1; omega, by have h1 := hrm.2.2.1; have h2 := hrm.2.2.2; show 8 + (2 + 11) + 0 ≤ rm.locals + 22; omega⟩) hK hP hD hS hA hX 0 rfl rfl rfl hl.1 rfl (Nat.le_of_ble_eq_true rfl) dX0_costs_127 ⟨Nat.zero_le _, Nat.zero_le _⟩ (fun H locs hP hD hS => ?_)
  refine lv_aload_n hx hb dX0_costs_130 rfl (lv_at hl 0 rfl) ?_
  refine lv_aload_n hx hb dX0_costs_131 rfl (lv_at hl 0 rfl) ?_
  refine zGet (ci := 0) (C := RX0) (F := TX0) (N := 6) (v := .int (ga_20 0 3)) hx hb hts hiX0 hown hK hP 0 3 2 rfl rfl (by decide) rfl rfl rfl dX0_costs_132 ?_
  refine lv_iload_n hx hb dX0_costs_135 rfl (lv_at hl 2 rfl) ?_
  obtain ⟨v21, ga_22, hc136, hf⟩ := zB2_ok hf
  refine zCallVEI [.int (ga_20 0 3), .int a2] ⟨hx, hb, hml, hown, hts⟩ (pX0_parts l D T X hga H.size 4 ga_20 (ga_20 0 3) a2 v21 ga_22 hc136) (cwV 2 hts gX0_costs_X0_parts rfl rfl rfl (by decide +kernel) ⟨by have h1 := hrm.2.2.1; have h2 := hrm.2.2.2; show 4 + 1 ≤ rm.frames + 1; omega, by have h1 := hrm.2.2.1; have h2 := hrm.2.2.2; show 8 + (3 + 11) + 118 ≤ rm.locals + 22; omega⟩) hK hP hD hS hA hX 0 rfl rfl rfl hl.1 rfl (Nat.le_of_ble_eq_true rfl) dX0_costs_136 ⟨Nat.zero_le _, Nat.zero_le _⟩ (fun H locs hP hD hS => ?_)
  refine lv_iconst (v := 2) hx hb dX0_costs_139 (by decide) ?_
  refine lv_imul hx hb dX0_costs_140 ?_
  obtain ⟨q1, q2⟩ := zI2 hf
  subst q1
  subst q2
  exact zRetI hQ hx hb hr hlocks hA0 hK hP hD hS rfl dX0_costs_141
theorem rX0_costs_0 : ∀ d, (rX0_costs d).cells = 0 ∧ (rX0_costs d).slots = 0 ∧ 12 ≤ (rX0_costs d).frames ∧ 600 ≤ (rX0_costs d).locals
  | 0 => ⟨rfl, rfl, Nat.le_refl _, Nat.le_refl _⟩
  | d + 1 => ⟨rfl, rfl, Nat.le_trans (rX0_costs_0 d).2.2.1 (Nat.le_add_right _ _), Nat.le_trans (rX0_costs_0 d).2.2.2 (Nat.le_add_right _ _)⟩
theorem pX0_costs_d (l : Launch) (D : va_G) (T : Nat → ClassId) (X : zFP) : ∀ (d : Nat) (hga : Nat → Nat) (sz : Nat) (ga : zM) (a1 : Int32) (a2 : Int32) (r : Int32) (nga : zM) (_ : fX0_costs d ga a1 a2 = some (r, nga)), Met l yX0_costs wsX0_costs (rX0_costs d) (zPre D T X [.ref (hga 0), .int a1, .int a2] (wX0 T hga ga) sz) (zQi D T r (wX0 T hga nga) (wX0 T hga ga) sz) 0 0 (va_A (wX0 T hga ga) sz) := by
  intro d
  induction d with
  | zero => intro hga sz ga a1 a2 r nga hf; cases hf
  | succ d ihd =>
    intro hga sz ga a1 a2 r nga hf
    exact pX0_costs_B l D T X hga sz (rX0_costs d) (rX0_costs_0 d) (fX0_costs d) ga a1 a2 r nga ihd hf
theorem pX0_costs (l : Launch) (D : va_G) (T : Nat → ClassId) (X : zFP) (hga : Nat → Nat) (sz : Nat) (d : Nat) (ga : zM) (a1 : Int32) (a2 : Int32) (r : Int32) (nga : zM) (hf : fX0_costs d ga a1 a2 = some (r, nga)) : Met l yX0_costs wsX0_costs (rX0_costs d) (zPre D T X [.ref (hga 0), .int a1, .int a2] (wX0 T hga ga) sz) (zQi D T r (wX0 T hga nga) (wX0 T hga ga) sz) 0 0 (va_A (wX0 T hga ga) sz) := pX0_costs_d l D T X d hga sz ga a1 a2 r nga hf
set_option maxHeartbeats 4000000 in
set_option maxRecDepth 100000 in
theorem pX0_tells_B (l : Launch) (D : va_G) (T : Nat → ClassId) (X : zFP) (hga : Nat → Nat) (sz : Nat) (rm : Room) (hrm : rm.cells = 0 ∧ rm.slots = 0 ∧ 18 ≤ rm.frames ∧ 900 ≤ rm.locals) (lk : zM → Int32 → Int32 → Option (Int32 × zM)) (ga : zM) (a1 : Int32) (a2 : Int32) (r : Int32) (nga : zM) (ih : ∀ (hga : Nat → Nat) (sz : Nat) (ga : zM) (a1 : Int32) (a2 : Int32) (r : Int32) (nga : zM) , lk ga a1 a2 = some (r, nga) → Met l yX0_tells wsX0_tells rm (zPre D T X [.ref (hga 0), .int a1, .int a2] (wX0 T hga ga) sz) (zQi D T r (wX0 T hga nga) (wX0 T hga ga) sz) 0 0 (va_A (wX0 T hga ga) sz)) (hf : fX0_tells_B lk ga a1 a2 = some (r, nga)) : Met l yX0_tells wsX0_tells (rX0_tells_B rm) (zPre D T X [.ref (hga 0), .int a1, .int a2] (wX0 T hga ga) sz) (zQi D T r (wX0 T hga nga) (wX0 T hga ga) sz) 0 0 (va_A (wX0 T hga ga) sz) := by
  unfold fX0_tells_B at hf
  refine zStart [(0, .ref (hga 0)), (1, .int a1), (2, .int a2)] (by decide) rfl (Nat.le_of_ble_eq_true rfl) rfl ?_
  intro p e s m args below meth c A Q ls hx hb hr hml hown hlocks hts hsz hA0 hQ hA hK hX hP hD hS hl
  replace hown : s.vm.findClass RX0 = some m.cls := hown
  have hH := hsz
  have hiX0 : ∀ w ∈ u_ws RX0 TX0 6, w ∈ wsX0_tells := fun w h => List.mem_cons_of_mem _ (List.mem_append_right _ (h))
  obtain ⟨H, hHe⟩ : ∃ H : Heap, H = s.heap := ⟨_, rfl⟩
  obtain ⟨locs, hLe⟩ : ∃ L : List Loc, L = [] := ⟨_, rfl⟩
  replace hP : va_P D vwCl (wX0 T hga ga) H := by rw [hHe]; exact hP
  replace hS : va_S A s.heap H locs := by rw [hHe, hLe]; exact hS
  suffices hgo : W p l e (rX0_tells_B rm) s m args below meth c H locs 0 0 Q (F0 m 0 ls []) by rw [hHe, hLe] at hgo; exact hgo
  clear hHe hLe
  refine lv_iload_n hx hb dX0_tells_0 rfl (lv_at hl 1 rfl) ?_
  refine zSw (x := a1) (k := 1) (fun hc => ?_) (fun hk1 => ?_)
  · replace hf := zIf_t hc hf
    refine lv_tableIn (off := 94) (tgt := 95) hx hb dX0_tells_1 (by rw [hc]; decide) (by rw [hc]; decide) (by rw [hc]; decide) (by decide) ?_
    refine lv_aload_n hx hb dX0_tells_95 rfl (lv_at hl 0 rfl) ?_
    refine lv_iconst (v := 0) hx hb dX0_tells_96 (by decide) ?_
    refine lv_iload_n hx hb dX0_tells_97 rfl (lv_at hl 2 rfl) ?_
    obtain ⟨v1, ga_2, hc98, hf⟩ := zB2_ok hf
    refine zCallVEI [.int 0, .int a2] ⟨hx, hb, hml, hown, hts⟩ (ih hga H.size ga 0 a2 v1 ga_2 hc98) (cwV 2 hts gX0_tells_X0_tells rfl hrm.1 hrm.2.1 (by decide +kernel) ⟨by show rm.frames + 1 ≤ rm.frames + 1; omega, by show 8 + (3 + 11) + rm.locals ≤ rm.locals + 22; omega⟩) hK hP hD hS hA hX 0 rfl rfl rfl hl.1 rfl (Nat.le_of_ble_eq_true rfl) dX0_tells_98 ⟨Nat.zero_le _, Nat.zero_le _⟩ (fun H locs hP hD hS => ?_)
    obtain ⟨q1, q2⟩ := zI2 hf
    subst q1
    subst q2
    exact zRetI hQ hx hb hr hlocks hA0 hK hP hD hS rfl dX0_tells_101
  replace hf := zIf_f hk1 hf
  refine zSw (x := a1) (k := 2) (fun hc => ?_) (fun hk2 => ?_)
  · replace hf := zIf_t hc hf
    refine lv_tableIn (off := 39) (tgt := 40) hx hb dX0_tells_1 (by rw [hc]; decide) (by rw [hc]; decide) (by rw [hc]; decide) (by decide) ?_
    refine lv_aload_n hx hb dX0_tells_40 rfl (lv_at hl 0 rfl) ?_
    refine lv_bipush (v := 31) hx hb dX0_tells_41 (by decide) ?_
    obtain ⟨ga_3, hc43, hf⟩ := zB1_ok hf
    refine zCallVEV [.int 31] ⟨hx, hb, hml, hown, hts⟩ (pX0_begin l D T X hga H.size ga 31 ga_3 hc43) (cwV 1 hts gX0_tells_X0_begin rfl rfl rfl (by decide +kernel) ⟨by have h1 := hrm.2.2.1; have h2 := hrm.2.2.2; show 0 + 1 ≤ rm.frames + 1; omega, by have h1 := hrm.2.2.1; have h2 := hrm.2.2.2; show 8 + (2 + 11) + 0 ≤ rm.locals + 22; omega⟩) hK hP hD hS hA hX 0 rfl rfl rfl hl.1 rfl (Nat.le_of_ble_eq_true rfl) dX0_tells_43 ⟨Nat.zero_le _, Nat.zero_le _⟩ (fun H locs hP hD hS => ?_)
    refine lv_aload_n hx hb dX0_tells_46 rfl (lv_at hl 0 rfl) ?_
    refine lv_iconst (v := 0) hx hb dX0_tells_47 (by decide) ?_
    refine lv_iload_n hx hb dX0_tells_48 rfl (lv_at hl 2 rfl) ?_
    obtain ⟨v4, ga_5, hc49, hf⟩ := zB2_ok hf
    refine zCallVEI [.int 0, .int a2] ⟨hx, hb, hml, hown, hts⟩ (ih hga H.size ga_3 0 a2 v4 ga_5 hc49) (cwV 2 hts gX0_tells_X0_tells rfl hrm.1 hrm.2.1 (by decide +kernel) ⟨by show rm.frames + 1 ≤ rm.frames + 1; omega, by show 8 + (3 + 11) + rm.locals ≤ rm.locals + 22; omega⟩) hK hP hD hS hA hX 0 rfl rfl rfl hl.1 rfl (Nat.le_of_ble_eq_true rfl) dX0_tells_49 ⟨Nat.zero_le _, Nat.zero_le _⟩ (fun H locs hP hD hS => ?_)
    refine lv_aload_n hx hb dX0_tells_52 rfl (lv_at hl 0 rfl) ?_
    refine lv_aload_n hx hb dX0_tells_53 rfl (lv_at hl 0 rfl) ?_
    refine zGet (ci := 0) (C := RX0) (F := TX0) (N := 6) (v := .int (ga_5 0 3)) hx hb hts hiX0 hown hK hP 0 3 1 rfl rfl (by decide) rfl rfl rfl dX0_tells_54 ?_
    refine lv_aload_n hx hb dX0_tells_57 rfl (lv_at hl 0 rfl) ?_
    refine zGet (ci := 0) (C := RX0) (F := TX0) (N := 6) (v := .int (ga_5 0 4)) hx hb hts hiX0 hown hK hP 0 4 2 rfl rfl (by decide) rfl rfl rfl dX0_tells_58 ?_
    obtain ⟨v6, ga_7, hc61, hf⟩ := zB2_ok hf
    refine zCallVEI [.int (ga_5 0 3), .int (ga_5 0 4)] ⟨hx, hb, hml, hown, hts⟩ (pX0_shares l D T X hga H.size 4 ga_5 (ga_5 0 3) (ga_5 0 4) v6 ga_7 hc61) (cwV 2 hts gX0_tells_X0_shares rfl rfl rfl (by decide +kernel) ⟨by have h1 := hrm.2.2.1; have h2 := hrm.2.2.2; show 10 + 1 ≤ rm.frames + 1; omega, by have h1 := hrm.2.2.1; have h2 := hrm.2.2.2; show 8 + (3 + 11) + 388 ≤ rm.locals + 22; omega⟩) hK hP hD hS hA hX 0 rfl rfl rfl hl.1 rfl (Nat.le_of_ble_eq_true rfl) dX0_tells_61 ⟨Nat.zero_le _, Nat.zero_le _⟩ (fun H locs hP hD hS => ?_)
    refine lv_iadd hx hb dX0_tells_64 ?_
    obtain ⟨q1, q2⟩ := zI2 hf
    subst q1
    subst q2
    exact zRetI hQ hx hb hr hlocks hA0 hK hP hD hS rfl dX0_tells_65
  replace hf := zIf_f hk2 hf
  refine zSw (x := a1) (k := 3) (fun hc => ?_) (fun hk3 => ?_)
  · replace hf := zIf_t hc hf
    refine lv_tableIn (off := 80) (tgt := 81) hx hb dX0_tells_1 (by rw [hc]; decide) (by rw [hc]; decide) (by rw [hc]; decide) (by decide) ?_
    refine lv_aload_n hx hb dX0_tells_81 rfl (lv_at hl 0 rfl) ?_
    refine lv_iconst (v := 2) hx hb dX0_tells_82 (by decide) ?_
    refine lv_iload_n hx hb dX0_tells_83 rfl (lv_at hl 2 rfl) ?_
    obtain ⟨v8, ga_9, hc84, hf⟩ := zB2_ok hf
    refine zCallVEI [.int 2, .int a2] ⟨hx, hb, hml, hown, hts⟩ (ih hga H.size ga 2 a2 v8 ga_9 hc84) (cwV 2 hts gX0_tells_X0_tells rfl hrm.1 hrm.2.1 (by decide +kernel) ⟨by show rm.frames + 1 ≤ rm.frames + 1; omega, by show 8 + (3 + 11) + rm.locals ≤ rm.locals + 22; omega⟩) hK hP hD hS hA hX 0 rfl rfl rfl hl.1 rfl (Nat.le_of_ble_eq_true rfl) dX0_tells_84 ⟨Nat.zero_le _, Nat.zero_le _⟩ (fun H locs hP hD hS => ?_)
    obtain ⟨q1, q2⟩ := zI2 hf
    subst q1
    subst q2
    exact zRetI hQ hx hb hr hlocks hA0 hK hP hD hS rfl dX0_tells_87
  replace hf := zIf_f hk3 hf
  refine zSw (x := a1) (k := 4) (fun hc => ?_) (fun hk4 => ?_)
  · replace hf := zIf_t hc hf
    refine lv_tableIn (off := 87) (tgt := 88) hx hb dX0_tells_1 (by rw [hc]; decide) (by rw [hc]; decide) (by rw [hc]; decide) (by decide) ?_
    refine lv_aload_n hx hb dX0_tells_88 rfl (lv_at hl 0 rfl) ?_
    refine lv_iconst (v := 1) hx hb dX0_tells_89 (by decide) ?_
    refine lv_iload_n hx hb dX0_tells_90 rfl (lv_at hl 2 rfl) ?_
    obtain ⟨v10, ga_11, hc91, hf⟩ := zB2_ok hf
    refine zCallVEI [.int 1, .int a2] ⟨hx, hb, hml, hown, hts⟩ (ih hga H.size ga 1 a2 v10 ga_11 hc91) (cwV 2 hts gX0_tells_X0_tells rfl hrm.1 hrm.2.1 (by decide +kernel) ⟨by show rm.frames + 1 ≤ rm.frames + 1; omega, by show 8 + (3 + 11) + rm.locals ≤ rm.locals + 22; omega⟩) hK hP hD hS hA hX 0 rfl rfl rfl hl.1 rfl (Nat.le_of_ble_eq_true rfl) dX0_tells_91 ⟨Nat.zero_le _, Nat.zero_le _⟩ (fun H locs hP hD hS => ?_)
    obtain ⟨q1, q2⟩ := zI2 hf
    subst q1
    subst q2
    exact zRetI hQ hx hb hr hlocks hA0 hK hP hD hS rfl dX0_tells_94
  replace hf := zIf_f hk4 hf
  refine zSw (x := a1) (k := 5) (fun hc => ?_) (fun hk5 => ?_)
  · replace hf := zIf_t hc hf
    refine lv_tableIn (off := 65) (tgt := 66) hx hb dX0_tells_1 (by rw [hc]; decide) (by rw [hc]; decide) (by rw [hc]; decide) (by decide) ?_
    refine lv_aload_n hx hb dX0_tells_66 rfl (lv_at hl 0 rfl) ?_
    refine lv_bipush (v := 61) hx hb dX0_tells_67 (by decide) ?_
    obtain ⟨ga_12, hc69, hf⟩ := zB1_ok hf
    refine zCallVEV [.int 61] ⟨hx, hb, hml, hown, hts⟩ (pX0_begin l D T X hga H.size ga 61 ga_12 hc69) (cwV 1 hts gX0_tells_X0_begin rfl rfl rfl (by decide +kernel) ⟨by have h1 := hrm.2.2.1; have h2 := hrm.2.2.2; show 0 + 1 ≤ rm.frames + 1; omega, by have h1 := hrm.2.2.1; have h2 := hrm.2.2.2; show 8 + (2 + 11) + 0 ≤ rm.locals + 22; omega⟩) hK hP hD hS hA hX 0 rfl rfl rfl hl.1 rfl (Nat.le_of_ble_eq_true rfl) dX0_tells_69 ⟨Nat.zero_le _, Nat.zero_le _⟩ (fun H locs hP hD hS => ?_)
    refine lv_aload_n hx hb dX0_tells_72 rfl (lv_at hl 0 rfl) ?_
    refine lv_iconst (v := 3) hx hb dX0_tells_73 (by decide) ?_
    refine lv_iload_n hx hb dX0_tells_74 rfl (lv_at hl 2 rfl) ?_
    obtain ⟨v13, ga_14, hc75, hf⟩ := zB2_ok hf
    refine zCallVEI [.int 3, .int a2] ⟨hx, hb, hml, hown, hts⟩ (ih hga H.size ga_12 3 a2 v13 ga_14 hc75) (cwV 2 hts gX0_tells_X0_tells rfl hrm.1 hrm.2.1 (by decide +kernel) ⟨by show rm.frames + 1 ≤ rm.frames + 1; omega, by show 8 + (3 + 11) + rm.locals ≤ rm.locals + 22; omega⟩) hK hP hD hS hA hX 0 rfl rfl rfl hl.1 rfl (Nat.le_of_ble_eq_true rfl) dX0_tells_75 ⟨Nat.zero_le _, Nat.zero_le _⟩ (fun H locs hP hD hS => ?_)
    refine lv_iconst (v := 2) hx hb dX0_tells_78 (by decide) ?_
    refine lv_imul hx hb dX0_tells_79 ?_
    obtain ⟨q1, q2⟩ := zI2 hf
    subst q1
    subst q2
    exact zRetI hQ hx hb hr hlocks hA0 hK hP hD hS rfl dX0_tells_80
  replace hf := zIf_f hk5 hf
  refine zSw (x := a1) (k := 6) (fun hc => ?_) (fun hk6 => ?_)
  · replace hf := zIf_t hc hf
    refine lv_tableIn (off := 94) (tgt := 95) hx hb dX0_tells_1 (by rw [hc]; decide) (by rw [hc]; decide) (by rw [hc]; decide) (by decide) ?_
    refine lv_aload_n hx hb dX0_tells_95 rfl (lv_at hl 0 rfl) ?_
    refine lv_iconst (v := 0) hx hb dX0_tells_96 (by decide) ?_
    refine lv_iload_n hx hb dX0_tells_97 rfl (lv_at hl 2 rfl) ?_
    obtain ⟨v15, ga_16, hc98, hf⟩ := zB2_ok hf
    refine zCallVEI [.int 0, .int a2] ⟨hx, hb, hml, hown, hts⟩ (ih hga H.size ga 0 a2 v15 ga_16 hc98) (cwV 2 hts gX0_tells_X0_tells rfl hrm.1 hrm.2.1 (by decide +kernel) ⟨by show rm.frames + 1 ≤ rm.frames + 1; omega, by show 8 + (3 + 11) + rm.locals ≤ rm.locals + 22; omega⟩) hK hP hD hS hA hX 0 rfl rfl rfl hl.1 rfl (Nat.le_of_ble_eq_true rfl) dX0_tells_98 ⟨Nat.zero_le _, Nat.zero_le _⟩ (fun H locs hP hD hS => ?_)
    obtain ⟨q1, q2⟩ := zI2 hf
    subst q1
    subst q2
    exact zRetI hQ hx hb hr hlocks hA0 hK hP hD hS rfl dX0_tells_101
  replace hf := zIf_f hk6 hf
  refine lv_tableOut (tgt := 102) hx hb dX0_tells_1 (by have := zNe hk1 (z := 1) (by decide); have := zNe hk2 (z := 2) (by decide); have := zNe hk3 (z := 3) (by decide); have := zNe hk4 (z := 4) (by decide); have := zNe hk5 (z := 5) (by decide); have := zNe hk6 (z := 6) (by decide); omega) (by decide) ?_
  refine lv_aload_n hx hb dX0_tells_102 rfl (lv_at hl 0 rfl) ?_
  refine lv_bipush (v := 13) hx hb dX0_tells_103 (by decide) ?_
  obtain ⟨ga_17, hc105, hf⟩ := zB1_ok hf
  refine zCallVEV [.int 13] ⟨hx, hb, hml, hown, hts⟩ (pX0_begin l D T X hga H.size ga 13 ga_17 hc105) (cwV 1 hts gX0_tells_X0_begin rfl rfl rfl (by decide +kernel) ⟨by have h1 := hrm.2.2.1; have h2 := hrm.2.2.2; show 0 + 1 ≤ rm.frames + 1; omega, by have h1 := hrm.2.2.1; have h2 := hrm.2.2.2; show 8 + (2 + 11) + 0 ≤ rm.locals + 22; omega⟩) hK hP hD hS hA hX 0 rfl rfl rfl hl.1 rfl (Nat.le_of_ble_eq_true rfl) dX0_tells_105 ⟨Nat.zero_le _, Nat.zero_le _⟩ (fun H locs hP hD hS => ?_)
  refine lv_aload_n hx hb dX0_tells_108 rfl (lv_at hl 0 rfl) ?_
  refine lv_aload_n hx hb dX0_tells_109 rfl (lv_at hl 0 rfl) ?_
  refine zGet (ci := 0) (C := RX0) (F := TX0) (N := 6) (v := .int (ga_17 0 3)) hx hb hts hiX0 hown hK hP 0 3 1 rfl rfl (by decide) rfl rfl rfl dX0_tells_110 ?_
  refine lv_iload_n hx hb dX0_tells_113 rfl (lv_at hl 2 rfl) ?_
  obtain ⟨v18, ga_19, hc114, hf⟩ := zB2_ok hf
  refine zCallVEI [.int (ga_17 0 3), .int a2] ⟨hx, hb, hml, hown, hts⟩ (pX0_costs l D T X hga H.size 4 ga_17 (ga_17 0 3) a2 v18 ga_19 hc114) (cwV 2 hts gX0_tells_X0_costs rfl rfl rfl (by decide +kernel) ⟨by have h1 := hrm.2.2.1; have h2 := hrm.2.2.2; show 16 + 1 ≤ rm.frames + 1; omega, by have h1 := hrm.2.2.1; have h2 := hrm.2.2.2; show 8 + (3 + 11) + 688 ≤ rm.locals + 22; omega⟩) hK hP hD hS hA hX 0 rfl rfl rfl hl.1 rfl (Nat.le_of_ble_eq_true rfl) dX0_tells_114 ⟨Nat.zero_le _, Nat.zero_le _⟩ (fun H locs hP hD hS => ?_)
  refine lv_aload_n hx hb dX0_tells_117 rfl (lv_at hl 0 rfl) ?_
  refine zGet (ci := 0) (C := RX0) (F := TX0) (N := 6) (v := .int (ga_19 0 5)) hx hb hts hiX0 hown hK hP 0 5 3 rfl rfl (by decide) rfl rfl rfl dX0_tells_118 ?_
  refine lv_ixor hx hb dX0_tells_121 ?_
  obtain ⟨q1, q2⟩ := zI2 hf
  subst q1
  subst q2
  exact zRetI hQ hx hb hr hlocks hA0 hK hP hD hS rfl dX0_tells_122
theorem rX0_tells_0 : ∀ d, (rX0_tells d).cells = 0 ∧ (rX0_tells d).slots = 0 ∧ 18 ≤ (rX0_tells d).frames ∧ 900 ≤ (rX0_tells d).locals
  | 0 => ⟨rfl, rfl, Nat.le_refl _, Nat.le_refl _⟩
  | d + 1 => ⟨rfl, rfl, Nat.le_trans (rX0_tells_0 d).2.2.1 (Nat.le_add_right _ _), Nat.le_trans (rX0_tells_0 d).2.2.2 (Nat.le_add_right _ _)⟩
theorem pX0_tells_d (l : Launch) (D : va_G) (T : Nat → ClassId) (X : zFP) : ∀ (d : Nat) (hga : Nat → Nat) (sz : Nat) (ga : zM) (a1 : Int32) (a2 : Int32) (r : Int32) (nga : zM) (_ : fX0_tells d ga a1 a2 = some (r, nga)), Met l yX0_tells wsX0_tells (rX0_tells d) (zPre D T X [.ref (hga 0), .int a1, .int a2] (wX0 T hga ga) sz) (zQi D T r (wX0 T hga nga) (wX0 T hga ga) sz) 0 0 (va_A (wX0 T hga ga) sz) := by
  intro d
  induction d with
  | zero => intro hga sz ga a1 a2 r nga hf; cases hf
  | succ d ihd =>
    intro hga sz ga a1 a2 r nga hf
    exact pX0_tells_B l D T X hga sz (rX0_tells d) (rX0_tells_0 d) (fX0_tells d) ga a1 a2 r nga ihd hf
theorem pX0_tells (l : Launch) (D : va_G) (T : Nat → ClassId) (X : zFP) (hga : Nat → Nat) (sz : Nat) (d : Nat) (ga : zM) (a1 : Int32) (a2 : Int32) (r : Int32) (nga : zM) (hf : fX0_tells d ga a1 a2 = some (r, nga)) : Met l yX0_tells wsX0_tells (rX0_tells d) (zPre D T X [.ref (hga 0), .int a1, .int a2] (wX0 T hga ga) sz) (zQi D T r (wX0 T hga nga) (wX0 T hga ga) sz) 0 0 (va_A (wX0 T hga ga) sz) := pX0_tells_d l D T X d hga sz ga a1 a2 r nga hf
set_option maxHeartbeats 4000000 in
set_option maxRecDepth 100000 in
theorem pX0_perform (l : Launch) (D : va_G) (T : Nat → ClassId) (X : zFP) (hga : Nat → Nat) (hgw : Nat → Nat) (sz : Nat) (ga : zM) (gw : zM) (a2 : Int32) (a3 : Int32) (a4 : Int32) (r : Int32) (nga : zM) (hf : fX0_perform ga gw a2 a3 a4 = some (r, nga)) : Met l yX0_perform wsX0_perform rX0_perform (zPre D T X [.ref (hga 0), .ref (hgw 0), .int a2, .int a3, .int a4] (wX0 T hga ga ++ wX8 T hgw gw) sz) (zQi D T r (wX0 T hga nga ++ wX8 T hgw gw) (wX0 T hga ga ++ wX8 T hgw gw) sz) 0 0 (va_A (wX0 T hga ga ++ wX8 T hgw gw) sz) := by
  unfold fX0_perform at hf
  refine zStart [(0, .ref (hga 0)), (1, .ref (hgw 0)), (2, .int a2), (3, .int a3), (4, .int a4)] (by decide) rfl (Nat.le_of_ble_eq_true rfl) rfl ?_
  intro p e s m args below meth c A Q ls hx hb hr hml hown hlocks hts hsz hA0 hQ hA hK hX hP hD hS hl
  replace hown : s.vm.findClass RX0 = some m.cls := hown
  have hH := hsz
  have hiX0 : ∀ w ∈ u_ws RX0 TX0 6, w ∈ wsX0_perform := fun w h => List.mem_cons_of_mem _ (List.mem_append_right _ (h))
  have hiX8 : ∀ w ∈ u_ws RX8 TX8 14, w ∈ wsX0_perform := fun w h => List.mem_cons_of_mem _ (List.mem_append_left _ (List.mem_append_right _ (h)))
  obtain ⟨H, hHe⟩ : ∃ H : Heap, H = s.heap := ⟨_, rfl⟩
  obtain ⟨locs, hLe⟩ : ∃ L : List Loc, L = [] := ⟨_, rfl⟩
  replace hP : va_P D vwCl (wX0 T hga ga ++ wX8 T hgw gw) H := by rw [hHe]; exact hP
  replace hS : va_S A s.heap H locs := by rw [hHe, hLe]; exact hS
  suffices hgo : W p l e rX0_perform s m args below meth c H locs 0 0 Q (F0 m 0 ls []) by rw [hHe, hLe] at hgo; exact hgo
  clear hHe hLe
  refine lv_aload_n hx hb dX0_perform_0 rfl (lv_at hl 0 rfl) ?_
  refine lv_aload_n hx hb dX0_perform_1 rfl (lv_at hl 1 rfl) ?_
  refine zGet (ci := 8) (C := RX8) (F := TX8) (N := 14) (v := .ref (hgw 8)) hx hb hts hiX8 hown hK hP 2 10 1 rfl rfl (by decide) rfl rfl rfl dX0_perform_2 ?_
  refine lv_iload_n hx hb dX0_perform_5 rfl (lv_at hl 2 rfl) ?_
  obtain ⟨hg, hf⟩ := zGd_ok hf
  refine zAldI hx hb hK hP 10 rfl hg dX0_perform_6 (fun v1 ev1 => ?_)
  replace hf := zLt_at ev1 hf
  refine zPut (ci := 0) (C := RX0) (F := TX0) (N := 6) (x := v1) (w := ga) hx hb hts hiX0 tyX0 tyX0_ok nmX0 hown hK hP hD hS (fun g => wX0 T hga g ++ wX8 T hgw gw) 0 3 2 rfl rfl (by decide) rfl rfl rfl ⟨rfl, rfl⟩ (Nat.le_of_ble_eq_true rfl) rfl dX0_perform_7 (fun ga_2 ega_2 H locs hP hD hS => ?_)
  replace hP : va_P D vwCl (wX0 T hga ga_2 ++ wX8 T hgw gw) H := hP
  replace hD : va_D A (wX0 T hga ga_2 ++ wX8 T hgw gw) := hD
  replace hf := zLt_at ega_2 hf
  refine lv_aload_n hx hb dX0_perform_10 rfl (lv_at hl 0 rfl) ?_
  refine lv_iload_n hx hb dX0_perform_11 rfl (lv_at hl 2 rfl) ?_
  refine zPut (ci := 0) (C := RX0) (F := TX0) (N := 6) (x := a2) (w := ga_2) hx hb hts hiX0 tyX0 tyX0_ok nmX0 hown hK hP hD hS (fun g => wX0 T hga g ++ wX8 T hgw gw) 0 4 3 rfl rfl (by decide) rfl rfl rfl ⟨rfl, rfl⟩ (Nat.le_of_ble_eq_true rfl) rfl dX0_perform_12 (fun ga_3 ega_3 H locs hP hD hS => ?_)
  replace hP : va_P D vwCl (wX0 T hga ga_3 ++ wX8 T hgw gw) H := hP
  replace hD : va_D A (wX0 T hga ga_3 ++ wX8 T hgw gw) := hD
  replace hf := zLt_at ega_3 hf
  refine lv_aload_n hx hb dX0_perform_15 rfl (lv_at hl 0 rfl) ?_
  refine lv_aload_n hx hb dX0_perform_16 rfl (lv_at hl 1 rfl) ?_
  refine zGet (ci := 8) (C := RX8) (F := TX8) (N := 14) (v := .ref (hgw 9)) hx hb hts hiX8 hown hK hP 2 11 4 rfl rfl (by decide) rfl rfl rfl dX0_perform_17 ?_
  refine lv_iload_n hx hb dX0_perform_20 rfl (lv_at hl 2 rfl) ?_
  obtain ⟨hg, hf⟩ := zGd_ok hf
  refine zAldI hx hb hK hP 11 rfl hg dX0_perform_21 (fun v4 ev4 => ?_)
  replace hf := zLt_at ev4 hf
  refine zPut (ci := 0) (C := RX0) (F := TX0) (N := 6) (x := v4) (w := ga_3) hx hb hts hiX0 tyX0 tyX0_ok nmX0 hown hK hP hD hS (fun g => wX0 T hga g ++ wX8 T hgw gw) 0 5 5 rfl rfl (by decide) rfl rfl rfl ⟨rfl, rfl⟩ (Nat.le_of_ble_eq_true rfl) rfl dX0_perform_22 (fun ga_5 ega_5 H locs hP hD hS => ?_)
  replace hP : va_P D vwCl (wX0 T hga ga_5 ++ wX8 T hgw gw) H := hP
  replace hD : va_D A (wX0 T hga ga_5 ++ wX8 T hgw gw) := hD
  replace hf := zLt_at ega_5 hf
  refine lv_iload_n hx hb dX0_perform_25 rfl (lv_at hl 3 rfl) ?_
  have hJ88 : ∀ (v6 : Int32) (ga_7 : zM) (H : Heap) (locs : List Loc) (ls : Array Slot), fX0_perform_J88 v6 ga_7 = some (r, nga) → va_P D vwCl (wX0 T hga ga_7 ++ wX8 T hgw gw) H → va_D A (wX0 T hga ga_7 ++ wX8 T hgw gw) → va_S A s.heap H locs → lv_has ls 6 [(0, .ref (hga 0))] → W p l e rX0_perform s m args below meth c H locs 0 0 Q (F0 m 88 ls [.int v6]) := by
    intro v6 ga_7 H locs ls hf hP hD hS hl
    unfold fX0_perform_J88 at hf
    refine lv_istore (lv' := [(5, .int v6), (0, .ref (hga 0))]) hx hb dX0_perform_88 hl (by decide) rfl (fun ls hl => ?_)
    refine lv_aload_n hx hb dX0_perform_90 rfl (lv_at hl 1 rfl) ?_
    refine zGet (ci := 0) (C := RX0) (F := TX0) (N := 6) (v := .int (ga_7 0 2)) hx hb hts hiX0 hown hK hP 0 2 6 rfl rfl (by decide) rfl rfl rfl dX0_perform_91 ?_
    refine lv_if_eq (tgt := 102) hx hb dX0_perform_94 (by decide) (fun hc => ?_) (fun hc => ?_)
    · replace hf := zIf_t hc hf
      refine lv_iload hx hb dX0_perform_102 (lv_at hl 0 rfl) ?_
      obtain ⟨q1, q2⟩ := zI2 hf
      subst q1
      subst q2
      exact zRetI hQ hx hb hr hlocks hA0 hK hP hD hS rfl dX0_perform_104
    · replace hf := zIf_f hc hf
      refine lv_bipush (v := (-15)) hx hb dX0_perform_97 (by decide) ?_
      refine lv_goto (tgt := 104) hx hb dX0_perform_99 (by decide) ?_
      obtain ⟨q1, q2⟩ := zI2 hf
      subst q1
      subst q2
      exact zRetI hQ hx hb hr hlocks hA0 hK hP hD hS rfl dX0_perform_104
  refine lv_if_ne (tgt := 42) hx hb dX0_perform_26 (by decide) (fun hc => ?_) (fun hc => ?_)
  · replace hf := zIf_f hc hf
    refine lv_iload_n hx hb dX0_perform_42 rfl (lv_at hl 3 rfl) ?_
    refine lv_iconst (v := 1) hx hb dX0_perform_43 (by decide) ?_
    refine lv_icmp_ne (tgt := 60) hx hb dX0_perform_44 (by decide) (fun hc => ?_) (fun hc => ?_)
    · replace hf := zIf_f hc hf
      refine lv_iload_n hx hb dX0_perform_60 rfl (lv_at hl 3 rfl) ?_
      refine lv_iconst (v := 2) hx hb dX0_perform_61 (by decide) ?_
      refine lv_icmp_ne (tgt := 78) hx hb dX0_perform_62 (by decide) (fun hc => ?_) (fun hc => ?_)
      · replace hf := zIf_f hc hf
        refine lv_aload_n hx hb dX0_perform_78 rfl (lv_at hl 0 rfl) ?_
        refine lv_aload_n hx hb dX0_perform_79 rfl (lv_at hl 0 rfl) ?_
        refine zGet (ci := 0) (C := RX0) (F := TX0) (N := 6) (v := .int (ga_5 0 3)) hx hb hts hiX0 hown hK hP 0 3 2 rfl rfl (by decide) rfl rfl rfl dX0_perform_80 ?_
        refine lv_iload hx hb dX0_perform_83 (lv_at hl 4 rfl) ?_
        obtain ⟨v8, ga_9, hc85, hf⟩ := zB2_ok hf
        refine zCallVJI (wr := wX8 T hgw gw) (ws' := wX0 T hga ga_9 ++ wX8 T hgw gw) [.int (ga_5 0 3), .int a4] ⟨hx, hb, hml, hown, hts⟩ (pX0_tells l D T X hga H.size 4 ga_5 (ga_5 0 3) a4 v8 ga_9 hc85) (cwV 2 hts gX0_perform_X0_tells rfl rfl rfl (by decide +kernel) ⟨Nat.le_of_ble_eq_true rfl, Nat.le_of_ble_eq_true rfl⟩) hK hP hD hS hA hX [0, 1] [2, 3, 4, 5, 6, 7, 8, 9, 10, 11, 12] [11, 12, 0, 1, 2, 3, 4, 5, 6, 7, 8, 9, 10] rfl rfl rfl rfl 0 rfl rfl rfl hl.1 rfl (Nat.le_of_ble_eq_true rfl) dX0_perform_85 ⟨Nat.zero_le _, Nat.zero_le _⟩ (fun H locs hP hD hS => ?_)
        exact hJ88 v8 ga_9 H locs ls hf hP hD hS (lv_sub hl [0] rfl)
      · replace hf := zIf_t hc hf
        refine lv_aload_n hx hb dX0_perform_65 rfl (lv_at hl 0 rfl) ?_
        refine lv_aload_n hx hb dX0_perform_66 rfl (lv_at hl 0 rfl) ?_
        refine zGet (ci := 0) (C := RX0) (F := TX0) (N := 6) (v := .int (ga_5 0 3)) hx hb hts hiX0 hown hK hP 0 3 2 rfl rfl (by decide) rfl rfl rfl dX0_perform_67 ?_
        refine lv_iload hx hb dX0_perform_70 (lv_at hl 4 rfl) ?_
        obtain ⟨v10, ga_11, hc72, hf⟩ := zB2_ok hf
        refine zCallVJI (wr := wX8 T hgw gw) (ws' := wX0 T hga ga_11 ++ wX8 T hgw gw) [.int (ga_5 0 3), .int a4] ⟨hx, hb, hml, hown, hts⟩ (pX0_shares l D T X hga H.size 4 ga_5 (ga_5 0 3) a4 v10 ga_11 hc72) (cwV 2 hts gX0_perform_X0_shares rfl rfl rfl (by decide +kernel) ⟨Nat.le_of_ble_eq_true rfl, Nat.le_of_ble_eq_true rfl⟩) hK hP hD hS hA hX [0, 1] [2, 3, 4, 5, 6, 7, 8, 9, 10, 11, 12] [11, 12, 0, 1, 2, 3, 4, 5, 6, 7, 8, 9, 10] rfl rfl rfl rfl 0 rfl rfl rfl hl.1 rfl (Nat.le_of_ble_eq_true rfl) dX0_perform_72 ⟨Nat.zero_le _, Nat.zero_le _⟩ (fun H locs hP hD hS => ?_)
        refine lv_goto (tgt := 88) hx hb dX0_perform_75 (by decide) ?_
        exact hJ88 v10 ga_11 H locs ls hf hP hD hS (lv_sub hl [0] rfl)
    · replace hf := zIf_t hc hf
      refine lv_aload_n hx hb dX0_perform_47 rfl (lv_at hl 0 rfl) ?_
      refine lv_aload_n hx hb dX0_perform_48 rfl (lv_at hl 0 rfl) ?_
      refine zGet (ci := 0) (C := RX0) (F := TX0) (N := 6) (v := .int (ga_5 0 3)) hx hb hts hiX0 hown hK hP 0 3 2 rfl rfl (by decide) rfl rfl rfl dX0_perform_49 ?_
      refine lv_iload hx hb dX0_perform_52 (lv_at hl 4 rfl) ?_
      obtain ⟨v12, ga_13, hc54, hf⟩ := zB2_ok hf
      refine zCallVJI (wr := wX8 T hgw gw) (ws' := wX0 T hga ga_13 ++ wX8 T hgw gw) [.int (ga_5 0 3), .int a4] ⟨hx, hb, hml, hown, hts⟩ (pX0_costs l D T X hga H.size 4 ga_5 (ga_5 0 3) a4 v12 ga_13 hc54) (cwV 2 hts gX0_perform_X0_costs rfl rfl rfl (by decide +kernel) ⟨Nat.le_of_ble_eq_true rfl, Nat.le_of_ble_eq_true rfl⟩) hK hP hD hS hA hX [0, 1] [2, 3, 4, 5, 6, 7, 8, 9, 10, 11, 12] [11, 12, 0, 1, 2, 3, 4, 5, 6, 7, 8, 9, 10] rfl rfl rfl rfl 0 rfl rfl rfl hl.1 rfl (Nat.le_of_ble_eq_true rfl) dX0_perform_54 ⟨Nat.zero_le _, Nat.zero_le _⟩ (fun H locs hP hD hS => ?_)
      refine lv_goto (tgt := 88) hx hb dX0_perform_57 (by decide) ?_
      exact hJ88 v12 ga_13 H locs ls hf hP hD hS (lv_sub hl [0] rfl)
  · replace hf := zIf_t hc hf
    refine lv_aload_n hx hb dX0_perform_29 rfl (lv_at hl 0 rfl) ?_
    refine lv_aload_n hx hb dX0_perform_30 rfl (lv_at hl 0 rfl) ?_
    refine zGet (ci := 0) (C := RX0) (F := TX0) (N := 6) (v := .int (ga_5 0 3)) hx hb hts hiX0 hown hK hP 0 3 2 rfl rfl (by decide) rfl rfl rfl dX0_perform_31 ?_
    refine lv_iload hx hb dX0_perform_34 (lv_at hl 4 rfl) ?_
    obtain ⟨v14, ga_15, hc36, hf⟩ := zB2_ok hf
    refine zCallVJI (wr := wX8 T hgw gw) (ws' := wX0 T hga ga_15 ++ wX8 T hgw gw) [.int (ga_5 0 3), .int a4] ⟨hx, hb, hml, hown, hts⟩ (pX0_parts l D T X hga H.size 4 ga_5 (ga_5 0 3) a4 v14 ga_15 hc36) (cwV 2 hts gX0_perform_X0_parts rfl rfl rfl (by decide +kernel) ⟨Nat.le_of_ble_eq_true rfl, Nat.le_of_ble_eq_true rfl⟩) hK hP hD hS hA hX [0, 1] [2, 3, 4, 5, 6, 7, 8, 9, 10, 11, 12] [11, 12, 0, 1, 2, 3, 4, 5, 6, 7, 8, 9, 10] rfl rfl rfl rfl 0 rfl rfl rfl hl.1 rfl (Nat.le_of_ble_eq_true rfl) dX0_perform_36 ⟨Nat.zero_le _, Nat.zero_le _⟩ (fun H locs hP hD hS => ?_)
    refine lv_goto (tgt := 88) hx hb dX0_perform_39 (by decide) ?_
    exact hJ88 v14 ga_15 H locs ls hf hP hD hS (lv_sub hl [0] rfl)
set_option maxHeartbeats 4000000 in
set_option maxRecDepth 100000 in
theorem pJ7_fill_53178 (l : Launch) (D : va_G) (T : Nat → ClassId) (X : zFP) (hfa : Nat → Nat) (sz : Nat) (n : Nat) (fa : zM) (a2 : Int32) (nfa : zM) (hf : fJ7_fill_53178 n fa a2 = some nfa) : Met l yJ7_fill_53178 wsJ7_fill_53178 rJ7_fill_53178 (zPre D T X [.ref (hfa 0), .int a2] (wFA T hfa n fa) sz) (zQv D T (wFA T hfa n nfa) (wFA T hfa n fa) sz) 0 0 (va_A (wFA T hfa n fa) sz) := by
  unfold fJ7_fill_53178 at hf
  refine zStart [(0, .ref (hfa 0)), (1, .int a2)] (by decide) rfl (Nat.le_of_ble_eq_true rfl) rfl ?_
  intro p e s m args below meth c A Q ls hx hb hr hml hown hlocks hts hsz hA0 hQ hA hK hX hP hD hS hl
  replace hown : s.vm.findClass RJ7 = some m.cls := hown
  have hH := hsz
  obtain ⟨H, hHe⟩ : ∃ H : Heap, H = s.heap := ⟨_, rfl⟩
  obtain ⟨locs, hLe⟩ : ∃ L : List Loc, L = [] := ⟨_, rfl⟩
  replace hP : va_P D vwCl (wFA T hfa n fa) H := by rw [hHe]; exact hP
  replace hS : va_S A s.heap H locs := by rw [hHe, hLe]; exact hS
  suffices hgo : W p l e rJ7_fill_53178 s m args below meth c H locs 0 0 Q (F0 m 0 ls []) by rw [hHe, hLe] at hgo; exact hgo
  clear hHe hLe
  refine lv_iconst (v := 0) hx hb dJ7_fill_53178_0 (by decide) ?_
  refine lv_istore_n (lv' := [(2, .int 0), (0, .ref (hfa 0)), (1, .int a2)]) hx hb dJ7_fill_53178_1 rfl hl (by decide) rfl (fun ls hl => ?_)
  refine lv_aload_n hx hb dJ7_fill_53178_2 rfl (lv_at hl 1 rfl) ?_
  refine va_alen (v := Int32.ofNat n) hx hb hK hP 0 0 rfl rfl rfl dJ7_fill_53178_3 ?_
  refine lv_topi (fun v1 ev1 => ?_)
  replace hf := zLt_at ev1 hf
  refine lv_istore_n (lv' := [(3, .int v1), (2, .int 0), (0, .ref (hfa 0)), (1, .int a2)]) hx hb dJ7_fill_53178_4 rfl hl (by decide) rfl (fun ls hl => ?_)
  obtain ⟨ex, hlp, hf⟩ := zB1_ok hf
  have hE5_20 : ∀ (fa_4 : zM) , ex = fa_4 → ∀ (H : Heap) (locs : List Loc) (ls : Array Slot), va_P D vwCl (wFA T hfa n fa_4) H → va_D A (wFA T hfa n fa_4) → va_S A s.heap H locs → lv_has ls 4 [] → W p l e rJ7_fill_53178 s m args below meth c H locs 0 0 Q (F0 m 20 ls []) := by
    intro fa_4 hex H locs ls hP hD hS hl
    have hf := zEx1 hex hf
    obtain ⟨q1, -⟩ := zI1 hf
    subst q1
    exact zRetV hQ hx hb hr hlocks hA0 hK hP hD hS dJ7_fill_53178_20
  refine zLpS2 (body := (fJ7_fill_53178_L5 n a2 v1)) (b := ex) (fun (v2 : Int32) (fa_3 : zM) => ∀ (H : Heap) (locs : List Loc) (ls : Array Slot), va_P D vwCl (wFA T hfa n fa_3) H → va_D A (wFA T hfa n fa_3) → va_S A s.heap H locs → lv_has ls 4 [(0, .ref (hfa 0)), (1, .int a2), (2, .int v2), (3, .int v1)] → W p l e rJ7_fill_53178 s m args below meth c H locs 0 0 Q (F0 m 5 ls [])) ?_ zFU 0 fa hlp H locs ls hP hD hS (lv_sub hl [2, 3, 1, 0] rfl)
  intro v2 fa_3 z hf hzz H locs ls hP hD hS hl
  unfold fJ7_fill_53178_L5 at hf
  replace hf := zUk2 hf
  refine lv_iload_n hx hb dJ7_fill_53178_5 rfl (lv_at hl 2 rfl) ?_
  refine lv_iload_n hx hb dJ7_fill_53178_6 rfl (lv_at hl 3 rfl) ?_
  refine lv_icmp_ge (tgt := 20) hx hb dJ7_fill_53178_7 (by decide) (fun hc => ?_) (fun hc => ?_)
  · replace hf := zIf_t hc hf
    cases hf
    exact hE5_20 fa_3 hzz.symm H locs ls hP hD hS (lv_sub hl [] rfl)
  · replace hf := zIf_f hc hf
    refine lv_aload_n hx hb dJ7_fill_53178_10 rfl (lv_at hl 0 rfl) ?_
    refine lv_iload_n hx hb dJ7_fill_53178_11 rfl (lv_at hl 2 rfl) ?_
    refine lv_iload_n hx hb dJ7_fill_53178_12 rfl (lv_at hl 1 rfl) ?_
    obtain ⟨hg, hf⟩ := zGd_ok hf
    refine zAstI (w := fa_3) hx hb hK hP hD hS (fun g => wFA T hfa n g) 0 0 rfl hg rfl dJ7_fill_53178_13 (fun fa_5 efa_5 H locs hP hD hS => ?_)
    replace hP : va_P D vwCl (wFA T hfa n fa_5) H := hP
    replace hD : va_D A (wFA T hfa n fa_5) := hD
    replace hf := zLt_at efa_5 hf
    obtain ⟨v6, ev6⟩ : ∃ y : Int32, y = v2 + 1 := ⟨_, rfl⟩
    replace hf := zLt_at ev6 hf
    refine lv_iinc (v := v6) (lv' := [(2, .int v6), (0, .ref (hfa 0)), (1, .int a2), (3, .int v1)]) hx hb dJ7_fill_53178_14 hl (k := 2) rfl (by rw [ev6]; rfl) (by decide) rfl (fun ls hl => ?_)
    refine lv_goto (tgt := 5) hx hb dJ7_fill_53178_17 (by decide) ?_
    cases hf
    exact hzz H locs ls hP hD hS (lv_sub hl [1, 2, 0, 3] rfl)
set_option maxHeartbeats 4000000 in
set_option maxRecDepth 100000 in
theorem pX8_bothOf (l : Launch) (D : va_G) (T : Nat → ClassId) (X : zFP) (hgw : Nat → Nat) (sz : Nat) (gw : zM) (a1 : Int32) (r : Int32) (hf : fX8_bothOf gw a1 = some r) : Met l yX8_bothOf wsX8_bothOf rX8_bothOf (zPre D T X [.ref (hgw 0), .int a1] (wX8 T hgw gw) sz) (zQi D T r (wX8 T hgw gw) (wX8 T hgw gw) sz) 0 0 (va_A (wX8 T hgw gw) sz) := by
  unfold fX8_bothOf at hf
  refine zStart [(0, .ref (hgw 0)), (1, .int a1)] (by decide) rfl (Nat.le_of_ble_eq_true rfl) rfl ?_
  intro p e s m args below meth c A Q ls hx hb hr hml hown hlocks hts hsz hA0 hQ hA hK hX hP hD hS hl
  replace hown : s.vm.findClass RX8 = some m.cls := hown
  have hH := hsz
  have hiX8 : ∀ w ∈ u_ws RX8 TX8 14, w ∈ wsX8_bothOf := fun w h => List.mem_cons_of_mem _ (List.mem_append_right _ (h))
  obtain ⟨H, hHe⟩ : ∃ H : Heap, H = s.heap := ⟨_, rfl⟩
  obtain ⟨locs, hLe⟩ : ∃ L : List Loc, L = [] := ⟨_, rfl⟩
  replace hP : va_P D vwCl (wX8 T hgw gw) H := by rw [hHe]; exact hP
  replace hS : va_S A s.heap H locs := by rw [hHe, hLe]; exact hS
  suffices hgo : W p l e rX8_bothOf s m args below meth c H locs 0 0 Q (F0 m 0 ls []) by rw [hHe, hLe] at hgo; exact hgo
  clear hHe hLe
  refine lv_iconst (v := 1) hx hb dX8_bothOf_0 (by decide) ?_
  refine lv_aload_n hx hb dX8_bothOf_1 rfl (lv_at hl 0 rfl) ?_
  refine zGet (ci := 8) (C := RX8) (F := TX8) (N := 14) (v := .ref (hgw 3)) hx hb hts hiX8 hown hK hP 0 4 1 rfl rfl (by decide) rfl rfl rfl dX8_bothOf_2 ?_
  refine lv_iload_n hx hb dX8_bothOf_5 rfl (lv_at hl 1 rfl) ?_
  obtain ⟨hg, hf⟩ := zGd_ok hf
  refine zAldI hx hb hK hP 3 rfl hg dX8_bothOf_6 (fun v1 ev1 => ?_)
  replace hf := zLt_at ev1 hf
  refine lv_ishl hx hb dX8_bothOf_7 ?_
  refine lv_iconst (v := 1) hx hb dX8_bothOf_8 (by decide) ?_
  refine lv_aload_n hx hb dX8_bothOf_9 rfl (lv_at hl 0 rfl) ?_
  refine zGet (ci := 8) (C := RX8) (F := TX8) (N := 14) (v := .ref (hgw 4)) hx hb hts hiX8 hown hK hP 0 5 2 rfl rfl (by decide) rfl rfl rfl dX8_bothOf_10 ?_
  refine lv_iload_n hx hb dX8_bothOf_13 rfl (lv_at hl 1 rfl) ?_
  obtain ⟨hg, hf⟩ := zGd_ok hf
  refine zAldI hx hb hK hP 4 rfl hg dX8_bothOf_14 (fun v2 ev2 => ?_)
  replace hf := zLt_at ev2 hf
  refine lv_ishl hx hb dX8_bothOf_15 ?_
  refine lv_ior hx hb dX8_bothOf_16 ?_
  obtain ⟨q1, -⟩ := zI1 hf
  subst q1
  exact zRetI hQ hx hb hr hlocks hA0 hK hP hD hS rfl dX8_bothOf_17
set_option maxHeartbeats 4000000 in
set_option maxRecDepth 100000 in
theorem pJ6_bitCount_0f7a4 (l : Launch) (D : va_G) (T : Nat → ClassId) (X : zFP) (sz : Nat) (a1 : Int32) (r : Int32) (hf : fJ6_bitCount_0f7a4 a1 = some r) : Met l yJ6_bitCount_0f7a4 wsJ6_bitCount_0f7a4 rJ6_bitCount_0f7a4 (zPre D T X [.int a1] ([]) sz) (zQi D T r ([]) ([]) sz) 0 0 (va_A ([]) sz) := by
  unfold fJ6_bitCount_0f7a4 at hf
  refine zStart [(0, .int a1)] (by decide) rfl (Nat.le_of_ble_eq_true rfl) rfl ?_
  intro p e s m args below meth c A Q ls hx hb hr hml hown hlocks hts hsz hA0 hQ hA hK hX hP hD hS hl
  replace hown : s.vm.findClass RJ6 = some m.cls := hown
  have hH := hsz
  obtain ⟨H, hHe⟩ : ∃ H : Heap, H = s.heap := ⟨_, rfl⟩
  obtain ⟨locs, hLe⟩ : ∃ L : List Loc, L = [] := ⟨_, rfl⟩
  replace hP : va_P D vwCl ([]) H := by rw [hHe]; exact hP
  replace hS : va_S A s.heap H locs := by rw [hHe, hLe]; exact hS
  suffices hgo : W p l e rJ6_bitCount_0f7a4 s m args below meth c H locs 0 0 Q (F0 m 0 ls []) by rw [hHe, hLe] at hgo; exact hgo
  clear hHe hLe
  refine lv_iload_n hx hb dJ6_bitCount_0f7a4_0 rfl (lv_at hl 0 rfl) ?_
  refine lv_iload_n hx hb dJ6_bitCount_0f7a4_1 rfl (lv_at hl 0 rfl) ?_
  refine lv_iconst (v := 1) hx hb dJ6_bitCount_0f7a4_2 (by decide) ?_
  refine lv_iushr hx hb dJ6_bitCount_0f7a4_3 rfl ?_
  refine lv_ldcw (v := 1431655765) hx hb hown (hts _ (List.mem_of_getElem? (i := 1) rfl)) dJ6_bitCount_0f7a4_4 ?_
  refine lv_iand hx hb dJ6_bitCount_0f7a4_7 ?_
  refine lv_isub hx hb dJ6_bitCount_0f7a4_8 ?_
  refine lv_topi (fun v1 ev1 => ?_)
  replace hf := zLt_at ev1 hf
  refine lv_istore_n (lv' := [(0, .int v1)]) hx hb dJ6_bitCount_0f7a4_9 rfl hl (by decide) rfl (fun ls hl => ?_)
  refine lv_iload_n hx hb dJ6_bitCount_0f7a4_10 rfl (lv_at hl 0 rfl) ?_
  refine lv_ldcw (v := 858993459) hx hb hown (hts _ (List.mem_of_getElem? (i := 2) rfl)) dJ6_bitCount_0f7a4_11 ?_
  refine lv_iand hx hb dJ6_bitCount_0f7a4_14 ?_
  refine lv_iload_n hx hb dJ6_bitCount_0f7a4_15 rfl (lv_at hl 0 rfl) ?_
  refine lv_iconst (v := 2) hx hb dJ6_bitCount_0f7a4_16 (by decide) ?_
  refine lv_iushr hx hb dJ6_bitCount_0f7a4_17 rfl ?_
  refine lv_ldcw (v := 858993459) hx hb hown (hts _ (List.mem_of_getElem? (i := 2) rfl)) dJ6_bitCount_0f7a4_18 ?_
  refine lv_iand hx hb dJ6_bitCount_0f7a4_21 ?_
  refine lv_iadd hx hb dJ6_bitCount_0f7a4_22 ?_
  refine lv_topi (fun v2 ev2 => ?_)
  replace hf := zLt_at ev2 hf
  refine lv_istore_n (lv' := [(0, .int v2)]) hx hb dJ6_bitCount_0f7a4_23 rfl hl (by decide) rfl (fun ls hl => ?_)
  refine lv_iload_n hx hb dJ6_bitCount_0f7a4_24 rfl (lv_at hl 0 rfl) ?_
  refine lv_iload_n hx hb dJ6_bitCount_0f7a4_25 rfl (lv_at hl 0 rfl) ?_
  refine lv_iconst (v := 4) hx hb dJ6_bitCount_0f7a4_26 (by decide) ?_
  refine lv_iushr hx hb dJ6_bitCount_0f7a4_27 rfl ?_
  refine lv_iadd hx hb dJ6_bitCount_0f7a4_28 ?_
  refine lv_ldcw (v := 252645135) hx hb hown (hts _ (List.mem_of_getElem? (i := 3) rfl)) dJ6_bitCount_0f7a4_29 ?_
  refine lv_iand hx hb dJ6_bitCount_0f7a4_32 ?_
  refine lv_topi (fun v3 ev3 => ?_)
  replace hf := zLt_at ev3 hf
  refine lv_istore_n (lv' := [(0, .int v3)]) hx hb dJ6_bitCount_0f7a4_33 rfl hl (by decide) rfl (fun ls hl => ?_)
  refine lv_iload_n hx hb dJ6_bitCount_0f7a4_34 rfl (lv_at hl 0 rfl) ?_
  refine lv_iload_n hx hb dJ6_bitCount_0f7a4_35 rfl (lv_at hl 0 rfl) ?_
  refine lv_bipush (v := 8) hx hb dJ6_bitCount_0f7a4_36 (by decide) ?_
  refine lv_iushr hx hb dJ6_bitCount_0f7a4_38 rfl ?_
  refine lv_iadd hx hb dJ6_bitCount_0f7a4_39 ?_
  refine lv_topi (fun v4 ev4 => ?_)
  replace hf := zLt_at ev4 hf
  refine lv_istore_n (lv' := [(0, .int v4)]) hx hb dJ6_bitCount_0f7a4_40 rfl hl (by decide) rfl (fun ls hl => ?_)
  refine lv_iload_n hx hb dJ6_bitCount_0f7a4_41 rfl (lv_at hl 0 rfl) ?_
  refine lv_iload_n hx hb dJ6_bitCount_0f7a4_42 rfl (lv_at hl 0 rfl) ?_
  refine lv_bipush (v := 16) hx hb dJ6_bitCount_0f7a4_43 (by decide) ?_
  refine lv_iushr hx hb dJ6_bitCount_0f7a4_45 rfl ?_
  refine lv_iadd hx hb dJ6_bitCount_0f7a4_46 ?_
  refine lv_topi (fun v5 ev5 => ?_)
  replace hf := zLt_at ev5 hf
  refine lv_istore_n (lv' := [(0, .int v5)]) hx hb dJ6_bitCount_0f7a4_47 rfl hl (by decide) rfl (fun ls hl => ?_)
  refine lv_iload_n hx hb dJ6_bitCount_0f7a4_48 rfl (lv_at hl 0 rfl) ?_
  refine lv_bipush (v := 63) hx hb dJ6_bitCount_0f7a4_49 (by decide) ?_
  refine lv_iand hx hb dJ6_bitCount_0f7a4_51 ?_
  obtain ⟨q1, -⟩ := zI1 hf
  subst q1
  exact zRetI hQ hx hb hr hlocks hA0 hK hP hD hS rfl dJ6_bitCount_0f7a4_52
set_option maxHeartbeats 4000000 in
set_option maxRecDepth 100000 in
theorem pX1_isAtEdge (l : Launch) (D : va_G) (T : Nat → ClassId) (X : zFP) (hgw : Nat → Nat) (sz : Nat) (gw : zM) (a2 : Int32) (a3 : Int32) (r : Int32) (hf : fX1_isAtEdge gw a2 a3 = some r) : Met l yX1_isAtEdge wsX1_isAtEdge rX1_isAtEdge (zPre D T X [.ref (hgw 0), .int a2, .int a3] (wX8 T hgw gw) sz) (zQi D T r (wX8 T hgw gw) (wX8 T hgw gw) sz) 0 0 (va_A (wX8 T hgw gw) sz) := by
  unfold fX1_isAtEdge at hf
  refine zStart [(0, .ref (hgw 0)), (1, .int a2), (2, .int a3)] (by decide) rfl (Nat.le_of_ble_eq_true rfl) rfl ?_
  intro p e s m args below meth c A Q ls hx hb hr hml hown hlocks hts hsz hA0 hQ hA hK hX hP hD hS hl
  replace hown : s.vm.findClass RX1 = some m.cls := hown
  have hH := hsz
  obtain ⟨H, hHe⟩ : ∃ H : Heap, H = s.heap := ⟨_, rfl⟩
  obtain ⟨locs, hLe⟩ : ∃ L : List Loc, L = [] := ⟨_, rfl⟩
  replace hP : va_P D vwCl (wX8 T hgw gw) H := by rw [hHe]; exact hP
  replace hS : va_S A s.heap H locs := by rw [hHe, hLe]; exact hS
  suffices hgo : W p l e rX1_isAtEdge s m args below meth c H locs 0 0 Q (F0 m 0 ls []) by rw [hHe, hLe] at hgo; exact hgo
  clear hHe hLe
  refine lv_aload_n hx hb dX1_isAtEdge_0 rfl (lv_at hl 0 rfl) ?_
  refine lv_iload_n hx hb dX1_isAtEdge_1 rfl (lv_at hl 1 rfl) ?_
  obtain ⟨v1, hc2, hf⟩ := zB1_ok hf
  refine zCallVEI [.int a2] ⟨hx, hb, hml, hown, hts⟩ (pX8_bothOf l D T X hgw H.size gw a2 v1 hc2) (cwV 1 hts gX1_isAtEdge_X8_bothOf rfl rfl rfl (by decide +kernel) ⟨Nat.le_of_ble_eq_true rfl, Nat.le_of_ble_eq_true rfl⟩) hK hP hD hS hA hX 0 rfl rfl rfl hl.1 rfl (Nat.le_of_ble_eq_true rfl) dX1_isAtEdge_2 ⟨Nat.zero_le _, Nat.zero_le _⟩ (fun H locs hP hD hS => ?_)
  refine lv_iload_n hx hb dX1_isAtEdge_5 rfl (lv_at hl 2 rfl) ?_
  refine lv_iand hx hb dX1_isAtEdge_6 ?_
  obtain ⟨v2, hc7, hf⟩ := zB1_ok hf
  refine zCallS0I [.int (v1 &&& a3)] ⟨hx, hb, hml, hown, hts⟩ (pJ6_bitCount_0f7a4 l D T X H.size (v1 &&& a3) v2 hc7) (va_cwS 1 hts gX1_isAtEdge_J6_bitCount_0f7a4 rfl rfl rfl (by decide +kernel) ⟨Nat.le_of_ble_eq_true rfl, Nat.le_of_ble_eq_true rfl⟩) hK hP hD hS hA hX rfl hl.1 rfl (Nat.le_of_ble_eq_true rfl) dX1_isAtEdge_7 ⟨Nat.zero_le _, Nat.zero_le _⟩ (fun H locs hP hD hS => ?_)
  refine lv_iconst (v := 1) hx hb dX1_isAtEdge_10 (by decide) ?_
  refine lv_icmp_ne (tgt := 18) hx hb dX1_isAtEdge_11 (by decide) (fun hc => ?_) (fun hc => ?_)
  · replace hf := zIf_f hc hf
    refine lv_iconst (v := 0) hx hb dX1_isAtEdge_18 (by decide) ?_
    obtain ⟨q1, -⟩ := zI1 hf
    subst q1
    exact zRetZ hQ hx hb hr hlocks hA0 hK hP hD hS (by decide) rfl dX1_isAtEdge_19
  · replace hf := zIf_t hc hf
    refine lv_iconst (v := 1) hx hb dX1_isAtEdge_14 (by decide) ?_
    refine lv_goto (tgt := 19) hx hb dX1_isAtEdge_15 (by decide) ?_
    obtain ⟨q1, -⟩ := zI1 hf
    subst q1
    exact zRetZ hQ hx hb hr hlocks hA0 hK hP hD hS (by decide) rfl dX1_isAtEdge_19
set_option maxHeartbeats 4000000 in
set_option maxRecDepth 100000 in
theorem pX8_isCutBy (l : Launch) (D : va_G) (T : Nat → ClassId) (X : zFP) (hgw : Nat → Nat) (sz : Nat) (gw : zM) (a1 : Int32) (a2 : Int32) (a3 : Int32) (r : Int32) (hf : fX8_isCutBy gw a1 a2 a3 = some r) : Met l yX8_isCutBy wsX8_isCutBy rX8_isCutBy (zPre D T X [.ref (hgw 0), .int a1, .int a2, .int a3] (wX8 T hgw gw) sz) (zQi D T r (wX8 T hgw gw) (wX8 T hgw gw) sz) 0 0 (va_A (wX8 T hgw gw) sz) := by
  unfold fX8_isCutBy at hf
  refine zStart [(0, .ref (hgw 0)), (1, .int a1), (2, .int a2), (3, .int a3)] (by decide) rfl (Nat.le_of_ble_eq_true rfl) rfl ?_
  intro p e s m args below meth c A Q ls hx hb hr hml hown hlocks hts hsz hA0 hQ hA hK hX hP hD hS hl
  replace hown : s.vm.findClass RX8 = some m.cls := hown
  have hH := hsz
  have hiX8 : ∀ w ∈ u_ws RX8 TX8 14, w ∈ wsX8_isCutBy := fun w h => List.mem_cons_of_mem _ (List.mem_append_right _ (h))
  obtain ⟨H, hHe⟩ : ∃ H : Heap, H = s.heap := ⟨_, rfl⟩
  obtain ⟨locs, hLe⟩ : ∃ L : List Loc, L = [] := ⟨_, rfl⟩
  replace hP : va_P D vwCl (wX8 T hgw gw) H := by rw [hHe]; exact hP
  replace hS : va_S A s.heap H locs := by rw [hHe, hLe]; exact hS
  suffices hgo : W p l e rX8_isCutBy s m args below meth c H locs 0 0 Q (F0 m 0 ls []) by rw [hHe, hLe] at hgo; exact hgo
  clear hHe hLe
  refine lv_aload_n hx hb dX8_isCutBy_0 rfl (lv_at hl 0 rfl) ?_
  refine lv_iload_n hx hb dX8_isCutBy_1 rfl (lv_at hl 2 rfl) ?_
  obtain ⟨v1, hc2, hf⟩ := zB1_ok hf
  refine zCallVEI [.int a2] ⟨hx, hb, hml, hown, hts⟩ (pX8_bothOf l D T X hgw H.size gw a2 v1 hc2) (cwV 1 hts gX8_isCutBy_X8_bothOf rfl rfl rfl (by decide +kernel) ⟨Nat.le_of_ble_eq_true rfl, Nat.le_of_ble_eq_true rfl⟩) hK hP hD hS hA hX 0 rfl rfl rfl hl.1 rfl (Nat.le_of_ble_eq_true rfl) dX8_isCutBy_2 ⟨Nat.zero_le _, Nat.zero_le _⟩ (fun H locs hP hD hS => ?_)
  refine lv_istore (lv' := [(4, .int v1), (0, .ref (hgw 0)), (1, .int a1), (2, .int a2), (3, .int a3)]) hx hb dX8_isCutBy_5 hl (by decide) rfl (fun ls hl => ?_)
  refine lv_iload hx hb dX8_isCutBy_7 (lv_at hl 0 rfl) ?_
  refine lv_aload_n hx hb dX8_isCutBy_9 rfl (lv_at hl 1 rfl) ?_
  refine zGet (ci := 8) (C := RX8) (F := TX8) (N := 14) (v := .ref (hgw 9)) hx hb hts hiX8 hown hK hP 0 11 1 rfl rfl (by decide) rfl rfl rfl dX8_isCutBy_10 ?_
  refine lv_iload_n hx hb dX8_isCutBy_13 rfl (lv_at hl 2 rfl) ?_
  obtain ⟨hg, hf⟩ := zGd_ok hf
  refine zAldI hx hb hK hP 9 rfl hg dX8_isCutBy_14 (fun v2 ev2 => ?_)
  replace hf := zLt_at ev2 hf
  refine lv_iand hx hb dX8_isCutBy_15 ?_
  refine lv_topi (fun v3 ev3 => ?_)
  replace hf := zLt_at ev3 hf
  refine lv_istore (lv' := [(5, .int v3), (4, .int v1), (0, .ref (hgw 0)), (1, .int a1), (2, .int a2), (3, .int a3)]) hx hb dX8_isCutBy_16 hl (by decide) rfl (fun ls hl => ?_)
  refine lv_aload_n hx hb dX8_isCutBy_18 rfl (lv_at hl 2 rfl) ?_
  refine zGet (ci := 8) (C := RX8) (F := TX8) (N := 14) (v := .ref (hgw 8)) hx hb hts hiX8 hown hK hP 0 10 2 rfl rfl (by decide) rfl rfl rfl dX8_isCutBy_19 ?_
  refine lv_iload_n hx hb dX8_isCutBy_22 rfl (lv_at hl 3 rfl) ?_
  obtain ⟨hg, hf⟩ := zGd_ok hf
  refine zAldI hx hb hK hP 8 rfl hg dX8_isCutBy_23 (fun v4 ev4 => ?_)
  replace hf := zLt_at ev4 hf
  refine zSw (x := v4) (k := 1) (fun hc => ?_) (fun hk1 => ?_)
  · replace hf := zIf_t hc hf
    refine lv_tableIn (off := 40) (tgt := 64) hx hb dX8_isCutBy_24 (by rw [hc]; decide) (by rw [hc]; decide) (by rw [hc]; decide) (by decide) ?_
    refine lv_aload_n hx hb dX8_isCutBy_64 rfl (lv_at hl 2 rfl) ?_
    refine zGet (ci := 8) (C := RX8) (F := TX8) (N := 14) (v := .ref (hgw 9)) hx hb hts hiX8 hown hK hP 0 11 1 rfl rfl (by decide) rfl rfl rfl dX8_isCutBy_65 ?_
    refine lv_iload_n hx hb dX8_isCutBy_68 rfl (lv_at hl 3 rfl) ?_
    obtain ⟨hg, hf⟩ := zGd_ok hf
    refine zAldI hx hb hK hP 9 rfl hg dX8_isCutBy_69 (fun v5 ev5 => ?_)
    replace hf := zLt_at ev5 hf
    refine lv_iload_n hx hb dX8_isCutBy_70 rfl (lv_at hl 4 rfl) ?_
    refine lv_icmp_ne (tgt := 78) hx hb dX8_isCutBy_71 (by decide) (fun hc => ?_) (fun hc => ?_)
    · replace hf := zIf_f hc hf
      refine lv_iconst (v := 0) hx hb dX8_isCutBy_78 (by decide) ?_
      obtain ⟨q1, -⟩ := zI1 hf
      subst q1
      exact zRetZ hQ hx hb hr hlocks hA0 hK hP hD hS (by decide) rfl dX8_isCutBy_79
    · replace hf := zIf_t hc hf
      refine lv_iconst (v := 1) hx hb dX8_isCutBy_74 (by decide) ?_
      refine lv_goto (tgt := 79) hx hb dX8_isCutBy_75 (by decide) ?_
      obtain ⟨q1, -⟩ := zI1 hf
      subst q1
      exact zRetZ hQ hx hb hr hlocks hA0 hK hP hD hS (by decide) rfl dX8_isCutBy_79
  replace hf := zIf_f hk1 hf
  refine zSw (x := v4) (k := 2) (fun hc => ?_) (fun hk2 => ?_)
  · replace hf := zIf_t hc hf
    refine lv_tableIn (off := 56) (tgt := 80) hx hb dX8_isCutBy_24 (by rw [hc]; decide) (by rw [hc]; decide) (by rw [hc]; decide) (by decide) ?_
    refine lv_iload hx hb dX8_isCutBy_80 (lv_at hl 0 rfl) ?_
    obtain ⟨v6, hc82, hf⟩ := zB1_ok hf
    refine zCallS0I [.int v3] ⟨hx, hb, hml, hown, hts⟩ (pJ6_bitCount_0f7a4 l D T X H.size v3 v6 hc82) (va_cwS 1 hts gX8_isCutBy_J6_bitCount_0f7a4 rfl rfl rfl (by decide +kernel) ⟨Nat.le_of_ble_eq_true rfl, Nat.le_of_ble_eq_true rfl⟩) hK hP hD hS hA hX rfl hl.1 rfl (Nat.le_of_ble_eq_true rfl) dX8_isCutBy_82 ⟨Nat.zero_le _, Nat.zero_le _⟩ (fun H locs hP hD hS => ?_)
    refine lv_iconst (v := 1) hx hb dX8_isCutBy_85 (by decide) ?_
    refine lv_icmp_ne (tgt := 102) hx hb dX8_isCutBy_86 (by decide) (fun hc => ?_) (fun hc => ?_)
    · replace hf := zIf_f hc hf
      refine lv_iconst (v := 0) hx hb dX8_isCutBy_102 (by decide) ?_
      obtain ⟨q1, -⟩ := zI1 hf
      subst q1
      exact zRetZ hQ hx hb hr hlocks hA0 hK hP hD hS (by decide) rfl dX8_isCutBy_103
    · replace hf := zIf_t hc hf
      refine lv_aload_n hx hb dX8_isCutBy_89 rfl (lv_at hl 2 rfl) ?_
      refine zGet (ci := 8) (C := RX8) (F := TX8) (N := 14) (v := .ref (hgw 7)) hx hb hts hiX8 hown hK hP 0 8 3 rfl rfl (by decide) rfl rfl rfl dX8_isCutBy_90 ?_
      refine lv_iload_n hx hb dX8_isCutBy_93 rfl (lv_at hl 4 rfl) ?_
      obtain ⟨hg, hf⟩ := zGd_ok hf
      refine zAldZ hx hb hK hP 7 rfl hg dX8_isCutBy_94 (fun v7 ev7 => ?_)
      replace hf := zLt_at ev7 hf
      refine lv_if_ne (tgt := 102) hx hb dX8_isCutBy_95 (by decide) (fun hc => ?_) (fun hc => ?_)
      · replace hf := zIf_f hc hf
        refine lv_iconst (v := 0) hx hb dX8_isCutBy_102 (by decide) ?_
        obtain ⟨q1, -⟩ := zI1 hf
        subst q1
        exact zRetZ hQ hx hb hr hlocks hA0 hK hP hD hS (by decide) rfl dX8_isCutBy_103
      · replace hf := zIf_t hc hf
        refine lv_iconst (v := 1) hx hb dX8_isCutBy_98 (by decide) ?_
        refine lv_goto (tgt := 103) hx hb dX8_isCutBy_99 (by decide) ?_
        obtain ⟨q1, -⟩ := zI1 hf
        subst q1
        exact zRetZ hQ hx hb hr hlocks hA0 hK hP hD hS (by decide) rfl dX8_isCutBy_103
  replace hf := zIf_f hk2 hf
  refine zSw (x := v4) (k := 3) (fun hc => ?_) (fun hk3 => ?_)
  · replace hf := zIf_t hc hf
    refine lv_tableIn (off := 80) (tgt := 104) hx hb dX8_isCutBy_24 (by rw [hc]; decide) (by rw [hc]; decide) (by rw [hc]; decide) (by decide) ?_
    refine lv_iload hx hb dX8_isCutBy_104 (lv_at hl 0 rfl) ?_
    obtain ⟨v8, hc106, hf⟩ := zB1_ok hf
    refine zCallS0I [.int v3] ⟨hx, hb, hml, hown, hts⟩ (pJ6_bitCount_0f7a4 l D T X H.size v3 v8 hc106) (va_cwS 1 hts gX8_isCutBy_J6_bitCount_0f7a4 rfl rfl rfl (by decide +kernel) ⟨Nat.le_of_ble_eq_true rfl, Nat.le_of_ble_eq_true rfl⟩) hK hP hD hS hA hX rfl hl.1 rfl (Nat.le_of_ble_eq_true rfl) dX8_isCutBy_106 ⟨Nat.zero_le _, Nat.zero_le _⟩ (fun H locs hP hD hS => ?_)
    refine lv_iconst (v := 1) hx hb dX8_isCutBy_109 (by decide) ?_
    refine lv_icmp_ne (tgt := 117) hx hb dX8_isCutBy_110 (by decide) (fun hc => ?_) (fun hc => ?_)
    · replace hf := zIf_f hc hf
      refine lv_iconst (v := 0) hx hb dX8_isCutBy_117 (by decide) ?_
      obtain ⟨q1, -⟩ := zI1 hf
      subst q1
      exact zRetZ hQ hx hb hr hlocks hA0 hK hP hD hS (by decide) rfl dX8_isCutBy_118
    · replace hf := zIf_t hc hf
      refine lv_iconst (v := 1) hx hb dX8_isCutBy_113 (by decide) ?_
      refine lv_goto (tgt := 118) hx hb dX8_isCutBy_114 (by decide) ?_
      obtain ⟨q1, -⟩ := zI1 hf
      subst q1
      exact zRetZ hQ hx hb hr hlocks hA0 hK hP hD hS (by decide) rfl dX8_isCutBy_118
  replace hf := zIf_f hk3 hf
  refine zSw (x := v4) (k := 4) (fun hc => ?_) (fun hk4 => ?_)
  · replace hf := zIf_t hc hf
    refine lv_tableIn (off := 95) (tgt := 119) hx hb dX8_isCutBy_24 (by rw [hc]; decide) (by rw [hc]; decide) (by rw [hc]; decide) (by decide) ?_
    refine lv_aload_n hx hb dX8_isCutBy_119 rfl (lv_at hl 2 rfl) ?_
    refine zGet (ci := 8) (C := RX8) (F := TX8) (N := 14) (v := .ref (hgw 9)) hx hb hts hiX8 hown hK hP 0 11 1 rfl rfl (by decide) rfl rfl rfl dX8_isCutBy_120 ?_
    refine lv_iload_n hx hb dX8_isCutBy_123 rfl (lv_at hl 3 rfl) ?_
    obtain ⟨hg, hf⟩ := zGd_ok hf
    refine zAldI hx hb hK hP 9 rfl hg dX8_isCutBy_124 (fun v9 ev9 => ?_)
    replace hf := zLt_at ev9 hf
    refine lv_iload_n hx hb dX8_isCutBy_125 rfl (lv_at hl 4 rfl) ?_
    refine lv_icmp_ne (tgt := 143) hx hb dX8_isCutBy_126 (by decide) (fun hc => ?_) (fun hc => ?_)
    · replace hf := zIf_f hc hf
      refine lv_iconst (v := 0) hx hb dX8_isCutBy_143 (by decide) ?_
      obtain ⟨q1, -⟩ := zI1 hf
      subst q1
      exact zRetZ hQ hx hb hr hlocks hA0 hK hP hD hS (by decide) rfl dX8_isCutBy_144
    · replace hf := zIf_t hc hf
      refine lv_iload_n hx hb dX8_isCutBy_129 rfl (lv_at hl 5 rfl) ?_
      refine lv_aload_n hx hb dX8_isCutBy_130 rfl (lv_at hl 2 rfl) ?_
      refine zGet (ci := 8) (C := RX8) (F := TX8) (N := 14) (v := .ref (hgw 10)) hx hb hts hiX8 hown hK hP 0 12 4 rfl rfl (by decide) rfl rfl rfl dX8_isCutBy_131 ?_
      refine lv_iload_n hx hb dX8_isCutBy_134 rfl (lv_at hl 3 rfl) ?_
      obtain ⟨hg, hf⟩ := zGd_ok hf
      refine zAldI hx hb hK hP 10 rfl hg dX8_isCutBy_135 (fun v10 ev10 => ?_)
      replace hf := zLt_at ev10 hf
      refine lv_icmp_lt (tgt := 143) hx hb dX8_isCutBy_136 (by decide) (fun hc => ?_) (fun hc => ?_)
      · replace hf := zIf_t hc hf
        refine lv_iconst (v := 0) hx hb dX8_isCutBy_143 (by decide) ?_
        obtain ⟨q1, -⟩ := zI1 hf
        subst q1
        exact zRetZ hQ hx hb hr hlocks hA0 hK hP hD hS (by decide) rfl dX8_isCutBy_144
      · replace hf := zIf_f hc hf
        refine lv_iconst (v := 1) hx hb dX8_isCutBy_139 (by decide) ?_
        refine lv_goto (tgt := 144) hx hb dX8_isCutBy_140 (by decide) ?_
        obtain ⟨q1, -⟩ := zI1 hf
        subst q1
        exact zRetZ hQ hx hb hr hlocks hA0 hK hP hD hS (by decide) rfl dX8_isCutBy_144
  replace hf := zIf_f hk4 hf
  refine zSw (x := v4) (k := 5) (fun hc => ?_) (fun hk5 => ?_)
  · replace hf := zIf_t hc hf
    refine lv_tableIn (off := 121) (tgt := 145) hx hb dX8_isCutBy_24 (by rw [hc]; decide) (by rw [hc]; decide) (by rw [hc]; decide) (by decide) ?_
    refine lv_iload hx hb dX8_isCutBy_145 (lv_at hl 0 rfl) ?_
    refine lv_if_eq (tgt := 154) hx hb dX8_isCutBy_147 (by decide) (fun hc => ?_) (fun hc => ?_)
    · replace hf := zIf_t hc hf
      refine lv_iconst (v := 0) hx hb dX8_isCutBy_154 (by decide) ?_
      obtain ⟨q1, -⟩ := zI1 hf
      subst q1
      exact zRetZ hQ hx hb hr hlocks hA0 hK hP hD hS (by decide) rfl dX8_isCutBy_155
    · replace hf := zIf_f hc hf
      refine lv_iconst (v := 1) hx hb dX8_isCutBy_150 (by decide) ?_
      refine lv_goto (tgt := 155) hx hb dX8_isCutBy_151 (by decide) ?_
      obtain ⟨q1, -⟩ := zI1 hf
      subst q1
      exact zRetZ hQ hx hb hr hlocks hA0 hK hP hD hS (by decide) rfl dX8_isCutBy_155
  replace hf := zIf_f hk5 hf
  refine zSw (x := v4) (k := 6) (fun hc => ?_) (fun hk6 => ?_)
  · replace hf := zIf_t hc hf
    refine lv_tableIn (off := 132) (tgt := 156) hx hb dX8_isCutBy_24 (by rw [hc]; decide) (by rw [hc]; decide) (by rw [hc]; decide) (by decide) ?_
    refine lv_iload hx hb dX8_isCutBy_156 (lv_at hl 0 rfl) ?_
    refine lv_iload hx hb dX8_isCutBy_158 (lv_at hl 1 rfl) ?_
    refine lv_icmp_ne (tgt := 167) hx hb dX8_isCutBy_160 (by decide) (fun hc => ?_) (fun hc => ?_)
    · replace hf := zIf_f hc hf
      refine lv_iconst (v := 0) hx hb dX8_isCutBy_167 (by decide) ?_
      obtain ⟨q1, -⟩ := zI1 hf
      subst q1
      exact zRetZ hQ hx hb hr hlocks hA0 hK hP hD hS (by decide) rfl dX8_isCutBy_168
    · replace hf := zIf_t hc hf
      refine lv_iconst (v := 1) hx hb dX8_isCutBy_163 (by decide) ?_
      refine lv_goto (tgt := 168) hx hb dX8_isCutBy_164 (by decide) ?_
      obtain ⟨q1, -⟩ := zI1 hf
      subst q1
      exact zRetZ hQ hx hb hr hlocks hA0 hK hP hD hS (by decide) rfl dX8_isCutBy_168
  replace hf := zIf_f hk6 hf
  refine lv_tableOut (tgt := 169) hx hb dX8_isCutBy_24 (by have := zNe hk1 (z := 1) (by decide); have := zNe hk2 (z := 2) (by decide); have := zNe hk3 (z := 3) (by decide); have := zNe hk4 (z := 4) (by decide); have := zNe hk5 (z := 5) (by decide); have := zNe hk6 (z := 6) (by decide); omega) (by decide) ?_
  refine lv_iconst (v := 0) hx hb dX8_isCutBy_169 (by decide) ?_
  obtain ⟨q1, -⟩ := zI1 hf
  subst q1
  exact zRetZ hQ hx hb hr hlocks hA0 hK hP hD hS (by decide) rfl dX8_isCutBy_170
set_option maxHeartbeats 4000000 in
set_option maxRecDepth 100000 in
theorem pX8_isOpen (l : Launch) (D : va_G) (T : Nat → ClassId) (X : zFP) (hgw : Nat → Nat) (sz : Nat) (gw : zM) (a1 : Int32) (a2 : Int32) (r : Int32) (hf : fX8_isOpen gw a1 a2 = some r) : Met l yX8_isOpen wsX8_isOpen rX8_isOpen (zPre D T X [.ref (hgw 0), .int a1, .int a2] (wX8 T hgw gw) sz) (zQi D T r (wX8 T hgw gw) (wX8 T hgw gw) sz) 0 0 (va_A (wX8 T hgw gw) sz) := by
  unfold fX8_isOpen at hf
  refine zStart [(0, .ref (hgw 0)), (1, .int a1), (2, .int a2)] (by decide) rfl (Nat.le_of_ble_eq_true rfl) rfl ?_
  intro p e s m args below meth c A Q ls hx hb hr hml hown hlocks hts hsz hA0 hQ hA hK hX hP hD hS hl
  replace hown : s.vm.findClass RX8 = some m.cls := hown
  have hH := hsz
  have hiX8 : ∀ w ∈ u_ws RX8 TX8 14, w ∈ wsX8_isOpen := fun w h => List.mem_cons_of_mem _ (List.mem_append_right _ (h))
  obtain ⟨H, hHe⟩ : ∃ H : Heap, H = s.heap := ⟨_, rfl⟩
  obtain ⟨locs, hLe⟩ : ∃ L : List Loc, L = [] := ⟨_, rfl⟩
  replace hP : va_P D vwCl (wX8 T hgw gw) H := by rw [hHe]; exact hP
  replace hS : va_S A s.heap H locs := by rw [hHe, hLe]; exact hS
  suffices hgo : W p l e rX8_isOpen s m args below meth c H locs 0 0 Q (F0 m 0 ls []) by rw [hHe, hLe] at hgo; exact hgo
  clear hHe hLe
  refine lv_iconst (v := 0) hx hb dX8_isOpen_0 (by decide) ?_
  refine lv_istore_n (lv' := [(3, .int 0), (0, .ref (hgw 0)), (1, .int a1), (2, .int a2)]) hx hb dX8_isOpen_1 rfl hl (by decide) rfl (fun ls hl => ?_)
  obtain ⟨ex, hlp, hf⟩ := zB1_ok hf
  have hE2_28 : ex = (.inl ()) → ∀ (H : Heap) (locs : List Loc) (ls : Array Slot), va_P D vwCl (wX8 T hgw gw) H → va_D A (wX8 T hgw gw) → va_S A s.heap H locs → lv_has ls 4 [] → W p l e rX8_isOpen s m args below meth c H locs 0 0 Q (F0 m 28 ls []) := by
    intro hex H locs ls hP hD hS hl
    have hf := zExL0 hex hf
    refine lv_iconst (v := 1) hx hb dX8_isOpen_28 (by decide) ?_
    obtain ⟨q1, -⟩ := zI1 hf
    subst q1
    exact zRetZ hQ hx hb hr hlocks hA0 hK hP hD hS (by decide) rfl dX8_isOpen_29
  have hE2_20 : ex = (.inr ()) → ∀ (H : Heap) (locs : List Loc) (ls : Array Slot), va_P D vwCl (wX8 T hgw gw) H → va_D A (wX8 T hgw gw) → va_S A s.heap H locs → lv_has ls 4 [] → W p l e rX8_isOpen s m args below meth c H locs 0 0 Q (F0 m 20 ls []) := by
    intro hex H locs ls hP hD hS hl
    have hf := zSmR hex hf
    have hf := zEx0 rfl hf
    refine lv_iconst (v := 0) hx hb dX8_isOpen_20 (by decide) ?_
    obtain ⟨q1, -⟩ := zI1 hf
    subst q1
    exact zRetZ hQ hx hb hr hlocks hA0 hK hP hD hS (by decide) rfl dX8_isOpen_21
  refine zLpS1 (body := (fX8_isOpen_L2 a1 a2 gw)) (b := ex) (fun (v1 : Int32) => ∀ (H : Heap) (locs : List Loc) (ls : Array Slot), va_P D vwCl (wX8 T hgw gw) H → va_D A (wX8 T hgw gw) → va_S A s.heap H locs → lv_has ls 4 [(0, .ref (hgw 0)), (1, .int a1), (2, .int a2), (3, .int v1)] → W p l e rX8_isOpen s m args below meth c H locs 0 0 Q (F0 m 2 ls [])) ?_ zFU 0 hlp H locs ls hP hD hS (lv_sub hl [1, 2, 3, 0] rfl)
  intro v1 z hf hzz H locs ls hP hD hS hl
  unfold fX8_isOpen_L2 at hf
  replace hf := zUk1 hf
  refine lv_iload_n hx hb dX8_isOpen_2 rfl (lv_at hl 3 rfl) ?_
  refine lv_aload_n hx hb dX8_isOpen_3 rfl (lv_at hl 0 rfl) ?_
  refine zGet (ci := 8) (C := RX8) (F := TX8) (N := 14) (v := .int (gw 0 9)) hx hb hts hiX8 hown hK hP 0 9 1 rfl rfl (by decide) rfl rfl rfl dX8_isOpen_4 ?_
  refine lv_icmp_ge (tgt := 28) hx hb dX8_isOpen_7 (by decide) (fun hc => ?_) (fun hc => ?_)
  · replace hf := zIf_t hc hf
    cases hf
    exact hE2_28 hzz.symm H locs ls hP hD hS (lv_sub hl [] rfl)
  · replace hf := zIf_f hc hf
    refine lv_aload_n hx hb dX8_isOpen_10 rfl (lv_at hl 0 rfl) ?_
    refine lv_iload_n hx hb dX8_isOpen_11 rfl (lv_at hl 3 rfl) ?_
    refine lv_iload_n hx hb dX8_isOpen_12 rfl (lv_at hl 1 rfl) ?_
    refine lv_iload_n hx hb dX8_isOpen_13 rfl (lv_at hl 2 rfl) ?_
    obtain ⟨v2, hc14, hf⟩ := zB1_ok hf
    refine zCallVEI [.int v1, .int a1, .int a2] ⟨hx, hb, hml, hown, hts⟩ (pX8_isCutBy l D T X hgw H.size gw v1 a1 a2 v2 hc14) (cwV 3 hts gX8_isOpen_X8_isCutBy rfl rfl rfl (by decide +kernel) ⟨Nat.le_of_ble_eq_true rfl, Nat.le_of_ble_eq_true rfl⟩) hK hP hD hS hA hX 0 rfl rfl rfl hl.1 rfl (Nat.le_of_ble_eq_true rfl) dX8_isOpen_14 ⟨Nat.zero_le _, Nat.zero_le _⟩ (fun H locs hP hD hS => ?_)
    refine lv_if_eq (tgt := 22) hx hb dX8_isOpen_17 (by decide) (fun hc => ?_) (fun hc => ?_)
    · replace hf := zIf_t hc hf
      obtain ⟨v3, ev3⟩ : ∃ y : Int32, y = v1 + 1 := ⟨_, rfl⟩
      replace hf := zLt_at ev3 hf
      refine lv_iinc (v := v3) (lv' := [(3, .int v3), (0, .ref (hgw 0)), (1, .int a1), (2, .int a2)]) hx hb dX8_isOpen_22 hl (k := 3) rfl (by rw [ev3]; rfl) (by decide) rfl (fun ls hl => ?_)
      refine lv_goto (tgt := 2) hx hb dX8_isOpen_25 (by decide) ?_
      cases hf
      exact hzz H locs ls hP hD hS (lv_sub hl [1, 2, 3, 0] rfl)
    · replace hf := zIf_f hc hf
      cases hf
      exact hE2_20 hzz.symm H locs ls hP hD hS (lv_sub hl [] rfl)
set_option maxHeartbeats 4000000 in
set_option maxRecDepth 100000 in
theorem pX1_spread (l : Launch) (D : va_G) (T : Nat → ClassId) (X : zFP) (hgw : Nat → Nat) (sz : Nat) (gw : zM) (a2 : Int32) (a3 : Int32) (r : Int32) (hf : fX1_spread gw a2 a3 = some r) : Met l yX1_spread wsX1_spread rX1_spread (zPre D T X [.ref (hgw 0), .int a2, .int a3] (wX8 T hgw gw) sz) (zQi D T r (wX8 T hgw gw) (wX8 T hgw gw) sz) 0 0 (va_A (wX8 T hgw gw) sz) := by
  unfold fX1_spread at hf
  refine zStart [(0, .ref (hgw 0)), (1, .int a2), (2, .int a3)] (by decide) rfl (Nat.le_of_ble_eq_true rfl) rfl ?_
  intro p e s m args below meth c A Q ls hx hb hr hml hown hlocks hts hsz hA0 hQ hA hK hX hP hD hS hl
  replace hown : s.vm.findClass RX1 = some m.cls := hown
  have hH := hsz
  have hiX8 : ∀ w ∈ u_ws RX8 TX8 14, w ∈ wsX1_spread := fun w h => List.mem_cons_of_mem _ (List.mem_append_right _ (h))
  obtain ⟨H, hHe⟩ : ∃ H : Heap, H = s.heap := ⟨_, rfl⟩
  obtain ⟨locs, hLe⟩ : ∃ L : List Loc, L = [] := ⟨_, rfl⟩
  replace hP : va_P D vwCl (wX8 T hgw gw) H := by rw [hHe]; exact hP
  replace hS : va_S A s.heap H locs := by rw [hHe, hLe]; exact hS
  suffices hgo : W p l e rX1_spread s m args below meth c H locs 0 0 Q (F0 m 0 ls []) by rw [hHe, hLe] at hgo; exact hgo
  clear hHe hLe
  refine lv_iload_n hx hb dX1_spread_0 rfl (lv_at hl 1 rfl) ?_
  refine lv_istore_n (lv' := [(3, .int a2), (0, .ref (hgw 0)), (1, .int a2), (2, .int a3)]) hx hb dX1_spread_1 rfl hl (by decide) rfl (fun ls hl => ?_)
  refine lv_iconst (v := 0) hx hb dX1_spread_2 (by decide) ?_
  refine lv_istore (lv' := [(4, .int 0), (3, .int a2), (0, .ref (hgw 0)), (1, .int a2), (2, .int a3)]) hx hb dX1_spread_3 hl (by decide) rfl (fun ls hl => ?_)
  obtain ⟨ex, hlp, hf⟩ := zB1_ok hf
  have hE5_49 : ∀ (v3 : Int32) , ex = v3 → ∀ (H : Heap) (locs : List Loc) (ls : Array Slot), va_P D vwCl (wX8 T hgw gw) H → va_D A (wX8 T hgw gw) → va_S A s.heap H locs → lv_has ls 5 [(3, .int v3)] → W p l e rX1_spread s m args below meth c H locs 0 0 Q (F0 m 49 ls []) := by
    intro v3 hex H locs ls hP hD hS hl
    have hf := zEx1 hex hf
    refine lv_iload_n hx hb dX1_spread_49 rfl (lv_at hl 0 rfl) ?_
    obtain ⟨q1, -⟩ := zI1 hf
    subst q1
    exact zRetI hQ hx hb hr hlocks hA0 hK hP hD hS rfl dX1_spread_50
  refine zLpS2 (body := (fX1_spread_L5 a2 a3 gw)) (b := ex) (fun (v1 : Int32) (v2 : Int32) => ∀ (H : Heap) (locs : List Loc) (ls : Array Slot), va_P D vwCl (wX8 T hgw gw) H → va_D A (wX8 T hgw gw) → va_S A s.heap H locs → lv_has ls 5 [(0, .ref (hgw 0)), (1, .int a2), (2, .int a3), (3, .int v1), (4, .int v2)] → W p l e rX1_spread s m args below meth c H locs 0 0 Q (F0 m 5 ls [])) ?_ zFU a2 0 hlp H locs ls hP hD hS (lv_sub hl [2, 3, 4, 1, 0] rfl)
  intro v1 v2 z hf hzz H locs ls hP hD hS hl
  unfold fX1_spread_L5 at hf
  replace hf := zUk2 hf
  refine lv_iload hx hb dX1_spread_5 (lv_at hl 4 rfl) ?_
  refine lv_aload_n hx hb dX1_spread_7 rfl (lv_at hl 0 rfl) ?_
  refine zGet (ci := 8) (C := RX8) (F := TX8) (N := 14) (v := .int (gw 0 3)) hx hb hts hiX8 hown hK hP 0 3 1 rfl rfl (by decide) rfl rfl rfl dX1_spread_8 ?_
  refine lv_icmp_ge (tgt := 49) hx hb dX1_spread_11 (by decide) (fun hc => ?_) (fun hc => ?_)
  · replace hf := zIf_t hc hf
    cases hf
    exact hE5_49 v1 hzz.symm H locs ls hP hD hS (lv_sub hl [3] rfl)
  · replace hf := zIf_f hc hf
    refine lv_aload_n hx hb dX1_spread_14 rfl (lv_at hl 0 rfl) ?_
    refine lv_iload hx hb dX1_spread_15 (lv_at hl 4 rfl) ?_
    refine lv_iload_n hx hb dX1_spread_17 rfl (lv_at hl 1 rfl) ?_
    obtain ⟨v4, hc18, hf⟩ := zB1_ok hf
    refine zCallSEI [.ref (hgw 0), .int v2, .int a2] ⟨hx, hb, hml, hown, hts⟩ (pX1_isAtEdge l D T X hgw H.size gw v2 a2 v4 hc18) (va_cwS 3 hts gX1_spread_X1_isAtEdge rfl rfl rfl (by decide +kernel) ⟨Nat.le_of_ble_eq_true rfl, Nat.le_of_ble_eq_true rfl⟩) hK hP hD hS hA hX rfl hl.1 rfl (Nat.le_of_ble_eq_true rfl) dX1_spread_18 ⟨Nat.zero_le _, Nat.zero_le _⟩ (fun H locs hP hD hS => ?_)
    have hJ43 : ∀ (v5 : Int32) (H : Heap) (locs : List Loc) (ls : Array Slot), fX1_spread_L5J43 v2 v5 = some z → va_P D vwCl (wX8 T hgw gw) H → va_D A (wX8 T hgw gw) → va_S A s.heap H locs → lv_has ls 5 [(0, .ref (hgw 0)), (1, .int a2), (2, .int a3), (3, .int v5), (4, .int v2)] → W p l e rX1_spread s m args below meth c H locs 0 0 Q (F0 m 43 ls []) := by
      intro v5 H locs ls hf hP hD hS hl
      unfold fX1_spread_L5J43 at hf
      obtain ⟨v6, ev6⟩ : ∃ y : Int32, y = v2 + 1 := ⟨_, rfl⟩
      replace hf := zLt_at ev6 hf
      refine lv_iinc (v := v6) (lv' := [(4, .int v6), (0, .ref (hgw 0)), (1, .int a2), (2, .int a3), (3, .int v5)]) hx hb dX1_spread_43 hl (k := 4) rfl (by rw [ev6]; rfl) (by decide) rfl (fun ls hl => ?_)
      refine lv_goto (tgt := 5) hx hb dX1_spread_46 (by decide) ?_
      cases hf
      exact hzz H locs ls hP hD hS (lv_sub hl [1, 2, 3, 4, 0] rfl)
    refine lv_if_eq (tgt := 43) hx hb dX1_spread_21 (by decide) (fun hc => ?_) (fun hc => ?_)
    · replace hf := zIf_t hc hf
      exact hJ43 v1 H locs ls hf hP hD hS hl
    · replace hf := zIf_f hc hf
      refine lv_aload_n hx hb dX1_spread_24 rfl (lv_at hl 0 rfl) ?_
      refine lv_iload hx hb dX1_spread_25 (lv_at hl 4 rfl) ?_
      refine lv_iload_n hx hb dX1_spread_27 rfl (lv_at hl 2 rfl) ?_
      obtain ⟨v7, hc28, hf⟩ := zB1_ok hf
      refine zCallVEI [.int v2, .int a3] ⟨hx, hb, hml, hown, hts⟩ (pX8_isOpen l D T X hgw H.size gw v2 a3 v7 hc28) (cwV 2 hts gX1_spread_X8_isOpen rfl rfl rfl (by decide +kernel) ⟨Nat.le_of_ble_eq_true rfl, Nat.le_of_ble_eq_true rfl⟩) hK hP hD hS hA hX 0 rfl rfl rfl hl.1 rfl (Nat.le_of_ble_eq_true rfl) dX1_spread_28 ⟨Nat.zero_le _, Nat.zero_le _⟩ (fun H locs hP hD hS => ?_)
      refine lv_if_eq (tgt := 43) hx hb dX1_spread_31 (by decide) (fun hc => ?_) (fun hc => ?_)
      · replace hf := zIf_t hc hf
        exact hJ43 v1 H locs ls hf hP hD hS hl
      · replace hf := zIf_f hc hf
        refine lv_iload_n hx hb dX1_spread_34 rfl (lv_at hl 3 rfl) ?_
        refine lv_aload_n hx hb dX1_spread_35 rfl (lv_at hl 0 rfl) ?_
        refine lv_iload hx hb dX1_spread_36 (lv_at hl 4 rfl) ?_
        obtain ⟨v8, hc38, hf⟩ := zB1_ok hf
        refine zCallVEI [.int v2] ⟨hx, hb, hml, hown, hts⟩ (pX8_bothOf l D T X hgw H.size gw v2 v8 hc38) (cwV 1 hts gX1_spread_X8_bothOf rfl rfl rfl (by decide +kernel) ⟨Nat.le_of_ble_eq_true rfl, Nat.le_of_ble_eq_true rfl⟩) hK hP hD hS hA hX 0 rfl rfl rfl hl.1 rfl (Nat.le_of_ble_eq_true rfl) dX1_spread_38 ⟨Nat.zero_le _, Nat.zero_le _⟩ (fun H locs hP hD hS => ?_)
        refine lv_ior hx hb dX1_spread_41 ?_
        refine lv_topi (fun v9 ev9 => ?_)
        replace hf := zLt_at ev9 hf
        refine lv_istore_n (lv' := [(3, .int v9), (0, .ref (hgw 0)), (1, .int a2), (2, .int a3), (4, .int v2)]) hx hb dX1_spread_42 rfl hl (by decide) rfl (fun ls hl => ?_)
        exact hJ43 v9 H locs ls hf hP hD hS (lv_sub hl [1, 2, 3, 0, 4] rfl)
set_option maxHeartbeats 4000000 in
set_option maxRecDepth 100000 in
theorem pX1_follow (l : Launch) (D : va_G) (T : Nat → ClassId) (X : zFP) (hgd : Nat → Nat) (hgw : Nat → Nat) (sz : Nat) (gd : zM) (gw : zM) (a2 : Int32) (ngd : zM) (hf : fX1_follow gd gw a2 = some ngd) : Met l yX1_follow wsX1_follow rX1_follow (zPre D T X [.ref (hgd 0), .ref (hgw 0), .int a2] (wX1 T hgd gd ++ wX8 T hgw gw) sz) (zQv D T (wX1 T hgd ngd ++ wX8 T hgw gw) (wX1 T hgd gd ++ wX8 T hgw gw) sz) 0 0 (va_A (wX1 T hgd gd ++ wX8 T hgw gw) sz) := by
  unfold fX1_follow at hf
  refine zStart [(0, .ref (hgd 0)), (1, .ref (hgw 0)), (2, .int a2)] (by decide) rfl (Nat.le_of_ble_eq_true rfl) rfl ?_
  intro p e s m args below meth c A Q ls hx hb hr hml hown hlocks hts hsz hA0 hQ hA hK hX hP hD hS hl
  replace hown : s.vm.findClass RX1 = some m.cls := hown
  have hH := hsz
  have hiX1 : ∀ w ∈ u_ws RX1 TX1 2, w ∈ wsX1_follow := fun w h => List.mem_cons_of_mem _ (List.mem_append_left _ (List.mem_append_right _ (h)))
  have hiX8 : ∀ w ∈ u_ws RX8 TX8 14, w ∈ wsX1_follow := fun w h => List.mem_cons_of_mem _ (List.mem_append_right _ (h))
  obtain ⟨H, hHe⟩ : ∃ H : Heap, H = s.heap := ⟨_, rfl⟩
  obtain ⟨locs, hLe⟩ : ∃ L : List Loc, L = [] := ⟨_, rfl⟩
  replace hP : va_P D vwCl (wX1 T hgd gd ++ wX8 T hgw gw) H := by rw [hHe]; exact hP
  replace hS : va_S A s.heap H locs := by rw [hHe, hLe]; exact hS
  suffices hgo : W p l e rX1_follow s m args below meth c H locs 0 0 Q (F0 m 0 ls []) by rw [hHe, hLe] at hgo; exact hgo
  clear hHe hLe
  refine lv_aload_n hx hb dX1_follow_0 rfl (lv_at hl 0 rfl) ?_
  refine zGet (ci := 1) (C := RX1) (F := TX1) (N := 2) (v := .ref (hgd 1)) hx hb hts hiX1 hown hK hP 0 0 1 rfl rfl (by decide) rfl rfl rfl dX1_follow_1 ?_
  refine lv_bipush (v := (-3)) hx hb dX1_follow_4 (by decide) ?_
  obtain ⟨t1, hc6, hf⟩ := zB1_ok hf
  refine zCallFill (w := gd) (t := t1) ⟨hx, hb, hml, hown, hts⟩ (pJ7_fill_53178 l D T X (fun _ => (hgd 1)) H.size 10 (fun _ => gd 1) (-3) t1 hc6) (va_cwS 2 hts gX1_follow_J7_fill_53178 rfl rfl rfl (by decide +kernel) ⟨Nat.le_of_ble_eq_true rfl, Nat.le_of_ble_eq_true rfl⟩) hK hP hD hS hA hX (fun g => wX1 T hgd g ++ wX8 T hgw gw) 1 1 rfl rfl hl.1 (Nat.le_of_ble_eq_true rfl) dX1_follow_6 ⟨Nat.zero_le _, Nat.zero_le _⟩ (fun gd_2 egd_2 H locs hP hD hS => ?_)
  replace hP : va_P D vwCl (wX1 T hgd gd_2 ++ wX8 T hgw gw) H := hP
  replace hD : va_D A (wX1 T hgd gd_2 ++ wX8 T hgw gw) := hD
  replace hf := zLt_at egd_2 hf
  refine lv_aload_n hx hb dX1_follow_9 rfl (lv_at hl 0 rfl) ?_
  refine zGet (ci := 1) (C := RX1) (F := TX1) (N := 2) (v := .ref (hgd 1)) hx hb hts hiX1 hown hK hP 0 0 1 rfl rfl (by decide) rfl rfl rfl dX1_follow_10 ?_
  refine lv_iload_n hx hb dX1_follow_13 rfl (lv_at hl 2 rfl) ?_
  refine lv_iconst (v := 0) hx hb dX1_follow_14 (by decide) ?_
  obtain ⟨hg, hf⟩ := zGd_ok hf
  refine zAstI (w := gd_2) hx hb hK hP hD hS (fun g => wX1 T hgd g ++ wX8 T hgw gw) 1 1 rfl hg rfl dX1_follow_15 (fun gd_3 egd_3 H locs hP hD hS => ?_)
  replace hP : va_P D vwCl (wX1 T hgd gd_3 ++ wX8 T hgw gw) H := hP
  replace hD : va_D A (wX1 T hgd gd_3 ++ wX8 T hgw gw) := hD
  replace hf := zLt_at egd_3 hf
  refine lv_iconst (v := 1) hx hb dX1_follow_16 (by decide) ?_
  refine lv_iload_n hx hb dX1_follow_17 rfl (lv_at hl 2 rfl) ?_
  refine lv_ishl hx hb dX1_follow_18 ?_
  refine lv_topi (fun v4 ev4 => ?_)
  replace hf := zLt_at ev4 hf
  refine lv_istore_n (lv' := [(3, .int v4), (0, .ref (hgd 0)), (1, .ref (hgw 0)), (2, .int a2)]) hx hb dX1_follow_19 rfl hl (by decide) rfl (fun ls hl => ?_)
  refine lv_iconst (v := 0) hx hb dX1_follow_20 (by decide) ?_
  refine lv_istore (lv' := [(4, .int 0), (3, .int v4), (0, .ref (hgd 0)), (1, .ref (hgw 0)), (2, .int a2)]) hx hb dX1_follow_21 hl (by decide) rfl (fun ls hl => ?_)
  obtain ⟨ex, hlp, hf⟩ := zB1_ok hf
  have hE23_101 : ∀ (gd_8 : zM) , ex = (.inl gd_8) → ∀ (H : Heap) (locs : List Loc) (ls : Array Slot), va_P D vwCl (wX1 T hgd gd_8 ++ wX8 T hgw gw) H → va_D A (wX1 T hgd gd_8 ++ wX8 T hgw gw) → va_S A s.heap H locs → lv_has ls 7 [] → W p l e rX1_follow s m args below meth c H locs 0 0 Q (F0 m 101 ls []) := by
    intro gd_8 hex H locs ls hP hD hS hl
    have hf := zExL1 hex hf
    obtain ⟨q1, -⟩ := zI1 hf
    subst q1
    exact zRetV hQ hx hb hr hlocks hA0 hK hP hD hS dX1_follow_101
  have hE23_48 : ∀ (gd_9 : zM) , ex = (.inr gd_9) → ∀ (H : Heap) (locs : List Loc) (ls : Array Slot), va_P D vwCl (wX1 T hgd gd_9 ++ wX8 T hgw gw) H → va_D A (wX1 T hgd gd_9 ++ wX8 T hgw gw) → va_S A s.heap H locs → lv_has ls 7 [] → W p l e rX1_follow s m args below meth c H locs 0 0 Q (F0 m 48 ls []) := by
    intro gd_9 hex H locs ls hP hD hS hl
    have hf := zSmR hex hf
    have hf := zEx1 rfl hf
    refine lv_goto (tgt := 101) hx hb dX1_follow_48 (by decide) ?_
    obtain ⟨q1, -⟩ := zI1 hf
    subst q1
    exact zRetV hQ hx hb hr hlocks hA0 hK hP hD hS dX1_follow_101
  refine zLpS3 (body := (fX1_follow_L23 gw)) (b := ex) (fun (v5 : Int32) (v6 : Int32) (gd_7 : zM) => ∀ (H : Heap) (locs : List Loc) (ls : Array Slot), va_P D vwCl (wX1 T hgd gd_7 ++ wX8 T hgw gw) H → va_D A (wX1 T hgd gd_7 ++ wX8 T hgw gw) → va_S A s.heap H locs → lv_has ls 7 [(0, .ref (hgd 0)), (1, .ref (hgw 0)), (3, .int v5), (4, .int v6)] → W p l e rX1_follow s m args below meth c H locs 0 0 Q (F0 m 23 ls [])) ?_ zFU v4 0 gd_3 hlp H locs ls hP hD hS (lv_sub hl [2, 3, 1, 0] rfl)
  intro v5 v6 gd_7 z hf hzz H locs ls hP hD hS hl
  unfold fX1_follow_L23 at hf
  replace hf := zUk3 hf
  refine lv_iload hx hb dX1_follow_23 (lv_at hl 3 rfl) ?_
  refine lv_bipush (v := 100) hx hb dX1_follow_25 (by decide) ?_
  refine lv_icmp_ge (tgt := 101) hx hb dX1_follow_27 (by decide) (fun hc => ?_) (fun hc => ?_)
  · replace hf := zIf_t hc hf
    cases hf
    exact hE23_101 gd_7 hzz.symm H locs ls hP hD hS (lv_sub hl [] rfl)
  · replace hf := zIf_f hc hf
    refine lv_aload_n hx hb dX1_follow_30 rfl (lv_at hl 1 rfl) ?_
    refine lv_iload_n hx hb dX1_follow_31 rfl (lv_at hl 2 rfl) ?_
    refine lv_iload hx hb dX1_follow_32 (lv_at hl 3 rfl) ?_
    obtain ⟨v10, hc34, hf⟩ := zB1_ok hf
    refine zCallSJI (wr := wX1 T hgd gd_7) (ws' := wX1 T hgd gd_7 ++ wX8 T hgw gw) [.ref (hgw 0), .int v5, .int v6] ⟨hx, hb, hml, hown, hts⟩ (pX1_spread l D T X hgw H.size gw v5 v6 v10 hc34) (va_cwS 3 hts gX1_follow_X1_spread rfl rfl rfl (by decide +kernel) ⟨Nat.le_of_ble_eq_true rfl, Nat.le_of_ble_eq_true rfl⟩) hK hP hD hS hA hX [3, 4, 5, 6, 7, 8, 9, 10, 11, 12, 13] [0, 1, 2] [0, 1, 2, 3, 4, 5, 6, 7, 8, 9, 10, 11, 12, 13] rfl rfl rfl rfl rfl hl.1 rfl (Nat.le_of_ble_eq_true rfl) dX1_follow_34 ⟨Nat.zero_le _, Nat.zero_le _⟩ (fun H locs hP hD hS => ?_)
    refine lv_iload_n hx hb dX1_follow_37 rfl (lv_at hl 2 rfl) ?_
    refine lv_iconst (v := (-1)) hx hb dX1_follow_38 (by decide) ?_
    refine lv_ixor hx hb dX1_follow_39 ?_
    refine lv_iand hx hb dX1_follow_40 ?_
    refine lv_topi (fun v11 ev11 => ?_)
    replace hf := zLt_at ev11 hf
    refine lv_istore (lv' := [(5, .int v11), (0, .ref (hgd 0)), (1, .ref (hgw 0)), (3, .int v5), (4, .int v6)]) hx hb dX1_follow_41 hl (by decide) rfl (fun ls hl => ?_)
    refine lv_iload hx hb dX1_follow_43 (lv_at hl 0 rfl) ?_
    refine lv_if_ne (tgt := 51) hx hb dX1_follow_45 (by decide) (fun hc => ?_) (fun hc => ?_)
    · replace hf := zIf_f hc hf
      refine lv_iconst (v := 0) hx hb dX1_follow_51 (by decide) ?_
      refine lv_istore (lv' := [(6, .int 0), (5, .int v11), (0, .ref (hgd 0)), (1, .ref (hgw 0)), (3, .int v5), (4, .int v6)]) hx hb dX1_follow_52 hl (by decide) rfl (fun ls hl => ?_)
      obtain ⟨ex, hlp, hf⟩ := zB1_ok hf
      have hE54_90 : ∀ (gd_14 : zM) , ex = gd_14 → ∀ (H : Heap) (locs : List Loc) (ls : Array Slot), va_P D vwCl (wX1 T hgd gd_14 ++ wX8 T hgw gw) H → va_D A (wX1 T hgd gd_14 ++ wX8 T hgw gw) → va_S A s.heap H locs → lv_has ls 7 [(0, .ref (hgd 0)), (1, .ref (hgw 0)), (3, .int v5), (4, .int v6), (5, .int v11)] → W p l e rX1_follow s m args below meth c H locs 0 0 Q (F0 m 90 ls []) := by
        intro gd_14 hex H locs ls hP hD hS hl
        have hf := zEx1 hex hf
        refine lv_iload_n hx hb dX1_follow_90 rfl (lv_at hl 2 rfl) ?_
        refine lv_iload hx hb dX1_follow_91 (lv_at hl 4 rfl) ?_
        refine lv_ior hx hb dX1_follow_93 ?_
        refine lv_topi (fun v19 ev19 => ?_)
        replace hf := zLt_at ev19 hf
        refine lv_istore_n (lv' := [(3, .int v19), (0, .ref (hgd 0)), (1, .ref (hgw 0)), (4, .int v6), (5, .int v11)]) hx hb dX1_follow_94 rfl hl (by decide) rfl (fun ls hl => ?_)
        obtain ⟨v20, ev20⟩ : ∃ y : Int32, y = v6 + 1 := ⟨_, rfl⟩
        replace hf := zLt_at ev20 hf
        refine lv_iinc (v := v20) (lv' := [(4, .int v20), (3, .int v19), (0, .ref (hgd 0)), (1, .ref (hgw 0)), (5, .int v11)]) hx hb dX1_follow_95 hl (k := 3) rfl (by rw [ev20]; rfl) (by decide) rfl (fun ls hl => ?_)
        refine lv_goto (tgt := 23) hx hb dX1_follow_98 (by decide) ?_
        cases hf
        exact hzz H locs ls hP hD hS (lv_sub hl [2, 3, 1, 0] rfl)
      refine zLpS2 (body := (fX1_follow_L54 gw v6 v11)) (b := ex) (fun (v12 : Int32) (gd_13 : zM) => ∀ (H : Heap) (locs : List Loc) (ls : Array Slot), va_P D vwCl (wX1 T hgd gd_13 ++ wX8 T hgw gw) H → va_D A (wX1 T hgd gd_13 ++ wX8 T hgw gw) → va_S A s.heap H locs → lv_has ls 7 [(0, .ref (hgd 0)), (1, .ref (hgw 0)), (3, .int v5), (4, .int v6), (5, .int v11), (6, .int v12)] → W p l e rX1_follow s m args below meth c H locs 0 0 Q (F0 m 54 ls [])) ?_ zFU 0 gd_7 hlp H locs ls hP hD hS (lv_sub hl [2, 3, 4, 5, 1, 0] rfl)
      intro v12 gd_13 z hf hzz H locs ls hP hD hS hl
      unfold fX1_follow_L54 at hf
      replace hf := zUk2 hf
      refine lv_iload hx hb dX1_follow_54 (lv_at hl 5 rfl) ?_
      refine lv_aload_n hx hb dX1_follow_56 rfl (lv_at hl 1 rfl) ?_
      refine zGet (ci := 8) (C := RX8) (F := TX8) (N := 14) (v := .int (gw 0 0)) hx hb hts hiX8 hown hK hP 3 0 2 rfl rfl (by decide) rfl rfl rfl dX1_follow_57 ?_
      refine lv_icmp_ge (tgt := 90) hx hb dX1_follow_60 (by decide) (fun hc => ?_) (fun hc => ?_)
      · replace hf := zIf_t hc hf
        cases hf
        exact hE54_90 gd_13 hzz.symm H locs ls hP hD hS (lv_sub hl [0, 1, 2, 3, 4] rfl)
      · replace hf := zIf_f hc hf
        refine lv_iload hx hb dX1_follow_63 (lv_at hl 4 rfl) ?_
        refine lv_iload hx hb dX1_follow_65 (lv_at hl 5 rfl) ?_
        refine lv_ishr hx hb dX1_follow_67 ?_
        refine lv_iconst (v := 1) hx hb dX1_follow_68 (by decide) ?_
        refine lv_iand hx hb dX1_follow_69 ?_
        have hJ84 : ∀ (gd_15 : zM) (H : Heap) (locs : List Loc) (ls : Array Slot), fX1_follow_L54J84 v12 gd_15 = some z → va_P D vwCl (wX1 T hgd gd_15 ++ wX8 T hgw gw) H → va_D A (wX1 T hgd gd_15 ++ wX8 T hgw gw) → va_S A s.heap H locs → lv_has ls 7 [(0, .ref (hgd 0)), (1, .ref (hgw 0)), (3, .int v5), (4, .int v6), (5, .int v11), (6, .int v12)] → W p l e rX1_follow s m args below meth c H locs 0 0 Q (F0 m 84 ls []) := by
          intro gd_15 H locs ls hf hP hD hS hl
          unfold fX1_follow_L54J84 at hf
          obtain ⟨v16, ev16⟩ : ∃ y : Int32, y = v12 + 1 := ⟨_, rfl⟩
          replace hf := zLt_at ev16 hf
          refine lv_iinc (v := v16) (lv' := [(6, .int v16), (0, .ref (hgd 0)), (1, .ref (hgw 0)), (3, .int v5), (4, .int v6), (5, .int v11)]) hx hb dX1_follow_84 hl (k := 5) rfl (by rw [ev16]; rfl) (by decide) rfl (fun ls hl => ?_)
          refine lv_goto (tgt := 54) hx hb dX1_follow_87 (by decide) ?_
          cases hf
          exact hzz H locs ls hP hD hS (lv_sub hl [1, 2, 3, 4, 5, 0] rfl)
        refine lv_if_eq (tgt := 84) hx hb dX1_follow_70 (by decide) (fun hc => ?_) (fun hc => ?_)
        · replace hf := zIf_t hc hf
          exact hJ84 gd_13 H locs ls hf hP hD hS hl
        · replace hf := zIf_f hc hf
          refine lv_aload_n hx hb dX1_follow_73 rfl (lv_at hl 0 rfl) ?_
          refine zGet (ci := 1) (C := RX1) (F := TX1) (N := 2) (v := .ref (hgd 1)) hx hb hts hiX1 hown hK hP 0 0 1 rfl rfl (by decide) rfl rfl rfl dX1_follow_74 ?_
          refine lv_iload hx hb dX1_follow_77 (lv_at hl 5 rfl) ?_
          refine lv_iload hx hb dX1_follow_79 (lv_at hl 3 rfl) ?_
          refine lv_iconst (v := 1) hx hb dX1_follow_81 (by decide) ?_
          refine lv_iadd hx hb dX1_follow_82 ?_
          refine lv_topi (fun v17 ev17 => ?_)
          replace hf := zLt_at ev17 hf
          obtain ⟨hg, hf⟩ := zGd_ok hf
          refine zAstI (w := gd_13) hx hb hK hP hD hS (fun g => wX1 T hgd g ++ wX8 T hgw gw) 1 1 rfl hg rfl dX1_follow_83 (fun gd_18 egd_18 H locs hP hD hS => ?_)
          replace hP : va_P D vwCl (wX1 T hgd gd_18 ++ wX8 T hgw gw) H := hP
          replace hD : va_D A (wX1 T hgd gd_18 ++ wX8 T hgw gw) := hD
          replace hf := zLt_at egd_18 hf
          exact hJ84 gd_18 H locs ls hf hP hD hS hl
    · replace hf := zIf_t hc hf
      cases hf
      exact hE23_48 gd_7 hzz.symm H locs ls hP hD hS (lv_sub hl [] rfl)
set_option maxHeartbeats 4000000 in
set_option maxRecDepth 100000 in
theorem pX1_knowingBehind (l : Launch) (D : va_G) (T : Nat → ClassId) (X : zFP) (hgd : Nat → Nat) (sz : Nat) (gd : zM) (a1 : Int32) (r : Int32) (hf : fX1_knowingBehind gd a1 = some r) : Met l yX1_knowingBehind wsX1_knowingBehind rX1_knowingBehind (zPre D T X [.ref (hgd 0), .int a1] (wX1 T hgd gd) sz) (zQi D T r (wX1 T hgd gd) (wX1 T hgd gd) sz) 0 0 (va_A (wX1 T hgd gd) sz) := by
  unfold fX1_knowingBehind at hf
  refine zStart [(0, .ref (hgd 0)), (1, .int a1)] (by decide) rfl (Nat.le_of_ble_eq_true rfl) rfl ?_
  intro p e s m args below meth c A Q ls hx hb hr hml hown hlocks hts hsz hA0 hQ hA hK hX hP hD hS hl
  replace hown : s.vm.findClass RX1 = some m.cls := hown
  have hH := hsz
  have hiX1 : ∀ w ∈ u_ws RX1 TX1 2, w ∈ wsX1_knowingBehind := fun w h => List.mem_cons_of_mem _ (List.mem_append_right _ (h))
  obtain ⟨H, hHe⟩ : ∃ H : Heap, H = s.heap := ⟨_, rfl⟩
  obtain ⟨locs, hLe⟩ : ∃ L : List Loc, L = [] := ⟨_, rfl⟩
  replace hP : va_P D vwCl (wX1 T hgd gd) H := by rw [hHe]; exact hP
  replace hS : va_S A s.heap H locs := by rw [hHe, hLe]; exact hS
  suffices hgo : W p l e rX1_knowingBehind s m args below meth c H locs 0 0 Q (F0 m 0 ls []) by rw [hHe, hLe] at hgo; exact hgo
  clear hHe hLe
  refine lv_iconst (v := 0) hx hb dX1_knowingBehind_0 (by decide) ?_
  refine lv_istore_n (lv' := [(2, .int 0), (0, .ref (hgd 0)), (1, .int a1)]) hx hb dX1_knowingBehind_1 rfl hl (by decide) rfl (fun ls hl => ?_)
  refine lv_iconst (v := 0) hx hb dX1_knowingBehind_2 (by decide) ?_
  refine lv_istore_n (lv' := [(3, .int 0), (2, .int 0), (0, .ref (hgd 0)), (1, .int a1)]) hx hb dX1_knowingBehind_3 rfl hl (by decide) rfl (fun ls hl => ?_)
  obtain ⟨ex, hlp, hf⟩ := zB1_ok hf
  have hE4_41 : ∀ (v3 : Int32) , ex = v3 → ∀ (H : Heap) (locs : List Loc) (ls : Array Slot), va_P D vwCl (wX1 T hgd gd) H → va_D A (wX1 T hgd gd) → va_S A s.heap H locs → lv_has ls 4 [(2, .int v3)] → W p l e rX1_knowingBehind s m args below meth c H locs 0 0 Q (F0 m 41 ls []) := by
    intro v3 hex H locs ls hP hD hS hl
    have hf := zEx1 hex hf
    refine lv_iload_n hx hb dX1_knowingBehind_41 rfl (lv_at hl 0 rfl) ?_
    obtain ⟨q1, -⟩ := zI1 hf
    subst q1
    exact zRetI hQ hx hb hr hlocks hA0 hK hP hD hS rfl dX1_knowingBehind_42
  refine zLpS2 (body := (fX1_knowingBehind_L4 a1 gd)) (b := ex) (fun (v1 : Int32) (v2 : Int32) => ∀ (H : Heap) (locs : List Loc) (ls : Array Slot), va_P D vwCl (wX1 T hgd gd) H → va_D A (wX1 T hgd gd) → va_S A s.heap H locs → lv_has ls 4 [(0, .ref (hgd 0)), (1, .int a1), (2, .int v1), (3, .int v2)] → W p l e rX1_knowingBehind s m args below meth c H locs 0 0 Q (F0 m 4 ls [])) ?_ zFU 0 0 hlp H locs ls hP hD hS (lv_sub hl [2, 3, 1, 0] rfl)
  intro v1 v2 z hf hzz H locs ls hP hD hS hl
  unfold fX1_knowingBehind_L4 at hf
  replace hf := zUk2 hf
  refine lv_iload_n hx hb dX1_knowingBehind_4 rfl (lv_at hl 3 rfl) ?_
  refine lv_bipush (v := 10) hx hb dX1_knowingBehind_5 (by decide) ?_
  refine lv_icmp_ge (tgt := 41) hx hb dX1_knowingBehind_7 (by decide) (fun hc => ?_) (fun hc => ?_)
  · replace hf := zIf_t hc hf
    cases hf
    exact hE4_41 v1 hzz.symm H locs ls hP hD hS (lv_sub hl [2] rfl)
  · replace hf := zIf_f hc hf
    refine lv_aload_n hx hb dX1_knowingBehind_10 rfl (lv_at hl 0 rfl) ?_
    refine zGet (ci := 1) (C := RX1) (F := TX1) (N := 2) (v := .ref (hgd 1)) hx hb hts hiX1 hown hK hP 0 0 1 rfl rfl (by decide) rfl rfl rfl dX1_knowingBehind_11 ?_
    refine lv_iload_n hx hb dX1_knowingBehind_14 rfl (lv_at hl 3 rfl) ?_
    obtain ⟨hg, hf⟩ := zGd_ok hf
    refine zAldI hx hb hK hP 1 rfl hg dX1_knowingBehind_15 (fun v4 ev4 => ?_)
    replace hf := zLt_at ev4 hf
    have hJ35 : ∀ (v5 : Int32) (H : Heap) (locs : List Loc) (ls : Array Slot), fX1_knowingBehind_L4J35 v2 v5 = some z → va_P D vwCl (wX1 T hgd gd) H → va_D A (wX1 T hgd gd) → va_S A s.heap H locs → lv_has ls 4 [(0, .ref (hgd 0)), (1, .int a1), (2, .int v5), (3, .int v2)] → W p l e rX1_knowingBehind s m args below meth c H locs 0 0 Q (F0 m 35 ls []) := by
      intro v5 H locs ls hf hP hD hS hl
      unfold fX1_knowingBehind_L4J35 at hf
      obtain ⟨v6, ev6⟩ : ∃ y : Int32, y = v2 + 1 := ⟨_, rfl⟩
      replace hf := zLt_at ev6 hf
      refine lv_iinc (v := v6) (lv' := [(3, .int v6), (0, .ref (hgd 0)), (1, .int a1), (2, .int v5)]) hx hb dX1_knowingBehind_35 hl (k := 3) rfl (by rw [ev6]; rfl) (by decide) rfl (fun ls hl => ?_)
      refine lv_goto (tgt := 4) hx hb dX1_knowingBehind_38 (by decide) ?_
      cases hf
      exact hzz H locs ls hP hD hS (lv_sub hl [1, 2, 3, 0] rfl)
    refine lv_if_lt (tgt := 35) hx hb dX1_knowingBehind_16 (by decide) (fun hc => ?_) (fun hc => ?_)
    · replace hf := zIf_t hc hf
      exact hJ35 v1 H locs ls hf hP hD hS hl
    · replace hf := zIf_f hc hf
      refine lv_aload_n hx hb dX1_knowingBehind_19 rfl (lv_at hl 0 rfl) ?_
      refine zGet (ci := 1) (C := RX1) (F := TX1) (N := 2) (v := .ref (hgd 1)) hx hb hts hiX1 hown hK hP 0 0 1 rfl rfl (by decide) rfl rfl rfl dX1_knowingBehind_20 ?_
      refine lv_iload_n hx hb dX1_knowingBehind_23 rfl (lv_at hl 3 rfl) ?_
      obtain ⟨hg, hf⟩ := zGd_ok hf
      refine zAldI hx hb hK hP 1 rfl hg dX1_knowingBehind_24 (fun v7 ev7 => ?_)
      replace hf := zLt_at ev7 hf
      refine lv_iload_n hx hb dX1_knowingBehind_25 rfl (lv_at hl 1 rfl) ?_
      refine lv_icmp_gt (tgt := 35) hx hb dX1_knowingBehind_26 (by decide) (fun hc => ?_) (fun hc => ?_)
      · replace hf := zIf_t hc hf
        exact hJ35 v1 H locs ls hf hP hD hS hl
      · replace hf := zIf_f hc hf
        refine lv_iload_n hx hb dX1_knowingBehind_29 rfl (lv_at hl 2 rfl) ?_
        refine lv_iconst (v := 1) hx hb dX1_knowingBehind_30 (by decide) ?_
        refine lv_iload_n hx hb dX1_knowingBehind_31 rfl (lv_at hl 3 rfl) ?_
        refine lv_ishl hx hb dX1_knowingBehind_32 ?_
        refine lv_ior hx hb dX1_knowingBehind_33 ?_
        refine lv_topi (fun v8 ev8 => ?_)
        replace hf := zLt_at ev8 hf
        refine lv_istore_n (lv' := [(2, .int v8), (0, .ref (hgd 0)), (1, .int a1), (3, .int v2)]) hx hb dX1_knowingBehind_34 rfl hl (by decide) rfl (fun ls hl => ?_)
        exact hJ35 v8 H locs ls hf hP hD hS (lv_sub hl [1, 2, 0, 3] rfl)
set_option maxHeartbeats 4000000 in
set_option maxRecDepth 100000 in
theorem pX1_fillReached (l : Launch) (D : va_G) (T : Nat → ClassId) (X : zFP) (hgd : Nat → Nat) (hgw : Nat → Nat) (sz : Nat) (gd : zM) (gw : zM) (a2 : Int32) (ngd : zM) (hf : fX1_fillReached gd gw a2 = some ngd) : Met l yX1_fillReached wsX1_fillReached rX1_fillReached (zPre D T X [.ref (hgd 0), .ref (hgw 0), .int a2] (wX1 T hgd gd ++ wX8 T hgw gw) sz) (zQv D T (wX1 T hgd ngd ++ wX8 T hgw gw) (wX1 T hgd gd ++ wX8 T hgw gw) sz) 0 0 (va_A (wX1 T hgd gd ++ wX8 T hgw gw) sz) := by
  unfold fX1_fillReached at hf
  refine zStart [(0, .ref (hgd 0)), (1, .ref (hgw 0)), (2, .int a2)] (by decide) rfl (Nat.le_of_ble_eq_true rfl) rfl ?_
  intro p e s m args below meth c A Q ls hx hb hr hml hown hlocks hts hsz hA0 hQ hA hK hX hP hD hS hl
  replace hown : s.vm.findClass RX1 = some m.cls := hown
  have hH := hsz
  have hiX1 : ∀ w ∈ u_ws RX1 TX1 2, w ∈ wsX1_fillReached := fun w h => List.mem_cons_of_mem _ (List.mem_append_right _ (h))
  have hiX8 : ∀ w ∈ u_ws RX8 TX8 14, w ∈ wsX1_fillReached := fun w h => List.mem_cons_of_mem _ (List.mem_append_left _ (List.mem_append_right _ (h)))
  obtain ⟨H, hHe⟩ : ∃ H : Heap, H = s.heap := ⟨_, rfl⟩
  obtain ⟨locs, hLe⟩ : ∃ L : List Loc, L = [] := ⟨_, rfl⟩
  replace hP : va_P D vwCl (wX1 T hgd gd ++ wX8 T hgw gw) H := by rw [hHe]; exact hP
  replace hS : va_S A s.heap H locs := by rw [hHe, hLe]; exact hS
  suffices hgo : W p l e rX1_fillReached s m args below meth c H locs 0 0 Q (F0 m 0 ls []) by rw [hHe, hLe] at hgo; exact hgo
  clear hHe hLe
  refine lv_iconst (v := 0) hx hb dX1_fillReached_0 (by decide) ?_
  refine lv_istore_n (lv' := [(3, .int 0), (0, .ref (hgd 0)), (1, .ref (hgw 0)), (2, .int a2)]) hx hb dX1_fillReached_1 rfl hl (by decide) rfl (fun ls hl => ?_)
  obtain ⟨ex, hlp, hf⟩ := zB1_ok hf
  have hE2_33 : ∀ (gd_3 : zM) , ex = gd_3 → ∀ (H : Heap) (locs : List Loc) (ls : Array Slot), va_P D vwCl (wX1 T hgd gd_3 ++ wX8 T hgw gw) H → va_D A (wX1 T hgd gd_3 ++ wX8 T hgw gw) → va_S A s.heap H locs → lv_has ls 4 [] → W p l e rX1_fillReached s m args below meth c H locs 0 0 Q (F0 m 33 ls []) := by
    intro gd_3 hex H locs ls hP hD hS hl
    have hf := zEx1 hex hf
    obtain ⟨q1, -⟩ := zI1 hf
    subst q1
    exact zRetV hQ hx hb hr hlocks hA0 hK hP hD hS dX1_fillReached_33
  refine zLpS2 (body := (fX1_fillReached_L2 a2 gw)) (b := ex) (fun (v1 : Int32) (gd_2 : zM) => ∀ (H : Heap) (locs : List Loc) (ls : Array Slot), va_P D vwCl (wX1 T hgd gd_2 ++ wX8 T hgw gw) H → va_D A (wX1 T hgd gd_2 ++ wX8 T hgw gw) → va_S A s.heap H locs → lv_has ls 4 [(0, .ref (hgd 0)), (1, .ref (hgw 0)), (2, .int a2), (3, .int v1)] → W p l e rX1_fillReached s m args below meth c H locs 0 0 Q (F0 m 2 ls [])) ?_ zFU 0 gd hlp H locs ls hP hD hS (lv_sub hl [1, 2, 3, 0] rfl)
  intro v1 gd_2 z hf hzz H locs ls hP hD hS hl
  unfold fX1_fillReached_L2 at hf
  replace hf := zUk2 hf
  refine lv_iload_n hx hb dX1_fillReached_2 rfl (lv_at hl 3 rfl) ?_
  refine lv_aload_n hx hb dX1_fillReached_3 rfl (lv_at hl 1 rfl) ?_
  refine zGet (ci := 8) (C := RX8) (F := TX8) (N := 14) (v := .int (gw 0 0)) hx hb hts hiX8 hown hK hP 3 0 1 rfl rfl (by decide) rfl rfl rfl dX1_fillReached_4 ?_
  refine lv_icmp_ge (tgt := 33) hx hb dX1_fillReached_7 (by decide) (fun hc => ?_) (fun hc => ?_)
  · replace hf := zIf_t hc hf
    cases hf
    exact hE2_33 gd_2 hzz.symm H locs ls hP hD hS (lv_sub hl [] rfl)
  · replace hf := zIf_f hc hf
    refine lv_aload_n hx hb dX1_fillReached_10 rfl (lv_at hl 0 rfl) ?_
    refine lv_aload_n hx hb dX1_fillReached_11 rfl (lv_at hl 1 rfl) ?_
    refine lv_iload_n hx hb dX1_fillReached_12 rfl (lv_at hl 3 rfl) ?_
    obtain ⟨gd_4, hc13, hf⟩ := zB1_ok hf
    refine zCallVEV [.ref (hgw 0), .int v1] ⟨hx, hb, hml, hown, hts⟩ (pX1_follow l D T X hgd hgw H.size gd_2 gw v1 gd_4 hc13) (cwV 2 hts gX1_fillReached_X1_follow rfl rfl rfl (by decide +kernel) ⟨Nat.le_of_ble_eq_true rfl, Nat.le_of_ble_eq_true rfl⟩) hK hP hD hS hA hX 0 rfl rfl rfl hl.1 rfl (Nat.le_of_ble_eq_true rfl) dX1_fillReached_13 ⟨Nat.zero_le _, Nat.zero_le _⟩ (fun H locs hP hD hS => ?_)
    refine lv_aload_n hx hb dX1_fillReached_16 rfl (lv_at hl 0 rfl) ?_
    refine zGet (ci := 1) (C := RX1) (F := TX1) (N := 2) (v := .ref (hgd 2)) hx hb hts hiX1 hown hK hP 0 1 2 rfl rfl (by decide) rfl rfl rfl dX1_fillReached_17 ?_
    refine lv_iload_n hx hb dX1_fillReached_20 rfl (lv_at hl 3 rfl) ?_
    refine lv_aload_n hx hb dX1_fillReached_21 rfl (lv_at hl 0 rfl) ?_
    refine lv_iload_n hx hb dX1_fillReached_22 rfl (lv_at hl 2 rfl) ?_
    obtain ⟨v5, hc23, hf⟩ := zB1_ok hf
    refine zCallVJI (wr := wX8 T hgw gw) (ws' := wX1 T hgd gd_4 ++ wX8 T hgw gw) [.int a2] ⟨hx, hb, hml, hown, hts⟩ (pX1_knowingBehind l D T X hgd H.size gd_4 a2 v5 hc23) (cwV 1 hts gX1_fillReached_X1_knowingBehind rfl rfl rfl (by decide +kernel) ⟨Nat.le_of_ble_eq_true rfl, Nat.le_of_ble_eq_true rfl⟩) hK hP hD hS hA hX [0, 1, 2] [3, 4, 5, 6, 7, 8, 9, 10, 11, 12, 13] [11, 12, 13, 0, 1, 2, 3, 4, 5, 6, 7, 8, 9, 10] rfl rfl rfl rfl 0 rfl rfl rfl hl.1 rfl (Nat.le_of_ble_eq_true rfl) dX1_fillReached_23 ⟨Nat.zero_le _, Nat.zero_le _⟩ (fun H locs hP hD hS => ?_)
    obtain ⟨hg, hf⟩ := zGd_ok hf
    refine zAstI (w := gd_4) hx hb hK hP hD hS (fun g => wX1 T hgd g ++ wX8 T hgw gw) 2 2 rfl hg rfl dX1_fillReached_26 (fun gd_6 egd_6 H locs hP hD hS => ?_)
    replace hP : va_P D vwCl (wX1 T hgd gd_6 ++ wX8 T hgw gw) H := hP
    replace hD : va_D A (wX1 T hgd gd_6 ++ wX8 T hgw gw) := hD
    replace hf := zLt_at egd_6 hf
    obtain ⟨v7, ev7⟩ : ∃ y : Int32, y = v1 + 1 := ⟨_, rfl⟩
    replace hf := zLt_at ev7 hf
    refine lv_iinc (v := v7) (lv' := [(3, .int v7), (0, .ref (hgd 0)), (1, .ref (hgw 0)), (2, .int a2)]) hx hb dX1_fillReached_27 hl (k := 3) rfl (by rw [ev7]; rfl) (by decide) rfl (fun ls hl => ?_)
    refine lv_goto (tgt := 2) hx hb dX1_fillReached_30 (by decide) ?_
    cases hf
    exact hzz H locs ls hP hD hS (lv_sub hl [1, 2, 3, 0] rfl)
set_option maxHeartbeats 4000000 in
set_option maxRecDepth 100000 in
theorem pX1_reachedBy (l : Launch) (D : va_G) (T : Nat → ClassId) (X : zFP) (hgd : Nat → Nat) (sz : Nat) (gd : zM) (a1 : Int32) (r : Int32) (hf : fX1_reachedBy gd a1 = some r) : Met l yX1_reachedBy wsX1_reachedBy rX1_reachedBy (zPre D T X [.ref (hgd 0), .int a1] (wX1 T hgd gd) sz) (zQi D T r (wX1 T hgd gd) (wX1 T hgd gd) sz) 0 0 (va_A (wX1 T hgd gd) sz) := by
  unfold fX1_reachedBy at hf
  refine zStart [(0, .ref (hgd 0)), (1, .int a1)] (by decide) rfl (Nat.le_of_ble_eq_true rfl) rfl ?_
  intro p e s m args below meth c A Q ls hx hb hr hml hown hlocks hts hsz hA0 hQ hA hK hX hP hD hS hl
  replace hown : s.vm.findClass RX1 = some m.cls := hown
  have hH := hsz
  have hiX1 : ∀ w ∈ u_ws RX1 TX1 2, w ∈ wsX1_reachedBy := fun w h => List.mem_cons_of_mem _ (List.mem_append_right _ (h))
  obtain ⟨H, hHe⟩ : ∃ H : Heap, H = s.heap := ⟨_, rfl⟩
  obtain ⟨locs, hLe⟩ : ∃ L : List Loc, L = [] := ⟨_, rfl⟩
  replace hP : va_P D vwCl (wX1 T hgd gd) H := by rw [hHe]; exact hP
  replace hS : va_S A s.heap H locs := by rw [hHe, hLe]; exact hS
  suffices hgo : W p l e rX1_reachedBy s m args below meth c H locs 0 0 Q (F0 m 0 ls []) by rw [hHe, hLe] at hgo; exact hgo
  clear hHe hLe
  refine lv_iconst (v := 0) hx hb dX1_reachedBy_0 (by decide) ?_
  refine lv_istore_n (lv' := [(2, .int 0), (0, .ref (hgd 0)), (1, .int a1)]) hx hb dX1_reachedBy_1 rfl hl (by decide) rfl (fun ls hl => ?_)
  refine lv_iconst (v := 0) hx hb dX1_reachedBy_2 (by decide) ?_
  refine lv_istore_n (lv' := [(3, .int 0), (2, .int 0), (0, .ref (hgd 0)), (1, .int a1)]) hx hb dX1_reachedBy_3 rfl hl (by decide) rfl (fun ls hl => ?_)
  obtain ⟨ex, hlp, hf⟩ := zB1_ok hf
  have hE4_33 : ∀ (v3 : Int32) , ex = v3 → ∀ (H : Heap) (locs : List Loc) (ls : Array Slot), va_P D vwCl (wX1 T hgd gd) H → va_D A (wX1 T hgd gd) → va_S A s.heap H locs → lv_has ls 4 [(2, .int v3)] → W p l e rX1_reachedBy s m args below meth c H locs 0 0 Q (F0 m 33 ls []) := by
    intro v3 hex H locs ls hP hD hS hl
    have hf := zEx1 hex hf
    refine lv_iload_n hx hb dX1_reachedBy_33 rfl (lv_at hl 0 rfl) ?_
    obtain ⟨q1, -⟩ := zI1 hf
    subst q1
    exact zRetI hQ hx hb hr hlocks hA0 hK hP hD hS rfl dX1_reachedBy_34
  refine zLpS2 (body := (fX1_reachedBy_L4 a1 gd)) (b := ex) (fun (v1 : Int32) (v2 : Int32) => ∀ (H : Heap) (locs : List Loc) (ls : Array Slot), va_P D vwCl (wX1 T hgd gd) H → va_D A (wX1 T hgd gd) → va_S A s.heap H locs → lv_has ls 4 [(0, .ref (hgd 0)), (1, .int a1), (2, .int v1), (3, .int v2)] → W p l e rX1_reachedBy s m args below meth c H locs 0 0 Q (F0 m 4 ls [])) ?_ zFU 0 0 hlp H locs ls hP hD hS (lv_sub hl [2, 3, 1, 0] rfl)
  intro v1 v2 z hf hzz H locs ls hP hD hS hl
  unfold fX1_reachedBy_L4 at hf
  replace hf := zUk2 hf
  refine lv_iload_n hx hb dX1_reachedBy_4 rfl (lv_at hl 3 rfl) ?_
  refine lv_bipush (v := 10) hx hb dX1_reachedBy_5 (by decide) ?_
  refine lv_icmp_ge (tgt := 33) hx hb dX1_reachedBy_7 (by decide) (fun hc => ?_) (fun hc => ?_)
  · replace hf := zIf_t hc hf
    cases hf
    exact hE4_33 v1 hzz.symm H locs ls hP hD hS (lv_sub hl [2] rfl)
  · replace hf := zIf_f hc hf
    refine lv_iload_n hx hb dX1_reachedBy_10 rfl (lv_at hl 1 rfl) ?_
    refine lv_iload_n hx hb dX1_reachedBy_11 rfl (lv_at hl 3 rfl) ?_
    refine lv_ishr hx hb dX1_reachedBy_12 ?_
    refine lv_iconst (v := 1) hx hb dX1_reachedBy_13 (by decide) ?_
    refine lv_iand hx hb dX1_reachedBy_14 ?_
    have hJ27 : ∀ (v4 : Int32) (H : Heap) (locs : List Loc) (ls : Array Slot), fX1_reachedBy_L4J27 v2 v4 = some z → va_P D vwCl (wX1 T hgd gd) H → va_D A (wX1 T hgd gd) → va_S A s.heap H locs → lv_has ls 4 [(0, .ref (hgd 0)), (1, .int a1), (2, .int v4), (3, .int v2)] → W p l e rX1_reachedBy s m args below meth c H locs 0 0 Q (F0 m 27 ls []) := by
      intro v4 H locs ls hf hP hD hS hl
      unfold fX1_reachedBy_L4J27 at hf
      obtain ⟨v5, ev5⟩ : ∃ y : Int32, y = v2 + 1 := ⟨_, rfl⟩
      replace hf := zLt_at ev5 hf
      refine lv_iinc (v := v5) (lv' := [(3, .int v5), (0, .ref (hgd 0)), (1, .int a1), (2, .int v4)]) hx hb dX1_reachedBy_27 hl (k := 3) rfl (by rw [ev5]; rfl) (by decide) rfl (fun ls hl => ?_)
      refine lv_goto (tgt := 4) hx hb dX1_reachedBy_30 (by decide) ?_
      cases hf
      exact hzz H locs ls hP hD hS (lv_sub hl [1, 2, 3, 0] rfl)
    refine lv_if_eq (tgt := 27) hx hb dX1_reachedBy_15 (by decide) (fun hc => ?_) (fun hc => ?_)
    · replace hf := zIf_t hc hf
      exact hJ27 v1 H locs ls hf hP hD hS hl
    · replace hf := zIf_f hc hf
      refine lv_iload_n hx hb dX1_reachedBy_18 rfl (lv_at hl 2 rfl) ?_
      refine lv_aload_n hx hb dX1_reachedBy_19 rfl (lv_at hl 0 rfl) ?_
      refine zGet (ci := 1) (C := RX1) (F := TX1) (N := 2) (v := .ref (hgd 2)) hx hb hts hiX1 hown hK hP 0 1 1 rfl rfl (by decide) rfl rfl rfl dX1_reachedBy_20 ?_
      refine lv_iload_n hx hb dX1_reachedBy_23 rfl (lv_at hl 3 rfl) ?_
      obtain ⟨hg, hf⟩ := zGd_ok hf
      refine zAldI hx hb hK hP 2 rfl hg dX1_reachedBy_24 (fun v6 ev6 => ?_)
      replace hf := zLt_at ev6 hf
      refine lv_ior hx hb dX1_reachedBy_25 ?_
      refine lv_topi (fun v7 ev7 => ?_)
      replace hf := zLt_at ev7 hf
      refine lv_istore_n (lv' := [(2, .int v7), (0, .ref (hgd 0)), (1, .int a1), (3, .int v2)]) hx hb dX1_reachedBy_26 rfl hl (by decide) rfl (fun ls hl => ?_)
      exact hJ27 v7 H locs ls hf hP hD hS (lv_sub hl [1, 2, 0, 3] rfl)
set_option maxHeartbeats 4000000 in
set_option maxRecDepth 100000 in
theorem pX1_chanceDay (l : Launch) (D : va_G) (T : Nat → ClassId) (X : zFP) (hgd : Nat → Nat) (hgw : Nat → Nat) (sz : Nat) (gd : zM) (gw : zM) (a2 : Int32) (a3 : Int32) (r : Int32) (ngw : zM) (hf : fX1_chanceDay gd gw a2 a3 = some (r, ngw)) : Met l yX1_chanceDay wsX1_chanceDay rX1_chanceDay (zPre D T X [.ref (hgd 0), .ref (hgw 0), .int a2, .int a3] (wX1 T hgd gd ++ wX8 T hgw gw) sz) (zQi D T r (wX1 T hgd gd ++ wX8 T hgw ngw) (wX1 T hgd gd ++ wX8 T hgw gw) sz) 0 0 (va_A (wX1 T hgd gd ++ wX8 T hgw gw) sz) := by
  unfold fX1_chanceDay at hf
  refine zStart [(0, .ref (hgd 0)), (1, .ref (hgw 0)), (2, .int a2), (3, .int a3)] (by decide) rfl (Nat.le_of_ble_eq_true rfl) rfl ?_
  intro p e s m args below meth c A Q ls hx hb hr hml hown hlocks hts hsz hA0 hQ hA hK hX hP hD hS hl
  replace hown : s.vm.findClass RX1 = some m.cls := hown
  have hH := hsz
  have hiX8 : ∀ w ∈ u_ws RX8 TX8 14, w ∈ wsX1_chanceDay := fun w h => List.mem_cons_of_mem _ (List.mem_append_right _ (h))
  obtain ⟨H, hHe⟩ : ∃ H : Heap, H = s.heap := ⟨_, rfl⟩
  obtain ⟨locs, hLe⟩ : ∃ L : List Loc, L = [] := ⟨_, rfl⟩
  replace hP : va_P D vwCl (wX1 T hgd gd ++ wX8 T hgw gw) H := by rw [hHe]; exact hP
  replace hS : va_S A s.heap H locs := by rw [hHe, hLe]; exact hS
  suffices hgo : W p l e rX1_chanceDay s m args below meth c H locs 0 0 Q (F0 m 0 ls []) by rw [hHe, hLe] at hgo; exact hgo
  clear hHe hLe
  refine lv_iload_n hx hb dX1_chanceDay_0 rfl (lv_at hl 2 rfl) ?_
  refine lv_istore (lv' := [(4, .int a2), (0, .ref (hgd 0)), (1, .ref (hgw 0)), (2, .int a2), (3, .int a3)]) hx hb dX1_chanceDay_1 hl (by decide) rfl (fun ls hl => ?_)
  refine lv_iconst (v := 0) hx hb dX1_chanceDay_3 (by decide) ?_
  refine lv_istore (lv' := [(5, .int 0), (4, .int a2), (0, .ref (hgd 0)), (1, .ref (hgw 0)), (2, .int a2), (3, .int a3)]) hx hb dX1_chanceDay_4 hl (by decide) rfl (fun ls hl => ?_)
  obtain ⟨ex, hlp, hf⟩ := zB1_ok hf
  have hE6_86 : ∀ (v4 : Int32) (gw_5 : zM) , ex = (v4, gw_5) → ∀ (H : Heap) (locs : List Loc) (ls : Array Slot), va_P D vwCl (wX1 T hgd gd ++ wX8 T hgw gw_5) H → va_D A (wX1 T hgd gd ++ wX8 T hgw gw_5) → va_S A s.heap H locs → lv_has ls 6 [(4, .int v4)] → W p l e rX1_chanceDay s m args below meth c H locs 0 0 Q (F0 m 86 ls []) := by
    intro v4 gw_5 hex H locs ls hP hD hS hl
    have hf := zEx2 hex hf
    refine lv_iload hx hb dX1_chanceDay_86 (lv_at hl 0 rfl) ?_
    obtain ⟨q1, q2⟩ := zI2 hf
    subst q1
    subst q2
    exact zRetI hQ hx hb hr hlocks hA0 hK hP hD hS rfl dX1_chanceDay_88
  refine zLpS3 (body := (fX1_chanceDay_L6 a2 a3)) (b := ex) (fun (v1 : Int32) (v2 : Int32) (gw_3 : zM) => ∀ (H : Heap) (locs : List Loc) (ls : Array Slot), va_P D vwCl (wX1 T hgd gd ++ wX8 T hgw gw_3) H → va_D A (wX1 T hgd gd ++ wX8 T hgw gw_3) → va_S A s.heap H locs → lv_has ls 6 [(1, .ref (hgw 0)), (2, .int a2), (3, .int a3), (4, .int v1), (5, .int v2)] → W p l e rX1_chanceDay s m args below meth c H locs 0 0 Q (F0 m 6 ls [])) ?_ zFU a2 0 gw hlp H locs ls hP hD hS (lv_sub hl [3, 4, 5, 1, 0] rfl)
  intro v1 v2 gw_3 z hf hzz H locs ls hP hD hS hl
  unfold fX1_chanceDay_L6 at hf
  replace hf := zUk3 hf
  refine lv_iload hx hb dX1_chanceDay_6 (lv_at hl 4 rfl) ?_
  refine lv_aload_n hx hb dX1_chanceDay_8 rfl (lv_at hl 0 rfl) ?_
  refine zGet (ci := 8) (C := RX8) (F := TX8) (N := 14) (v := .int (gw_3 0 3)) hx hb hts hiX8 hown hK hP 3 3 1 rfl rfl (by decide) rfl rfl rfl dX1_chanceDay_9 ?_
  refine lv_icmp_ge (tgt := 86) hx hb dX1_chanceDay_12 (by decide) (fun hc => ?_) (fun hc => ?_)
  · replace hf := zIf_t hc hf
    cases hf
    exact hE6_86 v1 gw_3 hzz.symm H locs ls hP hD hS (lv_sub hl [3] rfl)
  · replace hf := zIf_f hc hf
    refine lv_aload_n hx hb dX1_chanceDay_15 rfl (lv_at hl 0 rfl) ?_
    refine lv_iload hx hb dX1_chanceDay_16 (lv_at hl 4 rfl) ?_
    refine lv_iload_n hx hb dX1_chanceDay_18 rfl (lv_at hl 1 rfl) ?_
    obtain ⟨v6, hc19, hf⟩ := zB1_ok hf
    refine zCallSJI (wr := wX1 T hgd gd) (ws' := wX1 T hgd gd ++ wX8 T hgw gw_3) [.ref (hgw 0), .int v2, .int a2] ⟨hx, hb, hml, hown, hts⟩ (pX1_isAtEdge l D T X hgw H.size gw_3 v2 a2 v6 hc19) (va_cwS 3 hts gX1_chanceDay_X1_isAtEdge rfl rfl rfl (by decide +kernel) ⟨Nat.le_of_ble_eq_true rfl, Nat.le_of_ble_eq_true rfl⟩) hK hP hD hS hA hX [3, 4, 5, 6, 7, 8, 9, 10, 11, 12, 13] [0, 1, 2] [0, 1, 2, 3, 4, 5, 6, 7, 8, 9, 10, 11, 12, 13] rfl rfl rfl rfl rfl hl.1 rfl (Nat.le_of_ble_eq_true rfl) dX1_chanceDay_19 ⟨Nat.zero_le _, Nat.zero_le _⟩ (fun H locs hP hD hS => ?_)
    have hJ80 : ∀ (v7 : Int32) (gw_8 : zM) (H : Heap) (locs : List Loc) (ls : Array Slot), fX1_chanceDay_L6J80 v2 v7 gw_8 = some z → va_P D vwCl (wX1 T hgd gd ++ wX8 T hgw gw_8) H → va_D A (wX1 T hgd gd ++ wX8 T hgw gw_8) → va_S A s.heap H locs → lv_has ls 6 [(1, .ref (hgw 0)), (2, .int a2), (3, .int a3), (4, .int v7), (5, .int v2)] → W p l e rX1_chanceDay s m args below meth c H locs 0 0 Q (F0 m 80 ls []) := by
      intro v7 gw_8 H locs ls hf hP hD hS hl
      unfold fX1_chanceDay_L6J80 at hf
      obtain ⟨v9, ev9⟩ : ∃ y : Int32, y = v2 + 1 := ⟨_, rfl⟩
      replace hf := zLt_at ev9 hf
      refine lv_iinc (v := v9) (lv' := [(5, .int v9), (1, .ref (hgw 0)), (2, .int a2), (3, .int a3), (4, .int v7)]) hx hb dX1_chanceDay_80 hl (k := 4) rfl (by rw [ev9]; rfl) (by decide) rfl (fun ls hl => ?_)
      refine lv_goto (tgt := 6) hx hb dX1_chanceDay_83 (by decide) ?_
      cases hf
      exact hzz H locs ls hP hD hS (lv_sub hl [1, 2, 3, 4, 0] rfl)
    refine lv_if_eq (tgt := 80) hx hb dX1_chanceDay_22 (by decide) (fun hc => ?_) (fun hc => ?_)
    · replace hf := zIf_t hc hf
      exact hJ80 v1 gw_3 H locs ls hf hP hD hS hl
    · replace hf := zIf_f hc hf
      refine lv_aload_n hx hb dX1_chanceDay_25 rfl (lv_at hl 0 rfl) ?_
      refine lv_iload hx hb dX1_chanceDay_26 (lv_at hl 4 rfl) ?_
      refine lv_iload_n hx hb dX1_chanceDay_28 rfl (lv_at hl 2 rfl) ?_
      obtain ⟨v10, hc29, hf⟩ := zB1_ok hf
      refine zCallVJI (wr := wX1 T hgd gd) (ws' := wX1 T hgd gd ++ wX8 T hgw gw_3) [.int v2, .int a3] ⟨hx, hb, hml, hown, hts⟩ (pX8_isOpen l D T X hgw H.size gw_3 v2 a3 v10 hc29) (cwV 2 hts gX1_chanceDay_X8_isOpen rfl rfl rfl (by decide +kernel) ⟨Nat.le_of_ble_eq_true rfl, Nat.le_of_ble_eq_true rfl⟩) hK hP hD hS hA hX [3, 4, 5, 6, 7, 8, 9, 10, 11, 12, 13] [0, 1, 2] [0, 1, 2, 3, 4, 5, 6, 7, 8, 9, 10, 11, 12, 13] rfl rfl rfl rfl 0 rfl rfl rfl hl.1 rfl (Nat.le_of_ble_eq_true rfl) dX1_chanceDay_29 ⟨Nat.zero_le _, Nat.zero_le _⟩ (fun H locs hP hD hS => ?_)
      refine lv_if_eq (tgt := 80) hx hb dX1_chanceDay_32 (by decide) (fun hc => ?_) (fun hc => ?_)
      · replace hf := zIf_t hc hf
        exact hJ80 v1 gw_3 H locs ls hf hP hD hS hl
      · replace hf := zIf_f hc hf
        refine lv_aload_n hx hb dX1_chanceDay_35 rfl (lv_at hl 0 rfl) ?_
        refine lv_aload_n hx hb dX1_chanceDay_36 rfl (lv_at hl 0 rfl) ?_
        refine zGet (ci := 8) (C := RX8) (F := TX8) (N := 14) (v := .int (gw_3 0 13)) hx hb hts hiX8 hown hK hP 3 13 2 rfl rfl (by decide) rfl rfl rfl dX1_chanceDay_37 ?_
        refine lv_ldc (v := 1103515245) hx hb hown (hts _ (List.mem_of_getElem? (i := 3) rfl)) dX1_chanceDay_40 ?_
        refine lv_imul hx hb dX1_chanceDay_42 ?_
        refine lv_sipush (v := 12345) hx hb dX1_chanceDay_43 (by decide) ?_
        refine lv_iadd hx hb dX1_chanceDay_46 ?_
        refine lv_topi (fun v11 ev11 => ?_)
        replace hf := zLt_at ev11 hf
        refine zPut (ci := 8) (C := RX8) (F := TX8) (N := 14) (x := v11) (w := gw_3) hx hb hts hiX8 tyX8 tyX8_ok nmX8 hown hK hP hD hS (fun g => wX1 T hgd gd ++ wX8 T hgw g) 3 13 2 rfl rfl (by decide) rfl rfl rfl ⟨rfl, rfl⟩ (Nat.le_of_ble_eq_true rfl) rfl dX1_chanceDay_47 (fun gw_12 egw_12 H locs hP hD hS => ?_)
        replace hP : va_P D vwCl (wX1 T hgd gd ++ wX8 T hgw gw_12) H := hP
        replace hD : va_D A (wX1 T hgd gd ++ wX8 T hgw gw_12) := hD
        replace hf := zLt_at egw_12 hf
        refine lv_aload_n hx hb dX1_chanceDay_50 rfl (lv_at hl 0 rfl) ?_
        refine zGet (ci := 8) (C := RX8) (F := TX8) (N := 14) (v := .int (gw_12 0 13)) hx hb hts hiX8 hown hK hP 3 13 2 rfl rfl (by decide) rfl rfl rfl dX1_chanceDay_51 ?_
        refine lv_bipush (v := 16) hx hb dX1_chanceDay_54 (by decide) ?_
        refine lv_iushr hx hb dX1_chanceDay_56 rfl ?_
        refine lv_iconst (v := 4) hx hb dX1_chanceDay_57 (by decide) ?_
        refine lv_irem hx hb dX1_chanceDay_58 (by decide) ?_
        refine lv_aload_n hx hb dX1_chanceDay_59 rfl (lv_at hl 0 rfl) ?_
        refine zGet (ci := 8) (C := RX8) (F := TX8) (N := 14) (v := .ref (hgw 6)) hx hb hts hiX8 hown hK hP 3 7 4 rfl rfl (by decide) rfl rfl rfl dX1_chanceDay_60 ?_
        refine lv_iload hx hb dX1_chanceDay_63 (lv_at hl 4 rfl) ?_
        obtain ⟨hg, hf⟩ := zGd_ok hf
        refine zAldI hx hb hK hP 9 rfl hg dX1_chanceDay_65 (fun v13 ev13 => ?_)
        replace hf := zLt_at ev13 hf
        refine lv_icmp_ge (tgt := 80) hx hb dX1_chanceDay_66 (by decide) (fun hc => ?_) (fun hc => ?_)
        · replace hf := zIf_t hc hf
          exact hJ80 v1 gw_12 H locs ls hf hP hD hS hl
        · replace hf := zIf_f hc hf
          refine lv_iload hx hb dX1_chanceDay_69 (lv_at hl 3 rfl) ?_
          refine lv_aload_n hx hb dX1_chanceDay_71 rfl (lv_at hl 0 rfl) ?_
          refine lv_iload hx hb dX1_chanceDay_72 (lv_at hl 4 rfl) ?_
          obtain ⟨v14, hc74, hf⟩ := zB1_ok hf
          refine zCallVJI (wr := wX1 T hgd gd) (ws' := wX1 T hgd gd ++ wX8 T hgw gw_12) [.int v2] ⟨hx, hb, hml, hown, hts⟩ (pX8_bothOf l D T X hgw H.size gw_12 v2 v14 hc74) (cwV 1 hts gX1_chanceDay_X8_bothOf rfl rfl rfl (by decide +kernel) ⟨Nat.le_of_ble_eq_true rfl, Nat.le_of_ble_eq_true rfl⟩) hK hP hD hS hA hX [3, 4, 5, 6, 7, 8, 9, 10, 11, 12, 13] [0, 1, 2] [0, 1, 2, 3, 4, 5, 6, 7, 8, 9, 10, 11, 12, 13] rfl rfl rfl rfl 0 rfl rfl rfl hl.1 rfl (Nat.le_of_ble_eq_true rfl) dX1_chanceDay_74 ⟨Nat.zero_le _, Nat.zero_le _⟩ (fun H locs hP hD hS => ?_)
          refine lv_ior hx hb dX1_chanceDay_77 ?_
          refine lv_topi (fun v15 ev15 => ?_)
          replace hf := zLt_at ev15 hf
          refine lv_istore (lv' := [(4, .int v15), (1, .ref (hgw 0)), (2, .int a2), (3, .int a3), (5, .int v2)]) hx hb dX1_chanceDay_78 hl (by decide) rfl (fun ls hl => ?_)
          exact hJ80 v15 gw_12 H locs ls hf hP hD hS (lv_sub hl [1, 2, 3, 0, 4] rfl)
set_option maxHeartbeats 4000000 in
set_option maxRecDepth 100000 in
theorem pX2_hasPlace (l : Launch) (D : va_G) (T : Nat → ClassId) (X : zFP) (sz : Nat) (a1 : Int32) (r : Int32) (hf : fX2_hasPlace a1 = some r) : Met l yX2_hasPlace wsX2_hasPlace rX2_hasPlace (zPre D T X [.int a1] ([]) sz) (zQi D T r ([]) ([]) sz) 0 0 (va_A ([]) sz) := by
  unfold fX2_hasPlace at hf
  refine zStart [(0, .int a1)] (by decide) rfl (Nat.le_of_ble_eq_true rfl) rfl ?_
  intro p e s m args below meth c A Q ls hx hb hr hml hown hlocks hts hsz hA0 hQ hA hK hX hP hD hS hl
  replace hown : s.vm.findClass RX2 = some m.cls := hown
  have hH := hsz
  obtain ⟨H, hHe⟩ : ∃ H : Heap, H = s.heap := ⟨_, rfl⟩
  obtain ⟨locs, hLe⟩ : ∃ L : List Loc, L = [] := ⟨_, rfl⟩
  replace hP : va_P D vwCl ([]) H := by rw [hHe]; exact hP
  replace hS : va_S A s.heap H locs := by rw [hHe, hLe]; exact hS
  suffices hgo : W p l e rX2_hasPlace s m args below meth c H locs 0 0 Q (F0 m 0 ls []) by rw [hHe, hLe] at hgo; exact hgo
  clear hHe hLe
  refine lv_iload_n hx hb dX2_hasPlace_0 rfl (lv_at hl 0 rfl) ?_
  refine lv_if_lt (tgt := 13) hx hb dX2_hasPlace_1 (by decide) (fun hc => ?_) (fun hc => ?_)
  · replace hf := zIf_t hc hf
    refine lv_iconst (v := 0) hx hb dX2_hasPlace_13 (by decide) ?_
    obtain ⟨q1, -⟩ := zI1 hf
    subst q1
    exact zRetZ hQ hx hb hr hlocks hA0 hK hP hD hS (by decide) rfl dX2_hasPlace_14
  · replace hf := zIf_f hc hf
    refine lv_iload_n hx hb dX2_hasPlace_4 rfl (lv_at hl 0 rfl) ?_
    refine lv_iconst (v := 4) hx hb dX2_hasPlace_5 (by decide) ?_
    refine lv_icmp_ge (tgt := 13) hx hb dX2_hasPlace_6 (by decide) (fun hc => ?_) (fun hc => ?_)
    · replace hf := zIf_t hc hf
      refine lv_iconst (v := 0) hx hb dX2_hasPlace_13 (by decide) ?_
      obtain ⟨q1, -⟩ := zI1 hf
      subst q1
      exact zRetZ hQ hx hb hr hlocks hA0 hK hP hD hS (by decide) rfl dX2_hasPlace_14
    · replace hf := zIf_f hc hf
      refine lv_iconst (v := 1) hx hb dX2_hasPlace_9 (by decide) ?_
      refine lv_goto (tgt := 14) hx hb dX2_hasPlace_10 (by decide) ?_
      obtain ⟨q1, -⟩ := zI1 hf
      subst q1
      exact zRetZ hQ hx hb hr hlocks hA0 hK hP hD hS (by decide) rfl dX2_hasPlace_14
set_option maxHeartbeats 4000000 in
set_option maxRecDepth 100000 in
theorem pX2_renew (l : Launch) (D : va_G) (T : Nat → ClassId) (X : zFP) (hgh : Nat → Nat) (sz : Nat) (gh : zM) (a1 : Int32) (a2 : Int32) (a3 : Int32) (ngh : zM) (hf : fX2_renew gh a1 a2 a3 = some ngh) : Met l yX2_renew wsX2_renew rX2_renew (zPre D T X [.ref (hgh 0), .int a1, .int a2, .int a3] (wX2 T hgh gh) sz) (zQv D T (wX2 T hgh ngh) (wX2 T hgh gh) sz) 0 0 (va_A (wX2 T hgh gh) sz) := by
  unfold fX2_renew at hf
  refine zStart [(0, .ref (hgh 0)), (1, .int a1), (2, .int a2), (3, .int a3)] (by decide) rfl (Nat.le_of_ble_eq_true rfl) rfl ?_
  intro p e s m args below meth c A Q ls hx hb hr hml hown hlocks hts hsz hA0 hQ hA hK hX hP hD hS hl
  replace hown : s.vm.findClass RX2 = some m.cls := hown
  have hH := hsz
  have hiX2 : ∀ w ∈ u_ws RX2 TX2 6, w ∈ wsX2_renew := fun w h => List.mem_cons_of_mem _ (List.mem_append_right _ (h))
  obtain ⟨H, hHe⟩ : ∃ H : Heap, H = s.heap := ⟨_, rfl⟩
  obtain ⟨locs, hLe⟩ : ∃ L : List Loc, L = [] := ⟨_, rfl⟩
  replace hP : va_P D vwCl (wX2 T hgh gh) H := by rw [hHe]; exact hP
  replace hS : va_S A s.heap H locs := by rw [hHe, hLe]; exact hS
  suffices hgo : W p l e rX2_renew s m args below meth c H locs 0 0 Q (F0 m 0 ls []) by rw [hHe, hLe] at hgo; exact hgo
  clear hHe hLe
  refine lv_aload_n hx hb dX2_renew_0 rfl (lv_at hl 0 rfl) ?_
  refine zGet (ci := 2) (C := RX2) (F := TX2) (N := 6) (v := .ref (hgh 1)) hx hb hts hiX2 hown hK hP 0 0 1 rfl rfl (by decide) rfl rfl rfl dX2_renew_1 ?_
  refine lv_iload_n hx hb dX2_renew_4 rfl (lv_at hl 1 rfl) ?_
  refine lv_iload_n hx hb dX2_renew_5 rfl (lv_at hl 2 rfl) ?_
  obtain ⟨hg, hf⟩ := zGd_ok hf
  refine zAstI (w := gh) hx hb hK hP hD hS (fun g => wX2 T hgh g) 1 1 rfl hg rfl dX2_renew_6 (fun gh_1 egh_1 H locs hP hD hS => ?_)
  replace hP : va_P D vwCl (wX2 T hgh gh_1) H := hP
  replace hD : va_D A (wX2 T hgh gh_1) := hD
  replace hf := zLt_at egh_1 hf
  refine lv_aload_n hx hb dX2_renew_7 rfl (lv_at hl 0 rfl) ?_
  refine zGet (ci := 2) (C := RX2) (F := TX2) (N := 6) (v := .ref (hgh 2)) hx hb hts hiX2 hown hK hP 0 1 2 rfl rfl (by decide) rfl rfl rfl dX2_renew_8 ?_
  refine lv_iload_n hx hb dX2_renew_11 rfl (lv_at hl 1 rfl) ?_
  refine lv_iload_n hx hb dX2_renew_12 rfl (lv_at hl 2 rfl) ?_
  refine lv_iconst (v := (-1)) hx hb dX2_renew_13 (by decide) ?_
  have hJ22 : ∀ (v2 : Int32) (v3 : Int32) (H : Heap) (locs : List Loc) (ls : Array Slot), fX2_renew_J22 a1 gh_1 v2 v3 = some ngh → va_P D vwCl (wX2 T hgh gh_1) H → va_D A (wX2 T hgh gh_1) → va_S A s.heap H locs → lv_has ls 4 [(0, .ref (hgh 0)), (1, .int a1)] → W p l e rX2_renew s m args below meth c H locs 0 0 Q (F0 m 22 ls [.int v2, .int v3, .ref (hgh 2)]) := by
    intro v2 v3 H locs ls hf hP hD hS hl
    unfold fX2_renew_J22 at hf
    obtain ⟨hg, hf⟩ := zGd_ok hf
    refine zAstI (w := gh_1) hx hb hK hP hD hS (fun g => wX2 T hgh g) 2 2 rfl hg rfl dX2_renew_22 (fun gh_4 egh_4 H locs hP hD hS => ?_)
    replace hP : va_P D vwCl (wX2 T hgh gh_4) H := hP
    replace hD : va_D A (wX2 T hgh gh_4) := hD
    replace hf := zLt_at egh_4 hf
    refine lv_aload_n hx hb dX2_renew_23 rfl (lv_at hl 0 rfl) ?_
    refine zGet (ci := 2) (C := RX2) (F := TX2) (N := 6) (v := .ref (hgh 3)) hx hb hts hiX2 hown hK hP 0 2 3 rfl rfl (by decide) rfl rfl rfl dX2_renew_24 ?_
    refine lv_iload_n hx hb dX2_renew_27 rfl (lv_at hl 1 rfl) ?_
    obtain ⟨hin28, hf⟩ := zGd_ok hf
    refine zAldA (h := hgh) hx hb hK hP 3 7 rfl hin28 dX2_renew_28 ?_
    refine lv_iconst (v := 0) hx hb dX2_renew_29 (by decide) ?_
    obtain ⟨t5, hc30, hf⟩ := zB1_ok hf
    refine zCallFill (w := gh_4) (t := t5) ⟨hx, hb, hml, hown, hts⟩ (pJ7_fill_53178 l D T X (fun _ => (hgh (7 + a1.toNatClampNeg))) H.size 40 (fun _ => gh_4 (7 + a1.toNatClampNeg)) 0 t5 hc30) (va_cwS 2 hts gX2_renew_J7_fill_53178 rfl rfl rfl (by decide +kernel) ⟨Nat.le_of_ble_eq_true rfl, Nat.le_of_ble_eq_true rfl⟩) hK hP hD hS hA hX (fun g => wX2 T hgh g) (7 + a1.toNatClampNeg) (7 + a1.toNatClampNeg) (zRow4 (P := fun k => (wX2 T hgh gh_4)[7 + k]? = some ((hgh (7 + k)), .inl (T 0, 40, .inl (gh_4 (7 + k))))) rfl rfl rfl rfl (zIn_lt hin28)) (zRow4 (P := fun k => (wX2 T hgh gh_4).set (7 + k) ((hgh (7 + k)), .inl (T 0, 40, .inl (t5 0))) = wX2 T hgh (zPr gh_4 (7 + k) (t5 0))) rfl rfl rfl rfl (zIn_lt hin28)) hl.1 (Nat.le_of_ble_eq_true rfl) dX2_renew_30 ⟨Nat.zero_le _, Nat.zero_le _⟩ (fun gh_6 egh_6 H locs hP hD hS => ?_)
    replace hP : va_P D vwCl (wX2 T hgh gh_6) H := hP
    replace hD : va_D A (wX2 T hgh gh_6) := hD
    replace hf := zLt_at egh_6 hf
    obtain ⟨q1, -⟩ := zI1 hf
    subst q1
    exact zRetV hQ hx hb hr hlocks hA0 hK hP hD hS dX2_renew_33
  refine lv_icmp_ne (tgt := 21) hx hb dX2_renew_14 (by decide) (fun hc => ?_) (fun hc => ?_)
  · replace hf := zIf_f hc hf
    refine lv_iload_n hx hb dX2_renew_21 rfl (lv_at hl 3 rfl) ?_
    exact hJ22 a3 a1 H locs ls hf hP hD hS (lv_sub hl [0, 1] rfl)
  · replace hf := zIf_t hc hf
    refine lv_iconst (v := 0) hx hb dX2_renew_17 (by decide) ?_
    refine lv_goto (tgt := 22) hx hb dX2_renew_18 (by decide) ?_
    exact hJ22 0 a1 H locs ls hf hP hD hS (lv_sub hl [0, 1] rfl)
set_option maxHeartbeats 4000000 in
set_option maxRecDepth 100000 in
theorem pX2_refusalOf (l : Launch) (D : va_G) (T : Nat → ClassId) (X : zFP) (hgh : Nat → Nat) (sz : Nat) (gh : zM) (a1 : Int32) (a2 : Int32) (r : Int32) (hf : fX2_refusalOf gh a1 a2 = some r) : Met l yX2_refusalOf wsX2_refusalOf rX2_refusalOf (zPre D T X [.ref (hgh 0), .int a1, .int a2] (wX2 T hgh gh) sz) (zQi D T r (wX2 T hgh gh) (wX2 T hgh gh) sz) 0 0 (va_A (wX2 T hgh gh) sz) := by
  unfold fX2_refusalOf at hf
  refine zStart [(0, .ref (hgh 0)), (1, .int a1), (2, .int a2)] (by decide) rfl (Nat.le_of_ble_eq_true rfl) rfl ?_
  intro p e s m args below meth c A Q ls hx hb hr hml hown hlocks hts hsz hA0 hQ hA hK hX hP hD hS hl
  replace hown : s.vm.findClass RX2 = some m.cls := hown
  have hH := hsz
  have hiX2 : ∀ w ∈ u_ws RX2 TX2 6, w ∈ wsX2_refusalOf := fun w h => List.mem_cons_of_mem _ (List.mem_append_right _ (h))
  obtain ⟨H, hHe⟩ : ∃ H : Heap, H = s.heap := ⟨_, rfl⟩
  obtain ⟨locs, hLe⟩ : ∃ L : List Loc, L = [] := ⟨_, rfl⟩
  replace hP : va_P D vwCl (wX2 T hgh gh) H := by rw [hHe]; exact hP
  replace hS : va_S A s.heap H locs := by rw [hHe, hLe]; exact hS
  suffices hgo : W p l e rX2_refusalOf s m args below meth c H locs 0 0 Q (F0 m 0 ls []) by rw [hHe, hLe] at hgo; exact hgo
  clear hHe hLe
  refine lv_aload_n hx hb dX2_refusalOf_0 rfl (lv_at hl 0 rfl) ?_
  refine zGet (ci := 2) (C := RX2) (F := TX2) (N := 6) (v := .ref (hgh 1)) hx hb hts hiX2 hown hK hP 0 0 1 rfl rfl (by decide) rfl rfl rfl dX2_refusalOf_1 ?_
  refine lv_iload_n hx hb dX2_refusalOf_4 rfl (lv_at hl 1 rfl) ?_
  obtain ⟨hg, hf⟩ := zGd_ok hf
  refine zAldI hx hb hK hP 1 rfl hg dX2_refusalOf_5 (fun v1 ev1 => ?_)
  replace hf := zLt_at ev1 hf
  refine lv_iconst (v := (-1)) hx hb dX2_refusalOf_6 (by decide) ?_
  refine lv_icmp_ne (tgt := 13) hx hb dX2_refusalOf_7 (by decide) (fun hc => ?_) (fun hc => ?_)
  · replace hf := zIf_f hc hf
    refine lv_aload_n hx hb dX2_refusalOf_13 rfl (lv_at hl 0 rfl) ?_
    refine zGet (ci := 2) (C := RX2) (F := TX2) (N := 6) (v := .ref (hgh 1)) hx hb hts hiX2 hown hK hP 0 0 1 rfl rfl (by decide) rfl rfl rfl dX2_refusalOf_14 ?_
    refine lv_iload_n hx hb dX2_refusalOf_17 rfl (lv_at hl 1 rfl) ?_
    obtain ⟨hg, hf⟩ := zGd_ok hf
    refine zAldI hx hb hK hP 1 rfl hg dX2_refusalOf_18 (fun v2 ev2 => ?_)
    replace hf := zLt_at ev2 hf
    refine lv_iload_n hx hb dX2_refusalOf_19 rfl (lv_at hl 2 rfl) ?_
    refine lv_icmp_ne (tgt := 27) hx hb dX2_refusalOf_20 (by decide) (fun hc => ?_) (fun hc => ?_)
    · replace hf := zIf_f hc hf
      refine lv_bipush (v := (-13)) hx hb dX2_refusalOf_27 (by decide) ?_
      obtain ⟨q1, -⟩ := zI1 hf
      subst q1
      exact zRetI hQ hx hb hr hlocks hA0 hK hP hD hS rfl dX2_refusalOf_29
    · replace hf := zIf_t hc hf
      refine lv_iconst (v := 0) hx hb dX2_refusalOf_23 (by decide) ?_
      refine lv_goto (tgt := 29) hx hb dX2_refusalOf_24 (by decide) ?_
      obtain ⟨q1, -⟩ := zI1 hf
      subst q1
      exact zRetI hQ hx hb hr hlocks hA0 hK hP hD hS rfl dX2_refusalOf_29
  · replace hf := zIf_t hc hf
    refine lv_bipush (v := (-11)) hx hb dX2_refusalOf_10 (by decide) ?_
    obtain ⟨q1, -⟩ := zI1 hf
    subst q1
    exact zRetI hQ hx hb hr hlocks hA0 hK hP hD hS rfl dX2_refusalOf_12
set_option maxHeartbeats 4000000 in
set_option maxRecDepth 100000 in
theorem pX2_narrowed (l : Launch) (D : va_G) (T : Nat → ClassId) (X : zFP) (sz : Nat) (a1 : Int32) (a2 : Int32) (r : Int32) (hf : fX2_narrowed a1 a2 = some r) : Met l yX2_narrowed wsX2_narrowed rX2_narrowed (zPre D T X [.int a1, .int a2] ([]) sz) (zQi D T r ([]) ([]) sz) 0 0 (va_A ([]) sz) := by
  unfold fX2_narrowed at hf
  refine zStart [(0, .int a1), (1, .int a2)] (by decide) rfl (Nat.le_of_ble_eq_true rfl) rfl ?_
  intro p e s m args below meth c A Q ls hx hb hr hml hown hlocks hts hsz hA0 hQ hA hK hX hP hD hS hl
  replace hown : s.vm.findClass RX2 = some m.cls := hown
  have hH := hsz
  obtain ⟨H, hHe⟩ : ∃ H : Heap, H = s.heap := ⟨_, rfl⟩
  obtain ⟨locs, hLe⟩ : ∃ L : List Loc, L = [] := ⟨_, rfl⟩
  replace hP : va_P D vwCl ([]) H := by rw [hHe]; exact hP
  replace hS : va_S A s.heap H locs := by rw [hHe, hLe]; exact hS
  suffices hgo : W p l e rX2_narrowed s m args below meth c H locs 0 0 Q (F0 m 0 ls []) by rw [hHe, hLe] at hgo; exact hgo
  clear hHe hLe
  refine lv_iload_n hx hb dX2_narrowed_0 rfl (lv_at hl 1 rfl) ?_
  refine lv_if_ne (tgt := 7) hx hb dX2_narrowed_1 (by decide) (fun hc => ?_) (fun hc => ?_)
  · replace hf := zIf_f hc hf
    refine lv_iload_n hx hb dX2_narrowed_7 rfl (lv_at hl 1 rfl) ?_
    refine lv_iconst (v := 1) hx hb dX2_narrowed_8 (by decide) ?_
    refine lv_icmp_ne (tgt := 17) hx hb dX2_narrowed_9 (by decide) (fun hc => ?_) (fun hc => ?_)
    · replace hf := zIf_f hc hf
      refine lv_iload_n hx hb dX2_narrowed_17 rfl (lv_at hl 0 rfl) ?_
      obtain ⟨q1, -⟩ := zI1 hf
      subst q1
      exact zRetI hQ hx hb hr hlocks hA0 hK hP hD hS rfl dX2_narrowed_18
    · replace hf := zIf_t hc hf
      refine lv_iload_n hx hb dX2_narrowed_12 rfl (lv_at hl 0 rfl) ?_
      refine lv_i2s hx hb dX2_narrowed_13 rfl ?_
      refine lv_goto (tgt := 18) hx hb dX2_narrowed_14 (by decide) ?_
      obtain ⟨q1, -⟩ := zI1 hf
      subst q1
      exact zRetI hQ hx hb hr hlocks hA0 hK hP hD hS rfl dX2_narrowed_18
  · replace hf := zIf_t hc hf
    refine lv_iload_n hx hb dX2_narrowed_4 rfl (lv_at hl 0 rfl) ?_
    refine lv_i2b hx hb dX2_narrowed_5 rfl ?_
    obtain ⟨q1, -⟩ := zI1 hf
    subst q1
    exact zRetI hQ hx hb hr hlocks hA0 hK hP hD hS rfl dX2_narrowed_6
set_option maxHeartbeats 4000000 in
set_option maxRecDepth 100000 in
theorem pX2_holdCut (l : Launch) (D : va_G) (T : Nat → ClassId) (X : zFP) (hgh : Nat → Nat) (sz : Nat) (gh : zM) (a1 : Int32) (a2 : Int32) (ngh : zM) (hf : fX2_holdCut gh a1 a2 = some ngh) : Met l yX2_holdCut wsX2_holdCut rX2_holdCut (zPre D T X [.ref (hgh 0), .int a1, .int a2] (wX2 T hgh gh) sz) (zQv D T (wX2 T hgh ngh) (wX2 T hgh gh) sz) 0 0 (va_A (wX2 T hgh gh) sz) := by
  unfold fX2_holdCut at hf
  refine zStart [(0, .ref (hgh 0)), (1, .int a1), (2, .int a2)] (by decide) rfl (Nat.le_of_ble_eq_true rfl) rfl ?_
  intro p e s m args below meth c A Q ls hx hb hr hml hown hlocks hts hsz hA0 hQ hA hK hX hP hD hS hl
  replace hown : s.vm.findClass RX2 = some m.cls := hown
  have hH := hsz
  have hiX2 : ∀ w ∈ u_ws RX2 TX2 6, w ∈ wsX2_holdCut := fun w h => List.mem_cons_of_mem _ (List.mem_append_right _ (h))
  obtain ⟨H, hHe⟩ : ∃ H : Heap, H = s.heap := ⟨_, rfl⟩
  obtain ⟨locs, hLe⟩ : ∃ L : List Loc, L = [] := ⟨_, rfl⟩
  replace hP : va_P D vwCl (wX2 T hgh gh) H := by rw [hHe]; exact hP
  replace hS : va_S A s.heap H locs := by rw [hHe, hLe]; exact hS
  suffices hgo : W p l e rX2_holdCut s m args below meth c H locs 0 0 Q (F0 m 0 ls []) by rw [hHe, hLe] at hgo; exact hgo
  clear hHe hLe
  refine lv_aload_n hx hb dX2_holdCut_0 rfl (lv_at hl 0 rfl) ?_
  refine zGet (ci := 2) (C := RX2) (F := TX2) (N := 6) (v := .ref (hgh 4)) hx hb hts hiX2 hown hK hP 0 3 1 rfl rfl (by decide) rfl rfl rfl dX2_holdCut_1 ?_
  refine lv_iload_n hx hb dX2_holdCut_4 rfl (lv_at hl 1 rfl) ?_
  refine lv_iconst (v := 1) hx hb dX2_holdCut_5 (by decide) ?_
  obtain ⟨hg, hf⟩ := zGd_ok hf
  refine zAstI (w := gh) hx hb hK hP hD hS (fun g => wX2 T hgh g) 4 4 rfl hg rfl dX2_holdCut_6 (fun gh_1 egh_1 H locs hP hD hS => ?_)
  replace hP : va_P D vwCl (wX2 T hgh gh_1) H := hP
  replace hD : va_D A (wX2 T hgh gh_1) := hD
  replace hf := zLt_at egh_1 hf
  refine lv_aload_n hx hb dX2_holdCut_7 rfl (lv_at hl 0 rfl) ?_
  refine zGet (ci := 2) (C := RX2) (F := TX2) (N := 6) (v := .ref (hgh 5)) hx hb hts hiX2 hown hK hP 0 4 2 rfl rfl (by decide) rfl rfl rfl dX2_holdCut_8 ?_
  refine lv_iload_n hx hb dX2_holdCut_11 rfl (lv_at hl 1 rfl) ?_
  refine lv_iload_n hx hb dX2_holdCut_12 rfl (lv_at hl 2 rfl) ?_
  obtain ⟨hg, hf⟩ := zGd_ok hf
  refine zAstI (w := gh_1) hx hb hK hP hD hS (fun g => wX2 T hgh g) 5 5 rfl hg rfl dX2_holdCut_13 (fun gh_2 egh_2 H locs hP hD hS => ?_)
  replace hP : va_P D vwCl (wX2 T hgh gh_2) H := hP
  replace hD : va_D A (wX2 T hgh gh_2) := hD
  replace hf := zLt_at egh_2 hf
  obtain ⟨q1, -⟩ := zI1 hf
  subst q1
  exact zRetV hQ hx hb hr hlocks hA0 hK hP hD hS dX2_holdCut_14
set_option maxHeartbeats 4000000 in
set_option maxRecDepth 100000 in
theorem pX2_holdRow (l : Launch) (D : va_G) (T : Nat → ClassId) (X : zFP) (hgh : Nat → Nat) (sz : Nat) (gh : zM) (a1 : Int32) (a2 : Int32) (ngh : zM) (hf : fX2_holdRow gh a1 a2 = some ngh) : Met l yX2_holdRow wsX2_holdRow rX2_holdRow (zPre D T X [.ref (hgh 0), .int a1, .int a2] (wX2 T hgh gh) sz) (zQv D T (wX2 T hgh ngh) (wX2 T hgh gh) sz) 0 0 (va_A (wX2 T hgh gh) sz) := by
  unfold fX2_holdRow at hf
  refine zStart [(0, .ref (hgh 0)), (1, .int a1), (2, .int a2)] (by decide) rfl (Nat.le_of_ble_eq_true rfl) rfl ?_
  intro p e s m args below meth c A Q ls hx hb hr hml hown hlocks hts hsz hA0 hQ hA hK hX hP hD hS hl
  replace hown : s.vm.findClass RX2 = some m.cls := hown
  have hH := hsz
  have hiX2 : ∀ w ∈ u_ws RX2 TX2 6, w ∈ wsX2_holdRow := fun w h => List.mem_cons_of_mem _ (List.mem_append_right _ (h))
  obtain ⟨H, hHe⟩ : ∃ H : Heap, H = s.heap := ⟨_, rfl⟩
  obtain ⟨locs, hLe⟩ : ∃ L : List Loc, L = [] := ⟨_, rfl⟩
  replace hP : va_P D vwCl (wX2 T hgh gh) H := by rw [hHe]; exact hP
  replace hS : va_S A s.heap H locs := by rw [hHe, hLe]; exact hS
  suffices hgo : W p l e rX2_holdRow s m args below meth c H locs 0 0 Q (F0 m 0 ls []) by rw [hHe, hLe] at hgo; exact hgo
  clear hHe hLe
  refine lv_aload_n hx hb dX2_holdRow_0 rfl (lv_at hl 0 rfl) ?_
  refine zGet (ci := 2) (C := RX2) (F := TX2) (N := 6) (v := .ref (hgh 4)) hx hb hts hiX2 hown hK hP 0 3 1 rfl rfl (by decide) rfl rfl rfl dX2_holdRow_1 ?_
  refine lv_iload_n hx hb dX2_holdRow_4 rfl (lv_at hl 1 rfl) ?_
  refine lv_aload_n hx hb dX2_holdRow_5 rfl (lv_at hl 0 rfl) ?_
  refine zGet (ci := 2) (C := RX2) (F := TX2) (N := 6) (v := .ref (hgh 1)) hx hb hts hiX2 hown hK hP 0 0 2 rfl rfl (by decide) rfl rfl rfl dX2_holdRow_6 ?_
  refine lv_iload_n hx hb dX2_holdRow_9 rfl (lv_at hl 2 rfl) ?_
  obtain ⟨hg, hf⟩ := zGd_ok hf
  refine zAldI hx hb hK hP 1 rfl hg dX2_holdRow_10 (fun v1 ev1 => ?_)
  replace hf := zLt_at ev1 hf
  refine lv_iconst (v := (-1)) hx hb dX2_holdRow_11 (by decide) ?_
  have hJ20 : ∀ (v2 : Int32) (v3 : Int32) (H : Heap) (locs : List Loc) (ls : Array Slot), fX2_holdRow_J20 a1 a2 gh v2 v3 = some ngh → va_P D vwCl (wX2 T hgh gh) H → va_D A (wX2 T hgh gh) → va_S A s.heap H locs → lv_has ls 3 [(0, .ref (hgh 0)), (1, .int a1), (2, .int a2)] → W p l e rX2_holdRow s m args below meth c H locs 0 0 Q (F0 m 20 ls [.int v2, .int v3, .ref (hgh 4)]) := by
    intro v2 v3 H locs ls hf hP hD hS hl
    unfold fX2_holdRow_J20 at hf
    obtain ⟨hg, hf⟩ := zGd_ok hf
    refine zAstI (w := gh) hx hb hK hP hD hS (fun g => wX2 T hgh g) 4 4 rfl hg rfl dX2_holdRow_20 (fun gh_4 egh_4 H locs hP hD hS => ?_)
    replace hP : va_P D vwCl (wX2 T hgh gh_4) H := hP
    replace hD : va_D A (wX2 T hgh gh_4) := hD
    replace hf := zLt_at egh_4 hf
    refine lv_aload_n hx hb dX2_holdRow_21 rfl (lv_at hl 0 rfl) ?_
    refine zGet (ci := 2) (C := RX2) (F := TX2) (N := 6) (v := .ref (hgh 6)) hx hb hts hiX2 hown hK hP 0 5 3 rfl rfl (by decide) rfl rfl rfl dX2_holdRow_22 ?_
    refine lv_iload_n hx hb dX2_holdRow_25 rfl (lv_at hl 1 rfl) ?_
    refine lv_aload_n hx hb dX2_holdRow_26 rfl (lv_at hl 0 rfl) ?_
    refine zGet (ci := 2) (C := RX2) (F := TX2) (N := 6) (v := .ref (hgh 1)) hx hb hts hiX2 hown hK hP 0 0 2 rfl rfl (by decide) rfl rfl rfl dX2_holdRow_27 ?_
    refine lv_iload_n hx hb dX2_holdRow_30 rfl (lv_at hl 2 rfl) ?_
    obtain ⟨hg, hf⟩ := zGd_ok hf
    refine zAldI hx hb hK hP 1 rfl hg dX2_holdRow_31 (fun v5 ev5 => ?_)
    replace hf := zLt_at ev5 hf
    obtain ⟨hg, hf⟩ := zGd_ok hf
    refine zAstI (w := gh_4) hx hb hK hP hD hS (fun g => wX2 T hgh g) 6 6 rfl hg rfl dX2_holdRow_32 (fun gh_6 egh_6 H locs hP hD hS => ?_)
    replace hP : va_P D vwCl (wX2 T hgh gh_6) H := hP
    replace hD : va_D A (wX2 T hgh gh_6) := hD
    replace hf := zLt_at egh_6 hf
    refine lv_aload_n hx hb dX2_holdRow_33 rfl (lv_at hl 0 rfl) ?_
    refine zGet (ci := 2) (C := RX2) (F := TX2) (N := 6) (v := .ref (hgh 5)) hx hb hts hiX2 hown hK hP 0 4 4 rfl rfl (by decide) rfl rfl rfl dX2_holdRow_34 ?_
    refine lv_iload_n hx hb dX2_holdRow_37 rfl (lv_at hl 1 rfl) ?_
    refine lv_aload_n hx hb dX2_holdRow_38 rfl (lv_at hl 0 rfl) ?_
    refine zGet (ci := 2) (C := RX2) (F := TX2) (N := 6) (v := .ref (hgh 2)) hx hb hts hiX2 hown hK hP 0 1 5 rfl rfl (by decide) rfl rfl rfl dX2_holdRow_39 ?_
    refine lv_iload_n hx hb dX2_holdRow_42 rfl (lv_at hl 2 rfl) ?_
    obtain ⟨hg, hf⟩ := zGd_ok hf
    refine zAldI hx hb hK hP 2 rfl hg dX2_holdRow_43 (fun v7 ev7 => ?_)
    replace hf := zLt_at ev7 hf
    obtain ⟨hg, hf⟩ := zGd_ok hf
    refine zAstI (w := gh_6) hx hb hK hP hD hS (fun g => wX2 T hgh g) 5 5 rfl hg rfl dX2_holdRow_44 (fun gh_8 egh_8 H locs hP hD hS => ?_)
    replace hP : va_P D vwCl (wX2 T hgh gh_8) H := hP
    replace hD : va_D A (wX2 T hgh gh_8) := hD
    replace hf := zLt_at egh_8 hf
    obtain ⟨q1, -⟩ := zI1 hf
    subst q1
    exact zRetV hQ hx hb hr hlocks hA0 hK hP hD hS dX2_holdRow_45
  refine lv_icmp_ne (tgt := 19) hx hb dX2_holdRow_12 (by decide) (fun hc => ?_) (fun hc => ?_)
  · replace hf := zIf_f hc hf
    refine lv_iconst (v := 2) hx hb dX2_holdRow_19 (by decide) ?_
    exact hJ20 2 a1 H locs ls hf hP hD hS hl
  · replace hf := zIf_t hc hf
    refine lv_iconst (v := 0) hx hb dX2_holdRow_15 (by decide) ?_
    refine lv_goto (tgt := 20) hx hb dX2_holdRow_16 (by decide) ?_
    exact hJ20 0 a1 H locs ls hf hP hD hS hl
set_option maxHeartbeats 4000000 in
set_option maxRecDepth 100000 in
theorem pX2_holdNothing (l : Launch) (D : va_G) (T : Nat → ClassId) (X : zFP) (hgh : Nat → Nat) (sz : Nat) (gh : zM) (a1 : Int32) (ngh : zM) (hf : fX2_holdNothing gh a1 = some ngh) : Met l yX2_holdNothing wsX2_holdNothing rX2_holdNothing (zPre D T X [.ref (hgh 0), .int a1] (wX2 T hgh gh) sz) (zQv D T (wX2 T hgh ngh) (wX2 T hgh gh) sz) 0 0 (va_A (wX2 T hgh gh) sz) := by
  unfold fX2_holdNothing at hf
  refine zStart [(0, .ref (hgh 0)), (1, .int a1)] (by decide) rfl (Nat.le_of_ble_eq_true rfl) rfl ?_
  intro p e s m args below meth c A Q ls hx hb hr hml hown hlocks hts hsz hA0 hQ hA hK hX hP hD hS hl
  replace hown : s.vm.findClass RX2 = some m.cls := hown
  have hH := hsz
  have hiX2 : ∀ w ∈ u_ws RX2 TX2 6, w ∈ wsX2_holdNothing := fun w h => List.mem_cons_of_mem _ (List.mem_append_right _ (h))
  obtain ⟨H, hHe⟩ : ∃ H : Heap, H = s.heap := ⟨_, rfl⟩
  obtain ⟨locs, hLe⟩ : ∃ L : List Loc, L = [] := ⟨_, rfl⟩
  replace hP : va_P D vwCl (wX2 T hgh gh) H := by rw [hHe]; exact hP
  replace hS : va_S A s.heap H locs := by rw [hHe, hLe]; exact hS
  suffices hgo : W p l e rX2_holdNothing s m args below meth c H locs 0 0 Q (F0 m 0 ls []) by rw [hHe, hLe] at hgo; exact hgo
  clear hHe hLe
  refine lv_aload_n hx hb dX2_holdNothing_0 rfl (lv_at hl 0 rfl) ?_
  refine zGet (ci := 2) (C := RX2) (F := TX2) (N := 6) (v := .ref (hgh 4)) hx hb hts hiX2 hown hK hP 0 3 1 rfl rfl (by decide) rfl rfl rfl dX2_holdNothing_1 ?_
  refine lv_iload_n hx hb dX2_holdNothing_4 rfl (lv_at hl 1 rfl) ?_
  refine lv_iconst (v := 0) hx hb dX2_holdNothing_5 (by decide) ?_
  obtain ⟨hg, hf⟩ := zGd_ok hf
  refine zAstI (w := gh) hx hb hK hP hD hS (fun g => wX2 T hgh g) 4 4 rfl hg rfl dX2_holdNothing_6 (fun gh_1 egh_1 H locs hP hD hS => ?_)
  replace hP : va_P D vwCl (wX2 T hgh gh_1) H := hP
  replace hD : va_D A (wX2 T hgh gh_1) := hD
  replace hf := zLt_at egh_1 hf
  obtain ⟨q1, -⟩ := zI1 hf
  subst q1
  exact zRetV hQ hx hb hr hlocks hA0 hK hP hD hS dX2_holdNothing_7
set_option maxHeartbeats 4000000 in
set_option maxRecDepth 100000 in
theorem pX2_isRow (l : Launch) (D : va_G) (T : Nat → ClassId) (X : zFP) (hgh : Nat → Nat) (sz : Nat) (gh : zM) (a1 : Int32) (r : Int32) (hf : fX2_isRow gh a1 = some r) : Met l yX2_isRow wsX2_isRow rX2_isRow (zPre D T X [.ref (hgh 0), .int a1] (wX2 T hgh gh) sz) (zQi D T r (wX2 T hgh gh) (wX2 T hgh gh) sz) 0 0 (va_A (wX2 T hgh gh) sz) := by
  unfold fX2_isRow at hf
  refine zStart [(0, .ref (hgh 0)), (1, .int a1)] (by decide) rfl (Nat.le_of_ble_eq_true rfl) rfl ?_
  intro p e s m args below meth c A Q ls hx hb hr hml hown hlocks hts hsz hA0 hQ hA hK hX hP hD hS hl
  replace hown : s.vm.findClass RX2 = some m.cls := hown
  have hH := hsz
  have hiX2 : ∀ w ∈ u_ws RX2 TX2 6, w ∈ wsX2_isRow := fun w h => List.mem_cons_of_mem _ (List.mem_append_right _ (h))
  obtain ⟨H, hHe⟩ : ∃ H : Heap, H = s.heap := ⟨_, rfl⟩
  obtain ⟨locs, hLe⟩ : ∃ L : List Loc, L = [] := ⟨_, rfl⟩
  replace hP : va_P D vwCl (wX2 T hgh gh) H := by rw [hHe]; exact hP
  replace hS : va_S A s.heap H locs := by rw [hHe, hLe]; exact hS
  suffices hgo : W p l e rX2_isRow s m args below meth c H locs 0 0 Q (F0 m 0 ls []) by rw [hHe, hLe] at hgo; exact hgo
  clear hHe hLe
  refine lv_aload_n hx hb dX2_isRow_0 rfl (lv_at hl 0 rfl) ?_
  refine zGet (ci := 2) (C := RX2) (F := TX2) (N := 6) (v := .ref (hgh 4)) hx hb hts hiX2 hown hK hP 0 3 1 rfl rfl (by decide) rfl rfl rfl dX2_isRow_1 ?_
  refine lv_iload_n hx hb dX2_isRow_4 rfl (lv_at hl 1 rfl) ?_
  obtain ⟨hg, hf⟩ := zGd_ok hf
  refine zAldI hx hb hK hP 4 rfl hg dX2_isRow_5 (fun v1 ev1 => ?_)
  replace hf := zLt_at ev1 hf
  refine lv_iconst (v := 2) hx hb dX2_isRow_6 (by decide) ?_
  refine lv_icmp_ne (tgt := 14) hx hb dX2_isRow_7 (by decide) (fun hc => ?_) (fun hc => ?_)
  · replace hf := zIf_f hc hf
    refine lv_iconst (v := 0) hx hb dX2_isRow_14 (by decide) ?_
    obtain ⟨q1, -⟩ := zI1 hf
    subst q1
    exact zRetZ hQ hx hb hr hlocks hA0 hK hP hD hS (by decide) rfl dX2_isRow_15
  · replace hf := zIf_t hc hf
    refine lv_iconst (v := 1) hx hb dX2_isRow_10 (by decide) ?_
    refine lv_goto (tgt := 15) hx hb dX2_isRow_11 (by decide) ?_
    obtain ⟨q1, -⟩ := zI1 hf
    subst q1
    exact zRetZ hQ hx hb hr hlocks hA0 hK hP hD hS (by decide) rfl dX2_isRow_15
set_option maxHeartbeats 4000000 in
set_option maxRecDepth 100000 in
theorem pX2_cutOn (l : Launch) (D : va_G) (T : Nat → ClassId) (X : zFP) (hgh : Nat → Nat) (sz : Nat) (gh : zM) (a1 : Int32) (r : Int32) (hf : fX2_cutOn gh a1 = some r) : Met l yX2_cutOn wsX2_cutOn rX2_cutOn (zPre D T X [.ref (hgh 0), .int a1] (wX2 T hgh gh) sz) (zQi D T r (wX2 T hgh gh) (wX2 T hgh gh) sz) 0 0 (va_A (wX2 T hgh gh) sz) := by
  unfold fX2_cutOn at hf
  refine zStart [(0, .ref (hgh 0)), (1, .int a1)] (by decide) rfl (Nat.le_of_ble_eq_true rfl) rfl ?_
  intro p e s m args below meth c A Q ls hx hb hr hml hown hlocks hts hsz hA0 hQ hA hK hX hP hD hS hl
  replace hown : s.vm.findClass RX2 = some m.cls := hown
  have hH := hsz
  have hiX2 : ∀ w ∈ u_ws RX2 TX2 6, w ∈ wsX2_cutOn := fun w h => List.mem_cons_of_mem _ (List.mem_append_right _ (h))
  obtain ⟨H, hHe⟩ : ∃ H : Heap, H = s.heap := ⟨_, rfl⟩
  obtain ⟨locs, hLe⟩ : ∃ L : List Loc, L = [] := ⟨_, rfl⟩
  replace hP : va_P D vwCl (wX2 T hgh gh) H := by rw [hHe]; exact hP
  replace hS : va_S A s.heap H locs := by rw [hHe, hLe]; exact hS
  suffices hgo : W p l e rX2_cutOn s m args below meth c H locs 0 0 Q (F0 m 0 ls []) by rw [hHe, hLe] at hgo; exact hgo
  clear hHe hLe
  refine lv_aload_n hx hb dX2_cutOn_0 rfl (lv_at hl 0 rfl) ?_
  refine zGet (ci := 2) (C := RX2) (F := TX2) (N := 6) (v := .ref (hgh 4)) hx hb hts hiX2 hown hK hP 0 3 1 rfl rfl (by decide) rfl rfl rfl dX2_cutOn_1 ?_
  refine lv_iload_n hx hb dX2_cutOn_4 rfl (lv_at hl 1 rfl) ?_
  obtain ⟨hg, hf⟩ := zGd_ok hf
  refine zAldI hx hb hK hP 4 rfl hg dX2_cutOn_5 (fun v1 ev1 => ?_)
  replace hf := zLt_at ev1 hf
  refine lv_iconst (v := 1) hx hb dX2_cutOn_6 (by decide) ?_
  refine lv_icmp_ne (tgt := 19) hx hb dX2_cutOn_7 (by decide) (fun hc => ?_) (fun hc => ?_)
  · replace hf := zIf_f hc hf
    refine lv_iconst (v := (-1)) hx hb dX2_cutOn_19 (by decide) ?_
    obtain ⟨q1, -⟩ := zI1 hf
    subst q1
    exact zRetI hQ hx hb hr hlocks hA0 hK hP hD hS rfl dX2_cutOn_20
  · replace hf := zIf_t hc hf
    refine lv_aload_n hx hb dX2_cutOn_10 rfl (lv_at hl 0 rfl) ?_
    refine zGet (ci := 2) (C := RX2) (F := TX2) (N := 6) (v := .ref (hgh 5)) hx hb hts hiX2 hown hK hP 0 4 2 rfl rfl (by decide) rfl rfl rfl dX2_cutOn_11 ?_
    refine lv_iload_n hx hb dX2_cutOn_14 rfl (lv_at hl 1 rfl) ?_
    obtain ⟨hg, hf⟩ := zGd_ok hf
    refine zAldI hx hb hK hP 5 rfl hg dX2_cutOn_15 (fun v2 ev2 => ?_)
    replace hf := zLt_at ev2 hf
    refine lv_goto (tgt := 20) hx hb dX2_cutOn_16 (by decide) ?_
    obtain ⟨q1, -⟩ := zI1 hf
    subst q1
    exact zRetI hQ hx hb hr hlocks hA0 hK hP hD hS rfl dX2_cutOn_20
set_option maxHeartbeats 4000000 in
set_option maxRecDepth 100000 in
theorem pX3_lay (l : Launch) (D : va_G) (T : Nat → ClassId) (X : zFP) (hgn : Nat → Nat) (hgw : Nat → Nat) (sz : Nat) (gn : zM) (gw : zM) (a2 : Int32) (ngn : zM) (hf : fX3_lay gn gw a2 = some ngn) : Met l yX3_lay wsX3_lay rX3_lay (zPre D T X [.ref (hgn 0), .ref (hgw 0), .int a2] (wX3 T hgn gn ++ wX8 T hgw gw) sz) (zQv D T (wX3 T hgn ngn ++ wX8 T hgw gw) (wX3 T hgn gn ++ wX8 T hgw gw) sz) 0 0 (va_A (wX3 T hgn gn ++ wX8 T hgw gw) sz) := by
  unfold fX3_lay at hf
  refine zStart [(0, .ref (hgn 0)), (1, .ref (hgw 0)), (2, .int a2)] (by decide) rfl (Nat.le_of_ble_eq_true rfl) rfl ?_
  intro p e s m args below meth c A Q ls hx hb hr hml hown hlocks hts hsz hA0 hQ hA hK hX hP hD hS hl
  replace hown : s.vm.findClass RX3 = some m.cls := hown
  have hH := hsz
  have hiX3 : ∀ w ∈ u_ws RX3 TX3 1, w ∈ wsX3_lay := fun w h => List.mem_cons_of_mem _ (List.mem_append_left _ (List.mem_append_right _ (h)))
  have hiX8 : ∀ w ∈ u_ws RX8 TX8 14, w ∈ wsX3_lay := fun w h => List.mem_cons_of_mem _ (List.mem_append_right _ (h))
  obtain ⟨H, hHe⟩ : ∃ H : Heap, H = s.heap := ⟨_, rfl⟩
  obtain ⟨locs, hLe⟩ : ∃ L : List Loc, L = [] := ⟨_, rfl⟩
  replace hP : va_P D vwCl (wX3 T hgn gn ++ wX8 T hgw gw) H := by rw [hHe]; exact hP
  replace hS : va_S A s.heap H locs := by rw [hHe, hLe]; exact hS
  suffices hgo : W p l e rX3_lay s m args below meth c H locs 0 0 Q (F0 m 0 ls []) by rw [hHe, hLe] at hgo; exact hgo
  clear hHe hLe
  refine lv_aload_n hx hb dX3_lay_0 rfl (lv_at hl 0 rfl) ?_
  refine zGet (ci := 3) (C := RX3) (F := TX3) (N := 1) (v := .ref (hgn 1)) hx hb hts hiX3 hown hK hP 0 0 1 rfl rfl (by decide) rfl rfl rfl dX3_lay_1 ?_
  refine lv_iconst (v := 0) hx hb dX3_lay_4 (by decide) ?_
  obtain ⟨t1, hc5, hf⟩ := zB1_ok hf
  refine zCallFill (w := gn) (t := t1) ⟨hx, hb, hml, hown, hts⟩ (pJ7_fill_53178 l D T X (fun _ => (hgn 1)) H.size 10 (fun _ => gn 1) 0 t1 hc5) (va_cwS 2 hts gX3_lay_J7_fill_53178 rfl rfl rfl (by decide +kernel) ⟨Nat.le_of_ble_eq_true rfl, Nat.le_of_ble_eq_true rfl⟩) hK hP hD hS hA hX (fun g => wX3 T hgn g ++ wX8 T hgw gw) 1 1 rfl rfl hl.1 (Nat.le_of_ble_eq_true rfl) dX3_lay_5 ⟨Nat.zero_le _, Nat.zero_le _⟩ (fun gn_2 egn_2 H locs hP hD hS => ?_)
  replace hP : va_P D vwCl (wX3 T hgn gn_2 ++ wX8 T hgw gw) H := hP
  replace hD : va_D A (wX3 T hgn gn_2 ++ wX8 T hgw gw) := hD
  replace hf := zLt_at egn_2 hf
  refine lv_iconst (v := 0) hx hb dX3_lay_8 (by decide) ?_
  refine lv_istore_n (lv' := [(3, .int 0), (0, .ref (hgn 0)), (1, .ref (hgw 0)), (2, .int a2)]) hx hb dX3_lay_9 rfl hl (by decide) rfl (fun ls hl => ?_)
  obtain ⟨ex, hlp, hf⟩ := zB1_ok hf
  have hE10_76 : ∀ (gn_5 : zM) , ex = gn_5 → ∀ (H : Heap) (locs : List Loc) (ls : Array Slot), va_P D vwCl (wX3 T hgn gn_5 ++ wX8 T hgw gw) H → va_D A (wX3 T hgn gn_5 ++ wX8 T hgw gw) → va_S A s.heap H locs → lv_has ls 4 [] → W p l e rX3_lay s m args below meth c H locs 0 0 Q (F0 m 76 ls []) := by
    intro gn_5 hex H locs ls hP hD hS hl
    have hf := zEx1 hex hf
    obtain ⟨q1, -⟩ := zI1 hf
    subst q1
    exact zRetV hQ hx hb hr hlocks hA0 hK hP hD hS dX3_lay_76
  refine zLpS2 (body := (fX3_lay_L10 a2 gw)) (b := ex) (fun (v3 : Int32) (gn_4 : zM) => ∀ (H : Heap) (locs : List Loc) (ls : Array Slot), va_P D vwCl (wX3 T hgn gn_4 ++ wX8 T hgw gw) H → va_D A (wX3 T hgn gn_4 ++ wX8 T hgw gw) → va_S A s.heap H locs → lv_has ls 4 [(0, .ref (hgn 0)), (1, .ref (hgw 0)), (2, .int a2), (3, .int v3)] → W p l e rX3_lay s m args below meth c H locs 0 0 Q (F0 m 10 ls [])) ?_ zFU 0 gn_2 hlp H locs ls hP hD hS (lv_sub hl [1, 2, 3, 0] rfl)
  intro v3 gn_4 z hf hzz H locs ls hP hD hS hl
  unfold fX3_lay_L10 at hf
  replace hf := zUk2 hf
  refine lv_iload_n hx hb dX3_lay_10 rfl (lv_at hl 3 rfl) ?_
  refine lv_aload_n hx hb dX3_lay_11 rfl (lv_at hl 1 rfl) ?_
  refine zGet (ci := 8) (C := RX8) (F := TX8) (N := 14) (v := .int (gw 0 3)) hx hb hts hiX8 hown hK hP 2 3 2 rfl rfl (by decide) rfl rfl rfl dX3_lay_12 ?_
  refine lv_icmp_ge (tgt := 76) hx hb dX3_lay_15 (by decide) (fun hc => ?_) (fun hc => ?_)
  · replace hf := zIf_t hc hf
    cases hf
    exact hE10_76 gn_4 hzz.symm H locs ls hP hD hS (lv_sub hl [] rfl)
  · replace hf := zIf_f hc hf
    refine lv_iload_n hx hb dX3_lay_18 rfl (lv_at hl 2 rfl) ?_
    refine lv_iload_n hx hb dX3_lay_19 rfl (lv_at hl 3 rfl) ?_
    refine lv_ishr hx hb dX3_lay_20 ?_
    refine lv_iconst (v := 1) hx hb dX3_lay_21 (by decide) ?_
    refine lv_iand hx hb dX3_lay_22 ?_
    have hJ70 : ∀ (gn_6 : zM) (H : Heap) (locs : List Loc) (ls : Array Slot), fX3_lay_L10J70 v3 gn_6 = some z → va_P D vwCl (wX3 T hgn gn_6 ++ wX8 T hgw gw) H → va_D A (wX3 T hgn gn_6 ++ wX8 T hgw gw) → va_S A s.heap H locs → lv_has ls 4 [(0, .ref (hgn 0)), (1, .ref (hgw 0)), (2, .int a2), (3, .int v3)] → W p l e rX3_lay s m args below meth c H locs 0 0 Q (F0 m 70 ls []) := by
      intro gn_6 H locs ls hf hP hD hS hl
      unfold fX3_lay_L10J70 at hf
      obtain ⟨v7, ev7⟩ : ∃ y : Int32, y = v3 + 1 := ⟨_, rfl⟩
      replace hf := zLt_at ev7 hf
      refine lv_iinc (v := v7) (lv' := [(3, .int v7), (0, .ref (hgn 0)), (1, .ref (hgw 0)), (2, .int a2)]) hx hb dX3_lay_70 hl (k := 3) rfl (by rw [ev7]; rfl) (by decide) rfl (fun ls hl => ?_)
      refine lv_goto (tgt := 10) hx hb dX3_lay_73 (by decide) ?_
      cases hf
      exact hzz H locs ls hP hD hS (lv_sub hl [1, 2, 3, 0] rfl)
    refine lv_if_eq (tgt := 70) hx hb dX3_lay_23 (by decide) (fun hc => ?_) (fun hc => ?_)
    · replace hf := zIf_t hc hf
      exact hJ70 gn_4 H locs ls hf hP hD hS hl
    · replace hf := zIf_f hc hf
      refine lv_aload_n hx hb dX3_lay_26 rfl (lv_at hl 0 rfl) ?_
      refine zGet (ci := 3) (C := RX3) (F := TX3) (N := 1) (v := .ref (hgn 1)) hx hb hts hiX3 hown hK hP 0 0 1 rfl rfl (by decide) rfl rfl rfl dX3_lay_27 ?_
      refine lv_aload_n hx hb dX3_lay_30 rfl (lv_at hl 1 rfl) ?_
      refine zGet (ci := 8) (C := RX8) (F := TX8) (N := 14) (v := .ref (hgw 3)) hx hb hts hiX8 hown hK hP 2 4 3 rfl rfl (by decide) rfl rfl rfl dX3_lay_31 ?_
      refine lv_iload_n hx hb dX3_lay_34 rfl (lv_at hl 3 rfl) ?_
      obtain ⟨hg, hf⟩ := zGd_ok hf
      refine zAldI hx hb hK hP 5 rfl hg dX3_lay_35 (fun v8 ev8 => ?_)
      replace hf := zLt_at ev8 hf
      refine lv_dup2_11 hx hb dX3_lay_36 rfl rfl ?_
      obtain ⟨hg, hf⟩ := zGd_ok hf
      refine zAldI hx hb hK hP 1 rfl hg dX3_lay_37 (fun v9 ev9 => ?_)
      replace hf := zLt_at ev9 hf
      refine lv_iconst (v := 1) hx hb dX3_lay_38 (by decide) ?_
      refine lv_aload_n hx hb dX3_lay_39 rfl (lv_at hl 1 rfl) ?_
      refine zGet (ci := 8) (C := RX8) (F := TX8) (N := 14) (v := .ref (hgw 4)) hx hb hts hiX8 hown hK hP 2 5 4 rfl rfl (by decide) rfl rfl rfl dX3_lay_40 ?_
      refine lv_iload_n hx hb dX3_lay_43 rfl (lv_at hl 3 rfl) ?_
      obtain ⟨hg, hf⟩ := zGd_ok hf
      refine zAldI hx hb hK hP 6 rfl hg dX3_lay_44 (fun v10 ev10 => ?_)
      replace hf := zLt_at ev10 hf
      refine lv_ishl hx hb dX3_lay_45 ?_
      refine lv_ior hx hb dX3_lay_46 ?_
      refine lv_topi (fun v11 ev11 => ?_)
      replace hf := zLt_at ev11 hf
      obtain ⟨hg, hf⟩ := zGd_ok hf
      refine zAstI (w := gn_4) hx hb hK hP hD hS (fun g => wX3 T hgn g ++ wX8 T hgw gw) 1 1 rfl hg rfl dX3_lay_47 (fun gn_12 egn_12 H locs hP hD hS => ?_)
      replace hP : va_P D vwCl (wX3 T hgn gn_12 ++ wX8 T hgw gw) H := hP
      replace hD : va_D A (wX3 T hgn gn_12 ++ wX8 T hgw gw) := hD
      replace hf := zLt_at egn_12 hf
      refine lv_aload_n hx hb dX3_lay_48 rfl (lv_at hl 0 rfl) ?_
      refine zGet (ci := 3) (C := RX3) (F := TX3) (N := 1) (v := .ref (hgn 1)) hx hb hts hiX3 hown hK hP 0 0 1 rfl rfl (by decide) rfl rfl rfl dX3_lay_49 ?_
      refine lv_aload_n hx hb dX3_lay_52 rfl (lv_at hl 1 rfl) ?_
      refine zGet (ci := 8) (C := RX8) (F := TX8) (N := 14) (v := .ref (hgw 4)) hx hb hts hiX8 hown hK hP 2 5 4 rfl rfl (by decide) rfl rfl rfl dX3_lay_53 ?_
      refine lv_iload_n hx hb dX3_lay_56 rfl (lv_at hl 3 rfl) ?_
      obtain ⟨hg, hf⟩ := zGd_ok hf
      refine zAldI hx hb hK hP 6 rfl hg dX3_lay_57 (fun v13 ev13 => ?_)
      replace hf := zLt_at ev13 hf
      refine lv_dup2_11 hx hb dX3_lay_58 rfl rfl ?_
      obtain ⟨hg, hf⟩ := zGd_ok hf
      refine zAldI hx hb hK hP 1 rfl hg dX3_lay_59 (fun v14 ev14 => ?_)
      replace hf := zLt_at ev14 hf
      refine lv_iconst (v := 1) hx hb dX3_lay_60 (by decide) ?_
      refine lv_aload_n hx hb dX3_lay_61 rfl (lv_at hl 1 rfl) ?_
      refine zGet (ci := 8) (C := RX8) (F := TX8) (N := 14) (v := .ref (hgw 3)) hx hb hts hiX8 hown hK hP 2 4 3 rfl rfl (by decide) rfl rfl rfl dX3_lay_62 ?_
      refine lv_iload_n hx hb dX3_lay_65 rfl (lv_at hl 3 rfl) ?_
      obtain ⟨hg, hf⟩ := zGd_ok hf
      refine zAldI hx hb hK hP 5 rfl hg dX3_lay_66 (fun v15 ev15 => ?_)
      replace hf := zLt_at ev15 hf
      refine lv_ishl hx hb dX3_lay_67 ?_
      refine lv_ior hx hb dX3_lay_68 ?_
      refine lv_topi (fun v16 ev16 => ?_)
      replace hf := zLt_at ev16 hf
      obtain ⟨hg, hf⟩ := zGd_ok hf
      refine zAstI (w := gn_12) hx hb hK hP hD hS (fun g => wX3 T hgn g ++ wX8 T hgw gw) 1 1 rfl hg rfl dX3_lay_69 (fun gn_17 egn_17 H locs hP hD hS => ?_)
      replace hP : va_P D vwCl (wX3 T hgn gn_17 ++ wX8 T hgw gw) H := hP
      replace hD : va_D A (wX3 T hgn gn_17 ++ wX8 T hgw gw) := hD
      replace hf := zLt_at egn_17 hf
      exact hJ70 gn_17 H locs ls hf hP hD hS hl
set_option maxHeartbeats 4000000 in
set_option maxRecDepth 100000 in
theorem pX3_flood (l : Launch) (D : va_G) (T : Nat → ClassId) (X : zFP) (hgn : Nat → Nat) (sz : Nat) (gn : zM) (a1 : Int32) (a2 : Int32) (r : Int32) (hf : fX3_flood gn a1 a2 = some r) : Met l yX3_flood wsX3_flood rX3_flood (zPre D T X [.ref (hgn 0), .int a1, .int a2] (wX3 T hgn gn) sz) (zQi D T r (wX3 T hgn gn) (wX3 T hgn gn) sz) 0 0 (va_A (wX3 T hgn gn) sz) := by
  unfold fX3_flood at hf
  refine zStart [(0, .ref (hgn 0)), (1, .int a1), (2, .int a2)] (by decide) rfl (Nat.le_of_ble_eq_true rfl) rfl ?_
  intro p e s m args below meth c A Q ls hx hb hr hml hown hlocks hts hsz hA0 hQ hA hK hX hP hD hS hl
  replace hown : s.vm.findClass RX3 = some m.cls := hown
  have hH := hsz
  have hiX3 : ∀ w ∈ u_ws RX3 TX3 1, w ∈ wsX3_flood := fun w h => List.mem_cons_of_mem _ (List.mem_append_right _ (h))
  obtain ⟨H, hHe⟩ : ∃ H : Heap, H = s.heap := ⟨_, rfl⟩
  obtain ⟨locs, hLe⟩ : ∃ L : List Loc, L = [] := ⟨_, rfl⟩
  replace hP : va_P D vwCl (wX3 T hgn gn) H := by rw [hHe]; exact hP
  replace hS : va_S A s.heap H locs := by rw [hHe, hLe]; exact hS
  suffices hgo : W p l e rX3_flood s m args below meth c H locs 0 0 Q (F0 m 0 ls []) by rw [hHe, hLe] at hgo; exact hgo
  clear hHe hLe
  refine lv_iload_n hx hb dX3_flood_0 rfl (lv_at hl 1 rfl) ?_
  refine lv_iload_n hx hb dX3_flood_1 rfl (lv_at hl 2 rfl) ?_
  refine lv_iand hx hb dX3_flood_2 ?_
  refine lv_sipush (v := 1023) hx hb dX3_flood_3 (by decide) ?_
  refine lv_iand hx hb dX3_flood_6 ?_
  refine lv_topi (fun v1 ev1 => ?_)
  replace hf := zLt_at ev1 hf
  refine lv_istore_n (lv' := [(3, .int v1), (0, .ref (hgn 0)), (1, .int a1), (2, .int a2)]) hx hb dX3_flood_7 rfl hl (by decide) rfl (fun ls hl => ?_)
  refine lv_iload_n hx hb dX3_flood_8 rfl (lv_at hl 0 rfl) ?_
  refine lv_istore (lv' := [(4, .int v1), (3, .int v1), (0, .ref (hgn 0)), (1, .int a1), (2, .int a2)]) hx hb dX3_flood_9 hl (by decide) rfl (fun ls hl => ?_)
  refine lv_iconst (v := 0) hx hb dX3_flood_11 (by decide) ?_
  refine lv_istore (lv' := [(5, .int 0), (4, .int v1), (3, .int v1), (0, .ref (hgn 0)), (1, .int a1), (2, .int a2)]) hx hb dX3_flood_12 hl (by decide) rfl (fun ls hl => ?_)
  obtain ⟨ex, hlp, hf⟩ := zB1_ok hf
  have hE14_77 : ∀ (v5 : Int32) , ex = v5 → ∀ (H : Heap) (locs : List Loc) (ls : Array Slot), va_P D vwCl (wX3 T hgn gn) H → va_D A (wX3 T hgn gn) → va_S A s.heap H locs → lv_has ls 8 [(3, .int v5)] → W p l e rX3_flood s m args below meth c H locs 0 0 Q (F0 m 77 ls []) := by
    intro v5 hex H locs ls hP hD hS hl
    have hf := zEx1 hex hf
    refine lv_iload_n hx hb dX3_flood_77 rfl (lv_at hl 0 rfl) ?_
    obtain ⟨q1, -⟩ := zI1 hf
    subst q1
    exact zRetI hQ hx hb hr hlocks hA0 hK hP hD hS rfl dX3_flood_78
  refine zLpS3 (body := (fX3_flood_L14 a2 gn)) (b := ex) (fun (v2 : Int32) (v3 : Int32) (v4 : Int32) => ∀ (H : Heap) (locs : List Loc) (ls : Array Slot), va_P D vwCl (wX3 T hgn gn) H → va_D A (wX3 T hgn gn) → va_S A s.heap H locs → lv_has ls 8 [(0, .ref (hgn 0)), (2, .int a2), (3, .int v2), (4, .int v3), (5, .int v4)] → W p l e rX3_flood s m args below meth c H locs 0 0 Q (F0 m 14 ls [])) ?_ zFU v1 v1 0 hlp H locs ls hP hD hS (lv_sub hl [3, 5, 2, 1, 0] rfl)
  intro v2 v3 v4 z hf hzz H locs ls hP hD hS hl
  unfold fX3_flood_L14 at hf
  replace hf := zUk3 hf
  refine lv_iload hx hb dX3_flood_14 (lv_at hl 4 rfl) ?_
  refine lv_bipush (v := 10) hx hb dX3_flood_16 (by decide) ?_
  refine lv_icmp_ge (tgt := 77) hx hb dX3_flood_18 (by decide) (fun hc => ?_) (fun hc => ?_)
  · replace hf := zIf_t hc hf
    cases hf
    exact hE14_77 v2 hzz.symm H locs ls hP hD hS (lv_sub hl [2] rfl)
  · replace hf := zIf_f hc hf
    refine lv_iload hx hb dX3_flood_21 (lv_at hl 3 rfl) ?_
    refine lv_if_eq (tgt := 77) hx hb dX3_flood_23 (by decide) (fun hc => ?_) (fun hc => ?_)
    · replace hf := zIf_t hc hf
      cases hf
      exact hE14_77 v2 hzz.symm H locs ls hP hD hS (lv_sub hl [2] rfl)
    · replace hf := zIf_f hc hf
      refine lv_iload hx hb dX3_flood_26 (lv_at hl 3 rfl) ?_
      refine lv_iload hx hb dX3_flood_28 (lv_at hl 3 rfl) ?_
      refine lv_ineg hx hb dX3_flood_30 ?_
      refine lv_iand hx hb dX3_flood_31 ?_
      refine lv_iconst (v := 1) hx hb dX3_flood_32 (by decide) ?_
      refine lv_isub hx hb dX3_flood_33 ?_
      obtain ⟨v6, hc34, hf⟩ := zB1_ok hf
      refine zCallS0I [.int ((v3 &&& (-v3)) - 1)] ⟨hx, hb, hml, hown, hts⟩ (pJ6_bitCount_0f7a4 l D T X H.size ((v3 &&& (-v3)) - 1) v6 hc34) (va_cwS 1 hts gX3_flood_J6_bitCount_0f7a4 rfl rfl rfl (by decide +kernel) ⟨Nat.le_of_ble_eq_true rfl, Nat.le_of_ble_eq_true rfl⟩) hK hP hD hS hA hX rfl hl.1 rfl (Nat.le_of_ble_eq_true rfl) dX3_flood_34 ⟨Nat.zero_le _, Nat.zero_le _⟩ (fun H locs hP hD hS => ?_)
      refine lv_istore (lv' := [(6, .int v6), (0, .ref (hgn 0)), (2, .int a2), (3, .int v2), (4, .int v3), (5, .int v4)]) hx hb dX3_flood_37 hl (by decide) rfl (fun ls hl => ?_)
      refine lv_aload_n hx hb dX3_flood_39 rfl (lv_at hl 1 rfl) ?_
      refine zGet (ci := 3) (C := RX3) (F := TX3) (N := 1) (v := .ref (hgn 1)) hx hb hts hiX3 hown hK hP 0 0 1 rfl rfl (by decide) rfl rfl rfl dX3_flood_40 ?_
      refine lv_iload hx hb dX3_flood_43 (lv_at hl 0 rfl) ?_
      obtain ⟨hg, hf⟩ := zGd_ok hf
      refine zAldI hx hb hK hP 1 rfl hg dX3_flood_45 (fun v7 ev7 => ?_)
      replace hf := zLt_at ev7 hf
      refine lv_iload_n hx hb dX3_flood_46 rfl (lv_at hl 2 rfl) ?_
      refine lv_iand hx hb dX3_flood_47 ?_
      refine lv_iload_n hx hb dX3_flood_48 rfl (lv_at hl 3 rfl) ?_
      refine lv_iconst (v := (-1)) hx hb dX3_flood_49 (by decide) ?_
      refine lv_ixor hx hb dX3_flood_50 ?_
      refine lv_iand hx hb dX3_flood_51 ?_
      refine lv_topi (fun v8 ev8 => ?_)
      replace hf := zLt_at ev8 hf
      refine lv_istore (lv' := [(7, .int v8), (6, .int v6), (0, .ref (hgn 0)), (2, .int a2), (3, .int v2), (4, .int v3), (5, .int v4)]) hx hb dX3_flood_52 hl (by decide) rfl (fun ls hl => ?_)
      refine lv_iload_n hx hb dX3_flood_54 rfl (lv_at hl 4 rfl) ?_
      refine lv_iload hx hb dX3_flood_55 (lv_at hl 0 rfl) ?_
      refine lv_ior hx hb dX3_flood_57 ?_
      refine lv_topi (fun v9 ev9 => ?_)
      replace hf := zLt_at ev9 hf
      refine lv_istore_n (lv' := [(3, .int v9), (7, .int v8), (6, .int v6), (0, .ref (hgn 0)), (2, .int a2), (4, .int v3), (5, .int v4)]) hx hb dX3_flood_58 rfl hl (by decide) rfl (fun ls hl => ?_)
      refine lv_iload hx hb dX3_flood_59 (lv_at hl 5 rfl) ?_
      refine lv_iload hx hb dX3_flood_61 (lv_at hl 5 rfl) ?_
      refine lv_iconst (v := 1) hx hb dX3_flood_63 (by decide) ?_
      refine lv_isub hx hb dX3_flood_64 ?_
      refine lv_iand hx hb dX3_flood_65 ?_
      refine lv_iload hx hb dX3_flood_66 (lv_at hl 1 rfl) ?_
      refine lv_ior hx hb dX3_flood_68 ?_
      refine lv_topi (fun v10 ev10 => ?_)
      replace hf := zLt_at ev10 hf
      refine lv_istore (lv' := [(4, .int v10), (3, .int v9), (7, .int v8), (6, .int v6), (0, .ref (hgn 0)), (2, .int a2), (5, .int v4)]) hx hb dX3_flood_69 hl (by decide) rfl (fun ls hl => ?_)
      obtain ⟨v11, ev11⟩ : ∃ y : Int32, y = v4 + 1 := ⟨_, rfl⟩
      replace hf := zLt_at ev11 hf
      refine lv_iinc (v := v11) (lv' := [(5, .int v11), (4, .int v10), (3, .int v9), (7, .int v8), (6, .int v6), (0, .ref (hgn 0)), (2, .int a2)]) hx hb dX3_flood_71 hl (k := 6) rfl (by rw [ev11]; rfl) (by decide) rfl (fun ls hl => ?_)
      refine lv_goto (tgt := 14) hx hb dX3_flood_74 (by decide) ?_
      cases hf
      exact hzz H locs ls hP hD hS (lv_sub hl [5, 6, 2, 1, 0] rfl)
set_option maxHeartbeats 4000000 in
set_option maxRecDepth 100000 in
theorem pX3_around (l : Launch) (D : va_G) (T : Nat → ClassId) (X : zFP) (hgn : Nat → Nat) (sz : Nat) (gn : zM) (a1 : Int32) (r : Int32) (hf : fX3_around gn a1 = some r) : Met l yX3_around wsX3_around rX3_around (zPre D T X [.ref (hgn 0), .int a1] (wX3 T hgn gn) sz) (zQi D T r (wX3 T hgn gn) (wX3 T hgn gn) sz) 0 0 (va_A (wX3 T hgn gn) sz) := by
  unfold fX3_around at hf
  refine zStart [(0, .ref (hgn 0)), (1, .int a1)] (by decide) rfl (Nat.le_of_ble_eq_true rfl) rfl ?_
  intro p e s m args below meth c A Q ls hx hb hr hml hown hlocks hts hsz hA0 hQ hA hK hX hP hD hS hl
  replace hown : s.vm.findClass RX3 = some m.cls := hown
  have hH := hsz
  have hiX3 : ∀ w ∈ u_ws RX3 TX3 1, w ∈ wsX3_around := fun w h => List.mem_cons_of_mem _ (List.mem_append_right _ (h))
  obtain ⟨H, hHe⟩ : ∃ H : Heap, H = s.heap := ⟨_, rfl⟩
  obtain ⟨locs, hLe⟩ : ∃ L : List Loc, L = [] := ⟨_, rfl⟩
  replace hP : va_P D vwCl (wX3 T hgn gn) H := by rw [hHe]; exact hP
  replace hS : va_S A s.heap H locs := by rw [hHe, hLe]; exact hS
  suffices hgo : W p l e rX3_around s m args below meth c H locs 0 0 Q (F0 m 0 ls []) by rw [hHe, hLe] at hgo; exact hgo
  clear hHe hLe
  refine lv_iconst (v := 0) hx hb dX3_around_0 (by decide) ?_
  refine lv_istore_n (lv' := [(2, .int 0), (0, .ref (hgn 0)), (1, .int a1)]) hx hb dX3_around_1 rfl hl (by decide) rfl (fun ls hl => ?_)
  refine lv_iconst (v := 0) hx hb dX3_around_2 (by decide) ?_
  refine lv_istore_n (lv' := [(3, .int 0), (2, .int 0), (0, .ref (hgn 0)), (1, .int a1)]) hx hb dX3_around_3 rfl hl (by decide) rfl (fun ls hl => ?_)
  obtain ⟨ex, hlp, hf⟩ := zB1_ok hf
  have hE4_33 : ∀ (v3 : Int32) , ex = v3 → ∀ (H : Heap) (locs : List Loc) (ls : Array Slot), va_P D vwCl (wX3 T hgn gn) H → va_D A (wX3 T hgn gn) → va_S A s.heap H locs → lv_has ls 4 [(2, .int v3)] → W p l e rX3_around s m args below meth c H locs 0 0 Q (F0 m 33 ls []) := by
    intro v3 hex H locs ls hP hD hS hl
    have hf := zEx1 hex hf
    refine lv_iload_n hx hb dX3_around_33 rfl (lv_at hl 0 rfl) ?_
    obtain ⟨q1, -⟩ := zI1 hf
    subst q1
    exact zRetI hQ hx hb hr hlocks hA0 hK hP hD hS rfl dX3_around_34
  refine zLpS2 (body := (fX3_around_L4 a1 gn)) (b := ex) (fun (v1 : Int32) (v2 : Int32) => ∀ (H : Heap) (locs : List Loc) (ls : Array Slot), va_P D vwCl (wX3 T hgn gn) H → va_D A (wX3 T hgn gn) → va_S A s.heap H locs → lv_has ls 4 [(0, .ref (hgn 0)), (1, .int a1), (2, .int v1), (3, .int v2)] → W p l e rX3_around s m args below meth c H locs 0 0 Q (F0 m 4 ls [])) ?_ zFU 0 0 hlp H locs ls hP hD hS (lv_sub hl [2, 3, 1, 0] rfl)
  intro v1 v2 z hf hzz H locs ls hP hD hS hl
  unfold fX3_around_L4 at hf
  replace hf := zUk2 hf
  refine lv_iload_n hx hb dX3_around_4 rfl (lv_at hl 3 rfl) ?_
  refine lv_bipush (v := 10) hx hb dX3_around_5 (by decide) ?_
  refine lv_icmp_ge (tgt := 33) hx hb dX3_around_7 (by decide) (fun hc => ?_) (fun hc => ?_)
  · replace hf := zIf_t hc hf
    cases hf
    exact hE4_33 v1 hzz.symm H locs ls hP hD hS (lv_sub hl [2] rfl)
  · replace hf := zIf_f hc hf
    refine lv_iload_n hx hb dX3_around_10 rfl (lv_at hl 1 rfl) ?_
    refine lv_iload_n hx hb dX3_around_11 rfl (lv_at hl 3 rfl) ?_
    refine lv_ishr hx hb dX3_around_12 ?_
    refine lv_iconst (v := 1) hx hb dX3_around_13 (by decide) ?_
    refine lv_iand hx hb dX3_around_14 ?_
    have hJ27 : ∀ (v4 : Int32) (H : Heap) (locs : List Loc) (ls : Array Slot), fX3_around_L4J27 v2 v4 = some z → va_P D vwCl (wX3 T hgn gn) H → va_D A (wX3 T hgn gn) → va_S A s.heap H locs → lv_has ls 4 [(0, .ref (hgn 0)), (1, .int a1), (2, .int v4), (3, .int v2)] → W p l e rX3_around s m args below meth c H locs 0 0 Q (F0 m 27 ls []) := by
      intro v4 H locs ls hf hP hD hS hl
      unfold fX3_around_L4J27 at hf
      obtain ⟨v5, ev5⟩ : ∃ y : Int32, y = v2 + 1 := ⟨_, rfl⟩
      replace hf := zLt_at ev5 hf
      refine lv_iinc (v := v5) (lv' := [(3, .int v5), (0, .ref (hgn 0)), (1, .int a1), (2, .int v4)]) hx hb dX3_around_27 hl (k := 3) rfl (by rw [ev5]; rfl) (by decide) rfl (fun ls hl => ?_)
      refine lv_goto (tgt := 4) hx hb dX3_around_30 (by decide) ?_
      cases hf
      exact hzz H locs ls hP hD hS (lv_sub hl [1, 2, 3, 0] rfl)
    refine lv_if_eq (tgt := 27) hx hb dX3_around_15 (by decide) (fun hc => ?_) (fun hc => ?_)
    · replace hf := zIf_t hc hf
      exact hJ27 v1 H locs ls hf hP hD hS hl
    · replace hf := zIf_f hc hf
      refine lv_iload_n hx hb dX3_around_18 rfl (lv_at hl 2 rfl) ?_
      refine lv_aload_n hx hb dX3_around_19 rfl (lv_at hl 0 rfl) ?_
      refine zGet (ci := 3) (C := RX3) (F := TX3) (N := 1) (v := .ref (hgn 1)) hx hb hts hiX3 hown hK hP 0 0 1 rfl rfl (by decide) rfl rfl rfl dX3_around_20 ?_
      refine lv_iload_n hx hb dX3_around_23 rfl (lv_at hl 3 rfl) ?_
      obtain ⟨hg, hf⟩ := zGd_ok hf
      refine zAldI hx hb hK hP 1 rfl hg dX3_around_24 (fun v6 ev6 => ?_)
      replace hf := zLt_at ev6 hf
      refine lv_ior hx hb dX3_around_25 ?_
      refine lv_topi (fun v7 ev7 => ?_)
      replace hf := zLt_at ev7 hf
      refine lv_istore_n (lv' := [(2, .int v7), (0, .ref (hgn 0)), (1, .int a1), (3, .int v2)]) hx hb dX3_around_26 rfl hl (by decide) rfl (fun ls hl => ?_)
      exact hJ27 v7 H locs ls hf hP hD hS (lv_sub hl [1, 2, 0, 3] rfl)
set_option maxHeartbeats 4000000 in
set_option maxRecDepth 100000 in
theorem pX3_isThreatened (l : Launch) (D : va_G) (T : Nat → ClassId) (X : zFP) (hgn : Nat → Nat) (sz : Nat) (gn : zM) (a1 : Int32) (a2 : Int32) (r : Int32) (hf : fX3_isThreatened gn a1 a2 = some r) : Met l yX3_isThreatened wsX3_isThreatened rX3_isThreatened (zPre D T X [.ref (hgn 0), .int a1, .int a2] (wX3 T hgn gn) sz) (zQi D T r (wX3 T hgn gn) (wX3 T hgn gn) sz) 0 0 (va_A (wX3 T hgn gn) sz) := by
  unfold fX3_isThreatened at hf
  refine zStart [(0, .ref (hgn 0)), (1, .int a1), (2, .int a2)] (by decide) rfl (Nat.le_of_ble_eq_true rfl) rfl ?_
  intro p e s m args below meth c A Q ls hx hb hr hml hown hlocks hts hsz hA0 hQ hA hK hX hP hD hS hl
  replace hown : s.vm.findClass RX3 = some m.cls := hown
  have hH := hsz
  obtain ⟨H, hHe⟩ : ∃ H : Heap, H = s.heap := ⟨_, rfl⟩
  obtain ⟨locs, hLe⟩ : ∃ L : List Loc, L = [] := ⟨_, rfl⟩
  replace hP : va_P D vwCl (wX3 T hgn gn) H := by rw [hHe]; exact hP
  replace hS : va_S A s.heap H locs := by rw [hHe, hLe]; exact hS
  suffices hgo : W p l e rX3_isThreatened s m args below meth c H locs 0 0 Q (F0 m 0 ls []) by rw [hHe, hLe] at hgo; exact hgo
  clear hHe hLe
  refine lv_aload_n hx hb dX3_isThreatened_0 rfl (lv_at hl 0 rfl) ?_
  refine lv_iload_n hx hb dX3_isThreatened_1 rfl (lv_at hl 1 rfl) ?_
  obtain ⟨v1, hc2, hf⟩ := zB1_ok hf
  refine zCallVEI [.int a1] ⟨hx, hb, hml, hown, hts⟩ (pX3_around l D T X hgn H.size gn a1 v1 hc2) (cwV 1 hts gX3_isThreatened_X3_around rfl rfl rfl (by decide +kernel) ⟨Nat.le_of_ble_eq_true rfl, Nat.le_of_ble_eq_true rfl⟩) hK hP hD hS hA hX 0 rfl rfl rfl hl.1 rfl (Nat.le_of_ble_eq_true rfl) dX3_isThreatened_2 ⟨Nat.zero_le _, Nat.zero_le _⟩ (fun H locs hP hD hS => ?_)
  refine lv_iload_n hx hb dX3_isThreatened_5 rfl (lv_at hl 1 rfl) ?_
  refine lv_iconst (v := (-1)) hx hb dX3_isThreatened_6 (by decide) ?_
  refine lv_ixor hx hb dX3_isThreatened_7 ?_
  refine lv_iand hx hb dX3_isThreatened_8 ?_
  refine lv_iload_n hx hb dX3_isThreatened_9 rfl (lv_at hl 2 rfl) ?_
  refine lv_iconst (v := (-1)) hx hb dX3_isThreatened_10 (by decide) ?_
  refine lv_ixor hx hb dX3_isThreatened_11 ?_
  refine lv_iand hx hb dX3_isThreatened_12 ?_
  refine lv_if_eq (tgt := 20) hx hb dX3_isThreatened_13 (by decide) (fun hc => ?_) (fun hc => ?_)
  · replace hf := zIf_t hc hf
    refine lv_iconst (v := 0) hx hb dX3_isThreatened_20 (by decide) ?_
    obtain ⟨q1, -⟩ := zI1 hf
    subst q1
    exact zRetZ hQ hx hb hr hlocks hA0 hK hP hD hS (by decide) rfl dX3_isThreatened_21
  · replace hf := zIf_f hc hf
    refine lv_iconst (v := 1) hx hb dX3_isThreatened_16 (by decide) ?_
    refine lv_goto (tgt := 21) hx hb dX3_isThreatened_17 (by decide) ?_
    obtain ⟨q1, -⟩ := zI1 hf
    subst q1
    exact zRetZ hQ hx hb hr hlocks hA0 hK hP hD hS (by decide) rfl dX3_isThreatened_21
