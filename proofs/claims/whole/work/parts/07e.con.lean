-- X9_prove X9_row X9_alterRow X9_judge X9_chair X9_meet X9_tell X9_best X9_sheet X9_put X9_item X9_shelf X9_taken X9_act X9_trace X9_many X9_keep X9_back X10_in X10_isPerson X10_isTie X10_areTwo X10_isSide X10_all X10_its X10_ends X10_ones X10_inSet X10_feed X10_byteAt X10_isLetter X10_isDigit
set_option maxHeartbeats 4000000 in
set_option maxRecDepth 100000 in
theorem pX9_prove (l : Launch) (D : va_G) (T : Nat → ClassId) (X : zFP) (ad : Nat → Nat → Nat) (sz : Nat) (gx : zM) (gow : zM) (gd : zM) (gr : zM) (a1 : Int32) (a2 : Int32) (r : Int32) (ngd : zM) (ngr : zM) (hf : fX9_prove gx gow gd gr a1 a2 = some (r, ngd, ngr)) : Met l yX9_prove wsX9_prove rX9_prove (zPre D T X [.ref (ad 0 0), .int a1, .int a2] (wX9 T ad gx ++ wX8 T (ad 1) gow ++ wX1 T (ad 8) gd ++ wX5 T (ad 9) gr) sz) (zQi D T r (wX9 T ad gx ++ wX8 T (ad 1) gow ++ wX1 T (ad 8) ngd ++ wX5 T (ad 9) ngr) (wX9 T ad gx ++ wX8 T (ad 1) gow ++ wX1 T (ad 8) gd ++ wX5 T (ad 9) gr) sz) 0 0 (va_A (wX9 T ad gx ++ wX8 T (ad 1) gow ++ wX1 T (ad 8) gd ++ wX5 T (ad 9) gr) sz) := by
  unfold fX9_prove at hf
  refine zStart [(0, .ref (ad 0 0)), (1, .int a1), (2, .int a2)] (by decide) rfl (Nat.le_of_ble_eq_true rfl) rfl ?_
  intro p e s m args below meth c A Q ls hx hb hr hml hown hlocks hts hsz hA0 hQ hA hK hX hP hD hS hl
  replace hown : s.vm.findClass RX9 = some m.cls := hown
  have hH := hsz
  have hiX1 : ∀ w ∈ u_ws RX1 TX1 2, w ∈ wsX9_prove := fun w h => List.mem_cons_of_mem _ (List.mem_append_left _ (List.mem_append_left _ (List.mem_append_right _ (h))))
  have hiX5 : ∀ w ∈ u_ws RX5 TX5 2, w ∈ wsX9_prove := fun w h => List.mem_cons_of_mem _ (List.mem_append_left _ (List.mem_append_right _ (h)))
  have hiX9 : ∀ w ∈ u_ws RX9 TX9 12, w ∈ wsX9_prove := fun w h => List.mem_cons_of_mem _ (List.mem_append_left _ (List.mem_append_left _ (List.mem_append_left _ (List.mem_append_right _ (h)))))
  obtain ⟨H, hHe⟩ : ∃ H : Heap, H = s.heap := ⟨_, rfl⟩
  obtain ⟨locs, hLe⟩ : ∃ L : List Loc, L = [] := ⟨_, rfl⟩
  replace hP : va_P D vwCl (wX9 T ad gx ++ wX8 T (ad 1) gow ++ wX1 T (ad 8) gd ++ wX5 T (ad 9) gr) H := by rw [hHe]; exact hP
  replace hS : va_S A s.heap H locs := by rw [hHe, hLe]; exact hS
  suffices hgo : W p l e rX9_prove s m args below meth c H locs 0 0 Q (F0 m 0 ls []) by rw [hHe, hLe] at hgo; exact hgo
  clear hHe hLe
  refine lv_aload_n hx hb dX9_prove_0 rfl (lv_at hl 0 rfl) ?_
  refine zGet (ci := 9) (C := RX9) (F := TX9) (N := 12) (v := .ref (ad 1 0)) hx hb hts hiX9 hown hK hP 0 0 1 rfl rfl (by decide) rfl rfl rfl dX9_prove_1 ?_
  refine lv_iload_n hx hb dX9_prove_4 rfl (lv_at hl 1 rfl) ?_
  obtain ⟨v1, hc5, hf⟩ := zB1_ok hf
  refine zCallVJI (wr := wX9 T ad gx ++ wX1 T (ad 8) gd ++ wX5 T (ad 9) gr) (ws' := wX9 T ad gx ++ wX8 T (ad 1) gow ++ wX1 T (ad 8) gd ++ wX5 T (ad 9) gr) [.int a1] ⟨hx, hb, hml, hown, hts⟩ (pX8_hasPerson l D T X (ad 1) H.size gow a1 v1 hc5) (cwV 1 hts gX9_prove_X8_hasPerson rfl rfl rfl (by decide +kernel) ⟨Nat.le_of_ble_eq_true rfl, Nat.le_of_ble_eq_true rfl⟩) hK hP hD hS hA hX [1, 2, 3, 4, 5, 6, 7, 8, 9, 10, 11] [0, 12, 13, 14, 15, 16, 17, 18, 19, 20, 21, 22, 23, 24, 25, 26] [0, 16, 17, 18, 19, 20, 21, 22, 23, 24, 25, 26, 1, 2, 3, 4, 5, 6, 7, 8, 9, 10, 11, 12, 13, 14, 15] rfl rfl rfl rfl 0 rfl rfl rfl hl.1 rfl (Nat.le_of_ble_eq_true rfl) dX9_prove_5 ⟨Nat.zero_le _, Nat.zero_le _⟩ (fun H locs hP hD hS => ?_)
  refine lv_if_eq (tgt := 22) hx hb dX9_prove_8 (by decide) (fun hc => ?_) (fun hc => ?_)
  · replace hf := zIf_t hc hf
    refine lv_iconst (v := (-1)) hx hb dX9_prove_22 (by decide) ?_
    obtain ⟨q1, q2, q3⟩ := zI3 hf
    subst q1
    subst q2
    subst q3
    exact zRetI hQ hx hb hr hlocks hA0 hK hP hD hS rfl dX9_prove_23
  · replace hf := zIf_f hc hf
    refine lv_aload_n hx hb dX9_prove_11 rfl (lv_at hl 0 rfl) ?_
    refine zGet (ci := 9) (C := RX9) (F := TX9) (N := 12) (v := .ref (ad 1 0)) hx hb hts hiX9 hown hK hP 0 0 1 rfl rfl (by decide) rfl rfl rfl dX9_prove_12 ?_
    refine lv_iload_n hx hb dX9_prove_15 rfl (lv_at hl 2 rfl) ?_
    obtain ⟨v2, hc16, hf⟩ := zB1_ok hf
    refine zCallVJI (wr := wX9 T ad gx ++ wX1 T (ad 8) gd ++ wX5 T (ad 9) gr) (ws' := wX9 T ad gx ++ wX8 T (ad 1) gow ++ wX1 T (ad 8) gd ++ wX5 T (ad 9) gr) [.int a2] ⟨hx, hb, hml, hown, hts⟩ (pX8_hasPerson l D T X (ad 1) H.size gow a2 v2 hc16) (cwV 1 hts gX9_prove_X8_hasPerson rfl rfl rfl (by decide +kernel) ⟨Nat.le_of_ble_eq_true rfl, Nat.le_of_ble_eq_true rfl⟩) hK hP hD hS hA hX [1, 2, 3, 4, 5, 6, 7, 8, 9, 10, 11] [0, 12, 13, 14, 15, 16, 17, 18, 19, 20, 21, 22, 23, 24, 25, 26] [0, 16, 17, 18, 19, 20, 21, 22, 23, 24, 25, 26, 1, 2, 3, 4, 5, 6, 7, 8, 9, 10, 11, 12, 13, 14, 15] rfl rfl rfl rfl 0 rfl rfl rfl hl.1 rfl (Nat.le_of_ble_eq_true rfl) dX9_prove_16 ⟨Nat.zero_le _, Nat.zero_le _⟩ (fun H locs hP hD hS => ?_)
    refine lv_if_ne (tgt := 24) hx hb dX9_prove_19 (by decide) (fun hc => ?_) (fun hc => ?_)
    · replace hf := zIf_f hc hf
      refine lv_aload_n hx hb dX9_prove_24 rfl (lv_at hl 0 rfl) ?_
      refine zGet (ci := 9) (C := RX9) (F := TX9) (N := 12) (v := .ref (ad 8 0)) hx hb hts hiX9 hown hK hP 0 8 2 rfl rfl (by decide) rfl rfl rfl dX9_prove_25 ?_
      refine lv_aload_n hx hb dX9_prove_28 rfl (lv_at hl 0 rfl) ?_
      refine zGet (ci := 9) (C := RX9) (F := TX9) (N := 12) (v := .ref (ad 1 0)) hx hb hts hiX9 hown hK hP 0 0 1 rfl rfl (by decide) rfl rfl rfl dX9_prove_29 ?_
      refine lv_iload_n hx hb dX9_prove_32 rfl (lv_at hl 1 rfl) ?_
      obtain ⟨gd_3, hc33, hf⟩ := zB1_ok hf
      refine zCallVJV (wr := wX9 T ad gx ++ wX5 T (ad 9) gr) (ws' := wX9 T ad gx ++ wX8 T (ad 1) gow ++ wX1 T (ad 8) gd_3 ++ wX5 T (ad 9) gr) [.ref (ad 1 0), .int a1] ⟨hx, hb, hml, hown, hts⟩ (pX1_follow l D T X (ad 8) (ad 1) H.size gd gow a1 gd_3 hc33) (cwV 2 hts gX9_prove_X1_follow rfl rfl rfl (by decide +kernel) ⟨Nat.le_of_ble_eq_true rfl, Nat.le_of_ble_eq_true rfl⟩) hK hP hD hS hA hX [12, 13, 14, 1, 2, 3, 4, 5, 6, 7, 8, 9, 10, 11] [0, 15, 16, 17, 18, 19, 20, 21, 22, 23, 24, 25, 26] [0, 16, 17, 18, 19, 20, 21, 22, 23, 24, 25, 26, 13, 14, 15, 1, 2, 3, 4, 5, 6, 7, 8, 9, 10, 11, 12] rfl rfl rfl rfl 0 rfl rfl rfl hl.1 rfl (Nat.le_of_ble_eq_true rfl) dX9_prove_33 ⟨Nat.zero_le _, Nat.zero_le _⟩ (fun H locs hP hD hS => ?_)
      refine lv_aload_n hx hb dX9_prove_36 rfl (lv_at hl 0 rfl) ?_
      refine zGet (ci := 9) (C := RX9) (F := TX9) (N := 12) (v := .ref (ad 8 0)) hx hb hts hiX9 hown hK hP 0 8 2 rfl rfl (by decide) rfl rfl rfl dX9_prove_37 ?_
      refine zGet (ci := 1) (C := RX1) (F := TX1) (N := 2) (v := .ref (ad 8 1)) hx hb hts hiX1 hown hK hP 12 0 3 rfl rfl (by decide) rfl rfl rfl dX9_prove_40 ?_
      refine lv_iload_n hx hb dX9_prove_43 rfl (lv_at hl 2 rfl) ?_
      obtain ⟨hg, hf⟩ := zGd_ok hf
      refine zAldI hx hb hK hP 13 rfl hg dX9_prove_44 (fun v4 ev4 => ?_)
      replace hf := zLt_at ev4 hf
      refine lv_if_ge (tgt := 51) hx hb dX9_prove_45 (by decide) (fun hc => ?_) (fun hc => ?_)
      · replace hf := zIf_t hc hf
        refine lv_aload_n hx hb dX9_prove_51 rfl (lv_at hl 0 rfl) ?_
        refine zGet (ci := 9) (C := RX9) (F := TX9) (N := 12) (v := .ref (ad 9 0)) hx hb hts hiX9 hown hK hP 0 9 4 rfl rfl (by decide) rfl rfl rfl dX9_prove_52 ?_
        refine lv_aload_n hx hb dX9_prove_55 rfl (lv_at hl 0 rfl) ?_
        refine zGet (ci := 9) (C := RX9) (F := TX9) (N := 12) (v := .ref (ad 1 0)) hx hb hts hiX9 hown hK hP 0 0 1 rfl rfl (by decide) rfl rfl rfl dX9_prove_56 ?_
        refine lv_aload_n hx hb dX9_prove_59 rfl (lv_at hl 0 rfl) ?_
        refine zGet (ci := 9) (C := RX9) (F := TX9) (N := 12) (v := .ref (ad 8 0)) hx hb hts hiX9 hown hK hP 0 8 2 rfl rfl (by decide) rfl rfl rfl dX9_prove_60 ?_
        refine lv_iload_n hx hb dX9_prove_63 rfl (lv_at hl 2 rfl) ?_
        obtain ⟨gr_5, hc64, hf⟩ := zB1_ok hf
        refine zCallVJV (wr := wX9 T ad gx) (ws' := wX9 T ad gx ++ wX8 T (ad 1) gow ++ wX1 T (ad 8) gd_3 ++ wX5 T (ad 9) gr_5) [.ref (ad 1 0), .ref (ad 8 0), .int a2] ⟨hx, hb, hml, hown, hts⟩ (pX5_tellHow l D T X (ad 9) (ad 1) (ad 8) H.size gr gow gd_3 a2 gr_5 hc64) (cwV 3 hts gX9_prove_X5_tellHow rfl rfl rfl (by decide +kernel) ⟨Nat.le_of_ble_eq_true rfl, Nat.le_of_ble_eq_true rfl⟩) hK hP hD hS hA hX [15, 16, 17, 18, 19, 20, 21, 22, 23, 24, 25, 26, 1, 2, 3, 4, 5, 6, 7, 8, 9, 10, 11, 12, 13, 14] [0] [0, 13, 14, 15, 16, 17, 18, 19, 20, 21, 22, 23, 24, 25, 26, 1, 2, 3, 4, 5, 6, 7, 8, 9, 10, 11, 12] rfl rfl rfl rfl 0 rfl rfl rfl hl.1 rfl (Nat.le_of_ble_eq_true rfl) dX9_prove_64 ⟨Nat.zero_le _, Nat.zero_le _⟩ (fun H locs hP hD hS => ?_)
        refine lv_aload_n hx hb dX9_prove_67 rfl (lv_at hl 0 rfl) ?_
        refine zGet (ci := 9) (C := RX9) (F := TX9) (N := 12) (v := .ref (ad 9 0)) hx hb hts hiX9 hown hK hP 0 9 4 rfl rfl (by decide) rfl rfl rfl dX9_prove_68 ?_
        refine zGet (ci := 5) (C := RX5) (F := TX5) (N := 2) (v := .int (gr_5 0 1)) hx hb hts hiX5 hown hK hP 15 1 5 rfl rfl (by decide) rfl rfl rfl dX9_prove_71 ?_
        obtain ⟨q1, q2, q3⟩ := zI3 hf
        subst q1
        subst q2
        subst q3
        exact zRetI hQ hx hb hr hlocks hA0 hK hP hD hS rfl dX9_prove_74
      · replace hf := zIf_f hc hf
        refine lv_bipush (v := (-3)) hx hb dX9_prove_48 (by decide) ?_
        obtain ⟨q1, q2, q3⟩ := zI3 hf
        subst q1
        subst q2
        subst q3
        exact zRetI hQ hx hb hr hlocks hA0 hK hP hD hS rfl dX9_prove_50
    · replace hf := zIf_t hc hf
      refine lv_iconst (v := (-1)) hx hb dX9_prove_22 (by decide) ?_
      obtain ⟨q1, q2, q3⟩ := zI3 hf
      subst q1
      subst q2
      subst q3
      exact zRetI hQ hx hb hr hlocks hA0 hK hP hD hS rfl dX9_prove_23
set_option maxHeartbeats 4000000 in
set_option maxRecDepth 100000 in
theorem pX9_row (l : Launch) (D : va_G) (T : Nat → ClassId) (X : zFP) (ad : Nat → Nat → Nat) (sz : Nat) (gx : zM) (gr : zM) (a1 : Int32) (a2 : Int32) (r : Int32) (hf : fX9_row gx gr a1 a2 = some r) : Met l yX9_row wsX9_row rX9_row (zPre D T X [.ref (ad 0 0), .int a1, .int a2] (wX9 T ad gx ++ wX5 T (ad 9) gr) sz) (zQi D T r (wX9 T ad gx ++ wX5 T (ad 9) gr) (wX9 T ad gx ++ wX5 T (ad 9) gr) sz) 0 0 (va_A (wX9 T ad gx ++ wX5 T (ad 9) gr) sz) := by
  unfold fX9_row at hf
  refine zStart [(0, .ref (ad 0 0)), (1, .int a1), (2, .int a2)] (by decide) rfl (Nat.le_of_ble_eq_true rfl) rfl ?_
  intro p e s m args below meth c A Q ls hx hb hr hml hown hlocks hts hsz hA0 hQ hA hK hX hP hD hS hl
  replace hown : s.vm.findClass RX9 = some m.cls := hown
  have hH := hsz
  have hiX5 : ∀ w ∈ u_ws RX5 TX5 2, w ∈ wsX9_row := fun w h => List.mem_cons_of_mem _ (List.mem_append_right _ (h))
  have hiX9 : ∀ w ∈ u_ws RX9 TX9 12, w ∈ wsX9_row := fun w h => List.mem_cons_of_mem _ (List.mem_append_left _ (List.mem_append_right _ (h)))
  obtain ⟨H, hHe⟩ : ∃ H : Heap, H = s.heap := ⟨_, rfl⟩
  obtain ⟨locs, hLe⟩ : ∃ L : List Loc, L = [] := ⟨_, rfl⟩
  replace hP : va_P D vwCl (wX9 T ad gx ++ wX5 T (ad 9) gr) H := by rw [hHe]; exact hP
  replace hS : va_S A s.heap H locs := by rw [hHe, hLe]; exact hS
  suffices hgo : W p l e rX9_row s m args below meth c H locs 0 0 Q (F0 m 0 ls []) by rw [hHe, hLe] at hgo; exact hgo
  clear hHe hLe
  refine lv_aload_n hx hb dX9_row_0 rfl (lv_at hl 0 rfl) ?_
  refine zGet (ci := 9) (C := RX9) (F := TX9) (N := 12) (v := .ref (ad 9 0)) hx hb hts hiX9 hown hK hP 0 9 1 rfl rfl (by decide) rfl rfl rfl dX9_row_1 ?_
  refine lv_iload_n hx hb dX9_row_4 rfl (lv_at hl 1 rfl) ?_
  refine lv_iload_n hx hb dX9_row_5 rfl (lv_at hl 2 rfl) ?_
  obtain ⟨v1, hc6, hf⟩ := zB1_ok hf
  refine zCallVJI (wr := wX9 T ad gx) (ws' := wX9 T ad gx ++ wX5 T (ad 9) gr) [.int a1, .int a2] ⟨hx, hb, hml, hown, hts⟩ (pX5_has l D T X (ad 9) H.size gr a1 a2 v1 hc6) (cwV 2 hts gX9_row_X5_has rfl rfl rfl (by decide +kernel) ⟨Nat.le_of_ble_eq_true rfl, Nat.le_of_ble_eq_true rfl⟩) hK hP hD hS hA hX [1, 2, 3, 4, 5, 6, 7, 8, 9, 10, 11, 12] [0] [0, 1, 2, 3, 4, 5, 6, 7, 8, 9, 10, 11, 12] rfl rfl rfl rfl 0 rfl rfl rfl hl.1 rfl (Nat.le_of_ble_eq_true rfl) dX9_row_6 ⟨Nat.zero_le _, Nat.zero_le _⟩ (fun H locs hP hD hS => ?_)
  refine lv_if_eq (tgt := 26) hx hb dX9_row_9 (by decide) (fun hc => ?_) (fun hc => ?_)
  · replace hf := zIf_t hc hf
    refine lv_bipush (v := (-9)) hx hb dX9_row_26 (by decide) ?_
    obtain ⟨q1, -⟩ := zI1 hf
    subst q1
    exact zRetI hQ hx hb hr hlocks hA0 hK hP hD hS rfl dX9_row_28
  · replace hf := zIf_f hc hf
    refine lv_aload_n hx hb dX9_row_12 rfl (lv_at hl 0 rfl) ?_
    refine zGet (ci := 9) (C := RX9) (F := TX9) (N := 12) (v := .ref (ad 9 0)) hx hb hts hiX9 hown hK hP 0 9 1 rfl rfl (by decide) rfl rfl rfl dX9_row_13 ?_
    refine zGet (ci := 5) (C := RX5) (F := TX5) (N := 2) (v := .ref (ad 9 1)) hx hb hts hiX5 hown hK hP 1 0 2 rfl rfl (by decide) rfl rfl rfl dX9_row_16 ?_
    refine lv_iload_n hx hb dX9_row_19 rfl (lv_at hl 1 rfl) ?_
    obtain ⟨hin20, hf⟩ := zGd_ok hf
    refine zAldA (h := (ad 9)) hx hb hK hP 2 2 rfl hin20 dX9_row_20 ?_
    refine lv_iload_n hx hb dX9_row_21 rfl (lv_at hl 2 rfl) ?_
    obtain ⟨hg, hf⟩ := zGd_ok hf
    refine zAldI hx hb hK hP (3 + a1.toNatClampNeg) (zRow10 (P := fun k => (wX9 T ad gx ++ wX5 T (ad 9) gr)[3 + k]? = some ((ad 9 (2 + k)), .inl (T 0, 3, .inl (gr (2 + k))))) rfl rfl rfl rfl rfl rfl rfl rfl rfl rfl (zIn_lt hin20)) hg dX9_row_22 (fun v2 ev2 => ?_)
    replace hf := zLt_at ev2 hf
    refine lv_goto (tgt := 28) hx hb dX9_row_23 (by decide) ?_
    obtain ⟨q1, -⟩ := zI1 hf
    subst q1
    exact zRetI hQ hx hb hr hlocks hA0 hK hP hD hS rfl dX9_row_28
set_option maxHeartbeats 4000000 in
set_option maxRecDepth 100000 in
theorem pX9_alterRow (l : Launch) (D : va_G) (T : Nat → ClassId) (X : zFP) (ad : Nat → Nat → Nat) (sz : Nat) (gx : zM) (gr : zM) (a1 : Int32) (a2 : Int32) (a3 : Int32) (r : Int32) (ngr : zM) (hf : fX9_alterRow gx gr a1 a2 a3 = some (r, ngr)) : Met l yX9_alterRow wsX9_alterRow rX9_alterRow (zPre D T X [.ref (ad 0 0), .int a1, .int a2, .int a3] (wX9 T ad gx ++ wX5 T (ad 9) gr) sz) (zQi D T r (wX9 T ad gx ++ wX5 T (ad 9) ngr) (wX9 T ad gx ++ wX5 T (ad 9) gr) sz) 0 0 (va_A (wX9 T ad gx ++ wX5 T (ad 9) gr) sz) := by
  unfold fX9_alterRow at hf
  refine zStart [(0, .ref (ad 0 0)), (1, .int a1), (2, .int a2), (3, .int a3)] (by decide) rfl (Nat.le_of_ble_eq_true rfl) rfl ?_
  intro p e s m args below meth c A Q ls hx hb hr hml hown hlocks hts hsz hA0 hQ hA hK hX hP hD hS hl
  replace hown : s.vm.findClass RX9 = some m.cls := hown
  have hH := hsz
  have hiX5 : ∀ w ∈ u_ws RX5 TX5 2, w ∈ wsX9_alterRow := fun w h => List.mem_cons_of_mem _ (List.mem_append_right _ (h))
  have hiX9 : ∀ w ∈ u_ws RX9 TX9 12, w ∈ wsX9_alterRow := fun w h => List.mem_cons_of_mem _ (List.mem_append_left _ (List.mem_append_right _ (h)))
  obtain ⟨H, hHe⟩ : ∃ H : Heap, H = s.heap := ⟨_, rfl⟩
  obtain ⟨locs, hLe⟩ : ∃ L : List Loc, L = [] := ⟨_, rfl⟩
  replace hP : va_P D vwCl (wX9 T ad gx ++ wX5 T (ad 9) gr) H := by rw [hHe]; exact hP
  replace hS : va_S A s.heap H locs := by rw [hHe, hLe]; exact hS
  suffices hgo : W p l e rX9_alterRow s m args below meth c H locs 0 0 Q (F0 m 0 ls []) by rw [hHe, hLe] at hgo; exact hgo
  clear hHe hLe
  refine lv_aload_n hx hb dX9_alterRow_0 rfl (lv_at hl 0 rfl) ?_
  refine zGet (ci := 9) (C := RX9) (F := TX9) (N := 12) (v := .ref (ad 9 0)) hx hb hts hiX9 hown hK hP 0 9 1 rfl rfl (by decide) rfl rfl rfl dX9_alterRow_1 ?_
  refine lv_iload_n hx hb dX9_alterRow_4 rfl (lv_at hl 1 rfl) ?_
  refine lv_iload_n hx hb dX9_alterRow_5 rfl (lv_at hl 2 rfl) ?_
  obtain ⟨v1, hc6, hf⟩ := zB1_ok hf
  refine zCallVJI (wr := wX9 T ad gx) (ws' := wX9 T ad gx ++ wX5 T (ad 9) gr) [.int a1, .int a2] ⟨hx, hb, hml, hown, hts⟩ (pX5_has l D T X (ad 9) H.size gr a1 a2 v1 hc6) (cwV 2 hts gX9_alterRow_X5_has rfl rfl rfl (by decide +kernel) ⟨Nat.le_of_ble_eq_true rfl, Nat.le_of_ble_eq_true rfl⟩) hK hP hD hS hA hX [1, 2, 3, 4, 5, 6, 7, 8, 9, 10, 11, 12] [0] [0, 1, 2, 3, 4, 5, 6, 7, 8, 9, 10, 11, 12] rfl rfl rfl rfl 0 rfl rfl rfl hl.1 rfl (Nat.le_of_ble_eq_true rfl) dX9_alterRow_6 ⟨Nat.zero_le _, Nat.zero_le _⟩ (fun H locs hP hD hS => ?_)
  refine lv_if_ne (tgt := 15) hx hb dX9_alterRow_9 (by decide) (fun hc => ?_) (fun hc => ?_)
  · replace hf := zIf_f hc hf
    refine lv_aload_n hx hb dX9_alterRow_15 rfl (lv_at hl 0 rfl) ?_
    refine zGet (ci := 9) (C := RX9) (F := TX9) (N := 12) (v := .ref (ad 9 0)) hx hb hts hiX9 hown hK hP 0 9 1 rfl rfl (by decide) rfl rfl rfl dX9_alterRow_16 ?_
    refine zGet (ci := 5) (C := RX5) (F := TX5) (N := 2) (v := .ref (ad 9 1)) hx hb hts hiX5 hown hK hP 1 0 2 rfl rfl (by decide) rfl rfl rfl dX9_alterRow_19 ?_
    refine lv_iload_n hx hb dX9_alterRow_22 rfl (lv_at hl 1 rfl) ?_
    obtain ⟨hin23, hf⟩ := zGd_ok hf
    refine zAldA (h := (ad 9)) hx hb hK hP 2 2 rfl hin23 dX9_alterRow_23 ?_
    refine lv_iload_n hx hb dX9_alterRow_24 rfl (lv_at hl 2 rfl) ?_
    obtain ⟨hg, hf⟩ := zGd_ok hf
    refine zAldI hx hb hK hP (3 + a1.toNatClampNeg) (zRow10 (P := fun k => (wX9 T ad gx ++ wX5 T (ad 9) gr)[3 + k]? = some ((ad 9 (2 + k)), .inl (T 0, 3, .inl (gr (2 + k))))) rfl rfl rfl rfl rfl rfl rfl rfl rfl rfl (zIn_lt hin23)) hg dX9_alterRow_25 (fun v2 ev2 => ?_)
    replace hf := zLt_at ev2 hf
    refine lv_istore (lv' := [(4, .int v2), (0, .ref (ad 0 0)), (1, .int a1), (2, .int a2), (3, .int a3)]) hx hb dX9_alterRow_26 hl (by decide) rfl (fun ls hl => ?_)
    refine lv_aload_n hx hb dX9_alterRow_28 rfl (lv_at hl 1 rfl) ?_
    refine zGet (ci := 9) (C := RX9) (F := TX9) (N := 12) (v := .ref (ad 9 0)) hx hb hts hiX9 hown hK hP 0 9 1 rfl rfl (by decide) rfl rfl rfl dX9_alterRow_29 ?_
    refine zGet (ci := 5) (C := RX5) (F := TX5) (N := 2) (v := .ref (ad 9 1)) hx hb hts hiX5 hown hK hP 1 0 2 rfl rfl (by decide) rfl rfl rfl dX9_alterRow_32 ?_
    refine lv_iload_n hx hb dX9_alterRow_35 rfl (lv_at hl 2 rfl) ?_
    obtain ⟨hin36, hf⟩ := zGd_ok hf
    refine zAldA (h := (ad 9)) hx hb hK hP 2 2 rfl hin36 dX9_alterRow_36 ?_
    refine lv_iload_n hx hb dX9_alterRow_37 rfl (lv_at hl 3 rfl) ?_
    refine lv_iload_n hx hb dX9_alterRow_38 rfl (lv_at hl 4 rfl) ?_
    obtain ⟨hg, hf⟩ := zGd_ok hf
    refine zAstI (w := gr) hx hb hK hP hD hS (fun g => wX9 T ad gx ++ wX5 T (ad 9) g) (3 + a1.toNatClampNeg) (2 + a1.toNatClampNeg) (zRow10 (P := fun k => (wX9 T ad gx ++ wX5 T (ad 9) gr)[3 + k]? = some ((ad 9 (2 + k)), .inl (T 0, 3, .inl (gr (2 + k))))) rfl rfl rfl rfl rfl rfl rfl rfl rfl rfl (zIn_lt hin36)) hg (zRow10 (P := fun k => (wX9 T ad gx ++ wX5 T (ad 9) gr).set (3 + k) ((ad 9 (2 + k)), .inl (T 0, 3, .inl (upd (gr (2 + k)) a2.toNatClampNeg a3))) = wX9 T ad gx ++ wX5 T (ad 9) (zPu gr (2 + k) a2.toNatClampNeg a3)) rfl rfl rfl rfl rfl rfl rfl rfl rfl rfl (zIn_lt hin36)) dX9_alterRow_39 (fun gr_3 egr_3 H locs hP hD hS => ?_)
    replace hP : va_P D vwCl (wX9 T ad gx ++ wX5 T (ad 9) gr_3) H := hP
    replace hD : va_D A (wX9 T ad gx ++ wX5 T (ad 9) gr_3) := hD
    replace hf := zLt_at egr_3 hf
    refine lv_iload hx hb dX9_alterRow_40 (lv_at hl 0 rfl) ?_
    obtain ⟨q1, q2⟩ := zI2 hf
    subst q1
    subst q2
    exact zRetI hQ hx hb hr hlocks hA0 hK hP hD hS rfl dX9_alterRow_42
  · replace hf := zIf_t hc hf
    refine lv_bipush (v := (-9)) hx hb dX9_alterRow_12 (by decide) ?_
    obtain ⟨q1, q2⟩ := zI2 hf
    subst q1
    subst q2
    exact zRetI hQ hx hb hr hlocks hA0 hK hP hD hS rfl dX9_alterRow_14
set_option maxHeartbeats 4000000 in
set_option maxRecDepth 100000 in
theorem pX9_judge (l : Launch) (D : va_G) (T : Nat → ClassId) (X : zFP) (ad : Nat → Nat → Nat) (sz : Nat) (gx : zM) (gow : zM) (gr : zM) (a1 : Int32) (a2 : Int32) (r : Int32) (hf : fX9_judge gx gow gr a1 a2 = some r) : Met l yX9_judge wsX9_judge rX9_judge (zPre D T X [.ref (ad 0 0), .int a1, .int a2] (wX9 T ad gx ++ wX8 T (ad 1) gow ++ wX5 T (ad 9) gr) sz) (zQi D T r (wX9 T ad gx ++ wX8 T (ad 1) gow ++ wX5 T (ad 9) gr) (wX9 T ad gx ++ wX8 T (ad 1) gow ++ wX5 T (ad 9) gr) sz) 0 0 (va_A (wX9 T ad gx ++ wX8 T (ad 1) gow ++ wX5 T (ad 9) gr) sz) := by
  unfold fX9_judge at hf
  refine zStart [(0, .ref (ad 0 0)), (1, .int a1), (2, .int a2)] (by decide) rfl (Nat.le_of_ble_eq_true rfl) rfl ?_
  intro p e s m args below meth c A Q ls hx hb hr hml hown hlocks hts hsz hA0 hQ hA hK hX hP hD hS hl
  replace hown : s.vm.findClass RX9 = some m.cls := hown
  have hH := hsz
  have hiX9 : ∀ w ∈ u_ws RX9 TX9 12, w ∈ wsX9_judge := fun w h => List.mem_cons_of_mem _ (List.mem_append_left _ (List.mem_append_left _ (List.mem_append_right _ (h))))
  obtain ⟨H, hHe⟩ : ∃ H : Heap, H = s.heap := ⟨_, rfl⟩
  obtain ⟨locs, hLe⟩ : ∃ L : List Loc, L = [] := ⟨_, rfl⟩
  replace hP : va_P D vwCl (wX9 T ad gx ++ wX8 T (ad 1) gow ++ wX5 T (ad 9) gr) H := by rw [hHe]; exact hP
  replace hS : va_S A s.heap H locs := by rw [hHe, hLe]; exact hS
  suffices hgo : W p l e rX9_judge s m args below meth c H locs 0 0 Q (F0 m 0 ls []) by rw [hHe, hLe] at hgo; exact hgo
  clear hHe hLe
  refine lv_aload_n hx hb dX9_judge_0 rfl (lv_at hl 0 rfl) ?_
  refine zGet (ci := 9) (C := RX9) (F := TX9) (N := 12) (v := .ref (ad 1 0)) hx hb hts hiX9 hown hK hP 0 0 1 rfl rfl (by decide) rfl rfl rfl dX9_judge_1 ?_
  refine lv_iload_n hx hb dX9_judge_4 rfl (lv_at hl 1 rfl) ?_
  obtain ⟨v1, hc5, hf⟩ := zB1_ok hf
  refine zCallVJI (wr := wX9 T ad gx ++ wX5 T (ad 9) gr) (ws' := wX9 T ad gx ++ wX8 T (ad 1) gow ++ wX5 T (ad 9) gr) [.int a1] ⟨hx, hb, hml, hown, hts⟩ (pX8_hasPerson l D T X (ad 1) H.size gow a1 v1 hc5) (cwV 1 hts gX9_judge_X8_hasPerson rfl rfl rfl (by decide +kernel) ⟨Nat.le_of_ble_eq_true rfl, Nat.le_of_ble_eq_true rfl⟩) hK hP hD hS hA hX [1, 2, 3, 4, 5, 6, 7, 8, 9, 10, 11] [0, 12, 13, 14, 15, 16, 17, 18, 19, 20, 21, 22, 23] [0, 13, 14, 15, 16, 17, 18, 19, 20, 21, 22, 23, 1, 2, 3, 4, 5, 6, 7, 8, 9, 10, 11, 12] rfl rfl rfl rfl 0 rfl rfl rfl hl.1 rfl (Nat.le_of_ble_eq_true rfl) dX9_judge_5 ⟨Nat.zero_le _, Nat.zero_le _⟩ (fun H locs hP hD hS => ?_)
  refine lv_if_eq (tgt := 22) hx hb dX9_judge_8 (by decide) (fun hc => ?_) (fun hc => ?_)
  · replace hf := zIf_t hc hf
    refine lv_iconst (v := (-1)) hx hb dX9_judge_22 (by decide) ?_
    obtain ⟨q1, -⟩ := zI1 hf
    subst q1
    exact zRetI hQ hx hb hr hlocks hA0 hK hP hD hS rfl dX9_judge_23
  · replace hf := zIf_f hc hf
    refine lv_aload_n hx hb dX9_judge_11 rfl (lv_at hl 0 rfl) ?_
    refine zGet (ci := 9) (C := RX9) (F := TX9) (N := 12) (v := .ref (ad 1 0)) hx hb hts hiX9 hown hK hP 0 0 1 rfl rfl (by decide) rfl rfl rfl dX9_judge_12 ?_
    refine lv_iload_n hx hb dX9_judge_15 rfl (lv_at hl 2 rfl) ?_
    obtain ⟨v2, hc16, hf⟩ := zB1_ok hf
    refine zCallVJI (wr := wX9 T ad gx ++ wX5 T (ad 9) gr) (ws' := wX9 T ad gx ++ wX8 T (ad 1) gow ++ wX5 T (ad 9) gr) [.int a2] ⟨hx, hb, hml, hown, hts⟩ (pX8_hasPerson l D T X (ad 1) H.size gow a2 v2 hc16) (cwV 1 hts gX9_judge_X8_hasPerson rfl rfl rfl (by decide +kernel) ⟨Nat.le_of_ble_eq_true rfl, Nat.le_of_ble_eq_true rfl⟩) hK hP hD hS hA hX [1, 2, 3, 4, 5, 6, 7, 8, 9, 10, 11] [0, 12, 13, 14, 15, 16, 17, 18, 19, 20, 21, 22, 23] [0, 13, 14, 15, 16, 17, 18, 19, 20, 21, 22, 23, 1, 2, 3, 4, 5, 6, 7, 8, 9, 10, 11, 12] rfl rfl rfl rfl 0 rfl rfl rfl hl.1 rfl (Nat.le_of_ble_eq_true rfl) dX9_judge_16 ⟨Nat.zero_le _, Nat.zero_le _⟩ (fun H locs hP hD hS => ?_)
    refine lv_if_ne (tgt := 24) hx hb dX9_judge_19 (by decide) (fun hc => ?_) (fun hc => ?_)
    · replace hf := zIf_f hc hf
      refine lv_aload_n hx hb dX9_judge_24 rfl (lv_at hl 0 rfl) ?_
      refine zGet (ci := 9) (C := RX9) (F := TX9) (N := 12) (v := .ref (ad 9 0)) hx hb hts hiX9 hown hK hP 0 9 2 rfl rfl (by decide) rfl rfl rfl dX9_judge_25 ?_
      refine lv_aload_n hx hb dX9_judge_28 rfl (lv_at hl 0 rfl) ?_
      refine zGet (ci := 9) (C := RX9) (F := TX9) (N := 12) (v := .ref (ad 1 0)) hx hb hts hiX9 hown hK hP 0 0 1 rfl rfl (by decide) rfl rfl rfl dX9_judge_29 ?_
      refine lv_iload_n hx hb dX9_judge_32 rfl (lv_at hl 1 rfl) ?_
      refine lv_iload_n hx hb dX9_judge_33 rfl (lv_at hl 2 rfl) ?_
      obtain ⟨v3, hc34, hf⟩ := zB1_ok hf
      refine zCallVJI (wr := wX9 T ad gx) (ws' := wX9 T ad gx ++ wX8 T (ad 1) gow ++ wX5 T (ad 9) gr) [.ref (ad 1 0), .int a1, .int a2] ⟨hx, hb, hml, hown, hts⟩ (pX5_verdict l D T X (ad 9) (ad 1) H.size gr gow a1 a2 v3 hc34) (cwV 3 hts gX9_judge_X5_verdict rfl rfl rfl (by decide +kernel) ⟨Nat.le_of_ble_eq_true rfl, Nat.le_of_ble_eq_true rfl⟩) hK hP hD hS hA hX [12, 13, 14, 15, 16, 17, 18, 19, 20, 21, 22, 23, 1, 2, 3, 4, 5, 6, 7, 8, 9, 10, 11] [0] [0, 13, 14, 15, 16, 17, 18, 19, 20, 21, 22, 23, 1, 2, 3, 4, 5, 6, 7, 8, 9, 10, 11, 12] rfl rfl rfl rfl 0 rfl rfl rfl hl.1 rfl (Nat.le_of_ble_eq_true rfl) dX9_judge_34 ⟨Nat.zero_le _, Nat.zero_le _⟩ (fun H locs hP hD hS => ?_)
      obtain ⟨q1, -⟩ := zI1 hf
      subst q1
      exact zRetI hQ hx hb hr hlocks hA0 hK hP hD hS rfl dX9_judge_37
    · replace hf := zIf_t hc hf
      refine lv_iconst (v := (-1)) hx hb dX9_judge_22 (by decide) ?_
      obtain ⟨q1, -⟩ := zI1 hf
      subst q1
      exact zRetI hQ hx hb hr hlocks hA0 hK hP hD hS rfl dX9_judge_23
set_option maxHeartbeats 4000000 in
set_option maxRecDepth 100000 in
theorem pX9_chair (l : Launch) (D : va_G) (T : Nat → ClassId) (X : zFP) (ad : Nat → Nat → Nat) (sz : Nat) (gx : zM) (gow : zM) (gn : zM) (a1 : Int32) (r : Int32) (ngn : zM) (hf : fX9_chair gx gow gn a1 = some (r, ngn)) : Met l yX9_chair wsX9_chair rX9_chair (zPre D T X [.ref (ad 0 0), .int a1] (wX9 T ad gx ++ wX8 T (ad 1) gow ++ wX3 T (ad 5) gn) sz) (zQi D T r (wX9 T ad gx ++ wX8 T (ad 1) gow ++ wX3 T (ad 5) ngn) (wX9 T ad gx ++ wX8 T (ad 1) gow ++ wX3 T (ad 5) gn) sz) 0 0 (va_A (wX9 T ad gx ++ wX8 T (ad 1) gow ++ wX3 T (ad 5) gn) sz) := by
  unfold fX9_chair at hf
  refine zStart [(0, .ref (ad 0 0)), (1, .int a1)] (by decide) rfl (Nat.le_of_ble_eq_true rfl) rfl ?_
  intro p e s m args below meth c A Q ls hx hb hr hml hown hlocks hts hsz hA0 hQ hA hK hX hP hD hS hl
  replace hown : s.vm.findClass RX9 = some m.cls := hown
  have hH := hsz
  have hiX8 : ∀ w ∈ u_ws RX8 TX8 14, w ∈ wsX9_chair := fun w h => List.mem_cons_of_mem _ (List.mem_append_left _ (List.mem_append_right _ (h)))
  have hiX9 : ∀ w ∈ u_ws RX9 TX9 12, w ∈ wsX9_chair := fun w h => List.mem_cons_of_mem _ (List.mem_append_left _ (List.mem_append_left _ (List.mem_append_right _ (h))))
  obtain ⟨H, hHe⟩ : ∃ H : Heap, H = s.heap := ⟨_, rfl⟩
  obtain ⟨locs, hLe⟩ : ∃ L : List Loc, L = [] := ⟨_, rfl⟩
  replace hP : va_P D vwCl (wX9 T ad gx ++ wX8 T (ad 1) gow ++ wX3 T (ad 5) gn) H := by rw [hHe]; exact hP
  replace hS : va_S A s.heap H locs := by rw [hHe, hLe]; exact hS
  suffices hgo : W p l e rX9_chair s m args below meth c H locs 0 0 Q (F0 m 0 ls []) by rw [hHe, hLe] at hgo; exact hgo
  clear hHe hLe
  refine lv_iload_n hx hb dX9_chair_0 rfl (lv_at hl 1 rfl) ?_
  obtain ⟨v1, hc1, hf⟩ := zB1_ok hf
  refine zCallS0I [.int a1] ⟨hx, hb, hml, hown, hts⟩ (pX9_isEither l D T X H.size a1 v1 hc1) (va_cwS 1 hts gX9_chair_X9_isEither rfl rfl rfl (by decide +kernel) ⟨Nat.le_of_ble_eq_true rfl, Nat.le_of_ble_eq_true rfl⟩) hK hP hD hS hA hX rfl hl.1 rfl (Nat.le_of_ble_eq_true rfl) dX9_chair_1 ⟨Nat.zero_le _, Nat.zero_le _⟩ (fun H locs hP hD hS => ?_)
  refine lv_if_ne (tgt := 9) hx hb dX9_chair_4 (by decide) (fun hc => ?_) (fun hc => ?_)
  · replace hf := zIf_f hc hf
    refine lv_aload_n hx hb dX9_chair_9 rfl (lv_at hl 0 rfl) ?_
    obtain ⟨gn_2, hc10, hf⟩ := zB1_ok hf
    refine zCallVEV [] ⟨hx, hb, hml, hown, hts⟩ (pX9_layOpenTies l D T X ad H.size gx gow gn gn_2 hc10) (cwV 0 hts gX9_chair_X9_layOpenTies rfl rfl rfl (by decide +kernel) ⟨Nat.le_of_ble_eq_true rfl, Nat.le_of_ble_eq_true rfl⟩) hK hP hD hS hA hX 0 rfl rfl rfl hl.1 rfl (Nat.le_of_ble_eq_true rfl) dX9_chair_10 ⟨Nat.zero_le _, Nat.zero_le _⟩ (fun H locs hP hD hS => ?_)
    refine lv_bipush (v := 11) hx hb dX9_chair_13 (by decide) ?_
    refine lv_istore_n (lv' := [(2, .int 11), (0, .ref (ad 0 0)), (1, .int a1)]) hx hb dX9_chair_15 rfl hl (by decide) rfl (fun ls hl => ?_)
    refine lv_iconst (v := 0) hx hb dX9_chair_16 (by decide) ?_
    refine lv_istore_n (lv' := [(3, .int 0), (2, .int 11), (0, .ref (ad 0 0)), (1, .int a1)]) hx hb dX9_chair_17 rfl hl (by decide) rfl (fun ls hl => ?_)
    refine lv_iconst (v := 0) hx hb dX9_chair_18 (by decide) ?_
    refine lv_istore (lv' := [(4, .int 0), (3, .int 0), (2, .int 11), (0, .ref (ad 0 0)), (1, .int a1)]) hx hb dX9_chair_19 hl (by decide) rfl (fun ls hl => ?_)
    obtain ⟨ex, hlp, hf⟩ := zB1_ok hf
    have hE21_74 : ∀ (v6 : Int32) (v7 : Int32) , ex = (v6, v7) → ∀ (H : Heap) (locs : List Loc) (ls : Array Slot), va_P D vwCl (wX9 T ad gx ++ wX8 T (ad 1) gow ++ wX3 T (ad 5) gn_2) H → va_D A (wX9 T ad gx ++ wX8 T (ad 1) gow ++ wX3 T (ad 5) gn_2) → va_S A s.heap H locs → lv_has ls 6 [(1, .int a1), (2, .int v6), (3, .int v7)] → W p l e rX9_chair s m args below meth c H locs 0 0 Q (F0 m 74 ls []) := by
      intro v6 v7 hex H locs ls hP hD hS hl
      have hf := zEx2 hex hf
      refine lv_iload_n hx hb dX9_chair_74 rfl (lv_at hl 0 rfl) ?_
      refine lv_if_ne (tgt := 82) hx hb dX9_chair_75 (by decide) (fun hc => ?_) (fun hc => ?_)
      · replace hf := zIf_f hc hf
        refine lv_iload_n hx hb dX9_chair_82 rfl (lv_at hl 1 rfl) ?_
        obtain ⟨q1, q2⟩ := zI2 hf
        subst q1
        subst q2
        exact zRetI hQ hx hb hr hlocks hA0 hK hP hD hS rfl dX9_chair_83
      · replace hf := zIf_t hc hf
        refine lv_iload_n hx hb dX9_chair_78 rfl (lv_at hl 2 rfl) ?_
        refine lv_goto (tgt := 83) hx hb dX9_chair_79 (by decide) ?_
        obtain ⟨q1, q2⟩ := zI2 hf
        subst q1
        subst q2
        exact zRetI hQ hx hb hr hlocks hA0 hK hP hD hS rfl dX9_chair_83
    refine zLpS3 (body := (fX9_chair_L21 gow gn_2)) (b := ex) (fun (v3 : Int32) (v4 : Int32) (v5 : Int32) => ∀ (H : Heap) (locs : List Loc) (ls : Array Slot), va_P D vwCl (wX9 T ad gx ++ wX8 T (ad 1) gow ++ wX3 T (ad 5) gn_2) H → va_D A (wX9 T ad gx ++ wX8 T (ad 1) gow ++ wX3 T (ad 5) gn_2) → va_S A s.heap H locs → lv_has ls 6 [(0, .ref (ad 0 0)), (1, .int a1), (2, .int v3), (3, .int v4), (4, .int v5)] → W p l e rX9_chair s m args below meth c H locs 0 0 Q (F0 m 21 ls [])) ?_ zFU 11 0 0 hlp H locs ls hP hD hS (lv_sub hl [3, 4, 2, 1, 0] rfl)
    intro v3 v4 v5 z hf hzz H locs ls hP hD hS hl
    unfold fX9_chair_L21 at hf
    replace hf := zUk3 hf
    refine lv_iload hx hb dX9_chair_21 (lv_at hl 4 rfl) ?_
    refine lv_aload_n hx hb dX9_chair_23 rfl (lv_at hl 0 rfl) ?_
    refine zGet (ci := 9) (C := RX9) (F := TX9) (N := 12) (v := .ref (ad 1 0)) hx hb hts hiX9 hown hK hP 0 0 1 rfl rfl (by decide) rfl rfl rfl dX9_chair_24 ?_
    refine zGet (ci := 8) (C := RX8) (F := TX8) (N := 14) (v := .int (gow 0 0)) hx hb hts hiX8 hown hK hP 1 0 2 rfl rfl (by decide) rfl rfl rfl dX9_chair_27 ?_
    refine lv_icmp_ge (tgt := 74) hx hb dX9_chair_30 (by decide) (fun hc => ?_) (fun hc => ?_)
    · replace hf := zIf_t hc hf
      cases hf
      exact hE21_74 v3 v4 hzz.symm H locs ls hP hD hS (lv_sub hl [1, 2, 3] rfl)
    · replace hf := zIf_f hc hf
      refine lv_aload_n hx hb dX9_chair_33 rfl (lv_at hl 0 rfl) ?_
      refine zGet (ci := 9) (C := RX9) (F := TX9) (N := 12) (v := .ref (ad 5 0)) hx hb hts hiX9 hown hK hP 0 5 3 rfl rfl (by decide) rfl rfl rfl dX9_chair_34 ?_
      refine lv_aload_n hx hb dX9_chair_37 rfl (lv_at hl 0 rfl) ?_
      refine zGet (ci := 9) (C := RX9) (F := TX9) (N := 12) (v := .ref (ad 1 0)) hx hb hts hiX9 hown hK hP 0 0 1 rfl rfl (by decide) rfl rfl rfl dX9_chair_38 ?_
      obtain ⟨v8, hc41, hf⟩ := zB1_ok hf
      refine zCallVJI (wr := wX9 T ad gx ++ wX3 T (ad 5) gn_2) (ws' := wX9 T ad gx ++ wX8 T (ad 1) gow ++ wX3 T (ad 5) gn_2) [] ⟨hx, hb, hml, hown, hts⟩ (pX8_everybody l D T X (ad 1) H.size gow v8 hc41) (cwV 0 hts gX9_chair_X8_everybody rfl rfl rfl (by decide +kernel) ⟨Nat.le_of_ble_eq_true rfl, Nat.le_of_ble_eq_true rfl⟩) hK hP hD hS hA hX [1, 2, 3, 4, 5, 6, 7, 8, 9, 10, 11] [0, 12, 13] [0, 3, 4, 5, 6, 7, 8, 9, 10, 11, 12, 13, 1, 2] rfl rfl rfl rfl 0 rfl rfl rfl hl.1 rfl (Nat.le_of_ble_eq_true rfl) dX9_chair_41 ⟨Nat.zero_le _, Nat.zero_le _⟩ (fun H locs hP hD hS => ?_)
      refine lv_iconst (v := 1) hx hb dX9_chair_44 (by decide) ?_
      refine lv_iload hx hb dX9_chair_45 (lv_at hl 4 rfl) ?_
      refine lv_ishl hx hb dX9_chair_47 ?_
      refine lv_iconst (v := (-1)) hx hb dX9_chair_48 (by decide) ?_
      refine lv_ixor hx hb dX9_chair_49 ?_
      refine lv_iand hx hb dX9_chair_50 ?_
      obtain ⟨v9, hc51, hf⟩ := zB1_ok hf
      refine zCallVJI (wr := wX9 T ad gx ++ wX8 T (ad 1) gow) (ws' := wX9 T ad gx ++ wX8 T (ad 1) gow ++ wX3 T (ad 5) gn_2) [.int (v8 &&& (((1 : Int32) <<< (v5 &&& 31)) ^^^ (-1)))] ⟨hx, hb, hml, hown, hts⟩ (pX3_greatestSet l D T X (ad 5) H.size gn_2 (v8 &&& (((1 : Int32) <<< (v5 &&& 31)) ^^^ (-1))) v9 hc51) (cwV 1 hts gX9_chair_X3_greatestSet rfl rfl rfl (by decide +kernel) ⟨Nat.le_of_ble_eq_true rfl, Nat.le_of_ble_eq_true rfl⟩) hK hP hD hS hA hX [12, 13] [0, 1, 2, 3, 4, 5, 6, 7, 8, 9, 10, 11] [0, 1, 2, 3, 4, 5, 6, 7, 8, 9, 10, 11, 12, 13] rfl rfl rfl rfl 0 rfl rfl rfl hl.1 rfl (Nat.le_of_ble_eq_true rfl) dX9_chair_51 ⟨Nat.zero_le _, Nat.zero_le _⟩ (fun H locs hP hD hS => ?_)
      refine lv_istore (lv' := [(5, .int v9), (0, .ref (ad 0 0)), (1, .int a1), (2, .int v3), (3, .int v4), (4, .int v5)]) hx hb dX9_chair_54 hl (by decide) rfl (fun ls hl => ?_)
      refine lv_iload hx hb dX9_chair_56 (lv_at hl 0 rfl) ?_
      refine lv_iload_n hx hb dX9_chair_58 rfl (lv_at hl 3 rfl) ?_
      have hJ68 : ∀ (v10 : Int32) (v11 : Int32) (H : Heap) (locs : List Loc) (ls : Array Slot), fX9_chair_L21J68 v5 v10 v11 = some z → va_P D vwCl (wX9 T ad gx ++ wX8 T (ad 1) gow ++ wX3 T (ad 5) gn_2) H → va_D A (wX9 T ad gx ++ wX8 T (ad 1) gow ++ wX3 T (ad 5) gn_2) → va_S A s.heap H locs → lv_has ls 6 [(0, .ref (ad 0 0)), (1, .int a1), (2, .int v10), (3, .int v11), (4, .int v5)] → W p l e rX9_chair s m args below meth c H locs 0 0 Q (F0 m 68 ls []) := by
        intro v10 v11 H locs ls hf hP hD hS hl
        unfold fX9_chair_L21J68 at hf
        obtain ⟨v12, ev12⟩ : ∃ y : Int32, y = v5 + 1 := ⟨_, rfl⟩
        replace hf := zLt_at ev12 hf
        refine lv_iinc (v := v12) (lv' := [(4, .int v12), (0, .ref (ad 0 0)), (1, .int a1), (2, .int v10), (3, .int v11)]) hx hb dX9_chair_68 hl (k := 4) rfl (by rw [ev12]; rfl) (by decide) rfl (fun ls hl => ?_)
        refine lv_goto (tgt := 21) hx hb dX9_chair_71 (by decide) ?_
        cases hf
        exact hzz H locs ls hP hD hS (lv_sub hl [1, 2, 3, 4, 0] rfl)
      refine lv_icmp_ge (tgt := 68) hx hb dX9_chair_59 (by decide) (fun hc => ?_) (fun hc => ?_)
      · replace hf := zIf_t hc hf
        exact hJ68 v3 v4 H locs ls hf hP hD hS (lv_sub hl [1, 2, 3, 4, 5] rfl)
      · replace hf := zIf_f hc hf
        refine lv_iload hx hb dX9_chair_62 (lv_at hl 0 rfl) ?_
        refine lv_istore_n (lv' := [(2, .int v9), (5, .int v9), (0, .ref (ad 0 0)), (1, .int a1), (3, .int v4), (4, .int v5)]) hx hb dX9_chair_64 rfl hl (by decide) rfl (fun ls hl => ?_)
        refine lv_iload hx hb dX9_chair_65 (lv_at hl 5 rfl) ?_
        refine lv_istore_n (lv' := [(3, .int v5), (2, .int v9), (5, .int v9), (0, .ref (ad 0 0)), (1, .int a1), (4, .int v5)]) hx hb dX9_chair_67 rfl hl (by decide) rfl (fun ls hl => ?_)
        exact hJ68 v9 v5 H locs ls hf hP hD hS (lv_sub hl [3, 4, 1, 0, 5] rfl)
  · replace hf := zIf_t hc hf
    refine lv_iconst (v := (-1)) hx hb dX9_chair_7 (by decide) ?_
    obtain ⟨q1, q2⟩ := zI2 hf
    subst q1
    subst q2
    exact zRetI hQ hx hb hr hlocks hA0 hK hP hD hS rfl dX9_chair_8
set_option maxHeartbeats 4000000 in
set_option maxRecDepth 100000 in
theorem pX9_meet (l : Launch) (D : va_G) (T : Nat → ClassId) (X : zFP) (ad : Nat → Nat → Nat) (sz : Nat) (gx : zM) (gow : zM) (gn : zM) (a1 : Int32) (a2 : Int32) (r : Int32) (ngn : zM) (hf : fX9_meet gx gow gn a1 a2 = some (r, ngn)) : Met l yX9_meet wsX9_meet rX9_meet (zPre D T X [.ref (ad 0 0), .int a1, .int a2] (wX9 T ad gx ++ wX8 T (ad 1) gow ++ wX3 T (ad 5) gn) sz) (zQi D T r (wX9 T ad gx ++ wX8 T (ad 1) gow ++ wX3 T (ad 5) ngn) (wX9 T ad gx ++ wX8 T (ad 1) gow ++ wX3 T (ad 5) gn) sz) 0 0 (va_A (wX9 T ad gx ++ wX8 T (ad 1) gow ++ wX3 T (ad 5) gn) sz) := by
  unfold fX9_meet at hf
  refine zStart [(0, .ref (ad 0 0)), (1, .int a1), (2, .int a2)] (by decide) rfl (Nat.le_of_ble_eq_true rfl) rfl ?_
  intro p e s m args below meth c A Q ls hx hb hr hml hown hlocks hts hsz hA0 hQ hA hK hX hP hD hS hl
  replace hown : s.vm.findClass RX9 = some m.cls := hown
  have hH := hsz
  have hiX9 : ∀ w ∈ u_ws RX9 TX9 12, w ∈ wsX9_meet := fun w h => List.mem_cons_of_mem _ (List.mem_append_left _ (List.mem_append_left _ (List.mem_append_right _ (h))))
  obtain ⟨H, hHe⟩ : ∃ H : Heap, H = s.heap := ⟨_, rfl⟩
  obtain ⟨locs, hLe⟩ : ∃ L : List Loc, L = [] := ⟨_, rfl⟩
  replace hP : va_P D vwCl (wX9 T ad gx ++ wX8 T (ad 1) gow ++ wX3 T (ad 5) gn) H := by rw [hHe]; exact hP
  replace hS : va_S A s.heap H locs := by rw [hHe, hLe]; exact hS
  suffices hgo : W p l e rX9_meet s m args below meth c H locs 0 0 Q (F0 m 0 ls []) by rw [hHe, hLe] at hgo; exact hgo
  clear hHe hLe
  refine lv_iload_n hx hb dX9_meet_0 rfl (lv_at hl 1 rfl) ?_
  refine lv_if_eq (tgt := 22) hx hb dX9_meet_1 (by decide) (fun hc => ?_) (fun hc => ?_)
  · replace hf := zIf_t hc hf
    refine lv_iconst (v := (-1)) hx hb dX9_meet_22 (by decide) ?_
    obtain ⟨q1, q2⟩ := zI2 hf
    subst q1
    subst q2
    exact zRetI hQ hx hb hr hlocks hA0 hK hP hD hS rfl dX9_meet_23
  · replace hf := zIf_f hc hf
    refine lv_aload_n hx hb dX9_meet_4 rfl (lv_at hl 0 rfl) ?_
    refine zGet (ci := 9) (C := RX9) (F := TX9) (N := 12) (v := .ref (ad 1 0)) hx hb hts hiX9 hown hK hP 0 0 1 rfl rfl (by decide) rfl rfl rfl dX9_meet_5 ?_
    refine lv_iload_n hx hb dX9_meet_8 rfl (lv_at hl 1 rfl) ?_
    obtain ⟨v1, hc9, hf⟩ := zB1_ok hf
    refine zCallVJI (wr := wX9 T ad gx ++ wX3 T (ad 5) gn) (ws' := wX9 T ad gx ++ wX8 T (ad 1) gow ++ wX3 T (ad 5) gn) [.int a1] ⟨hx, hb, hml, hown, hts⟩ (pX8_hasSet l D T X (ad 1) H.size gow a1 v1 hc9) (cwV 1 hts gX9_meet_X8_hasSet rfl rfl rfl (by decide +kernel) ⟨Nat.le_of_ble_eq_true rfl, Nat.le_of_ble_eq_true rfl⟩) hK hP hD hS hA hX [1, 2, 3, 4, 5, 6, 7, 8, 9, 10, 11] [0, 12, 13] [0, 3, 4, 5, 6, 7, 8, 9, 10, 11, 12, 13, 1, 2] rfl rfl rfl rfl 0 rfl rfl rfl hl.1 rfl (Nat.le_of_ble_eq_true rfl) dX9_meet_9 ⟨Nat.zero_le _, Nat.zero_le _⟩ (fun H locs hP hD hS => ?_)
    refine lv_if_eq (tgt := 22) hx hb dX9_meet_12 (by decide) (fun hc => ?_) (fun hc => ?_)
    · replace hf := zIf_t hc hf
      refine lv_iconst (v := (-1)) hx hb dX9_meet_22 (by decide) ?_
      obtain ⟨q1, q2⟩ := zI2 hf
      subst q1
      subst q2
      exact zRetI hQ hx hb hr hlocks hA0 hK hP hD hS rfl dX9_meet_23
    · replace hf := zIf_f hc hf
      refine lv_iload_n hx hb dX9_meet_15 rfl (lv_at hl 2 rfl) ?_
      obtain ⟨v2, hc16, hf⟩ := zB1_ok hf
      refine zCallS0I [.int a2] ⟨hx, hb, hml, hown, hts⟩ (pX9_isEither l D T X H.size a2 v2 hc16) (va_cwS 1 hts gX9_meet_X9_isEither rfl rfl rfl (by decide +kernel) ⟨Nat.le_of_ble_eq_true rfl, Nat.le_of_ble_eq_true rfl⟩) hK hP hD hS hA hX rfl hl.1 rfl (Nat.le_of_ble_eq_true rfl) dX9_meet_16 ⟨Nat.zero_le _, Nat.zero_le _⟩ (fun H locs hP hD hS => ?_)
      refine lv_if_ne (tgt := 24) hx hb dX9_meet_19 (by decide) (fun hc => ?_) (fun hc => ?_)
      · replace hf := zIf_f hc hf
        refine lv_aload_n hx hb dX9_meet_24 rfl (lv_at hl 0 rfl) ?_
        obtain ⟨gn_3, hc25, hf⟩ := zB1_ok hf
        refine zCallVEV [] ⟨hx, hb, hml, hown, hts⟩ (pX9_layOpenTies l D T X ad H.size gx gow gn gn_3 hc25) (cwV 0 hts gX9_meet_X9_layOpenTies rfl rfl rfl (by decide +kernel) ⟨Nat.le_of_ble_eq_true rfl, Nat.le_of_ble_eq_true rfl⟩) hK hP hD hS hA hX 0 rfl rfl rfl hl.1 rfl (Nat.le_of_ble_eq_true rfl) dX9_meet_25 ⟨Nat.zero_le _, Nat.zero_le _⟩ (fun H locs hP hD hS => ?_)
        refine lv_iconst (v := 0) hx hb dX9_meet_28 (by decide) ?_
        refine lv_istore_n (lv' := [(3, .int 0), (0, .ref (ad 0 0)), (1, .int a1), (2, .int a2)]) hx hb dX9_meet_29 rfl hl (by decide) rfl (fun ls hl => ?_)
        refine lv_iload_n hx hb dX9_meet_30 rfl (lv_at hl 2 rfl) ?_
        refine lv_istore (lv' := [(4, .int a1), (3, .int 0), (0, .ref (ad 0 0)), (1, .int a1), (2, .int a2)]) hx hb dX9_meet_31 hl (by decide) rfl (fun ls hl => ?_)
        obtain ⟨ex, hlp, hf⟩ := zB1_ok hf
        have hE33_110 : ∀ (v6 : Int32) , ex = v6 → ∀ (H : Heap) (locs : List Loc) (ls : Array Slot), va_P D vwCl (wX9 T ad gx ++ wX8 T (ad 1) gow ++ wX3 T (ad 5) gn_3) H → va_D A (wX9 T ad gx ++ wX8 T (ad 1) gow ++ wX3 T (ad 5) gn_3) → va_S A s.heap H locs → lv_has ls 6 [(2, .int a2), (3, .int v6)] → W p l e rX9_meet s m args below meth c H locs 0 0 Q (F0 m 110 ls []) := by
          intro v6 hex H locs ls hP hD hS hl
          have hf := zEx1 hex hf
          refine lv_iload_n hx hb dX9_meet_110 rfl (lv_at hl 1 rfl) ?_
          refine lv_if_ne (tgt := 119) hx hb dX9_meet_111 (by decide) (fun hc => ?_) (fun hc => ?_)
          · replace hf := zIf_f hc hf
            refine lv_iload_n hx hb dX9_meet_119 rfl (lv_at hl 1 rfl) ?_
            refine lv_iload_n hx hb dX9_meet_120 rfl (lv_at hl 0 rfl) ?_
            obtain ⟨v14, hc121, hf⟩ := zB1_ok hf
            refine zCallS0I [.int v6, .int a2] ⟨hx, hb, hml, hown, hts⟩ (pX9_countOrSet l D T X H.size v6 a2 v14 hc121) (va_cwS 2 hts gX9_meet_X9_countOrSet rfl rfl rfl (by decide +kernel) ⟨Nat.le_of_ble_eq_true rfl, Nat.le_of_ble_eq_true rfl⟩) hK hP hD hS hA hX rfl hl.1 rfl (Nat.le_of_ble_eq_true rfl) dX9_meet_121 ⟨Nat.zero_le _, Nat.zero_le _⟩ (fun H locs hP hD hS => ?_)
            obtain ⟨q1, q2⟩ := zI2 hf
            subst q1
            subst q2
            exact zRetI hQ hx hb hr hlocks hA0 hK hP hD hS rfl dX9_meet_124
          · replace hf := zIf_t hc hf
            refine lv_bipush (v := (-3)) hx hb dX9_meet_114 (by decide) ?_
            refine lv_goto (tgt := 124) hx hb dX9_meet_116 (by decide) ?_
            obtain ⟨q1, q2⟩ := zI2 hf
            subst q1
            subst q2
            exact zRetI hQ hx hb hr hlocks hA0 hK hP hD hS rfl dX9_meet_124
        refine zLpS2 (body := (fX9_meet_L33 a1 gow gn_3)) (b := ex) (fun (v4 : Int32) (v5 : Int32) => ∀ (H : Heap) (locs : List Loc) (ls : Array Slot), va_P D vwCl (wX9 T ad gx ++ wX8 T (ad 1) gow ++ wX3 T (ad 5) gn_3) H → va_D A (wX9 T ad gx ++ wX8 T (ad 1) gow ++ wX3 T (ad 5) gn_3) → va_S A s.heap H locs → lv_has ls 6 [(0, .ref (ad 0 0)), (1, .int a1), (2, .int a2), (3, .int v4), (4, .int v5)] → W p l e rX9_meet s m args below meth c H locs 0 0 Q (F0 m 33 ls [])) ?_ zFU 0 a1 hlp H locs ls hP hD hS (lv_sub hl [2, 3, 4, 1, 0] rfl)
        intro v4 v5 z hf hzz H locs ls hP hD hS hl
        unfold fX9_meet_L33 at hf
        replace hf := zUk2 hf
        refine lv_iload hx hb dX9_meet_33 (lv_at hl 4 rfl) ?_
        refine lv_aload_n hx hb dX9_meet_35 rfl (lv_at hl 0 rfl) ?_
        refine zGet (ci := 9) (C := RX9) (F := TX9) (N := 12) (v := .ref (ad 1 0)) hx hb hts hiX9 hown hK hP 0 0 1 rfl rfl (by decide) rfl rfl rfl dX9_meet_36 ?_
        obtain ⟨v7, hc39, hf⟩ := zB1_ok hf
        refine zCallVJI (wr := wX9 T ad gx ++ wX3 T (ad 5) gn_3) (ws' := wX9 T ad gx ++ wX8 T (ad 1) gow ++ wX3 T (ad 5) gn_3) [] ⟨hx, hb, hml, hown, hts⟩ (pX8_everybody l D T X (ad 1) H.size gow v7 hc39) (cwV 0 hts gX9_meet_X8_everybody rfl rfl rfl (by decide +kernel) ⟨Nat.le_of_ble_eq_true rfl, Nat.le_of_ble_eq_true rfl⟩) hK hP hD hS hA hX [1, 2, 3, 4, 5, 6, 7, 8, 9, 10, 11] [0, 12, 13] [0, 3, 4, 5, 6, 7, 8, 9, 10, 11, 12, 13, 1, 2] rfl rfl rfl rfl 0 rfl rfl rfl hl.1 rfl (Nat.le_of_ble_eq_true rfl) dX9_meet_39 ⟨Nat.zero_le _, Nat.zero_le _⟩ (fun H locs hP hD hS => ?_)
        refine lv_icmp_gt (tgt := 110) hx hb dX9_meet_42 (by decide) (fun hc => ?_) (fun hc => ?_)
        · replace hf := zIf_t hc hf
          cases hf
          exact hE33_110 v4 hzz.symm H locs ls hP hD hS (lv_sub hl [2, 3] rfl)
        · replace hf := zIf_f hc hf
          refine lv_iload_n hx hb dX9_meet_45 rfl (lv_at hl 3 rfl) ?_
          have hJ66 : ∀ (v8 : Int32) (H : Heap) (locs : List Loc) (ls : Array Slot), fX9_meet_L33J66 a1 gn_3 v4 v5 v8 = some z → va_P D vwCl (wX9 T ad gx ++ wX8 T (ad 1) gow ++ wX3 T (ad 5) gn_3) H → va_D A (wX9 T ad gx ++ wX8 T (ad 1) gow ++ wX3 T (ad 5) gn_3) → va_S A s.heap H locs → lv_has ls 6 [(0, .ref (ad 0 0)), (1, .int a1), (2, .int a2), (3, .int v4), (4, .int v5)] → W p l e rX9_meet s m args below meth c H locs 0 0 Q (F0 m 66 ls [.int v8]) := by
            intro v8 H locs ls hf hP hD hS hl
            unfold fX9_meet_L33J66 at hf
            refine lv_istore (lv' := [(5, .int v8), (0, .ref (ad 0 0)), (1, .int a1), (2, .int a2), (3, .int v4), (4, .int v5)]) hx hb dX9_meet_66 hl (by decide) rfl (fun ls hl => ?_)
            refine lv_iload hx hb dX9_meet_68 (lv_at hl 0 rfl) ?_
            have hJ104 : ∀ (v9 : Int32) (H : Heap) (locs : List Loc) (ls : Array Slot), fX9_meet_L33J104 v5 v9 = some z → va_P D vwCl (wX9 T ad gx ++ wX8 T (ad 1) gow ++ wX3 T (ad 5) gn_3) H → va_D A (wX9 T ad gx ++ wX8 T (ad 1) gow ++ wX3 T (ad 5) gn_3) → va_S A s.heap H locs → lv_has ls 6 [(0, .ref (ad 0 0)), (1, .int a1), (2, .int a2), (3, .int v9), (4, .int v5)] → W p l e rX9_meet s m args below meth c H locs 0 0 Q (F0 m 104 ls []) := by
              intro v9 H locs ls hf hP hD hS hl
              unfold fX9_meet_L33J104 at hf
              obtain ⟨v10, ev10⟩ : ∃ y : Int32, y = v5 + 1 := ⟨_, rfl⟩
              replace hf := zLt_at ev10 hf
              refine lv_iinc (v := v10) (lv' := [(4, .int v10), (0, .ref (ad 0 0)), (1, .int a1), (2, .int a2), (3, .int v9)]) hx hb dX9_meet_104 hl (k := 4) rfl (by rw [ev10]; rfl) (by decide) rfl (fun ls hl => ?_)
              refine lv_goto (tgt := 33) hx hb dX9_meet_107 (by decide) ?_
              cases hf
              exact hzz H locs ls hP hD hS (lv_sub hl [1, 2, 3, 4, 0] rfl)
            refine lv_if_eq (tgt := 104) hx hb dX9_meet_70 (by decide) (fun hc => ?_) (fun hc => ?_)
            · replace hf := zIf_t hc hf
              exact hJ104 v4 H locs ls hf hP hD hS (lv_sub hl [1, 2, 3, 4, 5] rfl)
            · replace hf := zIf_f hc hf
              refine lv_iload hx hb dX9_meet_73 (lv_at hl 5 rfl) ?_
              refine lv_iload_n hx hb dX9_meet_75 rfl (lv_at hl 2 rfl) ?_
              refine lv_iand hx hb dX9_meet_76 ?_
              refine lv_iload_n hx hb dX9_meet_77 rfl (lv_at hl 2 rfl) ?_
              refine lv_icmp_ne (tgt := 104) hx hb dX9_meet_78 (by decide) (fun hc => ?_) (fun hc => ?_)
              · replace hf := zIf_f hc hf
                exact hJ104 v4 H locs ls hf hP hD hS (lv_sub hl [1, 2, 3, 4, 5] rfl)
              · replace hf := zIf_t hc hf
                refine lv_aload_n hx hb dX9_meet_81 rfl (lv_at hl 1 rfl) ?_
                refine zGet (ci := 9) (C := RX9) (F := TX9) (N := 12) (v := .ref (ad 5 0)) hx hb hts hiX9 hown hK hP 0 5 2 rfl rfl (by decide) rfl rfl rfl dX9_meet_82 ?_
                refine lv_iload hx hb dX9_meet_85 (lv_at hl 5 rfl) ?_
                refine lv_iload hx hb dX9_meet_87 (lv_at hl 5 rfl) ?_
                refine lv_ineg hx hb dX9_meet_89 ?_
                refine lv_iand hx hb dX9_meet_90 ?_
                refine lv_iload hx hb dX9_meet_91 (lv_at hl 5 rfl) ?_
                obtain ⟨v11, hc93, hf⟩ := zB1_ok hf
                refine zCallVJI (wr := wX9 T ad gx ++ wX8 T (ad 1) gow) (ws' := wX9 T ad gx ++ wX8 T (ad 1) gow ++ wX3 T (ad 5) gn_3) [.int (v5 &&& (-v5)), .int v5] ⟨hx, hb, hml, hown, hts⟩ (pX3_flood l D T X (ad 5) H.size gn_3 (v5 &&& (-v5)) v5 v11 hc93) (cwV 2 hts gX9_meet_X3_flood rfl rfl rfl (by decide +kernel) ⟨Nat.le_of_ble_eq_true rfl, Nat.le_of_ble_eq_true rfl⟩) hK hP hD hS hA hX [12, 13] [0, 1, 2, 3, 4, 5, 6, 7, 8, 9, 10, 11] [0, 1, 2, 3, 4, 5, 6, 7, 8, 9, 10, 11, 12, 13] rfl rfl rfl rfl 0 rfl rfl rfl hl.1 rfl (Nat.le_of_ble_eq_true rfl) dX9_meet_93 ⟨Nat.zero_le _, Nat.zero_le _⟩ (fun H locs hP hD hS => ?_)
                refine lv_iload hx hb dX9_meet_96 (lv_at hl 5 rfl) ?_
                refine lv_icmp_ne (tgt := 104) hx hb dX9_meet_98 (by decide) (fun hc => ?_) (fun hc => ?_)
                · replace hf := zIf_f hc hf
                  exact hJ104 v4 H locs ls hf hP hD hS (lv_sub hl [1, 2, 3, 4, 5] rfl)
                · replace hf := zIf_t hc hf
                  refine lv_iload hx hb dX9_meet_101 (lv_at hl 5 rfl) ?_
                  refine lv_istore_n (lv' := [(3, .int v5), (5, .int v8), (0, .ref (ad 0 0)), (1, .int a1), (2, .int a2), (4, .int v5)]) hx hb dX9_meet_103 rfl hl (by decide) rfl (fun ls hl => ?_)
                  exact hJ104 v5 H locs ls hf hP hD hS (lv_sub hl [2, 3, 4, 0, 5] rfl)
          have hJ61 : ∀ (H : Heap) (locs : List Loc) (ls : Array Slot), fX9_meet_L33J61 a1 gn_3 v4 v5 = some z → va_P D vwCl (wX9 T ad gx ++ wX8 T (ad 1) gow ++ wX3 T (ad 5) gn_3) H → va_D A (wX9 T ad gx ++ wX8 T (ad 1) gow ++ wX3 T (ad 5) gn_3) → va_S A s.heap H locs → lv_has ls 6 [(0, .ref (ad 0 0)), (1, .int a1), (2, .int a2), (3, .int v4), (4, .int v5)] → W p l e rX9_meet s m args below meth c H locs 0 0 Q (F0 m 61 ls []) := by
            intro H locs ls hf hP hD hS hl
            unfold fX9_meet_L33J61 at hf
            refine lv_iconst (v := 1) hx hb dX9_meet_61 (by decide) ?_
            refine lv_goto (tgt := 66) hx hb dX9_meet_62 (by decide) ?_
            exact hJ66 1 H locs ls hf hP hD hS hl
          refine lv_if_eq (tgt := 61) hx hb dX9_meet_46 (by decide) (fun hc => ?_) (fun hc => ?_)
          · replace hf := zIf_t hc hf
            exact hJ61 H locs ls hf hP hD hS hl
          · replace hf := zIf_f hc hf
            refine lv_iload hx hb dX9_meet_49 (lv_at hl 4 rfl) ?_
            obtain ⟨v12, hc51, hf⟩ := zB1_ok hf
            refine zCallS0I [.int v5] ⟨hx, hb, hml, hown, hts⟩ (pJ6_bitCount_0f7a4 l D T X H.size v5 v12 hc51) (va_cwS 1 hts gX9_meet_J6_bitCount_0f7a4 rfl rfl rfl (by decide +kernel) ⟨Nat.le_of_ble_eq_true rfl, Nat.le_of_ble_eq_true rfl⟩) hK hP hD hS hA hX rfl hl.1 rfl (Nat.le_of_ble_eq_true rfl) dX9_meet_51 ⟨Nat.zero_le _, Nat.zero_le _⟩ (fun H locs hP hD hS => ?_)
            refine lv_iload_n hx hb dX9_meet_54 rfl (lv_at hl 3 rfl) ?_
            obtain ⟨v13, hc55, hf⟩ := zB1_ok hf
            refine zCallS0I [.int v4] ⟨hx, hb, hml, hown, hts⟩ (pJ6_bitCount_0f7a4 l D T X H.size v4 v13 hc55) (va_cwS 1 hts gX9_meet_J6_bitCount_0f7a4 rfl rfl rfl (by decide +kernel) ⟨Nat.le_of_ble_eq_true rfl, Nat.le_of_ble_eq_true rfl⟩) hK hP hD hS hA hX rfl hl.1 rfl (Nat.le_of_ble_eq_true rfl) dX9_meet_55 ⟨Nat.zero_le _, Nat.zero_le _⟩ (fun H locs hP hD hS => ?_)
            refine lv_icmp_ge (tgt := 65) hx hb dX9_meet_58 (by decide) (fun hc => ?_) (fun hc => ?_)
            · replace hf := zIf_t hc hf
              refine lv_iconst (v := 0) hx hb dX9_meet_65 (by decide) ?_
              exact hJ66 0 H locs ls hf hP hD hS hl
            · replace hf := zIf_f hc hf
              exact hJ61 H locs ls hf hP hD hS hl
      · replace hf := zIf_t hc hf
        refine lv_iconst (v := (-1)) hx hb dX9_meet_22 (by decide) ?_
        obtain ⟨q1, q2⟩ := zI2 hf
        subst q1
        subst q2
        exact zRetI hQ hx hb hr hlocks hA0 hK hP hD hS rfl dX9_meet_23
set_option maxHeartbeats 4000000 in
set_option maxRecDepth 100000 in
theorem pX9_tell (l : Launch) (D : va_G) (T : Nat → ClassId) (X : zFP) (ad : Nat → Nat → Nat) (sz : Nat) (gx : zM) (gow : zM) (gd : zM) (a1 : Int32) (a2 : Int32) (r : Int32) (ngd : zM) (hf : fX9_tell gx gow gd a1 a2 = some (r, ngd)) : Met l yX9_tell wsX9_tell rX9_tell (zPre D T X [.ref (ad 0 0), .int a1, .int a2] (wX9 T ad gx ++ wX8 T (ad 1) gow ++ wX1 T (ad 8) gd) sz) (zQi D T r (wX9 T ad gx ++ wX8 T (ad 1) gow ++ wX1 T (ad 8) ngd) (wX9 T ad gx ++ wX8 T (ad 1) gow ++ wX1 T (ad 8) gd) sz) 0 0 (va_A (wX9 T ad gx ++ wX8 T (ad 1) gow ++ wX1 T (ad 8) gd) sz) := by
  unfold fX9_tell at hf
  refine zStart [(0, .ref (ad 0 0)), (1, .int a1), (2, .int a2)] (by decide) rfl (Nat.le_of_ble_eq_true rfl) rfl ?_
  intro p e s m args below meth c A Q ls hx hb hr hml hown hlocks hts hsz hA0 hQ hA hK hX hP hD hS hl
  replace hown : s.vm.findClass RX9 = some m.cls := hown
  have hH := hsz
  have hiX9 : ∀ w ∈ u_ws RX9 TX9 12, w ∈ wsX9_tell := fun w h => List.mem_cons_of_mem _ (List.mem_append_left _ (List.mem_append_left _ (List.mem_append_right _ (h))))
  obtain ⟨H, hHe⟩ : ∃ H : Heap, H = s.heap := ⟨_, rfl⟩
  obtain ⟨locs, hLe⟩ : ∃ L : List Loc, L = [] := ⟨_, rfl⟩
  replace hP : va_P D vwCl (wX9 T ad gx ++ wX8 T (ad 1) gow ++ wX1 T (ad 8) gd) H := by rw [hHe]; exact hP
  replace hS : va_S A s.heap H locs := by rw [hHe, hLe]; exact hS
  suffices hgo : W p l e rX9_tell s m args below meth c H locs 0 0 Q (F0 m 0 ls []) by rw [hHe, hLe] at hgo; exact hgo
  clear hHe hLe
  refine lv_iload_n hx hb dX9_tell_0 rfl (lv_at hl 1 rfl) ?_
  refine lv_if_lt (tgt := 17) hx hb dX9_tell_1 (by decide) (fun hc => ?_) (fun hc => ?_)
  · replace hf := zIf_t hc hf
    refine lv_iconst (v := (-1)) hx hb dX9_tell_17 (by decide) ?_
    obtain ⟨q1, q2⟩ := zI2 hf
    subst q1
    subst q2
    exact zRetI hQ hx hb hr hlocks hA0 hK hP hD hS rfl dX9_tell_18
  · replace hf := zIf_f hc hf
    refine lv_iload_n hx hb dX9_tell_4 rfl (lv_at hl 1 rfl) ?_
    refine lv_bipush (v := 100) hx hb dX9_tell_5 (by decide) ?_
    refine lv_icmp_gt (tgt := 17) hx hb dX9_tell_7 (by decide) (fun hc => ?_) (fun hc => ?_)
    · replace hf := zIf_t hc hf
      refine lv_iconst (v := (-1)) hx hb dX9_tell_17 (by decide) ?_
      obtain ⟨q1, q2⟩ := zI2 hf
      subst q1
      subst q2
      exact zRetI hQ hx hb hr hlocks hA0 hK hP hD hS rfl dX9_tell_18
    · replace hf := zIf_f hc hf
      refine lv_iload_n hx hb dX9_tell_10 rfl (lv_at hl 2 rfl) ?_
      obtain ⟨v1, hc11, hf⟩ := zB1_ok hf
      refine zCallS0I [.int a2] ⟨hx, hb, hml, hown, hts⟩ (pX9_isEither l D T X H.size a2 v1 hc11) (va_cwS 1 hts gX9_tell_X9_isEither rfl rfl rfl (by decide +kernel) ⟨Nat.le_of_ble_eq_true rfl, Nat.le_of_ble_eq_true rfl⟩) hK hP hD hS hA hX rfl hl.1 rfl (Nat.le_of_ble_eq_true rfl) dX9_tell_11 ⟨Nat.zero_le _, Nat.zero_le _⟩ (fun H locs hP hD hS => ?_)
      refine lv_if_ne (tgt := 19) hx hb dX9_tell_14 (by decide) (fun hc => ?_) (fun hc => ?_)
      · replace hf := zIf_f hc hf
        refine lv_aload_n hx hb dX9_tell_19 rfl (lv_at hl 0 rfl) ?_
        refine zGet (ci := 9) (C := RX9) (F := TX9) (N := 12) (v := .ref (ad 1 0)) hx hb hts hiX9 hown hK hP 0 0 1 rfl rfl (by decide) rfl rfl rfl dX9_tell_20 ?_
        obtain ⟨v2, hc23, hf⟩ := zB1_ok hf
        refine zCallVJI (wr := wX9 T ad gx ++ wX1 T (ad 8) gd) (ws' := wX9 T ad gx ++ wX8 T (ad 1) gow ++ wX1 T (ad 8) gd) [] ⟨hx, hb, hml, hown, hts⟩ (pX8_everybody l D T X (ad 1) H.size gow v2 hc23) (cwV 0 hts gX9_tell_X8_everybody rfl rfl rfl (by decide +kernel) ⟨Nat.le_of_ble_eq_true rfl, Nat.le_of_ble_eq_true rfl⟩) hK hP hD hS hA hX [1, 2, 3, 4, 5, 6, 7, 8, 9, 10, 11] [0, 12, 13, 14] [0, 4, 5, 6, 7, 8, 9, 10, 11, 12, 13, 14, 1, 2, 3] rfl rfl rfl rfl 0 rfl rfl rfl hl.1 rfl (Nat.le_of_ble_eq_true rfl) dX9_tell_23 ⟨Nat.zero_le _, Nat.zero_le _⟩ (fun H locs hP hD hS => ?_)
        refine lv_istore_n (lv' := [(3, .int v2), (0, .ref (ad 0 0)), (1, .int a1), (2, .int a2)]) hx hb dX9_tell_26 rfl hl (by decide) rfl (fun ls hl => ?_)
        refine lv_aload_n hx hb dX9_tell_27 rfl (lv_at hl 1 rfl) ?_
        refine zGet (ci := 9) (C := RX9) (F := TX9) (N := 12) (v := .ref (ad 8 0)) hx hb hts hiX9 hown hK hP 0 8 2 rfl rfl (by decide) rfl rfl rfl dX9_tell_28 ?_
        refine lv_aload_n hx hb dX9_tell_31 rfl (lv_at hl 1 rfl) ?_
        refine zGet (ci := 9) (C := RX9) (F := TX9) (N := 12) (v := .ref (ad 1 0)) hx hb hts hiX9 hown hK hP 0 0 1 rfl rfl (by decide) rfl rfl rfl dX9_tell_32 ?_
        refine lv_iload_n hx hb dX9_tell_35 rfl (lv_at hl 2 rfl) ?_
        obtain ⟨gd_3, hc36, hf⟩ := zB1_ok hf
        refine zCallVJV (wr := wX9 T ad gx) (ws' := wX9 T ad gx ++ wX8 T (ad 1) gow ++ wX1 T (ad 8) gd_3) [.ref (ad 1 0), .int a1] ⟨hx, hb, hml, hown, hts⟩ (pX1_fillReached l D T X (ad 8) (ad 1) H.size gd gow a1 gd_3 hc36) (cwV 2 hts gX9_tell_X1_fillReached rfl rfl rfl (by decide +kernel) ⟨Nat.le_of_ble_eq_true rfl, Nat.le_of_ble_eq_true rfl⟩) hK hP hD hS hA hX [12, 13, 14, 1, 2, 3, 4, 5, 6, 7, 8, 9, 10, 11] [0] [0, 4, 5, 6, 7, 8, 9, 10, 11, 12, 13, 14, 1, 2, 3] rfl rfl rfl rfl 0 rfl rfl rfl hl.1 rfl (Nat.le_of_ble_eq_true rfl) dX9_tell_36 ⟨Nat.zero_le _, Nat.zero_le _⟩ (fun H locs hP hD hS => ?_)
        refine lv_iload_n hx hb dX9_tell_39 rfl (lv_at hl 0 rfl) ?_
        refine lv_istore (lv' := [(4, .int v2), (3, .int v2), (0, .ref (ad 0 0)), (1, .int a1), (2, .int a2)]) hx hb dX9_tell_40 hl (by decide) rfl (fun ls hl => ?_)
        refine lv_iconst (v := 0) hx hb dX9_tell_42 (by decide) ?_
        refine lv_istore (lv' := [(5, .int 0), (4, .int v2), (3, .int v2), (0, .ref (ad 0 0)), (1, .int a1), (2, .int a2)]) hx hb dX9_tell_43 hl (by decide) rfl (fun ls hl => ?_)
        obtain ⟨ex, hlp, hf⟩ := zB1_ok hf
        have hE45_99 : ∀ (v6 : Int32) , ex = v6 → ∀ (H : Heap) (locs : List Loc) (ls : Array Slot), va_P D vwCl (wX9 T ad gx ++ wX8 T (ad 1) gow ++ wX1 T (ad 8) gd_3) H → va_D A (wX9 T ad gx ++ wX8 T (ad 1) gow ++ wX1 T (ad 8) gd_3) → va_S A s.heap H locs → lv_has ls 7 [(2, .int a2), (4, .int v6)] → W p l e rX9_tell s m args below meth c H locs 0 0 Q (F0 m 99 ls []) := by
          intro v6 hex H locs ls hP hD hS hl
          have hf := zEx1 hex hf
          refine lv_iload hx hb dX9_tell_99 (lv_at hl 1 rfl) ?_
          refine lv_iload_n hx hb dX9_tell_101 rfl (lv_at hl 0 rfl) ?_
          obtain ⟨v13, hc102, hf⟩ := zB1_ok hf
          refine zCallS0I [.int v6, .int a2] ⟨hx, hb, hml, hown, hts⟩ (pX9_countOrSet l D T X H.size v6 a2 v13 hc102) (va_cwS 2 hts gX9_tell_X9_countOrSet rfl rfl rfl (by decide +kernel) ⟨Nat.le_of_ble_eq_true rfl, Nat.le_of_ble_eq_true rfl⟩) hK hP hD hS hA hX rfl hl.1 rfl (Nat.le_of_ble_eq_true rfl) dX9_tell_102 ⟨Nat.zero_le _, Nat.zero_le _⟩ (fun H locs hP hD hS => ?_)
          obtain ⟨q1, q2⟩ := zI2 hf
          subst q1
          subst q2
          exact zRetI hQ hx hb hr hlocks hA0 hK hP hD hS rfl dX9_tell_105
        refine zLpS2 (body := (fX9_tell_L45 v2 gd_3)) (b := ex) (fun (v4 : Int32) (v5 : Int32) => ∀ (H : Heap) (locs : List Loc) (ls : Array Slot), va_P D vwCl (wX9 T ad gx ++ wX8 T (ad 1) gow ++ wX1 T (ad 8) gd_3) H → va_D A (wX9 T ad gx ++ wX8 T (ad 1) gow ++ wX1 T (ad 8) gd_3) → va_S A s.heap H locs → lv_has ls 7 [(0, .ref (ad 0 0)), (2, .int a2), (3, .int v2), (4, .int v4), (5, .int v5)] → W p l e rX9_tell s m args below meth c H locs 0 0 Q (F0 m 45 ls [])) ?_ zFU v2 0 hlp H locs ls hP hD hS (lv_sub hl [3, 5, 2, 1, 0] rfl)
        intro v4 v5 z hf hzz H locs ls hP hD hS hl
        unfold fX9_tell_L45 at hf
        replace hf := zUk2 hf
        refine lv_iload hx hb dX9_tell_45 (lv_at hl 4 rfl) ?_
        refine lv_iload_n hx hb dX9_tell_47 rfl (lv_at hl 2 rfl) ?_
        refine lv_icmp_gt (tgt := 99) hx hb dX9_tell_48 (by decide) (fun hc => ?_) (fun hc => ?_)
        · replace hf := zIf_t hc hf
          cases hf
          exact hE45_99 v4 hzz.symm H locs ls hP hD hS (lv_sub hl [1, 3] rfl)
        · replace hf := zIf_f hc hf
          refine lv_iload hx hb dX9_tell_51 (lv_at hl 4 rfl) ?_
          obtain ⟨v7, hc53, hf⟩ := zB1_ok hf
          refine zCallS0I [.int v5] ⟨hx, hb, hml, hown, hts⟩ (pJ6_bitCount_0f7a4 l D T X H.size v5 v7 hc53) (va_cwS 1 hts gX9_tell_J6_bitCount_0f7a4 rfl rfl rfl (by decide +kernel) ⟨Nat.le_of_ble_eq_true rfl, Nat.le_of_ble_eq_true rfl⟩) hK hP hD hS hA hX rfl hl.1 rfl (Nat.le_of_ble_eq_true rfl) dX9_tell_53 ⟨Nat.zero_le _, Nat.zero_le _⟩ (fun H locs hP hD hS => ?_)
          refine lv_iload hx hb dX9_tell_56 (lv_at hl 3 rfl) ?_
          obtain ⟨v8, hc58, hf⟩ := zB1_ok hf
          refine zCallS0I [.int v4] ⟨hx, hb, hml, hown, hts⟩ (pJ6_bitCount_0f7a4 l D T X H.size v4 v8 hc58) (va_cwS 1 hts gX9_tell_J6_bitCount_0f7a4 rfl rfl rfl (by decide +kernel) ⟨Nat.le_of_ble_eq_true rfl, Nat.le_of_ble_eq_true rfl⟩) hK hP hD hS hA hX rfl hl.1 rfl (Nat.le_of_ble_eq_true rfl) dX9_tell_58 ⟨Nat.zero_le _, Nat.zero_le _⟩ (fun H locs hP hD hS => ?_)
          have hJ69 : ∀ (v9 : Int32) (H : Heap) (locs : List Loc) (ls : Array Slot), fX9_tell_L45J69 v2 gd_3 v4 v5 v9 = some z → va_P D vwCl (wX9 T ad gx ++ wX8 T (ad 1) gow ++ wX1 T (ad 8) gd_3) H → va_D A (wX9 T ad gx ++ wX8 T (ad 1) gow ++ wX1 T (ad 8) gd_3) → va_S A s.heap H locs → lv_has ls 7 [(0, .ref (ad 0 0)), (2, .int a2), (3, .int v2), (4, .int v4), (5, .int v5)] → W p l e rX9_tell s m args below meth c H locs 0 0 Q (F0 m 69 ls [.int v9]) := by
            intro v9 H locs ls hf hP hD hS hl
            unfold fX9_tell_L45J69 at hf
            refine lv_istore (lv' := [(6, .int v9), (0, .ref (ad 0 0)), (2, .int a2), (3, .int v2), (4, .int v4), (5, .int v5)]) hx hb dX9_tell_69 hl (by decide) rfl (fun ls hl => ?_)
            refine lv_iload hx hb dX9_tell_71 (lv_at hl 0 rfl) ?_
            have hJ93 : ∀ (v10 : Int32) (H : Heap) (locs : List Loc) (ls : Array Slot), fX9_tell_L45J93 v5 v10 = some z → va_P D vwCl (wX9 T ad gx ++ wX8 T (ad 1) gow ++ wX1 T (ad 8) gd_3) H → va_D A (wX9 T ad gx ++ wX8 T (ad 1) gow ++ wX1 T (ad 8) gd_3) → va_S A s.heap H locs → lv_has ls 7 [(0, .ref (ad 0 0)), (2, .int a2), (3, .int v2), (4, .int v10), (5, .int v5)] → W p l e rX9_tell s m args below meth c H locs 0 0 Q (F0 m 93 ls []) := by
              intro v10 H locs ls hf hP hD hS hl
              unfold fX9_tell_L45J93 at hf
              obtain ⟨v11, ev11⟩ : ∃ y : Int32, y = v5 + 1 := ⟨_, rfl⟩
              replace hf := zLt_at ev11 hf
              refine lv_iinc (v := v11) (lv' := [(5, .int v11), (0, .ref (ad 0 0)), (2, .int a2), (3, .int v2), (4, .int v10)]) hx hb dX9_tell_93 hl (k := 4) rfl (by rw [ev11]; rfl) (by decide) rfl (fun ls hl => ?_)
              refine lv_goto (tgt := 45) hx hb dX9_tell_96 (by decide) ?_
              cases hf
              exact hzz H locs ls hP hD hS (lv_sub hl [1, 2, 3, 4, 0] rfl)
            refine lv_if_eq (tgt := 93) hx hb dX9_tell_73 (by decide) (fun hc => ?_) (fun hc => ?_)
            · replace hf := zIf_t hc hf
              exact hJ93 v4 H locs ls hf hP hD hS (lv_sub hl [1, 2, 3, 4, 5] rfl)
            · replace hf := zIf_f hc hf
              refine lv_aload_n hx hb dX9_tell_76 rfl (lv_at hl 1 rfl) ?_
              refine zGet (ci := 9) (C := RX9) (F := TX9) (N := 12) (v := .ref (ad 8 0)) hx hb hts hiX9 hown hK hP 0 8 2 rfl rfl (by decide) rfl rfl rfl dX9_tell_77 ?_
              refine lv_iload hx hb dX9_tell_80 (lv_at hl 5 rfl) ?_
              obtain ⟨v12, hc82, hf⟩ := zB1_ok hf
              refine zCallVJI (wr := wX9 T ad gx ++ wX8 T (ad 1) gow) (ws' := wX9 T ad gx ++ wX8 T (ad 1) gow ++ wX1 T (ad 8) gd_3) [.int v5] ⟨hx, hb, hml, hown, hts⟩ (pX1_reachedBy l D T X (ad 8) H.size gd_3 v5 v12 hc82) (cwV 1 hts gX9_tell_X1_reachedBy rfl rfl rfl (by decide +kernel) ⟨Nat.le_of_ble_eq_true rfl, Nat.le_of_ble_eq_true rfl⟩) hK hP hD hS hA hX [12, 13, 14] [0, 1, 2, 3, 4, 5, 6, 7, 8, 9, 10, 11] [0, 1, 2, 3, 4, 5, 6, 7, 8, 9, 10, 11, 12, 13, 14] rfl rfl rfl rfl 0 rfl rfl rfl hl.1 rfl (Nat.le_of_ble_eq_true rfl) dX9_tell_82 ⟨Nat.zero_le _, Nat.zero_le _⟩ (fun H locs hP hD hS => ?_)
              refine lv_iload_n hx hb dX9_tell_85 rfl (lv_at hl 3 rfl) ?_
              refine lv_icmp_ne (tgt := 93) hx hb dX9_tell_86 (by decide) (fun hc => ?_) (fun hc => ?_)
              · replace hf := zIf_f hc hf
                exact hJ93 v4 H locs ls hf hP hD hS (lv_sub hl [1, 2, 3, 4, 5] rfl)
              · replace hf := zIf_t hc hf
                refine lv_iload hx hb dX9_tell_89 (lv_at hl 5 rfl) ?_
                refine lv_istore (lv' := [(4, .int v5), (6, .int v9), (0, .ref (ad 0 0)), (2, .int a2), (3, .int v2), (5, .int v5)]) hx hb dX9_tell_91 hl (by decide) rfl (fun ls hl => ?_)
                exact hJ93 v5 H locs ls hf hP hD hS (lv_sub hl [2, 3, 4, 0, 5] rfl)
          refine lv_icmp_ge (tgt := 68) hx hb dX9_tell_61 (by decide) (fun hc => ?_) (fun hc => ?_)
          · replace hf := zIf_t hc hf
            refine lv_iconst (v := 0) hx hb dX9_tell_68 (by decide) ?_
            exact hJ69 0 H locs ls hf hP hD hS hl
          · replace hf := zIf_f hc hf
            refine lv_iconst (v := 1) hx hb dX9_tell_64 (by decide) ?_
            refine lv_goto (tgt := 69) hx hb dX9_tell_65 (by decide) ?_
            exact hJ69 1 H locs ls hf hP hD hS hl
      · replace hf := zIf_t hc hf
        refine lv_iconst (v := (-1)) hx hb dX9_tell_17 (by decide) ?_
        obtain ⟨q1, q2⟩ := zI2 hf
        subst q1
        subst q2
        exact zRetI hQ hx hb hr hlocks hA0 hK hP hD hS rfl dX9_tell_18
set_option maxHeartbeats 4000000 in
set_option maxRecDepth 100000 in
theorem pX9_best (l : Launch) (D : va_G) (T : Nat → ClassId) (X : zFP) (ad : Nat → Nat → Nat) (sz : Nat) (gx : zM) (gow : zM) (gn : zM) (gh : zM) (a1 : Int32) (a2 : Int32) (r : Int32) (ngn : zM) (hf : fX9_best gx gow gn gh a1 a2 = some (r, ngn)) : Met l yX9_best wsX9_best rX9_best (zPre D T X [.ref (ad 0 0), .int a1, .int a2] (wX9 T ad gx ++ wX8 T (ad 1) gow ++ wX3 T (ad 5) gn ++ wX2 T (ad 10) gh) sz) (zQi D T r (wX9 T ad gx ++ wX8 T (ad 1) gow ++ wX3 T (ad 5) ngn ++ wX2 T (ad 10) gh) (wX9 T ad gx ++ wX8 T (ad 1) gow ++ wX3 T (ad 5) gn ++ wX2 T (ad 10) gh) sz) 0 0 (va_A (wX9 T ad gx ++ wX8 T (ad 1) gow ++ wX3 T (ad 5) gn ++ wX2 T (ad 10) gh) sz) := by
  unfold fX9_best at hf
  refine zStart [(0, .ref (ad 0 0)), (1, .int a1), (2, .int a2)] (by decide) rfl (Nat.le_of_ble_eq_true rfl) rfl ?_
  intro p e s m args below meth c A Q ls hx hb hr hml hown hlocks hts hsz hA0 hQ hA hK hX hP hD hS hl
  replace hown : s.vm.findClass RX9 = some m.cls := hown
  have hH := hsz
  have hiX2 : ∀ w ∈ u_ws RX2 TX2 6, w ∈ wsX9_best := fun w h => List.mem_cons_of_mem _ (List.mem_append_left _ (List.mem_append_left _ (List.mem_append_right _ (h))))
  have hiX9 : ∀ w ∈ u_ws RX9 TX9 12, w ∈ wsX9_best := fun w h => List.mem_cons_of_mem _ (List.mem_append_left _ (List.mem_append_left _ (List.mem_append_left _ (List.mem_append_right _ (h)))))
  obtain ⟨H, hHe⟩ : ∃ H : Heap, H = s.heap := ⟨_, rfl⟩
  obtain ⟨locs, hLe⟩ : ∃ L : List Loc, L = [] := ⟨_, rfl⟩
  replace hP : va_P D vwCl (wX9 T ad gx ++ wX8 T (ad 1) gow ++ wX3 T (ad 5) gn ++ wX2 T (ad 10) gh) H := by rw [hHe]; exact hP
  replace hS : va_S A s.heap H locs := by rw [hHe, hLe]; exact hS
  suffices hgo : W p l e rX9_best s m args below meth c H locs 0 0 Q (F0 m 0 ls []) by rw [hHe, hLe] at hgo; exact hgo
  clear hHe hLe
  refine lv_iload_n hx hb dX9_best_0 rfl (lv_at hl 1 rfl) ?_
  obtain ⟨v1, hc1, hf⟩ := zB1_ok hf
  refine zCallS0I [.int a1] ⟨hx, hb, hml, hown, hts⟩ (pX2_hasPlace l D T X H.size a1 v1 hc1) (va_cwS 1 hts gX9_best_X2_hasPlace rfl rfl rfl (by decide +kernel) ⟨Nat.le_of_ble_eq_true rfl, Nat.le_of_ble_eq_true rfl⟩) hK hP hD hS hA hX rfl hl.1 rfl (Nat.le_of_ble_eq_true rfl) dX9_best_1 ⟨Nat.zero_le _, Nat.zero_le _⟩ (fun H locs hP hD hS => ?_)
  refine lv_if_eq (tgt := 14) hx hb dX9_best_4 (by decide) (fun hc => ?_) (fun hc => ?_)
  · replace hf := zIf_t hc hf
    refine lv_iconst (v := (-1)) hx hb dX9_best_14 (by decide) ?_
    obtain ⟨q1, q2⟩ := zI2 hf
    subst q1
    subst q2
    exact zRetI hQ hx hb hr hlocks hA0 hK hP hD hS rfl dX9_best_15
  · replace hf := zIf_f hc hf
    refine lv_iload_n hx hb dX9_best_7 rfl (lv_at hl 2 rfl) ?_
    obtain ⟨v2, hc8, hf⟩ := zB1_ok hf
    refine zCallS0I [.int a2] ⟨hx, hb, hml, hown, hts⟩ (pX9_isEither l D T X H.size a2 v2 hc8) (va_cwS 1 hts gX9_best_X9_isEither rfl rfl rfl (by decide +kernel) ⟨Nat.le_of_ble_eq_true rfl, Nat.le_of_ble_eq_true rfl⟩) hK hP hD hS hA hX rfl hl.1 rfl (Nat.le_of_ble_eq_true rfl) dX9_best_8 ⟨Nat.zero_le _, Nat.zero_le _⟩ (fun H locs hP hD hS => ?_)
    refine lv_if_ne (tgt := 16) hx hb dX9_best_11 (by decide) (fun hc => ?_) (fun hc => ?_)
    · replace hf := zIf_f hc hf
      refine lv_aload_n hx hb dX9_best_16 rfl (lv_at hl 0 rfl) ?_
      refine zGet (ci := 9) (C := RX9) (F := TX9) (N := 12) (v := .ref (ad 10 0)) hx hb hts hiX9 hown hK hP 0 10 1 rfl rfl (by decide) rfl rfl rfl dX9_best_17 ?_
      refine lv_iload_n hx hb dX9_best_20 rfl (lv_at hl 1 rfl) ?_
      refine lv_iconst (v := 2) hx hb dX9_best_21 (by decide) ?_
      obtain ⟨v3, hc22, hf⟩ := zB1_ok hf
      refine zCallVJI (wr := wX9 T ad gx ++ wX8 T (ad 1) gow ++ wX3 T (ad 5) gn) (ws' := wX9 T ad gx ++ wX8 T (ad 1) gow ++ wX3 T (ad 5) gn ++ wX2 T (ad 10) gh) [.int a1, .int 2] ⟨hx, hb, hml, hown, hts⟩ (pX2_refusalOf l D T X (ad 10) H.size gh a1 2 v3 hc22) (cwV 2 hts gX9_best_X2_refusalOf rfl rfl rfl (by decide +kernel) ⟨Nat.le_of_ble_eq_true rfl, Nat.le_of_ble_eq_true rfl⟩) hK hP hD hS hA hX [14, 15, 16, 17, 18, 19, 20, 21, 22, 23, 24] [0, 1, 2, 3, 4, 5, 6, 7, 8, 9, 10, 11, 12, 13] [0, 1, 2, 3, 4, 5, 6, 7, 8, 9, 10, 11, 12, 13, 14, 15, 16, 17, 18, 19, 20, 21, 22, 23, 24] rfl rfl rfl rfl 0 rfl rfl rfl hl.1 rfl (Nat.le_of_ble_eq_true rfl) dX9_best_22 ⟨Nat.zero_le _, Nat.zero_le _⟩ (fun H locs hP hD hS => ?_)
      refine lv_istore_n (lv' := [(3, .int v3), (0, .ref (ad 0 0)), (1, .int a1), (2, .int a2)]) hx hb dX9_best_25 rfl hl (by decide) rfl (fun ls hl => ?_)
      refine lv_iload_n hx hb dX9_best_26 rfl (lv_at hl 0 rfl) ?_
      refine lv_if_eq (tgt := 32) hx hb dX9_best_27 (by decide) (fun hc => ?_) (fun hc => ?_)
      · replace hf := zIf_t hc hf
        refine lv_aload_n hx hb dX9_best_32 rfl (lv_at hl 1 rfl) ?_
        refine zGet (ci := 9) (C := RX9) (F := TX9) (N := 12) (v := .ref (ad 1 0)) hx hb hts hiX9 hown hK hP 0 0 2 rfl rfl (by decide) rfl rfl rfl dX9_best_33 ?_
        refine lv_iconst (v := 0) hx hb dX9_best_36 (by decide) ?_
        obtain ⟨v4, hc37, hf⟩ := zB1_ok hf
        refine zCallVJI (wr := wX9 T ad gx ++ wX3 T (ad 5) gn ++ wX2 T (ad 10) gh) (ws' := wX9 T ad gx ++ wX8 T (ad 1) gow ++ wX3 T (ad 5) gn ++ wX2 T (ad 10) gh) [.int 0] ⟨hx, hb, hml, hown, hts⟩ (pX8_openTies l D T X (ad 1) H.size gow 0 v4 hc37) (cwV 1 hts gX9_best_X8_openTies rfl rfl rfl (by decide +kernel) ⟨Nat.le_of_ble_eq_true rfl, Nat.le_of_ble_eq_true rfl⟩) hK hP hD hS hA hX [1, 2, 3, 4, 5, 6, 7, 8, 9, 10, 11] [0, 12, 13, 14, 15, 16, 17, 18, 19, 20, 21, 22, 23, 24] [0, 14, 15, 16, 17, 18, 19, 20, 21, 22, 23, 24, 1, 2, 3, 4, 5, 6, 7, 8, 9, 10, 11, 12, 13] rfl rfl rfl rfl 0 rfl rfl rfl hl.1 rfl (Nat.le_of_ble_eq_true rfl) dX9_best_37 ⟨Nat.zero_le _, Nat.zero_le _⟩ (fun H locs hP hD hS => ?_)
        refine lv_istore (lv' := [(4, .int v4), (3, .int v3), (0, .ref (ad 0 0)), (1, .int a1), (2, .int a2)]) hx hb dX9_best_40 hl (by decide) rfl (fun ls hl => ?_)
        refine lv_bipush (v := (-3)) hx hb dX9_best_42 (by decide) ?_
        refine lv_istore (lv' := [(5, .int (-3)), (4, .int v4), (3, .int v3), (0, .ref (ad 0 0)), (1, .int a1), (2, .int a2)]) hx hb dX9_best_44 hl (by decide) rfl (fun ls hl => ?_)
        refine lv_bipush (v := 11) hx hb dX9_best_46 (by decide) ?_
        refine lv_istore (lv' := [(6, .int 11), (5, .int (-3)), (4, .int v4), (3, .int v3), (0, .ref (ad 0 0)), (1, .int a1), (2, .int a2)]) hx hb dX9_best_48 hl (by decide) rfl (fun ls hl => ?_)
        refine lv_iconst (v := 0) hx hb dX9_best_50 (by decide) ?_
        refine lv_istore (lv' := [(7, .int 0), (6, .int 11), (5, .int (-3)), (4, .int v4), (3, .int v3), (0, .ref (ad 0 0)), (1, .int a1), (2, .int a2)]) hx hb dX9_best_51 hl (by decide) rfl (fun ls hl => ?_)
        obtain ⟨ex, hlp, hf⟩ := zB1_ok hf
        have hE53_132 : ∀ (v9 : Int32) (v10 : Int32) (gn_11 : zM) , ex = (v9, v10, gn_11) → ∀ (H : Heap) (locs : List Loc) (ls : Array Slot), va_P D vwCl (wX9 T ad gx ++ wX8 T (ad 1) gow ++ wX3 T (ad 5) gn_11 ++ wX2 T (ad 10) gh) H → va_D A (wX9 T ad gx ++ wX8 T (ad 1) gow ++ wX3 T (ad 5) gn_11 ++ wX2 T (ad 10) gh) → va_S A s.heap H locs → lv_has ls 9 [(2, .int a2), (5, .int v9), (6, .int v10)] → W p l e rX9_best s m args below meth c H locs 0 0 Q (F0 m 132 ls []) := by
          intro v9 v10 gn_11 hex H locs ls hP hD hS hl
          have hf := zEx3 hex hf
          refine lv_iload_n hx hb dX9_best_132 rfl (lv_at hl 0 rfl) ?_
          refine lv_if_eq (tgt := 141) hx hb dX9_best_133 (by decide) (fun hc => ?_) (fun hc => ?_)
          · replace hf := zIf_t hc hf
            refine lv_iload hx hb dX9_best_141 (lv_at hl 1 rfl) ?_
            refine lv_goto (tgt := 148) hx hb dX9_best_143 (by decide) ?_
            obtain ⟨q1, q2⟩ := zI2 hf
            subst q1
            subst q2
            exact zRetI hQ hx hb hr hlocks hA0 hK hP hD hS rfl dX9_best_148
          · replace hf := zIf_f hc hf
            refine lv_iload hx hb dX9_best_136 (lv_at hl 1 rfl) ?_
            refine lv_if_ge (tgt := 146) hx hb dX9_best_138 (by decide) (fun hc => ?_) (fun hc => ?_)
            · replace hf := zIf_t hc hf
              refine lv_iload hx hb dX9_best_146 (lv_at hl 2 rfl) ?_
              obtain ⟨q1, q2⟩ := zI2 hf
              subst q1
              subst q2
              exact zRetI hQ hx hb hr hlocks hA0 hK hP hD hS rfl dX9_best_148
            · replace hf := zIf_f hc hf
              refine lv_iload hx hb dX9_best_141 (lv_at hl 1 rfl) ?_
              refine lv_goto (tgt := 148) hx hb dX9_best_143 (by decide) ?_
              obtain ⟨q1, q2⟩ := zI2 hf
              subst q1
              subst q2
              exact zRetI hQ hx hb hr hlocks hA0 hK hP hD hS rfl dX9_best_148
        refine zLpS4 (body := (fX9_best_L53 a1 gow gh v4)) (b := ex) (fun (v5 : Int32) (v6 : Int32) (v7 : Int32) (gn_8 : zM) => ∀ (H : Heap) (locs : List Loc) (ls : Array Slot), va_P D vwCl (wX9 T ad gx ++ wX8 T (ad 1) gow ++ wX3 T (ad 5) gn_8 ++ wX2 T (ad 10) gh) H → va_D A (wX9 T ad gx ++ wX8 T (ad 1) gow ++ wX3 T (ad 5) gn_8 ++ wX2 T (ad 10) gh) → va_S A s.heap H locs → lv_has ls 9 [(0, .ref (ad 0 0)), (1, .int a1), (2, .int a2), (4, .int v4), (5, .int v5), (6, .int v6), (7, .int v7)] → W p l e rX9_best s m args below meth c H locs 0 0 Q (F0 m 53 ls [])) ?_ zFU (-3) 11 0 gn hlp H locs ls hP hD hS (lv_sub hl [5, 6, 7, 3, 2, 1, 0] rfl)
        intro v5 v6 v7 gn_8 z hf hzz H locs ls hP hD hS hl
        unfold fX9_best_L53 at hf
        replace hf := zUk4 hf
        refine lv_iload hx hb dX9_best_53 (lv_at hl 6 rfl) ?_
        refine lv_aload_n hx hb dX9_best_55 rfl (lv_at hl 0 rfl) ?_
        refine zGet (ci := 9) (C := RX9) (F := TX9) (N := 12) (v := .ref (ad 10 0)) hx hb hts hiX9 hown hK hP 0 10 1 rfl rfl (by decide) rfl rfl rfl dX9_best_56 ?_
        refine zGet (ci := 2) (C := RX2) (F := TX2) (N := 6) (v := .ref (ad 10 2)) hx hb hts hiX2 hown hK hP 14 1 3 rfl rfl (by decide) rfl rfl rfl dX9_best_59 ?_
        refine lv_iload_n hx hb dX9_best_62 rfl (lv_at hl 1 rfl) ?_
        obtain ⟨hg, hf⟩ := zGd_ok hf
        refine zAldI hx hb hK hP 16 rfl hg dX9_best_63 (fun v12 ev12 => ?_)
        replace hf := zLt_at ev12 hf
        refine lv_icmp_ge (tgt := 132) hx hb dX9_best_64 (by decide) (fun hc => ?_) (fun hc => ?_)
        · replace hf := zIf_t hc hf
          cases hf
          exact hE53_132 v5 v6 gn_8 hzz.symm H locs ls hP hD hS (lv_sub hl [2, 4, 5] rfl)
        · replace hf := zIf_f hc hf
          refine lv_aload_n hx hb dX9_best_67 rfl (lv_at hl 0 rfl) ?_
          refine zGet (ci := 9) (C := RX9) (F := TX9) (N := 12) (v := .ref (ad 5 0)) hx hb hts hiX9 hown hK hP 0 5 4 rfl rfl (by decide) rfl rfl rfl dX9_best_68 ?_
          refine lv_aload_n hx hb dX9_best_71 rfl (lv_at hl 0 rfl) ?_
          refine zGet (ci := 9) (C := RX9) (F := TX9) (N := 12) (v := .ref (ad 1 0)) hx hb hts hiX9 hown hK hP 0 0 2 rfl rfl (by decide) rfl rfl rfl dX9_best_72 ?_
          refine lv_iload hx hb dX9_best_75 (lv_at hl 3 rfl) ?_
          refine lv_aload_n hx hb dX9_best_77 rfl (lv_at hl 0 rfl) ?_
          refine zGet (ci := 9) (C := RX9) (F := TX9) (N := 12) (v := .ref (ad 10 0)) hx hb hts hiX9 hown hK hP 0 10 1 rfl rfl (by decide) rfl rfl rfl dX9_best_78 ?_
          refine zGet (ci := 2) (C := RX2) (F := TX2) (N := 6) (v := .ref (ad 10 3)) hx hb hts hiX2 hown hK hP 14 2 5 rfl rfl (by decide) rfl rfl rfl dX9_best_81 ?_
          refine lv_iload_n hx hb dX9_best_84 rfl (lv_at hl 1 rfl) ?_
          obtain ⟨hin85, hf⟩ := zGd_ok hf
          refine zAldA (h := (ad 10)) hx hb hK hP 17 7 rfl hin85 dX9_best_85 ?_
          refine lv_iload hx hb dX9_best_86 (lv_at hl 6 rfl) ?_
          obtain ⟨hg, hf⟩ := zGd_ok hf
          refine zAldI hx hb hK hP (21 + a1.toNatClampNeg) (zRow4 (P := fun k => (wX9 T ad gx ++ wX8 T (ad 1) gow ++ wX3 T (ad 5) gn_8 ++ wX2 T (ad 10) gh)[21 + k]? = some ((ad 10 (7 + k)), .inl (T 0, 40, .inl (gh (7 + k))))) rfl rfl rfl rfl (zIn_lt hin85)) hg dX9_best_88 (fun v13 ev13 => ?_)
          replace hf := zLt_at ev13 hf
          refine lv_iconst (v := (-1)) hx hb dX9_best_89 (by decide) ?_
          refine lv_ixor hx hb dX9_best_90 ?_
          refine lv_iand hx hb dX9_best_91 ?_
          obtain ⟨gn_14, hc92, hf⟩ := zB1_ok hf
          refine zCallVJV (wr := wX9 T ad gx ++ wX2 T (ad 10) gh) (ws' := wX9 T ad gx ++ wX8 T (ad 1) gow ++ wX3 T (ad 5) gn_14 ++ wX2 T (ad 10) gh) [.ref (ad 1 0), .int (v4 &&& (v13 ^^^ (-1)))] ⟨hx, hb, hml, hown, hts⟩ (pX3_lay l D T X (ad 5) (ad 1) H.size gn_8 gow (v4 &&& (v13 ^^^ (-1))) gn_14 hc92) (cwV 2 hts gX9_best_X3_lay rfl rfl rfl (by decide +kernel) ⟨Nat.le_of_ble_eq_true rfl, Nat.le_of_ble_eq_true rfl⟩) hK hP hD hS hA hX [12, 13, 1, 2, 3, 4, 5, 6, 7, 8, 9, 10, 11] [0, 14, 15, 16, 17, 18, 19, 20, 21, 22, 23, 24] [0, 14, 15, 16, 17, 18, 19, 20, 21, 22, 23, 24, 12, 13, 1, 2, 3, 4, 5, 6, 7, 8, 9, 10, 11] rfl rfl rfl rfl 0 rfl rfl rfl hl.1 rfl (Nat.le_of_ble_eq_true rfl) dX9_best_92 ⟨Nat.zero_le _, Nat.zero_le _⟩ (fun H locs hP hD hS => ?_)
          refine lv_aload_n hx hb dX9_best_95 rfl (lv_at hl 0 rfl) ?_
          refine zGet (ci := 9) (C := RX9) (F := TX9) (N := 12) (v := .ref (ad 5 0)) hx hb hts hiX9 hown hK hP 0 5 4 rfl rfl (by decide) rfl rfl rfl dX9_best_96 ?_
          refine lv_aload_n hx hb dX9_best_99 rfl (lv_at hl 0 rfl) ?_
          refine zGet (ci := 9) (C := RX9) (F := TX9) (N := 12) (v := .ref (ad 1 0)) hx hb hts hiX9 hown hK hP 0 0 2 rfl rfl (by decide) rfl rfl rfl dX9_best_100 ?_
          obtain ⟨v15, hc103, hf⟩ := zB1_ok hf
          refine zCallVJI (wr := wX9 T ad gx ++ wX3 T (ad 5) gn_14 ++ wX2 T (ad 10) gh) (ws' := wX9 T ad gx ++ wX8 T (ad 1) gow ++ wX3 T (ad 5) gn_14 ++ wX2 T (ad 10) gh) [] ⟨hx, hb, hml, hown, hts⟩ (pX8_everybody l D T X (ad 1) H.size gow v15 hc103) (cwV 0 hts gX9_best_X8_everybody rfl rfl rfl (by decide +kernel) ⟨Nat.le_of_ble_eq_true rfl, Nat.le_of_ble_eq_true rfl⟩) hK hP hD hS hA hX [1, 2, 3, 4, 5, 6, 7, 8, 9, 10, 11] [0, 12, 13, 14, 15, 16, 17, 18, 19, 20, 21, 22, 23, 24] [0, 14, 15, 16, 17, 18, 19, 20, 21, 22, 23, 24, 1, 2, 3, 4, 5, 6, 7, 8, 9, 10, 11, 12, 13] rfl rfl rfl rfl 0 rfl rfl rfl hl.1 rfl (Nat.le_of_ble_eq_true rfl) dX9_best_103 ⟨Nat.zero_le _, Nat.zero_le _⟩ (fun H locs hP hD hS => ?_)
          obtain ⟨v16, hc106, hf⟩ := zB1_ok hf
          refine zCallVJI (wr := wX9 T ad gx ++ wX8 T (ad 1) gow ++ wX2 T (ad 10) gh) (ws' := wX9 T ad gx ++ wX8 T (ad 1) gow ++ wX3 T (ad 5) gn_14 ++ wX2 T (ad 10) gh) [.int v15] ⟨hx, hb, hml, hown, hts⟩ (pX3_greatestSet l D T X (ad 5) H.size gn_14 v15 v16 hc106) (cwV 1 hts gX9_best_X3_greatestSet rfl rfl rfl (by decide +kernel) ⟨Nat.le_of_ble_eq_true rfl, Nat.le_of_ble_eq_true rfl⟩) hK hP hD hS hA hX [12, 13] [0, 1, 2, 3, 4, 5, 6, 7, 8, 9, 10, 11, 14, 15, 16, 17, 18, 19, 20, 21, 22, 23, 24] [0, 1, 2, 3, 4, 5, 6, 7, 8, 9, 10, 11, 23, 24, 12, 13, 14, 15, 16, 17, 18, 19, 20, 21, 22] rfl rfl rfl rfl 0 rfl rfl rfl hl.1 rfl (Nat.le_of_ble_eq_true rfl) dX9_best_106 ⟨Nat.zero_le _, Nat.zero_le _⟩ (fun H locs hP hD hS => ?_)
          refine lv_istore (lv' := [(8, .int v16), (0, .ref (ad 0 0)), (1, .int a1), (2, .int a2), (4, .int v4), (5, .int v5), (6, .int v6), (7, .int v7)]) hx hb dX9_best_109 hl (by decide) rfl (fun ls hl => ?_)
          refine lv_iload hx hb dX9_best_111 (lv_at hl 0 rfl) ?_
          refine lv_iload hx hb dX9_best_113 (lv_at hl 6 rfl) ?_
          have hJ126 : ∀ (v17 : Int32) (v18 : Int32) (H : Heap) (locs : List Loc) (ls : Array Slot), fX9_best_L53J126 v7 gn_14 v17 v18 = some z → va_P D vwCl (wX9 T ad gx ++ wX8 T (ad 1) gow ++ wX3 T (ad 5) gn_14 ++ wX2 T (ad 10) gh) H → va_D A (wX9 T ad gx ++ wX8 T (ad 1) gow ++ wX3 T (ad 5) gn_14 ++ wX2 T (ad 10) gh) → va_S A s.heap H locs → lv_has ls 9 [(0, .ref (ad 0 0)), (1, .int a1), (2, .int a2), (4, .int v4), (5, .int v17), (6, .int v18), (7, .int v7)] → W p l e rX9_best s m args below meth c H locs 0 0 Q (F0 m 126 ls []) := by
            intro v17 v18 H locs ls hf hP hD hS hl
            unfold fX9_best_L53J126 at hf
            obtain ⟨v19, ev19⟩ : ∃ y : Int32, y = v7 + 1 := ⟨_, rfl⟩
            replace hf := zLt_at ev19 hf
            refine lv_iinc (v := v19) (lv' := [(7, .int v19), (0, .ref (ad 0 0)), (1, .int a1), (2, .int a2), (4, .int v4), (5, .int v17), (6, .int v18)]) hx hb dX9_best_126 hl (k := 6) rfl (by rw [ev19]; rfl) (by decide) rfl (fun ls hl => ?_)
            refine lv_goto (tgt := 53) hx hb dX9_best_129 (by decide) ?_
            cases hf
            exact hzz H locs ls hP hD hS (lv_sub hl [1, 2, 3, 4, 5, 6, 0] rfl)
          refine lv_icmp_ge (tgt := 126) hx hb dX9_best_115 (by decide) (fun hc => ?_) (fun hc => ?_)
          · replace hf := zIf_t hc hf
            exact hJ126 v5 v6 H locs ls hf hP hD hS (lv_sub hl [1, 2, 3, 4, 5, 6, 7] rfl)
          · replace hf := zIf_f hc hf
            refine lv_iload hx hb dX9_best_118 (lv_at hl 0 rfl) ?_
            refine lv_istore (lv' := [(6, .int v16), (8, .int v16), (0, .ref (ad 0 0)), (1, .int a1), (2, .int a2), (4, .int v4), (5, .int v5), (7, .int v7)]) hx hb dX9_best_120 hl (by decide) rfl (fun ls hl => ?_)
            refine lv_iload hx hb dX9_best_122 (lv_at hl 7 rfl) ?_
            refine lv_istore (lv' := [(5, .int v7), (6, .int v16), (8, .int v16), (0, .ref (ad 0 0)), (1, .int a1), (2, .int a2), (4, .int v4), (7, .int v7)]) hx hb dX9_best_124 hl (by decide) rfl (fun ls hl => ?_)
            exact hJ126 v7 v16 H locs ls hf hP hD hS (lv_sub hl [3, 4, 5, 6, 0, 1, 7] rfl)
      · replace hf := zIf_f hc hf
        refine lv_iload_n hx hb dX9_best_30 rfl (lv_at hl 0 rfl) ?_
        obtain ⟨q1, q2⟩ := zI2 hf
        subst q1
        subst q2
        exact zRetI hQ hx hb hr hlocks hA0 hK hP hD hS rfl dX9_best_31
    · replace hf := zIf_t hc hf
      refine lv_iconst (v := (-1)) hx hb dX9_best_14 (by decide) ?_
      obtain ⟨q1, q2⟩ := zI2 hf
      subst q1
      subst q2
      exact zRetI hQ hx hb hr hlocks hA0 hK hP hD hS rfl dX9_best_15
set_option maxHeartbeats 4000000 in
set_option maxRecDepth 100000 in
theorem pX9_sheet (l : Launch) (D : va_G) (T : Nat → ClassId) (X : zFP) (ad : Nat → Nat → Nat) (sz : Nat) (gx : zM) (gh : zM) (a1 : Int32) (a2 : Int32) (a3 : Int32) (r : Int32) (ngh : zM) (hf : fX9_sheet gx gh a1 a2 a3 = some (r, ngh)) : Met l yX9_sheet wsX9_sheet rX9_sheet (zPre D T X [.ref (ad 0 0), .int a1, .int a2, .int a3] (wX9 T ad gx ++ wX2 T (ad 10) gh) sz) (zQi D T r (wX9 T ad gx ++ wX2 T (ad 10) ngh) (wX9 T ad gx ++ wX2 T (ad 10) gh) sz) 0 0 (va_A (wX9 T ad gx ++ wX2 T (ad 10) gh) sz) := by
  unfold fX9_sheet at hf
  refine zStart [(0, .ref (ad 0 0)), (1, .int a1), (2, .int a2), (3, .int a3)] (by decide) rfl (Nat.le_of_ble_eq_true rfl) rfl ?_
  intro p e s m args below meth c A Q ls hx hb hr hml hown hlocks hts hsz hA0 hQ hA hK hX hP hD hS hl
  replace hown : s.vm.findClass RX9 = some m.cls := hown
  have hH := hsz
  have hiX9 : ∀ w ∈ u_ws RX9 TX9 12, w ∈ wsX9_sheet := fun w h => List.mem_cons_of_mem _ (List.mem_append_left _ (List.mem_append_right _ (h)))
  obtain ⟨H, hHe⟩ : ∃ H : Heap, H = s.heap := ⟨_, rfl⟩
  obtain ⟨locs, hLe⟩ : ∃ L : List Loc, L = [] := ⟨_, rfl⟩
  replace hP : va_P D vwCl (wX9 T ad gx ++ wX2 T (ad 10) gh) H := by rw [hHe]; exact hP
  replace hS : va_S A s.heap H locs := by rw [hHe, hLe]; exact hS
  suffices hgo : W p l e rX9_sheet s m args below meth c H locs 0 0 Q (F0 m 0 ls []) by rw [hHe, hLe] at hgo; exact hgo
  clear hHe hLe
  refine lv_iload_n hx hb dX9_sheet_0 rfl (lv_at hl 1 rfl) ?_
  obtain ⟨v1, hc1, hf⟩ := zB1_ok hf
  refine zCallS0I [.int a1] ⟨hx, hb, hml, hown, hts⟩ (pX2_hasPlace l D T X H.size a1 v1 hc1) (va_cwS 1 hts gX9_sheet_X2_hasPlace rfl rfl rfl (by decide +kernel) ⟨Nat.le_of_ble_eq_true rfl, Nat.le_of_ble_eq_true rfl⟩) hK hP hD hS hA hX rfl hl.1 rfl (Nat.le_of_ble_eq_true rfl) dX9_sheet_1 ⟨Nat.zero_le _, Nat.zero_le _⟩ (fun H locs hP hD hS => ?_)
  refine lv_if_eq (tgt := 17) hx hb dX9_sheet_4 (by decide) (fun hc => ?_) (fun hc => ?_)
  · replace hf := zIf_t hc hf
    refine lv_iconst (v := (-1)) hx hb dX9_sheet_17 (by decide) ?_
    obtain ⟨q1, q2⟩ := zI2 hf
    subst q1
    subst q2
    exact zRetI hQ hx hb hr hlocks hA0 hK hP hD hS rfl dX9_sheet_18
  · replace hf := zIf_f hc hf
    refine lv_iload_n hx hb dX9_sheet_7 rfl (lv_at hl 2 rfl) ?_
    refine lv_iconst (v := (-1)) hx hb dX9_sheet_8 (by decide) ?_
    refine lv_icmp_lt (tgt := 17) hx hb dX9_sheet_9 (by decide) (fun hc => ?_) (fun hc => ?_)
    · replace hf := zIf_t hc hf
      refine lv_iconst (v := (-1)) hx hb dX9_sheet_17 (by decide) ?_
      obtain ⟨q1, q2⟩ := zI2 hf
      subst q1
      subst q2
      exact zRetI hQ hx hb hr hlocks hA0 hK hP hD hS rfl dX9_sheet_18
    · replace hf := zIf_f hc hf
      refine lv_iload_n hx hb dX9_sheet_12 rfl (lv_at hl 2 rfl) ?_
      refine lv_iconst (v := 3) hx hb dX9_sheet_13 (by decide) ?_
      refine lv_icmp_le (tgt := 19) hx hb dX9_sheet_14 (by decide) (fun hc => ?_) (fun hc => ?_)
      · replace hf := zIf_t hc hf
        refine lv_iload_n hx hb dX9_sheet_19 rfl (lv_at hl 2 rfl) ?_
        refine lv_iconst (v := (-1)) hx hb dX9_sheet_20 (by decide) ?_
        have hJ32 : ∀ (H : Heap) (locs : List Loc) (ls : Array Slot), fX9_sheet_J32 a1 a2 a3 gh = some (r, ngh) → va_P D vwCl (wX9 T ad gx ++ wX2 T (ad 10) gh) H → va_D A (wX9 T ad gx ++ wX2 T (ad 10) gh) → va_S A s.heap H locs → lv_has ls 4 [(0, .ref (ad 0 0)), (1, .int a1), (2, .int a2), (3, .int a3)] → W p l e rX9_sheet s m args below meth c H locs 0 0 Q (F0 m 32 ls []) := by
          intro H locs ls hf hP hD hS hl
          unfold fX9_sheet_J32 at hf
          refine lv_iload_n hx hb dX9_sheet_32 rfl (lv_at hl 2 rfl) ?_
          refine lv_iconst (v := (-1)) hx hb dX9_sheet_33 (by decide) ?_
          have hJ44 : ∀ (H : Heap) (locs : List Loc) (ls : Array Slot), fX9_sheet_J44 a1 a2 a3 gh = some (r, ngh) → va_P D vwCl (wX9 T ad gx ++ wX2 T (ad 10) gh) H → va_D A (wX9 T ad gx ++ wX2 T (ad 10) gh) → va_S A s.heap H locs → lv_has ls 4 [(0, .ref (ad 0 0)), (1, .int a1), (2, .int a2), (3, .int a3)] → W p l e rX9_sheet s m args below meth c H locs 0 0 Q (F0 m 44 ls []) := by
            intro H locs ls hf hP hD hS hl
            unfold fX9_sheet_J44 at hf
            refine lv_aload_n hx hb dX9_sheet_44 rfl (lv_at hl 0 rfl) ?_
            refine zGet (ci := 9) (C := RX9) (F := TX9) (N := 12) (v := .ref (ad 10 0)) hx hb hts hiX9 hown hK hP 0 10 1 rfl rfl (by decide) rfl rfl rfl dX9_sheet_45 ?_
            refine lv_iload_n hx hb dX9_sheet_48 rfl (lv_at hl 1 rfl) ?_
            refine lv_iload_n hx hb dX9_sheet_49 rfl (lv_at hl 2 rfl) ?_
            refine lv_iload_n hx hb dX9_sheet_50 rfl (lv_at hl 3 rfl) ?_
            obtain ⟨gh_2, hc51, hf⟩ := zB1_ok hf
            refine zCallVJV (wr := wX9 T ad gx) (ws' := wX9 T ad gx ++ wX2 T (ad 10) gh_2) [.int a1, .int a2, .int a3] ⟨hx, hb, hml, hown, hts⟩ (pX2_renew l D T X (ad 10) H.size gh a1 a2 a3 gh_2 hc51) (cwV 3 hts gX9_sheet_X2_renew rfl rfl rfl (by decide +kernel) ⟨Nat.le_of_ble_eq_true rfl, Nat.le_of_ble_eq_true rfl⟩) hK hP hD hS hA hX [1, 2, 3, 4, 5, 6, 7, 8, 9, 10, 11] [0] [0, 1, 2, 3, 4, 5, 6, 7, 8, 9, 10, 11] rfl rfl rfl rfl 0 rfl rfl rfl hl.1 rfl (Nat.le_of_ble_eq_true rfl) dX9_sheet_51 ⟨Nat.zero_le _, Nat.zero_le _⟩ (fun H locs hP hD hS => ?_)
            refine lv_iconst (v := 1) hx hb dX9_sheet_54 (by decide) ?_
            obtain ⟨q1, q2⟩ := zI2 hf
            subst q1
            subst q2
            exact zRetI hQ hx hb hr hlocks hA0 hK hP hD hS rfl dX9_sheet_55
          refine lv_icmp_eq (tgt := 44) hx hb dX9_sheet_34 (by decide) (fun hc => ?_) (fun hc => ?_)
          · replace hf := zIf_t hc hf
            exact hJ44 H locs ls hf hP hD hS hl
          · replace hf := zIf_f hc hf
            refine lv_iload_n hx hb dX9_sheet_37 rfl (lv_at hl 3 rfl) ?_
            refine lv_if_ge (tgt := 44) hx hb dX9_sheet_38 (by decide) (fun hc => ?_) (fun hc => ?_)
            · replace hf := zIf_t hc hf
              exact hJ44 H locs ls hf hP hD hS hl
            · replace hf := zIf_f hc hf
              refine lv_bipush (v := (-14)) hx hb dX9_sheet_41 (by decide) ?_
              obtain ⟨q1, q2⟩ := zI2 hf
              subst q1
              subst q2
              exact zRetI hQ hx hb hr hlocks hA0 hK hP hD hS rfl dX9_sheet_43
        refine lv_icmp_eq (tgt := 32) hx hb dX9_sheet_21 (by decide) (fun hc => ?_) (fun hc => ?_)
        · replace hf := zIf_t hc hf
          exact hJ32 H locs ls hf hP hD hS hl
        · replace hf := zIf_f hc hf
          refine lv_iload_n hx hb dX9_sheet_24 rfl (lv_at hl 3 rfl) ?_
          refine lv_bipush (v := 40) hx hb dX9_sheet_25 (by decide) ?_
          refine lv_icmp_le (tgt := 32) hx hb dX9_sheet_27 (by decide) (fun hc => ?_) (fun hc => ?_)
          · replace hf := zIf_t hc hf
            exact hJ32 H locs ls hf hP hD hS hl
          · replace hf := zIf_f hc hf
            refine lv_iconst (v := (-1)) hx hb dX9_sheet_30 (by decide) ?_
            obtain ⟨q1, q2⟩ := zI2 hf
            subst q1
            subst q2
            exact zRetI hQ hx hb hr hlocks hA0 hK hP hD hS rfl dX9_sheet_31
      · replace hf := zIf_f hc hf
        refine lv_iconst (v := (-1)) hx hb dX9_sheet_17 (by decide) ?_
        obtain ⟨q1, q2⟩ := zI2 hf
        subst q1
        subst q2
        exact zRetI hQ hx hb hr hlocks hA0 hK hP hD hS rfl dX9_sheet_18
set_option maxHeartbeats 4000000 in
set_option maxRecDepth 100000 in
theorem pX9_put (l : Launch) (D : va_G) (T : Nat → ClassId) (X : zFP) (ad : Nat → Nat → Nat) (sz : Nat) (gx : zM) (gh : zM) (a1 : Int32) (a2 : Int32) (a3 : Int32) (r : Int32) (ngh : zM) (hf : fX9_put gx gh a1 a2 a3 = some (r, ngh)) : Met l yX9_put wsX9_put rX9_put (zPre D T X [.ref (ad 0 0), .int a1, .int a2, .int a3] (wX9 T ad gx ++ wX2 T (ad 10) gh) sz) (zQi D T r (wX9 T ad gx ++ wX2 T (ad 10) ngh) (wX9 T ad gx ++ wX2 T (ad 10) gh) sz) 0 0 (va_A (wX9 T ad gx ++ wX2 T (ad 10) gh) sz) := by
  unfold fX9_put at hf
  refine zStart [(0, .ref (ad 0 0)), (1, .int a1), (2, .int a2), (3, .int a3)] (by decide) rfl (Nat.le_of_ble_eq_true rfl) rfl ?_
  intro p e s m args below meth c A Q ls hx hb hr hml hown hlocks hts hsz hA0 hQ hA hK hX hP hD hS hl
  replace hown : s.vm.findClass RX9 = some m.cls := hown
  have hH := hsz
  have hiX2 : ∀ w ∈ u_ws RX2 TX2 6, w ∈ wsX9_put := fun w h => List.mem_cons_of_mem _ (List.mem_append_right _ (h))
  have hiX9 : ∀ w ∈ u_ws RX9 TX9 12, w ∈ wsX9_put := fun w h => List.mem_cons_of_mem _ (List.mem_append_left _ (List.mem_append_right _ (h)))
  obtain ⟨H, hHe⟩ : ∃ H : Heap, H = s.heap := ⟨_, rfl⟩
  obtain ⟨locs, hLe⟩ : ∃ L : List Loc, L = [] := ⟨_, rfl⟩
  replace hP : va_P D vwCl (wX9 T ad gx ++ wX2 T (ad 10) gh) H := by rw [hHe]; exact hP
  replace hS : va_S A s.heap H locs := by rw [hHe, hLe]; exact hS
  suffices hgo : W p l e rX9_put s m args below meth c H locs 0 0 Q (F0 m 0 ls []) by rw [hHe, hLe] at hgo; exact hgo
  clear hHe hLe
  refine lv_iload_n hx hb dX9_put_0 rfl (lv_at hl 1 rfl) ?_
  obtain ⟨v1, hc1, hf⟩ := zB1_ok hf
  refine zCallS0I [.int a1] ⟨hx, hb, hml, hown, hts⟩ (pX2_hasPlace l D T X H.size a1 v1 hc1) (va_cwS 1 hts gX9_put_X2_hasPlace rfl rfl rfl (by decide +kernel) ⟨Nat.le_of_ble_eq_true rfl, Nat.le_of_ble_eq_true rfl⟩) hK hP hD hS hA hX rfl hl.1 rfl (Nat.le_of_ble_eq_true rfl) dX9_put_1 ⟨Nat.zero_le _, Nat.zero_le _⟩ (fun H locs hP hD hS => ?_)
  refine lv_if_ne (tgt := 9) hx hb dX9_put_4 (by decide) (fun hc => ?_) (fun hc => ?_)
  · replace hf := zIf_f hc hf
    refine lv_aload_n hx hb dX9_put_9 rfl (lv_at hl 0 rfl) ?_
    refine zGet (ci := 9) (C := RX9) (F := TX9) (N := 12) (v := .ref (ad 10 0)) hx hb hts hiX9 hown hK hP 0 10 1 rfl rfl (by decide) rfl rfl rfl dX9_put_10 ?_
    refine zGet (ci := 2) (C := RX2) (F := TX2) (N := 6) (v := .ref (ad 10 1)) hx hb hts hiX2 hown hK hP 1 0 2 rfl rfl (by decide) rfl rfl rfl dX9_put_13 ?_
    refine lv_iload_n hx hb dX9_put_16 rfl (lv_at hl 1 rfl) ?_
    obtain ⟨hg, hf⟩ := zGd_ok hf
    refine zAldI hx hb hK hP 2 rfl hg dX9_put_17 (fun v2 ev2 => ?_)
    replace hf := zLt_at ev2 hf
    refine lv_iconst (v := (-1)) hx hb dX9_put_18 (by decide) ?_
    refine lv_icmp_ne (tgt := 25) hx hb dX9_put_19 (by decide) (fun hc => ?_) (fun hc => ?_)
    · replace hf := zIf_f hc hf
      refine lv_iload_n hx hb dX9_put_25 rfl (lv_at hl 2 rfl) ?_
      refine lv_if_lt (tgt := 42) hx hb dX9_put_26 (by decide) (fun hc => ?_) (fun hc => ?_)
      · replace hf := zIf_t hc hf
        refine lv_bipush (v := (-12)) hx hb dX9_put_42 (by decide) ?_
        obtain ⟨q1, q2⟩ := zI2 hf
        subst q1
        subst q2
        exact zRetI hQ hx hb hr hlocks hA0 hK hP hD hS rfl dX9_put_44
      · replace hf := zIf_f hc hf
        refine lv_iload_n hx hb dX9_put_29 rfl (lv_at hl 2 rfl) ?_
        refine lv_aload_n hx hb dX9_put_30 rfl (lv_at hl 0 rfl) ?_
        refine zGet (ci := 9) (C := RX9) (F := TX9) (N := 12) (v := .ref (ad 10 0)) hx hb hts hiX9 hown hK hP 0 10 1 rfl rfl (by decide) rfl rfl rfl dX9_put_31 ?_
        refine zGet (ci := 2) (C := RX2) (F := TX2) (N := 6) (v := .ref (ad 10 2)) hx hb hts hiX2 hown hK hP 1 1 3 rfl rfl (by decide) rfl rfl rfl dX9_put_34 ?_
        refine lv_iload_n hx hb dX9_put_37 rfl (lv_at hl 1 rfl) ?_
        obtain ⟨hg, hf⟩ := zGd_ok hf
        refine zAldI hx hb hK hP 3 rfl hg dX9_put_38 (fun v3 ev3 => ?_)
        replace hf := zLt_at ev3 hf
        refine lv_icmp_lt (tgt := 45) hx hb dX9_put_39 (by decide) (fun hc => ?_) (fun hc => ?_)
        · replace hf := zIf_t hc hf
          refine lv_aload_n hx hb dX9_put_45 rfl (lv_at hl 0 rfl) ?_
          refine zGet (ci := 9) (C := RX9) (F := TX9) (N := 12) (v := .ref (ad 10 0)) hx hb hts hiX9 hown hK hP 0 10 1 rfl rfl (by decide) rfl rfl rfl dX9_put_46 ?_
          refine zGet (ci := 2) (C := RX2) (F := TX2) (N := 6) (v := .ref (ad 10 3)) hx hb hts hiX2 hown hK hP 1 2 4 rfl rfl (by decide) rfl rfl rfl dX9_put_49 ?_
          refine lv_iload_n hx hb dX9_put_52 rfl (lv_at hl 1 rfl) ?_
          obtain ⟨hin53, hf⟩ := zGd_ok hf
          refine zAldA (h := (ad 10)) hx hb hK hP 4 7 rfl hin53 dX9_put_53 ?_
          refine lv_iload_n hx hb dX9_put_54 rfl (lv_at hl 2 rfl) ?_
          refine lv_iload_n hx hb dX9_put_55 rfl (lv_at hl 3 rfl) ?_
          refine lv_aload_n hx hb dX9_put_56 rfl (lv_at hl 0 rfl) ?_
          refine zGet (ci := 9) (C := RX9) (F := TX9) (N := 12) (v := .ref (ad 10 0)) hx hb hts hiX9 hown hK hP 0 10 1 rfl rfl (by decide) rfl rfl rfl dX9_put_57 ?_
          refine zGet (ci := 2) (C := RX2) (F := TX2) (N := 6) (v := .ref (ad 10 1)) hx hb hts hiX2 hown hK hP 1 0 2 rfl rfl (by decide) rfl rfl rfl dX9_put_60 ?_
          refine lv_iload_n hx hb dX9_put_63 rfl (lv_at hl 1 rfl) ?_
          obtain ⟨hg, hf⟩ := zGd_ok hf
          refine zAldI hx hb hK hP 2 rfl hg dX9_put_64 (fun v4 ev4 => ?_)
          replace hf := zLt_at ev4 hf
          obtain ⟨v5, hc65, hf⟩ := zB1_ok hf
          refine zCallS0I [.int a3, .int v4] ⟨hx, hb, hml, hown, hts⟩ (pX2_narrowed l D T X H.size a3 v4 v5 hc65) (va_cwS 2 hts gX9_put_X2_narrowed rfl rfl rfl (by decide +kernel) ⟨Nat.le_of_ble_eq_true rfl, Nat.le_of_ble_eq_true rfl⟩) hK hP hD hS hA hX rfl hl.1 rfl (Nat.le_of_ble_eq_true rfl) dX9_put_65 ⟨Nat.zero_le _, Nat.zero_le _⟩ (fun H locs hP hD hS => ?_)
          obtain ⟨hg, hf⟩ := zGd_ok hf
          refine zAstI (w := gh) hx hb hK hP hD hS (fun g => wX9 T ad gx ++ wX2 T (ad 10) g) (8 + a1.toNatClampNeg) (7 + a1.toNatClampNeg) (zRow4 (P := fun k => (wX9 T ad gx ++ wX2 T (ad 10) gh)[8 + k]? = some ((ad 10 (7 + k)), .inl (T 0, 40, .inl (gh (7 + k))))) rfl rfl rfl rfl (zIn_lt hin53)) hg (zRow4 (P := fun k => (wX9 T ad gx ++ wX2 T (ad 10) gh).set (8 + k) ((ad 10 (7 + k)), .inl (T 0, 40, .inl (upd (gh (7 + k)) a2.toNatClampNeg v5))) = wX9 T ad gx ++ wX2 T (ad 10) (zPu gh (7 + k) a2.toNatClampNeg v5)) rfl rfl rfl rfl (zIn_lt hin53)) dX9_put_68 (fun gh_6 egh_6 H locs hP hD hS => ?_)
          replace hP : va_P D vwCl (wX9 T ad gx ++ wX2 T (ad 10) gh_6) H := hP
          replace hD : va_D A (wX9 T ad gx ++ wX2 T (ad 10) gh_6) := hD
          replace hf := zLt_at egh_6 hf
          refine lv_iconst (v := 1) hx hb dX9_put_69 (by decide) ?_
          obtain ⟨q1, q2⟩ := zI2 hf
          subst q1
          subst q2
          exact zRetI hQ hx hb hr hlocks hA0 hK hP hD hS rfl dX9_put_70
        · replace hf := zIf_f hc hf
          refine lv_bipush (v := (-12)) hx hb dX9_put_42 (by decide) ?_
          obtain ⟨q1, q2⟩ := zI2 hf
          subst q1
          subst q2
          exact zRetI hQ hx hb hr hlocks hA0 hK hP hD hS rfl dX9_put_44
    · replace hf := zIf_t hc hf
      refine lv_bipush (v := (-11)) hx hb dX9_put_22 (by decide) ?_
      obtain ⟨q1, q2⟩ := zI2 hf
      subst q1
      subst q2
      exact zRetI hQ hx hb hr hlocks hA0 hK hP hD hS rfl dX9_put_24
  · replace hf := zIf_t hc hf
    refine lv_iconst (v := (-1)) hx hb dX9_put_7 (by decide) ?_
    obtain ⟨q1, q2⟩ := zI2 hf
    subst q1
    subst q2
    exact zRetI hQ hx hb hr hlocks hA0 hK hP hD hS rfl dX9_put_8
set_option maxHeartbeats 4000000 in
set_option maxRecDepth 100000 in
theorem pX9_item (l : Launch) (D : va_G) (T : Nat → ClassId) (X : zFP) (ad : Nat → Nat → Nat) (sz : Nat) (gx : zM) (gh : zM) (a1 : Int32) (a2 : Int32) (a3 : Int32) (r : Int32) (hf : fX9_item gx gh a1 a2 a3 = some r) : Met l yX9_item wsX9_item rX9_item (zPre D T X [.ref (ad 0 0), .int a1, .int a2, .int a3] (wX9 T ad gx ++ wX2 T (ad 10) gh) sz) (zQi D T r (wX9 T ad gx ++ wX2 T (ad 10) gh) (wX9 T ad gx ++ wX2 T (ad 10) gh) sz) 0 0 (va_A (wX9 T ad gx ++ wX2 T (ad 10) gh) sz) := by
  unfold fX9_item at hf
  refine zStart [(0, .ref (ad 0 0)), (1, .int a1), (2, .int a2), (3, .int a3)] (by decide) rfl (Nat.le_of_ble_eq_true rfl) rfl ?_
  intro p e s m args below meth c A Q ls hx hb hr hml hown hlocks hts hsz hA0 hQ hA hK hX hP hD hS hl
  replace hown : s.vm.findClass RX9 = some m.cls := hown
  have hH := hsz
  have hiX2 : ∀ w ∈ u_ws RX2 TX2 6, w ∈ wsX9_item := fun w h => List.mem_cons_of_mem _ (List.mem_append_right _ (h))
  have hiX9 : ∀ w ∈ u_ws RX9 TX9 12, w ∈ wsX9_item := fun w h => List.mem_cons_of_mem _ (List.mem_append_left _ (List.mem_append_right _ (h)))
  obtain ⟨H, hHe⟩ : ∃ H : Heap, H = s.heap := ⟨_, rfl⟩
  obtain ⟨locs, hLe⟩ : ∃ L : List Loc, L = [] := ⟨_, rfl⟩
  replace hP : va_P D vwCl (wX9 T ad gx ++ wX2 T (ad 10) gh) H := by rw [hHe]; exact hP
  replace hS : va_S A s.heap H locs := by rw [hHe, hLe]; exact hS
  suffices hgo : W p l e rX9_item s m args below meth c H locs 0 0 Q (F0 m 0 ls []) by rw [hHe, hLe] at hgo; exact hgo
  clear hHe hLe
  refine lv_iload_n hx hb dX9_item_0 rfl (lv_at hl 1 rfl) ?_
  obtain ⟨v1, hc1, hf⟩ := zB1_ok hf
  refine zCallS0I [.int a1] ⟨hx, hb, hml, hown, hts⟩ (pX2_hasPlace l D T X H.size a1 v1 hc1) (va_cwS 1 hts gX9_item_X2_hasPlace rfl rfl rfl (by decide +kernel) ⟨Nat.le_of_ble_eq_true rfl, Nat.le_of_ble_eq_true rfl⟩) hK hP hD hS hA hX rfl hl.1 rfl (Nat.le_of_ble_eq_true rfl) dX9_item_1 ⟨Nat.zero_le _, Nat.zero_le _⟩ (fun H locs hP hD hS => ?_)
  refine lv_if_eq (tgt := 16) hx hb dX9_item_4 (by decide) (fun hc => ?_) (fun hc => ?_)
  · replace hf := zIf_t hc hf
    refine lv_iconst (v := (-1)) hx hb dX9_item_16 (by decide) ?_
    obtain ⟨q1, -⟩ := zI1 hf
    subst q1
    exact zRetI hQ hx hb hr hlocks hA0 hK hP hD hS rfl dX9_item_17
  · replace hf := zIf_f hc hf
    refine lv_iload_n hx hb dX9_item_7 rfl (lv_at hl 2 rfl) ?_
    refine lv_if_lt (tgt := 16) hx hb dX9_item_8 (by decide) (fun hc => ?_) (fun hc => ?_)
    · replace hf := zIf_t hc hf
      refine lv_iconst (v := (-1)) hx hb dX9_item_16 (by decide) ?_
      obtain ⟨q1, -⟩ := zI1 hf
      subst q1
      exact zRetI hQ hx hb hr hlocks hA0 hK hP hD hS rfl dX9_item_17
    · replace hf := zIf_f hc hf
      refine lv_iload_n hx hb dX9_item_11 rfl (lv_at hl 2 rfl) ?_
      refine lv_iconst (v := 3) hx hb dX9_item_12 (by decide) ?_
      refine lv_icmp_le (tgt := 18) hx hb dX9_item_13 (by decide) (fun hc => ?_) (fun hc => ?_)
      · replace hf := zIf_t hc hf
        refine lv_aload_n hx hb dX9_item_18 rfl (lv_at hl 0 rfl) ?_
        refine zGet (ci := 9) (C := RX9) (F := TX9) (N := 12) (v := .ref (ad 10 0)) hx hb hts hiX9 hown hK hP 0 10 1 rfl rfl (by decide) rfl rfl rfl dX9_item_19 ?_
        refine lv_iload_n hx hb dX9_item_22 rfl (lv_at hl 1 rfl) ?_
        refine lv_iload_n hx hb dX9_item_23 rfl (lv_at hl 2 rfl) ?_
        obtain ⟨v2, hc24, hf⟩ := zB1_ok hf
        refine zCallVJI (wr := wX9 T ad gx) (ws' := wX9 T ad gx ++ wX2 T (ad 10) gh) [.int a1, .int a2] ⟨hx, hb, hml, hown, hts⟩ (pX2_refusalOf l D T X (ad 10) H.size gh a1 a2 v2 hc24) (cwV 2 hts gX9_item_X2_refusalOf rfl rfl rfl (by decide +kernel) ⟨Nat.le_of_ble_eq_true rfl, Nat.le_of_ble_eq_true rfl⟩) hK hP hD hS hA hX [1, 2, 3, 4, 5, 6, 7, 8, 9, 10, 11] [0] [0, 1, 2, 3, 4, 5, 6, 7, 8, 9, 10, 11] rfl rfl rfl rfl 0 rfl rfl rfl hl.1 rfl (Nat.le_of_ble_eq_true rfl) dX9_item_24 ⟨Nat.zero_le _, Nat.zero_le _⟩ (fun H locs hP hD hS => ?_)
        refine lv_istore (lv' := [(4, .int v2), (0, .ref (ad 0 0)), (1, .int a1), (2, .int a2), (3, .int a3)]) hx hb dX9_item_27 hl (by decide) rfl (fun ls hl => ?_)
        refine lv_iload hx hb dX9_item_29 (lv_at hl 0 rfl) ?_
        refine lv_if_eq (tgt := 37) hx hb dX9_item_31 (by decide) (fun hc => ?_) (fun hc => ?_)
        · replace hf := zIf_t hc hf
          refine lv_iload_n hx hb dX9_item_37 rfl (lv_at hl 4 rfl) ?_
          refine lv_if_lt (tgt := 54) hx hb dX9_item_38 (by decide) (fun hc => ?_) (fun hc => ?_)
          · replace hf := zIf_t hc hf
            refine lv_bipush (v := (-12)) hx hb dX9_item_54 (by decide) ?_
            obtain ⟨q1, -⟩ := zI1 hf
            subst q1
            exact zRetI hQ hx hb hr hlocks hA0 hK hP hD hS rfl dX9_item_56
          · replace hf := zIf_f hc hf
            refine lv_iload_n hx hb dX9_item_41 rfl (lv_at hl 4 rfl) ?_
            refine lv_aload_n hx hb dX9_item_42 rfl (lv_at hl 1 rfl) ?_
            refine zGet (ci := 9) (C := RX9) (F := TX9) (N := 12) (v := .ref (ad 10 0)) hx hb hts hiX9 hown hK hP 0 10 1 rfl rfl (by decide) rfl rfl rfl dX9_item_43 ?_
            refine zGet (ci := 2) (C := RX2) (F := TX2) (N := 6) (v := .ref (ad 10 2)) hx hb hts hiX2 hown hK hP 1 1 2 rfl rfl (by decide) rfl rfl rfl dX9_item_46 ?_
            refine lv_iload_n hx hb dX9_item_49 rfl (lv_at hl 2 rfl) ?_
            obtain ⟨hg, hf⟩ := zGd_ok hf
            refine zAldI hx hb hK hP 3 rfl hg dX9_item_50 (fun v3 ev3 => ?_)
            replace hf := zLt_at ev3 hf
            refine lv_icmp_lt (tgt := 57) hx hb dX9_item_51 (by decide) (fun hc => ?_) (fun hc => ?_)
            · replace hf := zIf_t hc hf
              refine lv_aload_n hx hb dX9_item_57 rfl (lv_at hl 1 rfl) ?_
              refine zGet (ci := 9) (C := RX9) (F := TX9) (N := 12) (v := .ref (ad 10 0)) hx hb hts hiX9 hown hK hP 0 10 1 rfl rfl (by decide) rfl rfl rfl dX9_item_58 ?_
              refine zGet (ci := 2) (C := RX2) (F := TX2) (N := 6) (v := .ref (ad 10 3)) hx hb hts hiX2 hown hK hP 1 2 3 rfl rfl (by decide) rfl rfl rfl dX9_item_61 ?_
              refine lv_iload_n hx hb dX9_item_64 rfl (lv_at hl 2 rfl) ?_
              obtain ⟨hin65, hf⟩ := zGd_ok hf
              refine zAldA (h := (ad 10)) hx hb hK hP 4 7 rfl hin65 dX9_item_65 ?_
              refine lv_iload_n hx hb dX9_item_66 rfl (lv_at hl 4 rfl) ?_
              obtain ⟨hg, hf⟩ := zGd_ok hf
              refine zAldI hx hb hK hP (8 + a1.toNatClampNeg) (zRow4 (P := fun k => (wX9 T ad gx ++ wX2 T (ad 10) gh)[8 + k]? = some ((ad 10 (7 + k)), .inl (T 0, 40, .inl (gh (7 + k))))) rfl rfl rfl rfl (zIn_lt hin65)) hg dX9_item_67 (fun v4 ev4 => ?_)
              replace hf := zLt_at ev4 hf
              obtain ⟨q1, -⟩ := zI1 hf
              subst q1
              exact zRetI hQ hx hb hr hlocks hA0 hK hP hD hS rfl dX9_item_68
            · replace hf := zIf_f hc hf
              refine lv_bipush (v := (-12)) hx hb dX9_item_54 (by decide) ?_
              obtain ⟨q1, -⟩ := zI1 hf
              subst q1
              exact zRetI hQ hx hb hr hlocks hA0 hK hP hD hS rfl dX9_item_56
        · replace hf := zIf_f hc hf
          refine lv_iload hx hb dX9_item_34 (lv_at hl 0 rfl) ?_
          obtain ⟨q1, -⟩ := zI1 hf
          subst q1
          exact zRetI hQ hx hb hr hlocks hA0 hK hP hD hS rfl dX9_item_36
      · replace hf := zIf_f hc hf
        refine lv_iconst (v := (-1)) hx hb dX9_item_16 (by decide) ?_
        obtain ⟨q1, -⟩ := zI1 hf
        subst q1
        exact zRetI hQ hx hb hr hlocks hA0 hK hP hD hS rfl dX9_item_17
set_option maxHeartbeats 4000000 in
set_option maxRecDepth 100000 in
theorem pX9_shelf (l : Launch) (D : va_G) (T : Nat → ClassId) (X : zFP) (ad : Nat → Nat → Nat) (sz : Nat) (gx : zM) (gow : zM) (gh : zM) (a1 : Int32) (a2 : Int32) (a3 : Int32) (r : Int32) (ngh : zM) (hf : fX9_shelf gx gow gh a1 a2 a3 = some (r, ngh)) : Met l yX9_shelf wsX9_shelf rX9_shelf (zPre D T X [.ref (ad 0 0), .int a1, .int a2, .int a3] (wX9 T ad gx ++ wX8 T (ad 1) gow ++ wX2 T (ad 10) gh) sz) (zQi D T r (wX9 T ad gx ++ wX8 T (ad 1) gow ++ wX2 T (ad 10) ngh) (wX9 T ad gx ++ wX8 T (ad 1) gow ++ wX2 T (ad 10) gh) sz) 0 0 (va_A (wX9 T ad gx ++ wX8 T (ad 1) gow ++ wX2 T (ad 10) gh) sz) := by
  unfold fX9_shelf at hf
  refine zStart [(0, .ref (ad 0 0)), (1, .int a1), (2, .int a2), (3, .int a3)] (by decide) rfl (Nat.le_of_ble_eq_true rfl) rfl ?_
  intro p e s m args below meth c A Q ls hx hb hr hml hown hlocks hts hsz hA0 hQ hA hK hX hP hD hS hl
  replace hown : s.vm.findClass RX9 = some m.cls := hown
  have hH := hsz
  have hiX9 : ∀ w ∈ u_ws RX9 TX9 12, w ∈ wsX9_shelf := fun w h => List.mem_cons_of_mem _ (List.mem_append_left _ (List.mem_append_left _ (List.mem_append_right _ (h))))
  obtain ⟨H, hHe⟩ : ∃ H : Heap, H = s.heap := ⟨_, rfl⟩
  obtain ⟨locs, hLe⟩ : ∃ L : List Loc, L = [] := ⟨_, rfl⟩
  replace hP : va_P D vwCl (wX9 T ad gx ++ wX8 T (ad 1) gow ++ wX2 T (ad 10) gh) H := by rw [hHe]; exact hP
  replace hS : va_S A s.heap H locs := by rw [hHe, hLe]; exact hS
  suffices hgo : W p l e rX9_shelf s m args below meth c H locs 0 0 Q (F0 m 0 ls []) by rw [hHe, hLe] at hgo; exact hgo
  clear hHe hLe
  refine lv_iload_n hx hb dX9_shelf_0 rfl (lv_at hl 1 rfl) ?_
  obtain ⟨v1, hc1, hf⟩ := zB1_ok hf
  refine zCallS0I [.int a1] ⟨hx, hb, hml, hown, hts⟩ (pX2_hasPlace l D T X H.size a1 v1 hc1) (va_cwS 1 hts gX9_shelf_X2_hasPlace rfl rfl rfl (by decide +kernel) ⟨Nat.le_of_ble_eq_true rfl, Nat.le_of_ble_eq_true rfl⟩) hK hP hD hS hA hX rfl hl.1 rfl (Nat.le_of_ble_eq_true rfl) dX9_shelf_1 ⟨Nat.zero_le _, Nat.zero_le _⟩ (fun H locs hP hD hS => ?_)
  refine lv_if_eq (tgt := 16) hx hb dX9_shelf_4 (by decide) (fun hc => ?_) (fun hc => ?_)
  · replace hf := zIf_t hc hf
    refine lv_iconst (v := (-1)) hx hb dX9_shelf_16 (by decide) ?_
    obtain ⟨q1, q2⟩ := zI2 hf
    subst q1
    subst q2
    exact zRetI hQ hx hb hr hlocks hA0 hK hP hD hS rfl dX9_shelf_17
  · replace hf := zIf_f hc hf
    refine lv_iload_n hx hb dX9_shelf_7 rfl (lv_at hl 2 rfl) ?_
    refine lv_if_lt (tgt := 16) hx hb dX9_shelf_8 (by decide) (fun hc => ?_) (fun hc => ?_)
    · replace hf := zIf_t hc hf
      refine lv_iconst (v := (-1)) hx hb dX9_shelf_16 (by decide) ?_
      obtain ⟨q1, q2⟩ := zI2 hf
      subst q1
      subst q2
      exact zRetI hQ hx hb hr hlocks hA0 hK hP hD hS rfl dX9_shelf_17
    · replace hf := zIf_f hc hf
      refine lv_iload_n hx hb dX9_shelf_11 rfl (lv_at hl 2 rfl) ?_
      refine lv_iconst (v := 2) hx hb dX9_shelf_12 (by decide) ?_
      refine lv_icmp_le (tgt := 18) hx hb dX9_shelf_13 (by decide) (fun hc => ?_) (fun hc => ?_)
      · replace hf := zIf_t hc hf
        refine lv_iload_n hx hb dX9_shelf_18 rfl (lv_at hl 2 rfl) ?_
        have hJ33 : ∀ (H : Heap) (locs : List Loc) (ls : Array Slot), fX9_shelf_J33 a1 a2 a3 gh = some (r, ngh) → va_P D vwCl (wX9 T ad gx ++ wX8 T (ad 1) gow ++ wX2 T (ad 10) gh) H → va_D A (wX9 T ad gx ++ wX8 T (ad 1) gow ++ wX2 T (ad 10) gh) → va_S A s.heap H locs → lv_has ls 4 [(0, .ref (ad 0 0)), (1, .int a1), (2, .int a2), (3, .int a3)] → W p l e rX9_shelf s m args below meth c H locs 0 0 Q (F0 m 33 ls []) := by
          intro H locs ls hf hP hD hS hl
          unfold fX9_shelf_J33 at hf
          refine lv_iload_n hx hb dX9_shelf_33 rfl (lv_at hl 2 rfl) ?_
          refine lv_iconst (v := 1) hx hb dX9_shelf_34 (by decide) ?_
          have hJ47 : ∀ (H : Heap) (locs : List Loc) (ls : Array Slot), fX9_shelf_J47 a1 a2 a3 gh = some (r, ngh) → va_P D vwCl (wX9 T ad gx ++ wX8 T (ad 1) gow ++ wX2 T (ad 10) gh) H → va_D A (wX9 T ad gx ++ wX8 T (ad 1) gow ++ wX2 T (ad 10) gh) → va_S A s.heap H locs → lv_has ls 4 [(0, .ref (ad 0 0)), (1, .int a1), (2, .int a2), (3, .int a3)] → W p l e rX9_shelf s m args below meth c H locs 0 0 Q (F0 m 47 ls []) := by
            intro H locs ls hf hP hD hS hl
            unfold fX9_shelf_J47 at hf
            refine lv_iload_n hx hb dX9_shelf_47 rfl (lv_at hl 2 rfl) ?_
            refine lv_if_ne (tgt := 63) hx hb dX9_shelf_48 (by decide) (fun hc => ?_) (fun hc => ?_)
            · replace hf := zIf_f hc hf
              refine lv_iload_n hx hb dX9_shelf_63 rfl (lv_at hl 2 rfl) ?_
              refine lv_iconst (v := 1) hx hb dX9_shelf_64 (by decide) ?_
              refine lv_icmp_ne (tgt := 80) hx hb dX9_shelf_65 (by decide) (fun hc => ?_) (fun hc => ?_)
              · replace hf := zIf_f hc hf
                refine lv_aload_n hx hb dX9_shelf_80 rfl (lv_at hl 0 rfl) ?_
                refine zGet (ci := 9) (C := RX9) (F := TX9) (N := 12) (v := .ref (ad 10 0)) hx hb hts hiX9 hown hK hP 0 10 2 rfl rfl (by decide) rfl rfl rfl dX9_shelf_81 ?_
                refine lv_iload_n hx hb dX9_shelf_84 rfl (lv_at hl 1 rfl) ?_
                obtain ⟨gh_2, hc85, hf⟩ := zB1_ok hf
                refine zCallVJV (wr := wX9 T ad gx ++ wX8 T (ad 1) gow) (ws' := wX9 T ad gx ++ wX8 T (ad 1) gow ++ wX2 T (ad 10) gh_2) [.int a1] ⟨hx, hb, hml, hown, hts⟩ (pX2_holdNothing l D T X (ad 10) H.size gh a1 gh_2 hc85) (cwV 1 hts gX9_shelf_X2_holdNothing rfl rfl rfl (by decide +kernel) ⟨Nat.le_of_ble_eq_true rfl, Nat.le_of_ble_eq_true rfl⟩) hK hP hD hS hA hX [12, 13, 14, 15, 16, 17, 18, 19, 20, 21, 22] [0, 1, 2, 3, 4, 5, 6, 7, 8, 9, 10, 11] [0, 1, 2, 3, 4, 5, 6, 7, 8, 9, 10, 11, 12, 13, 14, 15, 16, 17, 18, 19, 20, 21, 22] rfl rfl rfl rfl 0 rfl rfl rfl hl.1 rfl (Nat.le_of_ble_eq_true rfl) dX9_shelf_85 ⟨Nat.zero_le _, Nat.zero_le _⟩ (fun H locs hP hD hS => ?_)
                refine lv_iconst (v := 1) hx hb dX9_shelf_88 (by decide) ?_
                obtain ⟨q1, q2⟩ := zI2 hf
                subst q1
                subst q2
                exact zRetI hQ hx hb hr hlocks hA0 hK hP hD hS rfl dX9_shelf_89
              · replace hf := zIf_t hc hf
                refine lv_aload_n hx hb dX9_shelf_68 rfl (lv_at hl 0 rfl) ?_
                refine zGet (ci := 9) (C := RX9) (F := TX9) (N := 12) (v := .ref (ad 10 0)) hx hb hts hiX9 hown hK hP 0 10 2 rfl rfl (by decide) rfl rfl rfl dX9_shelf_69 ?_
                refine lv_iload_n hx hb dX9_shelf_72 rfl (lv_at hl 1 rfl) ?_
                refine lv_iload_n hx hb dX9_shelf_73 rfl (lv_at hl 3 rfl) ?_
                obtain ⟨gh_3, hc74, hf⟩ := zB1_ok hf
                refine zCallVJV (wr := wX9 T ad gx ++ wX8 T (ad 1) gow) (ws' := wX9 T ad gx ++ wX8 T (ad 1) gow ++ wX2 T (ad 10) gh_3) [.int a1, .int a3] ⟨hx, hb, hml, hown, hts⟩ (pX2_holdRow l D T X (ad 10) H.size gh a1 a3 gh_3 hc74) (cwV 2 hts gX9_shelf_X2_holdRow rfl rfl rfl (by decide +kernel) ⟨Nat.le_of_ble_eq_true rfl, Nat.le_of_ble_eq_true rfl⟩) hK hP hD hS hA hX [12, 13, 14, 15, 16, 17, 18, 19, 20, 21, 22] [0, 1, 2, 3, 4, 5, 6, 7, 8, 9, 10, 11] [0, 1, 2, 3, 4, 5, 6, 7, 8, 9, 10, 11, 12, 13, 14, 15, 16, 17, 18, 19, 20, 21, 22] rfl rfl rfl rfl 0 rfl rfl rfl hl.1 rfl (Nat.le_of_ble_eq_true rfl) dX9_shelf_74 ⟨Nat.zero_le _, Nat.zero_le _⟩ (fun H locs hP hD hS => ?_)
                refine lv_goto (tgt := 88) hx hb dX9_shelf_77 (by decide) ?_
                refine lv_iconst (v := 1) hx hb dX9_shelf_88 (by decide) ?_
                obtain ⟨q1, q2⟩ := zI2 hf
                subst q1
                subst q2
                exact zRetI hQ hx hb hr hlocks hA0 hK hP hD hS rfl dX9_shelf_89
            · replace hf := zIf_t hc hf
              refine lv_aload_n hx hb dX9_shelf_51 rfl (lv_at hl 0 rfl) ?_
              refine zGet (ci := 9) (C := RX9) (F := TX9) (N := 12) (v := .ref (ad 10 0)) hx hb hts hiX9 hown hK hP 0 10 2 rfl rfl (by decide) rfl rfl rfl dX9_shelf_52 ?_
              refine lv_iload_n hx hb dX9_shelf_55 rfl (lv_at hl 1 rfl) ?_
              refine lv_iload_n hx hb dX9_shelf_56 rfl (lv_at hl 3 rfl) ?_
              obtain ⟨gh_4, hc57, hf⟩ := zB1_ok hf
              refine zCallVJV (wr := wX9 T ad gx ++ wX8 T (ad 1) gow) (ws' := wX9 T ad gx ++ wX8 T (ad 1) gow ++ wX2 T (ad 10) gh_4) [.int a1, .int a3] ⟨hx, hb, hml, hown, hts⟩ (pX2_holdCut l D T X (ad 10) H.size gh a1 a3 gh_4 hc57) (cwV 2 hts gX9_shelf_X2_holdCut rfl rfl rfl (by decide +kernel) ⟨Nat.le_of_ble_eq_true rfl, Nat.le_of_ble_eq_true rfl⟩) hK hP hD hS hA hX [12, 13, 14, 15, 16, 17, 18, 19, 20, 21, 22] [0, 1, 2, 3, 4, 5, 6, 7, 8, 9, 10, 11] [0, 1, 2, 3, 4, 5, 6, 7, 8, 9, 10, 11, 12, 13, 14, 15, 16, 17, 18, 19, 20, 21, 22] rfl rfl rfl rfl 0 rfl rfl rfl hl.1 rfl (Nat.le_of_ble_eq_true rfl) dX9_shelf_57 ⟨Nat.zero_le _, Nat.zero_le _⟩ (fun H locs hP hD hS => ?_)
              refine lv_goto (tgt := 88) hx hb dX9_shelf_60 (by decide) ?_
              refine lv_iconst (v := 1) hx hb dX9_shelf_88 (by decide) ?_
              obtain ⟨q1, q2⟩ := zI2 hf
              subst q1
              subst q2
              exact zRetI hQ hx hb hr hlocks hA0 hK hP hD hS rfl dX9_shelf_89
          refine lv_icmp_ne (tgt := 47) hx hb dX9_shelf_35 (by decide) (fun hc => ?_) (fun hc => ?_)
          · replace hf := zIf_f hc hf
            exact hJ47 H locs ls hf hP hD hS hl
          · replace hf := zIf_t hc hf
            refine lv_iload_n hx hb dX9_shelf_38 rfl (lv_at hl 3 rfl) ?_
            obtain ⟨v5, hc39, hf⟩ := zB1_ok hf
            refine zCallS0I [.int a3] ⟨hx, hb, hml, hown, hts⟩ (pX2_hasPlace l D T X H.size a3 v5 hc39) (va_cwS 1 hts gX9_shelf_X2_hasPlace rfl rfl rfl (by decide +kernel) ⟨Nat.le_of_ble_eq_true rfl, Nat.le_of_ble_eq_true rfl⟩) hK hP hD hS hA hX rfl hl.1 rfl (Nat.le_of_ble_eq_true rfl) dX9_shelf_39 ⟨Nat.zero_le _, Nat.zero_le _⟩ (fun H locs hP hD hS => ?_)
            refine lv_if_ne (tgt := 47) hx hb dX9_shelf_42 (by decide) (fun hc => ?_) (fun hc => ?_)
            · replace hf := zIf_f hc hf
              exact hJ47 H locs ls hf hP hD hS hl
            · replace hf := zIf_t hc hf
              refine lv_iconst (v := (-1)) hx hb dX9_shelf_45 (by decide) ?_
              obtain ⟨q1, q2⟩ := zI2 hf
              subst q1
              subst q2
              exact zRetI hQ hx hb hr hlocks hA0 hK hP hD hS rfl dX9_shelf_46
        refine lv_if_ne (tgt := 33) hx hb dX9_shelf_19 (by decide) (fun hc => ?_) (fun hc => ?_)
        · replace hf := zIf_f hc hf
          exact hJ33 H locs ls hf hP hD hS hl
        · replace hf := zIf_t hc hf
          refine lv_aload_n hx hb dX9_shelf_22 rfl (lv_at hl 0 rfl) ?_
          refine zGet (ci := 9) (C := RX9) (F := TX9) (N := 12) (v := .ref (ad 1 0)) hx hb hts hiX9 hown hK hP 0 0 1 rfl rfl (by decide) rfl rfl rfl dX9_shelf_23 ?_
          refine lv_iload_n hx hb dX9_shelf_26 rfl (lv_at hl 3 rfl) ?_
          obtain ⟨v6, hc27, hf⟩ := zB1_ok hf
          refine zCallVJI (wr := wX9 T ad gx ++ wX2 T (ad 10) gh) (ws' := wX9 T ad gx ++ wX8 T (ad 1) gow ++ wX2 T (ad 10) gh) [.int a3] ⟨hx, hb, hml, hown, hts⟩ (pX8_hasCut l D T X (ad 1) H.size gow a3 v6 hc27) (cwV 1 hts gX9_shelf_X8_hasCut rfl rfl rfl (by decide +kernel) ⟨Nat.le_of_ble_eq_true rfl, Nat.le_of_ble_eq_true rfl⟩) hK hP hD hS hA hX [1, 2, 3, 4, 5, 6, 7, 8, 9, 10, 11] [0, 12, 13, 14, 15, 16, 17, 18, 19, 20, 21, 22] [0, 12, 13, 14, 15, 16, 17, 18, 19, 20, 21, 22, 1, 2, 3, 4, 5, 6, 7, 8, 9, 10, 11] rfl rfl rfl rfl 0 rfl rfl rfl hl.1 rfl (Nat.le_of_ble_eq_true rfl) dX9_shelf_27 ⟨Nat.zero_le _, Nat.zero_le _⟩ (fun H locs hP hD hS => ?_)
          refine lv_if_eq (tgt := 45) hx hb dX9_shelf_30 (by decide) (fun hc => ?_) (fun hc => ?_)
          · replace hf := zIf_t hc hf
            refine lv_iconst (v := (-1)) hx hb dX9_shelf_45 (by decide) ?_
            obtain ⟨q1, q2⟩ := zI2 hf
            subst q1
            subst q2
            exact zRetI hQ hx hb hr hlocks hA0 hK hP hD hS rfl dX9_shelf_46
          · replace hf := zIf_f hc hf
            exact hJ33 H locs ls hf hP hD hS hl
      · replace hf := zIf_f hc hf
        refine lv_iconst (v := (-1)) hx hb dX9_shelf_16 (by decide) ?_
        obtain ⟨q1, q2⟩ := zI2 hf
        subst q1
        subst q2
        exact zRetI hQ hx hb hr hlocks hA0 hK hP hD hS rfl dX9_shelf_17
set_option maxHeartbeats 4000000 in
set_option maxRecDepth 100000 in
theorem pX9_taken (l : Launch) (D : va_G) (T : Nat → ClassId) (X : zFP) (ad : Nat → Nat → Nat) (sz : Nat) (gx : zM) (gow : zM) (gh : zM) (a1 : Int32) (a2 : Int32) (r : Int32) (hf : fX9_taken gx gow gh a1 a2 = some r) : Met l yX9_taken wsX9_taken rX9_taken (zPre D T X [.ref (ad 0 0), .int a1, .int a2] (wX9 T ad gx ++ wX8 T (ad 1) gow ++ wX2 T (ad 10) gh) sz) (zQi D T r (wX9 T ad gx ++ wX8 T (ad 1) gow ++ wX2 T (ad 10) gh) (wX9 T ad gx ++ wX8 T (ad 1) gow ++ wX2 T (ad 10) gh) sz) 0 0 (va_A (wX9 T ad gx ++ wX8 T (ad 1) gow ++ wX2 T (ad 10) gh) sz) := by
  unfold fX9_taken at hf
  refine zStart [(0, .ref (ad 0 0)), (1, .int a1), (2, .int a2)] (by decide) rfl (Nat.le_of_ble_eq_true rfl) rfl ?_
  intro p e s m args below meth c A Q ls hx hb hr hml hown hlocks hts hsz hA0 hQ hA hK hX hP hD hS hl
  replace hown : s.vm.findClass RX9 = some m.cls := hown
  have hH := hsz
  have hiX2 : ∀ w ∈ u_ws RX2 TX2 6, w ∈ wsX9_taken := fun w h => List.mem_cons_of_mem _ (List.mem_append_left _ (List.mem_append_right _ (h)))
  have hiX8 : ∀ w ∈ u_ws RX8 TX8 14, w ∈ wsX9_taken := fun w h => List.mem_cons_of_mem _ (List.mem_append_right _ (h))
  have hiX9 : ∀ w ∈ u_ws RX9 TX9 12, w ∈ wsX9_taken := fun w h => List.mem_cons_of_mem _ (List.mem_append_left _ (List.mem_append_left _ (List.mem_append_right _ (h))))
  obtain ⟨H, hHe⟩ : ∃ H : Heap, H = s.heap := ⟨_, rfl⟩
  obtain ⟨locs, hLe⟩ : ∃ L : List Loc, L = [] := ⟨_, rfl⟩
  replace hP : va_P D vwCl (wX9 T ad gx ++ wX8 T (ad 1) gow ++ wX2 T (ad 10) gh) H := by rw [hHe]; exact hP
  replace hS : va_S A s.heap H locs := by rw [hHe, hLe]; exact hS
  suffices hgo : W p l e rX9_taken s m args below meth c H locs 0 0 Q (F0 m 0 ls []) by rw [hHe, hLe] at hgo; exact hgo
  clear hHe hLe
  refine lv_iload_n hx hb dX9_taken_0 rfl (lv_at hl 2 rfl) ?_
  refine lv_bipush (v := 10) hx hb dX9_taken_1 (by decide) ?_
  have hJ17 : ∀ (v1 : Int32) (H : Heap) (locs : List Loc) (ls : Array Slot), fX9_taken_J17 a1 a2 gow gh v1 = some r → va_P D vwCl (wX9 T ad gx ++ wX8 T (ad 1) gow ++ wX2 T (ad 10) gh) H → va_D A (wX9 T ad gx ++ wX8 T (ad 1) gow ++ wX2 T (ad 10) gh) → va_S A s.heap H locs → lv_has ls 6 [(0, .ref (ad 0 0)), (1, .int a1), (2, .int a2)] → W p l e rX9_taken s m args below meth c H locs 0 0 Q (F0 m 17 ls [.int v1]) := by
    intro v1 H locs ls hf hP hD hS hl
    unfold fX9_taken_J17 at hf
    refine lv_istore_n (lv' := [(3, .int v1), (0, .ref (ad 0 0)), (1, .int a1), (2, .int a2)]) hx hb dX9_taken_17 rfl hl (by decide) rfl (fun ls hl => ?_)
    refine lv_iload_n hx hb dX9_taken_18 rfl (lv_at hl 3 rfl) ?_
    have hJ33 : ∀ (v2 : Int32) (H : Heap) (locs : List Loc) (ls : Array Slot), fX9_taken_J33 a1 a2 gow gh v1 v2 = some r → va_P D vwCl (wX9 T ad gx ++ wX8 T (ad 1) gow ++ wX2 T (ad 10) gh) H → va_D A (wX9 T ad gx ++ wX8 T (ad 1) gow ++ wX2 T (ad 10) gh) → va_S A s.heap H locs → lv_has ls 6 [(0, .ref (ad 0 0)), (1, .int a1), (2, .int a2), (3, .int v1)] → W p l e rX9_taken s m args below meth c H locs 0 0 Q (F0 m 33 ls [.int v2]) := by
      intro v2 H locs ls hf hP hD hS hl
      unfold fX9_taken_J33 at hf
      refine lv_istore (lv' := [(4, .int v2), (0, .ref (ad 0 0)), (1, .int a1), (2, .int a2), (3, .int v1)]) hx hb dX9_taken_33 hl (by decide) rfl (fun ls hl => ?_)
      refine lv_iload_n hx hb dX9_taken_35 rfl (lv_at hl 2 rfl) ?_
      obtain ⟨v3, hc36, hf⟩ := zB1_ok hf
      refine zCallS0I [.int a1] ⟨hx, hb, hml, hown, hts⟩ (pX2_hasPlace l D T X H.size a1 v3 hc36) (va_cwS 1 hts gX9_taken_X2_hasPlace rfl rfl rfl (by decide +kernel) ⟨Nat.le_of_ble_eq_true rfl, Nat.le_of_ble_eq_true rfl⟩) hK hP hD hS hA hX rfl hl.1 rfl (Nat.le_of_ble_eq_true rfl) dX9_taken_36 ⟨Nat.zero_le _, Nat.zero_le _⟩ (fun H locs hP hD hS => ?_)
      refine lv_if_eq (tgt := 51) hx hb dX9_taken_39 (by decide) (fun hc => ?_) (fun hc => ?_)
      · replace hf := zIf_t hc hf
        refine lv_iconst (v := (-1)) hx hb dX9_taken_51 (by decide) ?_
        obtain ⟨q1, -⟩ := zI1 hf
        subst q1
        exact zRetI hQ hx hb hr hlocks hA0 hK hP hD hS rfl dX9_taken_52
      · replace hf := zIf_f hc hf
        refine lv_iload_n hx hb dX9_taken_42 rfl (lv_at hl 4 rfl) ?_
        have hJ53 : ∀ (H : Heap) (locs : List Loc) (ls : Array Slot), fX9_taken_J53 a1 a2 gow gh v1 v2 = some r → va_P D vwCl (wX9 T ad gx ++ wX8 T (ad 1) gow ++ wX2 T (ad 10) gh) H → va_D A (wX9 T ad gx ++ wX8 T (ad 1) gow ++ wX2 T (ad 10) gh) → va_S A s.heap H locs → lv_has ls 6 [(0, .ref (ad 0 0)), (1, .int a1), (2, .int a2), (3, .int v1), (4, .int v2)] → W p l e rX9_taken s m args below meth c H locs 0 0 Q (F0 m 53 ls []) := by
          intro H locs ls hf hP hD hS hl
          unfold fX9_taken_J53 at hf
          refine lv_aload_n hx hb dX9_taken_53 rfl (lv_at hl 0 rfl) ?_
          refine zGet (ci := 9) (C := RX9) (F := TX9) (N := 12) (v := .ref (ad 10 0)) hx hb hts hiX9 hown hK hP 0 10 1 rfl rfl (by decide) rfl rfl rfl dX9_taken_54 ?_
          refine lv_iload_n hx hb dX9_taken_57 rfl (lv_at hl 1 rfl) ?_
          obtain ⟨v4, hc58, hf⟩ := zB1_ok hf
          refine zCallVJI (wr := wX9 T ad gx ++ wX8 T (ad 1) gow) (ws' := wX9 T ad gx ++ wX8 T (ad 1) gow ++ wX2 T (ad 10) gh) [.int a1] ⟨hx, hb, hml, hown, hts⟩ (pX2_isRow l D T X (ad 10) H.size gh a1 v4 hc58) (cwV 1 hts gX9_taken_X2_isRow rfl rfl rfl (by decide +kernel) ⟨Nat.le_of_ble_eq_true rfl, Nat.le_of_ble_eq_true rfl⟩) hK hP hD hS hA hX [12, 13, 14, 15, 16, 17, 18, 19, 20, 21, 22] [0, 1, 2, 3, 4, 5, 6, 7, 8, 9, 10, 11] [0, 1, 2, 3, 4, 5, 6, 7, 8, 9, 10, 11, 12, 13, 14, 15, 16, 17, 18, 19, 20, 21, 22] rfl rfl rfl rfl 0 rfl rfl rfl hl.1 rfl (Nat.le_of_ble_eq_true rfl) dX9_taken_58 ⟨Nat.zero_le _, Nat.zero_le _⟩ (fun H locs hP hD hS => ?_)
          refine lv_if_eq (tgt := 99) hx hb dX9_taken_61 (by decide) (fun hc => ?_) (fun hc => ?_)
          · replace hf := zIf_t hc hf
            refine lv_aload_n hx hb dX9_taken_99 rfl (lv_at hl 0 rfl) ?_
            refine zGet (ci := 9) (C := RX9) (F := TX9) (N := 12) (v := .ref (ad 10 0)) hx hb hts hiX9 hown hK hP 0 10 1 rfl rfl (by decide) rfl rfl rfl dX9_taken_100 ?_
            refine lv_iload_n hx hb dX9_taken_103 rfl (lv_at hl 1 rfl) ?_
            obtain ⟨v5, hc104, hf⟩ := zB1_ok hf
            refine zCallVJI (wr := wX9 T ad gx ++ wX8 T (ad 1) gow) (ws' := wX9 T ad gx ++ wX8 T (ad 1) gow ++ wX2 T (ad 10) gh) [.int a1] ⟨hx, hb, hml, hown, hts⟩ (pX2_cutOn l D T X (ad 10) H.size gh a1 v5 hc104) (cwV 1 hts gX9_taken_X2_cutOn rfl rfl rfl (by decide +kernel) ⟨Nat.le_of_ble_eq_true rfl, Nat.le_of_ble_eq_true rfl⟩) hK hP hD hS hA hX [12, 13, 14, 15, 16, 17, 18, 19, 20, 21, 22] [0, 1, 2, 3, 4, 5, 6, 7, 8, 9, 10, 11] [0, 1, 2, 3, 4, 5, 6, 7, 8, 9, 10, 11, 12, 13, 14, 15, 16, 17, 18, 19, 20, 21, 22] rfl rfl rfl rfl 0 rfl rfl rfl hl.1 rfl (Nat.le_of_ble_eq_true rfl) dX9_taken_104 ⟨Nat.zero_le _, Nat.zero_le _⟩ (fun H locs hP hD hS => ?_)
            refine lv_istore (lv' := [(5, .int v5), (0, .ref (ad 0 0)), (1, .int a1), (2, .int a2), (3, .int v1), (4, .int v2)]) hx hb dX9_taken_107 hl (by decide) rfl (fun ls hl => ?_)
            refine lv_aload_n hx hb dX9_taken_109 rfl (lv_at hl 1 rfl) ?_
            refine zGet (ci := 9) (C := RX9) (F := TX9) (N := 12) (v := .ref (ad 1 0)) hx hb hts hiX9 hown hK hP 0 0 4 rfl rfl (by decide) rfl rfl rfl dX9_taken_110 ?_
            refine lv_iload hx hb dX9_taken_113 (lv_at hl 0 rfl) ?_
            obtain ⟨v6, hc115, hf⟩ := zB1_ok hf
            refine zCallVJI (wr := wX9 T ad gx ++ wX2 T (ad 10) gh) (ws' := wX9 T ad gx ++ wX8 T (ad 1) gow ++ wX2 T (ad 10) gh) [.int v5] ⟨hx, hb, hml, hown, hts⟩ (pX8_hasCut l D T X (ad 1) H.size gow v5 v6 hc115) (cwV 1 hts gX9_taken_X8_hasCut rfl rfl rfl (by decide +kernel) ⟨Nat.le_of_ble_eq_true rfl, Nat.le_of_ble_eq_true rfl⟩) hK hP hD hS hA hX [1, 2, 3, 4, 5, 6, 7, 8, 9, 10, 11] [0, 12, 13, 14, 15, 16, 17, 18, 19, 20, 21, 22] [0, 12, 13, 14, 15, 16, 17, 18, 19, 20, 21, 22, 1, 2, 3, 4, 5, 6, 7, 8, 9, 10, 11] rfl rfl rfl rfl 0 rfl rfl rfl hl.1 rfl (Nat.le_of_ble_eq_true rfl) dX9_taken_115 ⟨Nat.zero_le _, Nat.zero_le _⟩ (fun H locs hP hD hS => ?_)
            refine lv_if_ne (tgt := 124) hx hb dX9_taken_118 (by decide) (fun hc => ?_) (fun hc => ?_)
            · replace hf := zIf_f hc hf
              refine lv_iload hx hb dX9_taken_124 (lv_at hl 5 rfl) ?_
              refine lv_if_eq (tgt := 151) hx hb dX9_taken_126 (by decide) (fun hc => ?_) (fun hc => ?_)
              · replace hf := zIf_t hc hf
                refine lv_bipush (v := (-13)) hx hb dX9_taken_151 (by decide) ?_
                obtain ⟨q1, -⟩ := zI1 hf
                subst q1
                exact zRetI hQ hx hb hr hlocks hA0 hK hP hD hS rfl dX9_taken_153
              · replace hf := zIf_f hc hf
                refine lv_aload_n hx hb dX9_taken_129 rfl (lv_at hl 1 rfl) ?_
                refine zGet (ci := 9) (C := RX9) (F := TX9) (N := 12) (v := .ref (ad 1 0)) hx hb hts hiX9 hown hK hP 0 0 4 rfl rfl (by decide) rfl rfl rfl dX9_taken_130 ?_
                refine zGet (ci := 8) (C := RX8) (F := TX8) (N := 14) (v := .ref (ad 1 8)) hx hb hts hiX8 hown hK hP 1 10 5 rfl rfl (by decide) rfl rfl rfl dX9_taken_133 ?_
                refine lv_iload hx hb dX9_taken_136 (lv_at hl 0 rfl) ?_
                obtain ⟨hg, hf⟩ := zGd_ok hf
                refine zAldI hx hb hK hP 9 rfl hg dX9_taken_138 (fun v7 ev7 => ?_)
                replace hf := zLt_at ev7 hf
                refine lv_iload_n hx hb dX9_taken_139 rfl (lv_at hl 3 rfl) ?_
                obtain ⟨v8, hc140, hf⟩ := zB1_ok hf
                refine zCallS0I [.int v7, .int a2] ⟨hx, hb, hml, hown, hts⟩ (pX8_isUnder l D T X H.size v7 a2 v8 hc140) (va_cwS 2 hts gX9_taken_X8_isUnder rfl rfl rfl (by decide +kernel) ⟨Nat.le_of_ble_eq_true rfl, Nat.le_of_ble_eq_true rfl⟩) hK hP hD hS hA hX rfl hl.1 rfl (Nat.le_of_ble_eq_true rfl) dX9_taken_140 ⟨Nat.zero_le _, Nat.zero_le _⟩ (fun H locs hP hD hS => ?_)
                refine lv_if_eq (tgt := 151) hx hb dX9_taken_143 (by decide) (fun hc => ?_) (fun hc => ?_)
                · replace hf := zIf_t hc hf
                  refine lv_bipush (v := (-13)) hx hb dX9_taken_151 (by decide) ?_
                  obtain ⟨q1, -⟩ := zI1 hf
                  subst q1
                  exact zRetI hQ hx hb hr hlocks hA0 hK hP hD hS rfl dX9_taken_153
                · replace hf := zIf_f hc hf
                  refine lv_iload hx hb dX9_taken_146 (lv_at hl 0 rfl) ?_
                  refine lv_goto (tgt := 153) hx hb dX9_taken_148 (by decide) ?_
                  obtain ⟨q1, -⟩ := zI1 hf
                  subst q1
                  exact zRetI hQ hx hb hr hlocks hA0 hK hP hD hS rfl dX9_taken_153
            · replace hf := zIf_t hc hf
              refine lv_bipush (v := (-11)) hx hb dX9_taken_121 (by decide) ?_
              obtain ⟨q1, -⟩ := zI1 hf
              subst q1
              exact zRetI hQ hx hb hr hlocks hA0 hK hP hD hS rfl dX9_taken_123
          · replace hf := zIf_f hc hf
            refine lv_iload_n hx hb dX9_taken_64 rfl (lv_at hl 3 rfl) ?_
            refine lv_if_eq (tgt := 96) hx hb dX9_taken_65 (by decide) (fun hc => ?_) (fun hc => ?_)
            · replace hf := zIf_t hc hf
              refine lv_bipush (v := (-13)) hx hb dX9_taken_96 (by decide) ?_
              obtain ⟨q1, -⟩ := zI1 hf
              subst q1
              exact zRetI hQ hx hb hr hlocks hA0 hK hP hD hS rfl dX9_taken_98
            · replace hf := zIf_f hc hf
              refine lv_aload_n hx hb dX9_taken_68 rfl (lv_at hl 0 rfl) ?_
              refine zGet (ci := 9) (C := RX9) (F := TX9) (N := 12) (v := .ref (ad 10 0)) hx hb hts hiX9 hown hK hP 0 10 1 rfl rfl (by decide) rfl rfl rfl dX9_taken_69 ?_
              refine zGet (ci := 2) (C := RX2) (F := TX2) (N := 6) (v := .ref (ad 10 6)) hx hb hts hiX2 hown hK hP 12 5 2 rfl rfl (by decide) rfl rfl rfl dX9_taken_72 ?_
              refine lv_iload_n hx hb dX9_taken_75 rfl (lv_at hl 1 rfl) ?_
              obtain ⟨hg, hf⟩ := zGd_ok hf
              refine zAldI hx hb hK hP 18 rfl hg dX9_taken_76 (fun v9 ev9 => ?_)
              replace hf := zLt_at ev9 hf
              refine lv_iload_n hx hb dX9_taken_77 rfl (lv_at hl 2 rfl) ?_
              refine lv_bipush (v := 10) hx hb dX9_taken_78 (by decide) ?_
              refine lv_isub hx hb dX9_taken_80 ?_
              refine lv_icmp_ne (tgt := 96) hx hb dX9_taken_81 (by decide) (fun hc => ?_) (fun hc => ?_)
              · replace hf := zIf_f hc hf
                refine lv_bipush (v := (-13)) hx hb dX9_taken_96 (by decide) ?_
                obtain ⟨q1, -⟩ := zI1 hf
                subst q1
                exact zRetI hQ hx hb hr hlocks hA0 hK hP hD hS rfl dX9_taken_98
              · replace hf := zIf_t hc hf
                refine lv_aload_n hx hb dX9_taken_84 rfl (lv_at hl 0 rfl) ?_
                refine zGet (ci := 9) (C := RX9) (F := TX9) (N := 12) (v := .ref (ad 10 0)) hx hb hts hiX9 hown hK hP 0 10 1 rfl rfl (by decide) rfl rfl rfl dX9_taken_85 ?_
                refine zGet (ci := 2) (C := RX2) (F := TX2) (N := 6) (v := .ref (ad 10 5)) hx hb hts hiX2 hown hK hP 12 4 3 rfl rfl (by decide) rfl rfl rfl dX9_taken_88 ?_
                refine lv_iload_n hx hb dX9_taken_91 rfl (lv_at hl 1 rfl) ?_
                obtain ⟨hg, hf⟩ := zGd_ok hf
                refine zAldI hx hb hK hP 17 rfl hg dX9_taken_92 (fun v10 ev10 => ?_)
                replace hf := zLt_at ev10 hf
                refine lv_goto (tgt := 98) hx hb dX9_taken_93 (by decide) ?_
                obtain ⟨q1, -⟩ := zI1 hf
                subst q1
                exact zRetI hQ hx hb hr hlocks hA0 hK hP hD hS rfl dX9_taken_98
        refine lv_if_ne (tgt := 53) hx hb dX9_taken_43 (by decide) (fun hc => ?_) (fun hc => ?_)
        · replace hf := zIf_f hc hf
          exact hJ53 H locs ls hf hP hD hS (lv_sub hl [1, 2, 3, 4, 0] rfl)
        · replace hf := zIf_t hc hf
          refine lv_iload hx hb dX9_taken_46 (lv_at hl 0 rfl) ?_
          refine lv_if_ne (tgt := 53) hx hb dX9_taken_48 (by decide) (fun hc => ?_) (fun hc => ?_)
          · replace hf := zIf_f hc hf
            exact hJ53 H locs ls hf hP hD hS (lv_sub hl [1, 2, 3, 4, 0] rfl)
          · replace hf := zIf_t hc hf
            refine lv_iconst (v := (-1)) hx hb dX9_taken_51 (by decide) ?_
            obtain ⟨q1, -⟩ := zI1 hf
            subst q1
            exact zRetI hQ hx hb hr hlocks hA0 hK hP hD hS rfl dX9_taken_52
    have hJ32 : ∀ (H : Heap) (locs : List Loc) (ls : Array Slot), fX9_taken_J32 a1 a2 gow gh v1 = some r → va_P D vwCl (wX9 T ad gx ++ wX8 T (ad 1) gow ++ wX2 T (ad 10) gh) H → va_D A (wX9 T ad gx ++ wX8 T (ad 1) gow ++ wX2 T (ad 10) gh) → va_S A s.heap H locs → lv_has ls 6 [(0, .ref (ad 0 0)), (1, .int a1), (2, .int a2), (3, .int v1)] → W p l e rX9_taken s m args below meth c H locs 0 0 Q (F0 m 32 ls []) := by
      intro H locs ls hf hP hD hS hl
      unfold fX9_taken_J32 at hf
      refine lv_iconst (v := 0) hx hb dX9_taken_32 (by decide) ?_
      exact hJ33 0 H locs ls hf hP hD hS hl
    refine lv_if_lt (tgt := 32) hx hb dX9_taken_19 (by decide) (fun hc => ?_) (fun hc => ?_)
    · replace hf := zIf_t hc hf
      exact hJ32 H locs ls hf hP hD hS (lv_sub hl [1, 2, 3, 0] rfl)
    · replace hf := zIf_f hc hf
      refine lv_iload_n hx hb dX9_taken_22 rfl (lv_at hl 3 rfl) ?_
      refine lv_bipush (v := 6) hx hb dX9_taken_23 (by decide) ?_
      refine lv_icmp_gt (tgt := 32) hx hb dX9_taken_25 (by decide) (fun hc => ?_) (fun hc => ?_)
      · replace hf := zIf_t hc hf
        exact hJ32 H locs ls hf hP hD hS (lv_sub hl [1, 2, 3, 0] rfl)
      · replace hf := zIf_f hc hf
        refine lv_iconst (v := 1) hx hb dX9_taken_28 (by decide) ?_
        refine lv_goto (tgt := 33) hx hb dX9_taken_29 (by decide) ?_
        exact hJ33 1 H locs ls hf hP hD hS (lv_sub hl [1, 2, 3, 0] rfl)
  have hJ16 : ∀ (H : Heap) (locs : List Loc) (ls : Array Slot), fX9_taken_J16 a1 a2 gow gh = some r → va_P D vwCl (wX9 T ad gx ++ wX8 T (ad 1) gow ++ wX2 T (ad 10) gh) H → va_D A (wX9 T ad gx ++ wX8 T (ad 1) gow ++ wX2 T (ad 10) gh) → va_S A s.heap H locs → lv_has ls 6 [(0, .ref (ad 0 0)), (1, .int a1), (2, .int a2)] → W p l e rX9_taken s m args below meth c H locs 0 0 Q (F0 m 16 ls []) := by
    intro H locs ls hf hP hD hS hl
    unfold fX9_taken_J16 at hf
    refine lv_iconst (v := 0) hx hb dX9_taken_16 (by decide) ?_
    exact hJ17 0 H locs ls hf hP hD hS hl
  refine lv_icmp_lt (tgt := 16) hx hb dX9_taken_3 (by decide) (fun hc => ?_) (fun hc => ?_)
  · replace hf := zIf_t hc hf
    exact hJ16 H locs ls hf hP hD hS hl
  · replace hf := zIf_f hc hf
    refine lv_iload_n hx hb dX9_taken_6 rfl (lv_at hl 2 rfl) ?_
    refine lv_bipush (v := 13) hx hb dX9_taken_7 (by decide) ?_
    refine lv_icmp_gt (tgt := 16) hx hb dX9_taken_9 (by decide) (fun hc => ?_) (fun hc => ?_)
    · replace hf := zIf_t hc hf
      exact hJ16 H locs ls hf hP hD hS hl
    · replace hf := zIf_f hc hf
      refine lv_iconst (v := 1) hx hb dX9_taken_12 (by decide) ?_
      refine lv_goto (tgt := 17) hx hb dX9_taken_13 (by decide) ?_
      exact hJ17 1 H locs ls hf hP hD hS hl
set_option maxHeartbeats 4000000 in
set_option maxRecDepth 100000 in
theorem pX9_act (l : Launch) (D : va_G) (T : Nat → ClassId) (X : zFP) (ad : Nat → Nat → Nat) (sz : Nat) (gx : zM) (gow : zM) (gh : zM) (ga : zM) (a1 : Int32) (a2 : Int32) (a3 : Int32) (r : Int32) (nga : zM) (hf : fX9_act gx gow gh ga a1 a2 a3 = some (r, nga)) : Met l yX9_act wsX9_act rX9_act (zPre D T X [.ref (ad 0 0), .int a1, .int a2, .int a3] (wX9 T ad gx ++ wX8 T (ad 1) gow ++ wX2 T (ad 10) gh ++ wX0 T (ad 11) ga) sz) (zQi D T r (wX9 T ad gx ++ wX8 T (ad 1) gow ++ wX2 T (ad 10) gh ++ wX0 T (ad 11) nga) (wX9 T ad gx ++ wX8 T (ad 1) gow ++ wX2 T (ad 10) gh ++ wX0 T (ad 11) ga) sz) 0 0 (va_A (wX9 T ad gx ++ wX8 T (ad 1) gow ++ wX2 T (ad 10) gh ++ wX0 T (ad 11) ga) sz) := by
  unfold fX9_act at hf
  refine zStart [(0, .ref (ad 0 0)), (1, .int a1), (2, .int a2), (3, .int a3)] (by decide) rfl (Nat.le_of_ble_eq_true rfl) rfl ?_
  intro p e s m args below meth c A Q ls hx hb hr hml hown hlocks hts hsz hA0 hQ hA hK hX hP hD hS hl
  replace hown : s.vm.findClass RX9 = some m.cls := hown
  have hH := hsz
  have hiX9 : ∀ w ∈ u_ws RX9 TX9 12, w ∈ wsX9_act := fun w h => List.mem_cons_of_mem _ (List.mem_append_left _ (List.mem_append_left _ (List.mem_append_left _ (List.mem_append_right _ (h)))))
  obtain ⟨H, hHe⟩ : ∃ H : Heap, H = s.heap := ⟨_, rfl⟩
  obtain ⟨locs, hLe⟩ : ∃ L : List Loc, L = [] := ⟨_, rfl⟩
  replace hP : va_P D vwCl (wX9 T ad gx ++ wX8 T (ad 1) gow ++ wX2 T (ad 10) gh ++ wX0 T (ad 11) ga) H := by rw [hHe]; exact hP
  replace hS : va_S A s.heap H locs := by rw [hHe, hLe]; exact hS
  suffices hgo : W p l e rX9_act s m args below meth c H locs 0 0 Q (F0 m 0 ls []) by rw [hHe, hLe] at hgo; exact hgo
  clear hHe hLe
  refine lv_aload_n hx hb dX9_act_0 rfl (lv_at hl 0 rfl) ?_
  refine zGet (ci := 9) (C := RX9) (F := TX9) (N := 12) (v := .ref (ad 11 0)) hx hb hts hiX9 hown hK hP 0 11 1 rfl rfl (by decide) rfl rfl rfl dX9_act_1 ?_
  obtain ⟨ga_1, hc4, hf⟩ := zB1_ok hf
  refine zCallVJV (wr := wX9 T ad gx ++ wX8 T (ad 1) gow ++ wX2 T (ad 10) gh) (ws' := wX9 T ad gx ++ wX8 T (ad 1) gow ++ wX2 T (ad 10) gh ++ wX0 T (ad 11) ga_1) [] ⟨hx, hb, hml, hown, hts⟩ (pX0_forget l D T X (ad 11) H.size ga ga_1 hc4) (cwV 0 hts gX9_act_X0_forget rfl rfl rfl (by decide +kernel) ⟨Nat.le_of_ble_eq_true rfl, Nat.le_of_ble_eq_true rfl⟩) hK hP hD hS hA hX [23, 24] [0, 1, 2, 3, 4, 5, 6, 7, 8, 9, 10, 11, 12, 13, 14, 15, 16, 17, 18, 19, 20, 21, 22] [0, 1, 2, 3, 4, 5, 6, 7, 8, 9, 10, 11, 12, 13, 14, 15, 16, 17, 18, 19, 20, 21, 22, 23, 24] rfl rfl rfl rfl 0 rfl rfl rfl hl.1 rfl (Nat.le_of_ble_eq_true rfl) dX9_act_4 ⟨Nat.zero_le _, Nat.zero_le _⟩ (fun H locs hP hD hS => ?_)
  refine lv_iload_n hx hb dX9_act_7 rfl (lv_at hl 1 rfl) ?_
  obtain ⟨v2, hc8, hf⟩ := zB1_ok hf
  refine zCallS0I [.int a1] ⟨hx, hb, hml, hown, hts⟩ (pX2_hasPlace l D T X H.size a1 v2 hc8) (va_cwS 1 hts gX9_act_X2_hasPlace rfl rfl rfl (by decide +kernel) ⟨Nat.le_of_ble_eq_true rfl, Nat.le_of_ble_eq_true rfl⟩) hK hP hD hS hA hX rfl hl.1 rfl (Nat.le_of_ble_eq_true rfl) dX9_act_8 ⟨Nat.zero_le _, Nat.zero_le _⟩ (fun H locs hP hD hS => ?_)
  refine lv_if_eq (tgt := 23) hx hb dX9_act_11 (by decide) (fun hc => ?_) (fun hc => ?_)
  · replace hf := zIf_t hc hf
    refine lv_iconst (v := 0) hx hb dX9_act_23 (by decide) ?_
    obtain ⟨q1, q2⟩ := zI2 hf
    subst q1
    subst q2
    exact zRetI hQ hx hb hr hlocks hA0 hK hP hD hS rfl dX9_act_24
  · replace hf := zIf_f hc hf
    refine lv_iload_n hx hb dX9_act_14 rfl (lv_at hl 2 rfl) ?_
    refine lv_if_lt (tgt := 23) hx hb dX9_act_15 (by decide) (fun hc => ?_) (fun hc => ?_)
    · replace hf := zIf_t hc hf
      refine lv_iconst (v := 0) hx hb dX9_act_23 (by decide) ?_
      obtain ⟨q1, q2⟩ := zI2 hf
      subst q1
      subst q2
      exact zRetI hQ hx hb hr hlocks hA0 hK hP hD hS rfl dX9_act_24
    · replace hf := zIf_f hc hf
      refine lv_iload_n hx hb dX9_act_18 rfl (lv_at hl 2 rfl) ?_
      refine lv_iconst (v := 3) hx hb dX9_act_19 (by decide) ?_
      refine lv_icmp_le (tgt := 25) hx hb dX9_act_20 (by decide) (fun hc => ?_) (fun hc => ?_)
      · replace hf := zIf_t hc hf
        refine lv_aload_n hx hb dX9_act_25 rfl (lv_at hl 0 rfl) ?_
        refine zGet (ci := 9) (C := RX9) (F := TX9) (N := 12) (v := .ref (ad 10 0)) hx hb hts hiX9 hown hK hP 0 10 2 rfl rfl (by decide) rfl rfl rfl dX9_act_26 ?_
        refine lv_iload_n hx hb dX9_act_29 rfl (lv_at hl 1 rfl) ?_
        obtain ⟨v3, hc30, hf⟩ := zB1_ok hf
        refine zCallVJI (wr := wX9 T ad gx ++ wX8 T (ad 1) gow ++ wX0 T (ad 11) ga_1) (ws' := wX9 T ad gx ++ wX8 T (ad 1) gow ++ wX2 T (ad 10) gh ++ wX0 T (ad 11) ga_1) [.int a1] ⟨hx, hb, hml, hown, hts⟩ (pX2_cutOn l D T X (ad 10) H.size gh a1 v3 hc30) (cwV 1 hts gX9_act_X2_cutOn rfl rfl rfl (by decide +kernel) ⟨Nat.le_of_ble_eq_true rfl, Nat.le_of_ble_eq_true rfl⟩) hK hP hD hS hA hX [12, 13, 14, 15, 16, 17, 18, 19, 20, 21, 22] [0, 1, 2, 3, 4, 5, 6, 7, 8, 9, 10, 11, 23, 24] [0, 1, 2, 3, 4, 5, 6, 7, 8, 9, 10, 11, 14, 15, 16, 17, 18, 19, 20, 21, 22, 23, 24, 12, 13] rfl rfl rfl rfl 0 rfl rfl rfl hl.1 rfl (Nat.le_of_ble_eq_true rfl) dX9_act_30 ⟨Nat.zero_le _, Nat.zero_le _⟩ (fun H locs hP hD hS => ?_)
        refine lv_istore (lv' := [(4, .int v3), (0, .ref (ad 0 0)), (1, .int a1), (2, .int a2), (3, .int a3)]) hx hb dX9_act_33 hl (by decide) rfl (fun ls hl => ?_)
        refine lv_aload_n hx hb dX9_act_35 rfl (lv_at hl 1 rfl) ?_
        refine zGet (ci := 9) (C := RX9) (F := TX9) (N := 12) (v := .ref (ad 1 0)) hx hb hts hiX9 hown hK hP 0 0 3 rfl rfl (by decide) rfl rfl rfl dX9_act_36 ?_
        refine lv_iload hx hb dX9_act_39 (lv_at hl 0 rfl) ?_
        obtain ⟨v4, hc41, hf⟩ := zB1_ok hf
        refine zCallVJI (wr := wX9 T ad gx ++ wX2 T (ad 10) gh ++ wX0 T (ad 11) ga_1) (ws' := wX9 T ad gx ++ wX8 T (ad 1) gow ++ wX2 T (ad 10) gh ++ wX0 T (ad 11) ga_1) [.int v3] ⟨hx, hb, hml, hown, hts⟩ (pX8_hasCut l D T X (ad 1) H.size gow v3 v4 hc41) (cwV 1 hts gX9_act_X8_hasCut rfl rfl rfl (by decide +kernel) ⟨Nat.le_of_ble_eq_true rfl, Nat.le_of_ble_eq_true rfl⟩) hK hP hD hS hA hX [1, 2, 3, 4, 5, 6, 7, 8, 9, 10, 11] [0, 12, 13, 14, 15, 16, 17, 18, 19, 20, 21, 22, 23, 24] [0, 14, 15, 16, 17, 18, 19, 20, 21, 22, 23, 24, 1, 2, 3, 4, 5, 6, 7, 8, 9, 10, 11, 12, 13] rfl rfl rfl rfl 0 rfl rfl rfl hl.1 rfl (Nat.le_of_ble_eq_true rfl) dX9_act_41 ⟨Nat.zero_le _, Nat.zero_le _⟩ (fun H locs hP hD hS => ?_)
        refine lv_if_ne (tgt := 49) hx hb dX9_act_44 (by decide) (fun hc => ?_) (fun hc => ?_)
        · replace hf := zIf_f hc hf
          refine lv_aload_n hx hb dX9_act_49 rfl (lv_at hl 1 rfl) ?_
          refine zGet (ci := 9) (C := RX9) (F := TX9) (N := 12) (v := .ref (ad 11 0)) hx hb hts hiX9 hown hK hP 0 11 1 rfl rfl (by decide) rfl rfl rfl dX9_act_50 ?_
          refine lv_aload_n hx hb dX9_act_53 rfl (lv_at hl 1 rfl) ?_
          refine zGet (ci := 9) (C := RX9) (F := TX9) (N := 12) (v := .ref (ad 1 0)) hx hb hts hiX9 hown hK hP 0 0 3 rfl rfl (by decide) rfl rfl rfl dX9_act_54 ?_
          refine lv_iload hx hb dX9_act_57 (lv_at hl 0 rfl) ?_
          refine lv_iload_n hx hb dX9_act_59 rfl (lv_at hl 3 rfl) ?_
          refine lv_iload_n hx hb dX9_act_60 rfl (lv_at hl 4 rfl) ?_
          obtain ⟨v5, ga_6, hc61, hf⟩ := zB2_ok hf
          refine zCallVJI (wr := wX9 T ad gx ++ wX2 T (ad 10) gh) (ws' := wX9 T ad gx ++ wX8 T (ad 1) gow ++ wX2 T (ad 10) gh ++ wX0 T (ad 11) ga_6) [.ref (ad 1 0), .int v3, .int a2, .int a3] ⟨hx, hb, hml, hown, hts⟩ (pX0_perform l D T X (ad 11) (ad 1) H.size ga_1 gow v3 a2 a3 v5 ga_6 hc61) (cwV 4 hts gX9_act_X0_perform rfl rfl rfl (by decide +kernel) ⟨Nat.le_of_ble_eq_true rfl, Nat.le_of_ble_eq_true rfl⟩) hK hP hD hS hA hX [23, 24, 1, 2, 3, 4, 5, 6, 7, 8, 9, 10, 11] [0, 12, 13, 14, 15, 16, 17, 18, 19, 20, 21, 22] [0, 14, 15, 16, 17, 18, 19, 20, 21, 22, 23, 24, 1, 2, 3, 4, 5, 6, 7, 8, 9, 10, 11, 12, 13] rfl rfl rfl rfl 0 rfl rfl rfl hl.1 rfl (Nat.le_of_ble_eq_true rfl) dX9_act_61 ⟨Nat.zero_le _, Nat.zero_le _⟩ (fun H locs hP hD hS => ?_)
          obtain ⟨q1, q2⟩ := zI2 hf
          subst q1
          subst q2
          exact zRetI hQ hx hb hr hlocks hA0 hK hP hD hS rfl dX9_act_64
        · replace hf := zIf_t hc hf
          refine lv_iconst (v := 0) hx hb dX9_act_47 (by decide) ?_
          obtain ⟨q1, q2⟩ := zI2 hf
          subst q1
          subst q2
          exact zRetI hQ hx hb hr hlocks hA0 hK hP hD hS rfl dX9_act_48
      · replace hf := zIf_f hc hf
        refine lv_iconst (v := 0) hx hb dX9_act_23 (by decide) ?_
        obtain ⟨q1, q2⟩ := zI2 hf
        subst q1
        subst q2
        exact zRetI hQ hx hb hr hlocks hA0 hK hP hD hS rfl dX9_act_24
set_option maxHeartbeats 4000000 in
set_option maxRecDepth 100000 in
theorem pX9_trace (l : Launch) (D : va_G) (T : Nat → ClassId) (X : zFP) (ad : Nat → Nat → Nat) (sz : Nat) (gx : zM) (ga : zM) (a1 : Int32) (r : Int32) (hf : fX9_trace gx ga a1 = some r) : Met l yX9_trace wsX9_trace rX9_trace (zPre D T X [.ref (ad 0 0), .int a1] (wX9 T ad gx ++ wX0 T (ad 11) ga) sz) (zQi D T r (wX9 T ad gx ++ wX0 T (ad 11) ga) (wX9 T ad gx ++ wX0 T (ad 11) ga) sz) 0 0 (va_A (wX9 T ad gx ++ wX0 T (ad 11) ga) sz) := by
  unfold fX9_trace at hf
  refine zStart [(0, .ref (ad 0 0)), (1, .int a1)] (by decide) rfl (Nat.le_of_ble_eq_true rfl) rfl ?_
  intro p e s m args below meth c A Q ls hx hb hr hml hown hlocks hts hsz hA0 hQ hA hK hX hP hD hS hl
  replace hown : s.vm.findClass RX9 = some m.cls := hown
  have hH := hsz
  have hiX0 : ∀ w ∈ u_ws RX0 TX0 6, w ∈ wsX9_trace := fun w h => List.mem_cons_of_mem _ (List.mem_append_right _ (h))
  have hiX9 : ∀ w ∈ u_ws RX9 TX9 12, w ∈ wsX9_trace := fun w h => List.mem_cons_of_mem _ (List.mem_append_left _ (List.mem_append_right _ (h)))
  obtain ⟨H, hHe⟩ : ∃ H : Heap, H = s.heap := ⟨_, rfl⟩
  obtain ⟨locs, hLe⟩ : ∃ L : List Loc, L = [] := ⟨_, rfl⟩
  replace hP : va_P D vwCl (wX9 T ad gx ++ wX0 T (ad 11) ga) H := by rw [hHe]; exact hP
  replace hS : va_S A s.heap H locs := by rw [hHe, hLe]; exact hS
  suffices hgo : W p l e rX9_trace s m args below meth c H locs 0 0 Q (F0 m 0 ls []) by rw [hHe, hLe] at hgo; exact hgo
  clear hHe hLe
  refine lv_iload_n hx hb dX9_trace_0 rfl (lv_at hl 1 rfl) ?_
  refine lv_if_lt (tgt := 27) hx hb dX9_trace_1 (by decide) (fun hc => ?_) (fun hc => ?_)
  · replace hf := zIf_t hc hf
    refine lv_bipush (v := (-3)) hx hb dX9_trace_27 (by decide) ?_
    obtain ⟨q1, -⟩ := zI1 hf
    subst q1
    exact zRetI hQ hx hb hr hlocks hA0 hK hP hD hS rfl dX9_trace_29
  · replace hf := zIf_f hc hf
    refine lv_iload_n hx hb dX9_trace_4 rfl (lv_at hl 1 rfl) ?_
    refine lv_aload_n hx hb dX9_trace_5 rfl (lv_at hl 0 rfl) ?_
    refine zGet (ci := 9) (C := RX9) (F := TX9) (N := 12) (v := .ref (ad 11 0)) hx hb hts hiX9 hown hK hP 0 11 1 rfl rfl (by decide) rfl rfl rfl dX9_trace_6 ?_
    refine zGet (ci := 0) (C := RX0) (F := TX0) (N := 6) (v := .int (ga 0 1)) hx hb hts hiX0 hown hK hP 1 1 2 rfl rfl (by decide) rfl rfl rfl dX9_trace_9 ?_
    refine lv_icmp_ge (tgt := 27) hx hb dX9_trace_12 (by decide) (fun hc => ?_) (fun hc => ?_)
    · replace hf := zIf_t hc hf
      refine lv_bipush (v := (-3)) hx hb dX9_trace_27 (by decide) ?_
      obtain ⟨q1, -⟩ := zI1 hf
      subst q1
      exact zRetI hQ hx hb hr hlocks hA0 hK hP hD hS rfl dX9_trace_29
    · replace hf := zIf_f hc hf
      refine lv_aload_n hx hb dX9_trace_15 rfl (lv_at hl 0 rfl) ?_
      refine zGet (ci := 9) (C := RX9) (F := TX9) (N := 12) (v := .ref (ad 11 0)) hx hb hts hiX9 hown hK hP 0 11 1 rfl rfl (by decide) rfl rfl rfl dX9_trace_16 ?_
      refine zGet (ci := 0) (C := RX0) (F := TX0) (N := 6) (v := .ref (ad 11 1)) hx hb hts hiX0 hown hK hP 1 0 3 rfl rfl (by decide) rfl rfl rfl dX9_trace_19 ?_
      refine lv_iload_n hx hb dX9_trace_22 rfl (lv_at hl 1 rfl) ?_
      obtain ⟨hg, hf⟩ := zGd_ok hf
      refine zAldI hx hb hK hP 2 rfl hg dX9_trace_23 (fun v1 ev1 => ?_)
      replace hf := zLt_at ev1 hf
      refine lv_goto (tgt := 29) hx hb dX9_trace_24 (by decide) ?_
      obtain ⟨q1, -⟩ := zI1 hf
      subst q1
      exact zRetI hQ hx hb hr hlocks hA0 hK hP hD hS rfl dX9_trace_29
set_option maxHeartbeats 4000000 in
set_option maxRecDepth 100000 in
theorem pX9_many (l : Launch) (D : va_G) (T : Nat → ClassId) (X : zFP) (ad : Nat → Nat → Nat) (sz : Nat) (gx : zM) (gow : zM) (gt : zM) (gr : zM) (ga : zM) (a1 : Int32) (r : Int32) (hf : fX9_many gx gow gt gr ga a1 = some r) : Met l yX9_many wsX9_many rX9_many (zPre D T X [.ref (ad 0 0), .int a1] (wX9 T ad gx ++ wX8 T (ad 1) gow ++ wX7 T (ad 4) gt ++ wX5 T (ad 9) gr ++ wX0 T (ad 11) ga) sz) (zQi D T r (wX9 T ad gx ++ wX8 T (ad 1) gow ++ wX7 T (ad 4) gt ++ wX5 T (ad 9) gr ++ wX0 T (ad 11) ga) (wX9 T ad gx ++ wX8 T (ad 1) gow ++ wX7 T (ad 4) gt ++ wX5 T (ad 9) gr ++ wX0 T (ad 11) ga) sz) 0 0 (va_A (wX9 T ad gx ++ wX8 T (ad 1) gow ++ wX7 T (ad 4) gt ++ wX5 T (ad 9) gr ++ wX0 T (ad 11) ga) sz) := by
  unfold fX9_many at hf
  refine zStart [(0, .ref (ad 0 0)), (1, .int a1)] (by decide) rfl (Nat.le_of_ble_eq_true rfl) rfl ?_
  intro p e s m args below meth c A Q ls hx hb hr hml hown hlocks hts hsz hA0 hQ hA hK hX hP hD hS hl
  replace hown : s.vm.findClass RX9 = some m.cls := hown
  have hH := hsz
  have hiX0 : ∀ w ∈ u_ws RX0 TX0 6, w ∈ wsX9_many := fun w h => List.mem_cons_of_mem _ (List.mem_append_right _ (h))
  have hiX5 : ∀ w ∈ u_ws RX5 TX5 2, w ∈ wsX9_many := fun w h => List.mem_cons_of_mem _ (List.mem_append_left _ (List.mem_append_left _ (List.mem_append_right _ (h))))
  have hiX7 : ∀ w ∈ u_ws RX7 TX7 6, w ∈ wsX9_many := fun w h => List.mem_cons_of_mem _ (List.mem_append_left _ (List.mem_append_right _ (h)))
  have hiX8 : ∀ w ∈ u_ws RX8 TX8 14, w ∈ wsX9_many := fun w h => List.mem_cons_of_mem _ (List.mem_append_left _ (List.mem_append_left _ (List.mem_append_left _ (List.mem_append_right _ (h)))))
  have hiX9 : ∀ w ∈ u_ws RX9 TX9 12, w ∈ wsX9_many := fun w h => List.mem_cons_of_mem _ (List.mem_append_left _ (List.mem_append_left _ (List.mem_append_left _ (List.mem_append_left _ (List.mem_append_right _ (h))))))
  obtain ⟨H, hHe⟩ : ∃ H : Heap, H = s.heap := ⟨_, rfl⟩
  obtain ⟨locs, hLe⟩ : ∃ L : List Loc, L = [] := ⟨_, rfl⟩
  replace hP : va_P D vwCl (wX9 T ad gx ++ wX8 T (ad 1) gow ++ wX7 T (ad 4) gt ++ wX5 T (ad 9) gr ++ wX0 T (ad 11) ga) H := by rw [hHe]; exact hP
  replace hS : va_S A s.heap H locs := by rw [hHe, hLe]; exact hS
  suffices hgo : W p l e rX9_many s m args below meth c H locs 0 0 Q (F0 m 0 ls []) by rw [hHe, hLe] at hgo; exact hgo
  clear hHe hLe
  refine lv_iload_n hx hb dX9_many_0 rfl (lv_at hl 1 rfl) ?_
  refine zSw (x := a1) (k := 0) (fun hc => ?_) (fun hk0 => ?_)
  · replace hf := zIf_t hc hf
    refine lv_tableIn (off := 47) (tgt := 48) hx hb dX9_many_1 (by rw [hc]; decide) (by rw [hc]; decide) (by rw [hc]; decide) (by decide) ?_
    refine lv_aload_n hx hb dX9_many_48 rfl (lv_at hl 0 rfl) ?_
    refine zGet (ci := 9) (C := RX9) (F := TX9) (N := 12) (v := .ref (ad 1 0)) hx hb hts hiX9 hown hK hP 0 0 1 rfl rfl (by decide) rfl rfl rfl dX9_many_49 ?_
    refine zGet (ci := 8) (C := RX8) (F := TX8) (N := 14) (v := .int (gow 0 0)) hx hb hts hiX8 hown hK hP 1 0 2 rfl rfl (by decide) rfl rfl rfl dX9_many_52 ?_
    obtain ⟨q1, -⟩ := zI1 hf
    subst q1
    exact zRetI hQ hx hb hr hlocks hA0 hK hP hD hS rfl dX9_many_55
  replace hf := zIf_f hk0 hf
  refine zSw (x := a1) (k := 1) (fun hc => ?_) (fun hk1 => ?_)
  · replace hf := zIf_t hc hf
    refine lv_tableIn (off := 55) (tgt := 56) hx hb dX9_many_1 (by rw [hc]; decide) (by rw [hc]; decide) (by rw [hc]; decide) (by decide) ?_
    refine lv_aload_n hx hb dX9_many_56 rfl (lv_at hl 0 rfl) ?_
    refine zGet (ci := 9) (C := RX9) (F := TX9) (N := 12) (v := .ref (ad 1 0)) hx hb hts hiX9 hown hK hP 0 0 1 rfl rfl (by decide) rfl rfl rfl dX9_many_57 ?_
    refine zGet (ci := 8) (C := RX8) (F := TX8) (N := 14) (v := .int (gow 0 3)) hx hb hts hiX8 hown hK hP 1 3 3 rfl rfl (by decide) rfl rfl rfl dX9_many_60 ?_
    obtain ⟨q1, -⟩ := zI1 hf
    subst q1
    exact zRetI hQ hx hb hr hlocks hA0 hK hP hD hS rfl dX9_many_63
  replace hf := zIf_f hk1 hf
  refine zSw (x := a1) (k := 2) (fun hc => ?_) (fun hk2 => ?_)
  · replace hf := zIf_t hc hf
    refine lv_tableIn (off := 63) (tgt := 64) hx hb dX9_many_1 (by rw [hc]; decide) (by rw [hc]; decide) (by rw [hc]; decide) (by decide) ?_
    refine lv_aload_n hx hb dX9_many_64 rfl (lv_at hl 0 rfl) ?_
    refine zGet (ci := 9) (C := RX9) (F := TX9) (N := 12) (v := .ref (ad 1 0)) hx hb hts hiX9 hown hK hP 0 0 1 rfl rfl (by decide) rfl rfl rfl dX9_many_65 ?_
    refine zGet (ci := 8) (C := RX8) (F := TX8) (N := 14) (v := .int (gow 0 9)) hx hb hts hiX8 hown hK hP 1 9 4 rfl rfl (by decide) rfl rfl rfl dX9_many_68 ?_
    obtain ⟨q1, -⟩ := zI1 hf
    subst q1
    exact zRetI hQ hx hb hr hlocks hA0 hK hP hD hS rfl dX9_many_71
  replace hf := zIf_f hk2 hf
  refine zSw (x := a1) (k := 3) (fun hc => ?_) (fun hk3 => ?_)
  · replace hf := zIf_t hc hf
    refine lv_tableIn (off := 71) (tgt := 72) hx hb dX9_many_1 (by rw [hc]; decide) (by rw [hc]; decide) (by rw [hc]; decide) (by decide) ?_
    refine lv_aload_n hx hb dX9_many_72 rfl (lv_at hl 0 rfl) ?_
    refine zGet (ci := 9) (C := RX9) (F := TX9) (N := 12) (v := .ref (ad 1 0)) hx hb hts hiX9 hown hK hP 0 0 1 rfl rfl (by decide) rfl rfl rfl dX9_many_73 ?_
    obtain ⟨v1, hc76, hf⟩ := zB1_ok hf
    refine zCallVJI (wr := wX9 T ad gx ++ wX7 T (ad 4) gt ++ wX5 T (ad 9) gr ++ wX0 T (ad 11) ga) (ws' := wX9 T ad gx ++ wX8 T (ad 1) gow ++ wX7 T (ad 4) gt ++ wX5 T (ad 9) gr ++ wX0 T (ad 11) ga) [] ⟨hx, hb, hml, hown, hts⟩ (pX8_howManyShow l D T X (ad 1) H.size gow v1 hc76) (cwV 0 hts gX9_many_X8_howManyShow rfl rfl rfl (by decide +kernel) ⟨Nat.le_of_ble_eq_true rfl, Nat.le_of_ble_eq_true rfl⟩) hK hP hD hS hA hX [1, 2, 3, 4, 5, 6, 7, 8, 9, 10, 11] [0, 12, 13, 14, 15, 16, 17, 18, 19, 20, 21, 22, 23, 24, 25, 26, 27] [0, 17, 18, 19, 20, 21, 22, 23, 24, 25, 26, 27, 1, 2, 3, 4, 5, 6, 7, 8, 9, 10, 11, 12, 13, 14, 15, 16] rfl rfl rfl rfl 0 rfl rfl rfl hl.1 rfl (Nat.le_of_ble_eq_true rfl) dX9_many_76 ⟨Nat.zero_le _, Nat.zero_le _⟩ (fun H locs hP hD hS => ?_)
    obtain ⟨q1, -⟩ := zI1 hf
    subst q1
    exact zRetI hQ hx hb hr hlocks hA0 hK hP hD hS rfl dX9_many_79
  replace hf := zIf_f hk3 hf
  refine zSw (x := a1) (k := 4) (fun hc => ?_) (fun hk4 => ?_)
  · replace hf := zIf_t hc hf
    refine lv_tableIn (off := 79) (tgt := 80) hx hb dX9_many_1 (by rw [hc]; decide) (by rw [hc]; decide) (by rw [hc]; decide) (by decide) ?_
    refine lv_aload_n hx hb dX9_many_80 rfl (lv_at hl 0 rfl) ?_
    refine zGet (ci := 9) (C := RX9) (F := TX9) (N := 12) (v := .ref (ad 9 0)) hx hb hts hiX9 hown hK hP 0 9 5 rfl rfl (by decide) rfl rfl rfl dX9_many_81 ?_
    refine zGet (ci := 5) (C := RX5) (F := TX5) (N := 2) (v := .int (gr 0 1)) hx hb hts hiX5 hown hK hP 14 1 6 rfl rfl (by decide) rfl rfl rfl dX9_many_84 ?_
    obtain ⟨q1, -⟩ := zI1 hf
    subst q1
    exact zRetI hQ hx hb hr hlocks hA0 hK hP hD hS rfl dX9_many_87
  replace hf := zIf_f hk4 hf
  refine zSw (x := a1) (k := 5) (fun hc => ?_) (fun hk5 => ?_)
  · replace hf := zIf_t hc hf
    refine lv_tableIn (off := 87) (tgt := 88) hx hb dX9_many_1 (by rw [hc]; decide) (by rw [hc]; decide) (by rw [hc]; decide) (by decide) ?_
    refine lv_aload_n hx hb dX9_many_88 rfl (lv_at hl 0 rfl) ?_
    refine zGet (ci := 9) (C := RX9) (F := TX9) (N := 12) (v := .ref (ad 4 0)) hx hb hts hiX9 hown hK hP 0 4 7 rfl rfl (by decide) rfl rfl rfl dX9_many_89 ?_
    refine zGet (ci := 7) (C := RX7) (F := TX7) (N := 6) (v := .int (gt 0 1)) hx hb hts hiX7 hown hK hP 12 1 8 rfl rfl (by decide) rfl rfl rfl dX9_many_92 ?_
    obtain ⟨q1, -⟩ := zI1 hf
    subst q1
    exact zRetI hQ hx hb hr hlocks hA0 hK hP hD hS rfl dX9_many_95
  replace hf := zIf_f hk5 hf
  refine zSw (x := a1) (k := 6) (fun hc => ?_) (fun hk6 => ?_)
  · replace hf := zIf_t hc hf
    refine lv_tableIn (off := 95) (tgt := 96) hx hb dX9_many_1 (by rw [hc]; decide) (by rw [hc]; decide) (by rw [hc]; decide) (by decide) ?_
    refine lv_aload_n hx hb dX9_many_96 rfl (lv_at hl 0 rfl) ?_
    refine zGet (ci := 9) (C := RX9) (F := TX9) (N := 12) (v := .ref (ad 11 0)) hx hb hts hiX9 hown hK hP 0 11 9 rfl rfl (by decide) rfl rfl rfl dX9_many_97 ?_
    refine zGet (ci := 0) (C := RX0) (F := TX0) (N := 6) (v := .int (ga 0 1)) hx hb hts hiX0 hown hK hP 26 1 10 rfl rfl (by decide) rfl rfl rfl dX9_many_100 ?_
    obtain ⟨q1, -⟩ := zI1 hf
    subst q1
    exact zRetI hQ hx hb hr hlocks hA0 hK hP hD hS rfl dX9_many_103
  replace hf := zIf_f hk6 hf
  refine zSw (x := a1) (k := 7) (fun hc => ?_) (fun hk7 => ?_)
  · replace hf := zIf_t hc hf
    refine lv_tableIn (off := 103) (tgt := 104) hx hb dX9_many_1 (by rw [hc]; decide) (by rw [hc]; decide) (by rw [hc]; decide) (by decide) ?_
    refine lv_aload_n hx hb dX9_many_104 rfl (lv_at hl 0 rfl) ?_
    refine zGet (ci := 9) (C := RX9) (F := TX9) (N := 12) (v := .ref (ad 1 0)) hx hb hts hiX9 hown hK hP 0 0 1 rfl rfl (by decide) rfl rfl rfl dX9_many_105 ?_
    obtain ⟨v2, hc108, hf⟩ := zB1_ok hf
    refine zCallVJI (wr := wX9 T ad gx ++ wX7 T (ad 4) gt ++ wX5 T (ad 9) gr ++ wX0 T (ad 11) ga) (ws' := wX9 T ad gx ++ wX8 T (ad 1) gow ++ wX7 T (ad 4) gt ++ wX5 T (ad 9) gr ++ wX0 T (ad 11) ga) [] ⟨hx, hb, hml, hown, hts⟩ (pX8_unsureTies l D T X (ad 1) H.size gow v2 hc108) (cwV 0 hts gX9_many_X8_unsureTies rfl rfl rfl (by decide +kernel) ⟨Nat.le_of_ble_eq_true rfl, Nat.le_of_ble_eq_true rfl⟩) hK hP hD hS hA hX [1, 2, 3, 4, 5, 6, 7, 8, 9, 10, 11] [0, 12, 13, 14, 15, 16, 17, 18, 19, 20, 21, 22, 23, 24, 25, 26, 27] [0, 17, 18, 19, 20, 21, 22, 23, 24, 25, 26, 27, 1, 2, 3, 4, 5, 6, 7, 8, 9, 10, 11, 12, 13, 14, 15, 16] rfl rfl rfl rfl 0 rfl rfl rfl hl.1 rfl (Nat.le_of_ble_eq_true rfl) dX9_many_108 ⟨Nat.zero_le _, Nat.zero_le _⟩ (fun H locs hP hD hS => ?_)
    obtain ⟨v3, hc111, hf⟩ := zB1_ok hf
    refine zCallS0I [.int v2] ⟨hx, hb, hml, hown, hts⟩ (pJ6_bitCount_0f7a4 l D T X H.size v2 v3 hc111) (va_cwS 1 hts gX9_many_J6_bitCount_0f7a4 rfl rfl rfl (by decide +kernel) ⟨Nat.le_of_ble_eq_true rfl, Nat.le_of_ble_eq_true rfl⟩) hK hP hD hS hA hX rfl hl.1 rfl (Nat.le_of_ble_eq_true rfl) dX9_many_111 ⟨Nat.zero_le _, Nat.zero_le _⟩ (fun H locs hP hD hS => ?_)
    obtain ⟨q1, -⟩ := zI1 hf
    subst q1
    exact zRetI hQ hx hb hr hlocks hA0 hK hP hD hS rfl dX9_many_114
  replace hf := zIf_f hk7 hf
  refine lv_tableOut (tgt := 115) hx hb dX9_many_1 (by have := zNe hk0 (z := 0) (by decide); have := zNe hk1 (z := 1) (by decide); have := zNe hk2 (z := 2) (by decide); have := zNe hk3 (z := 3) (by decide); have := zNe hk4 (z := 4) (by decide); have := zNe hk5 (z := 5) (by decide); have := zNe hk6 (z := 6) (by decide); have := zNe hk7 (z := 7) (by decide); omega) (by decide) ?_
  refine lv_iconst (v := (-1)) hx hb dX9_many_115 (by decide) ?_
  obtain ⟨q1, -⟩ := zI1 hf
  subst q1
  exact zRetI hQ hx hb hr hlocks hA0 hK hP hD hS rfl dX9_many_116
set_option maxHeartbeats 4000000 in
set_option maxRecDepth 100000 in
theorem pX9_keep (l : Launch) (D : va_G) (T : Nat → ClassId) (X : zFP) (ad : Nat → Nat → Nat) (sz : Nat) (gx : zM) (gow : zM) (gok : zM) (r : Int32) (ngx : zM) (ngok : zM) (hf : fX9_keep gx gow gok = some (r, ngx, ngok)) : Met l yX9_keep wsX9_keep rX9_keep (zPre D T X [.ref (ad 0 0)] (wX9 T ad gx ++ wX8 T (ad 1) gow ++ wX8 T (ad 3) gok) sz) (zQi D T r (wX9 T ad ngx ++ wX8 T (ad 1) gow ++ wX8 T (ad 3) ngok) (wX9 T ad gx ++ wX8 T (ad 1) gow ++ wX8 T (ad 3) gok) sz) 0 0 (va_A (wX9 T ad gx ++ wX8 T (ad 1) gow ++ wX8 T (ad 3) gok) sz) := by
  unfold fX9_keep at hf
  refine zStart [(0, .ref (ad 0 0))] (by decide) rfl (Nat.le_of_ble_eq_true rfl) rfl ?_
  intro p e s m args below meth c A Q ls hx hb hr hml hown hlocks hts hsz hA0 hQ hA hK hX hP hD hS hl
  replace hown : s.vm.findClass RX9 = some m.cls := hown
  have hH := hsz
  have hiX9 : ∀ w ∈ u_ws RX9 TX9 12, w ∈ wsX9_keep := fun w h => List.mem_cons_of_mem _ (List.mem_append_left _ (List.mem_append_right _ (h)))
  obtain ⟨H, hHe⟩ : ∃ H : Heap, H = s.heap := ⟨_, rfl⟩
  obtain ⟨locs, hLe⟩ : ∃ L : List Loc, L = [] := ⟨_, rfl⟩
  replace hP : va_P D vwCl (wX9 T ad gx ++ wX8 T (ad 1) gow ++ wX8 T (ad 3) gok) H := by rw [hHe]; exact hP
  replace hS : va_S A s.heap H locs := by rw [hHe, hLe]; exact hS
  suffices hgo : W p l e rX9_keep s m args below meth c H locs 0 0 Q (F0 m 0 ls []) by rw [hHe, hLe] at hgo; exact hgo
  clear hHe hLe
  refine lv_aload_n hx hb dX9_keep_0 rfl (lv_at hl 0 rfl) ?_
  refine zGet (ci := 9) (C := RX9) (F := TX9) (N := 12) (v := .ref (ad 3 0)) hx hb hts hiX9 hown hK hP 0 2 1 rfl rfl (by decide) rfl rfl rfl dX9_keep_1 ?_
  refine lv_aload_n hx hb dX9_keep_4 rfl (lv_at hl 0 rfl) ?_
  refine zGet (ci := 9) (C := RX9) (F := TX9) (N := 12) (v := .ref (ad 1 0)) hx hb hts hiX9 hown hK hP 0 0 2 rfl rfl (by decide) rfl rfl rfl dX9_keep_5 ?_
  obtain ⟨gok_1, hc8, hf⟩ := zB1_ok hf
  refine zCallVJV (wr := wX9 T ad gx) (ws' := wX9 T ad gx ++ wX8 T (ad 1) gow ++ wX8 T (ad 3) gok_1) [.ref (ad 1 0)] ⟨hx, hb, hml, hown, hts⟩ (pX8_become l D T X (ad 3) (ad 1) H.size gok gow gok_1 hc8) (cwV 1 hts gX9_keep_X8_become rfl rfl rfl (by decide +kernel) ⟨Nat.le_of_ble_eq_true rfl, Nat.le_of_ble_eq_true rfl⟩) hK hP hD hS hA hX [12, 13, 14, 15, 16, 17, 18, 19, 20, 21, 22, 1, 2, 3, 4, 5, 6, 7, 8, 9, 10, 11] [0] [0, 12, 13, 14, 15, 16, 17, 18, 19, 20, 21, 22, 1, 2, 3, 4, 5, 6, 7, 8, 9, 10, 11] rfl rfl rfl rfl 0 rfl rfl rfl hl.1 rfl (Nat.le_of_ble_eq_true rfl) dX9_keep_8 ⟨Nat.zero_le _, Nat.zero_le _⟩ (fun H locs hP hD hS => ?_)
  refine lv_aload_n hx hb dX9_keep_11 rfl (lv_at hl 0 rfl) ?_
  refine lv_iconst (v := 1) hx hb dX9_keep_12 (by decide) ?_
  refine zPut (ci := 9) (C := RX9) (F := TX9) (N := 12) (x := 1) (w := gx) hx hb hts hiX9 tyX9 tyX9_ok nmX9 hown hK hP hD hS (fun g => wX9 T ad g ++ wX8 T (ad 1) gow ++ wX8 T (ad 3) gok_1) 0 3 3 rfl rfl (by decide) rfl rfl rfl (by decide) (Nat.le_of_ble_eq_true rfl) rfl dX9_keep_13 (fun gx_2 egx_2 H locs hP hD hS => ?_)
  replace hP : va_P D vwCl (wX9 T ad gx_2 ++ wX8 T (ad 1) gow ++ wX8 T (ad 3) gok_1) H := hP
  replace hD : va_D A (wX9 T ad gx_2 ++ wX8 T (ad 1) gow ++ wX8 T (ad 3) gok_1) := hD
  replace hf := zLt_at egx_2 hf
  refine lv_iconst (v := 1) hx hb dX9_keep_16 (by decide) ?_
  obtain ⟨q1, q2, q3⟩ := zI3 hf
  subst q1
  subst q2
  subst q3
  exact zRetI hQ hx hb hr hlocks hA0 hK hP hD hS rfl dX9_keep_17
set_option maxHeartbeats 4000000 in
set_option maxRecDepth 100000 in
theorem pX9_back (l : Launch) (D : va_G) (T : Nat → ClassId) (X : zFP) (ad : Nat → Nat → Nat) (sz : Nat) (gx : zM) (gow : zM) (gok : zM) (r : Int32) (ngow : zM) (hf : fX9_back gx gow gok = some (r, ngow)) : Met l yX9_back wsX9_back rX9_back (zPre D T X [.ref (ad 0 0)] (wX9 T ad gx ++ wX8 T (ad 1) gow ++ wX8 T (ad 3) gok) sz) (zQi D T r (wX9 T ad gx ++ wX8 T (ad 1) ngow ++ wX8 T (ad 3) gok) (wX9 T ad gx ++ wX8 T (ad 1) gow ++ wX8 T (ad 3) gok) sz) 0 0 (va_A (wX9 T ad gx ++ wX8 T (ad 1) gow ++ wX8 T (ad 3) gok) sz) := by
  unfold fX9_back at hf
  refine zStart [(0, .ref (ad 0 0))] (by decide) rfl (Nat.le_of_ble_eq_true rfl) rfl ?_
  intro p e s m args below meth c A Q ls hx hb hr hml hown hlocks hts hsz hA0 hQ hA hK hX hP hD hS hl
  replace hown : s.vm.findClass RX9 = some m.cls := hown
  have hH := hsz
  have hiX8 : ∀ w ∈ u_ws RX8 TX8 14, w ∈ wsX9_back := fun w h => List.mem_cons_of_mem _ (List.mem_append_right _ (h))
  have hiX9 : ∀ w ∈ u_ws RX9 TX9 12, w ∈ wsX9_back := fun w h => List.mem_cons_of_mem _ (List.mem_append_left _ (List.mem_append_right _ (h)))
  obtain ⟨H, hHe⟩ : ∃ H : Heap, H = s.heap := ⟨_, rfl⟩
  obtain ⟨locs, hLe⟩ : ∃ L : List Loc, L = [] := ⟨_, rfl⟩
  replace hP : va_P D vwCl (wX9 T ad gx ++ wX8 T (ad 1) gow ++ wX8 T (ad 3) gok) H := by rw [hHe]; exact hP
  replace hS : va_S A s.heap H locs := by rw [hHe, hLe]; exact hS
  suffices hgo : W p l e rX9_back s m args below meth c H locs 0 0 Q (F0 m 0 ls []) by rw [hHe, hLe] at hgo; exact hgo
  clear hHe hLe
  refine lv_aload_n hx hb dX9_back_0 rfl (lv_at hl 0 rfl) ?_
  refine zGet (ci := 9) (C := RX9) (F := TX9) (N := 12) (v := .int (gx 0 3)) hx hb hts hiX9 hown hK hP 0 3 1 rfl rfl (by decide) rfl rfl rfl dX9_back_1 ?_
  refine lv_if_ne (tgt := 10) hx hb dX9_back_4 (by decide) (fun hc => ?_) (fun hc => ?_)
  · replace hf := zIf_f hc hf
    refine lv_aload_n hx hb dX9_back_10 rfl (lv_at hl 0 rfl) ?_
    refine zGet (ci := 9) (C := RX9) (F := TX9) (N := 12) (v := .ref (ad 1 0)) hx hb hts hiX9 hown hK hP 0 0 2 rfl rfl (by decide) rfl rfl rfl dX9_back_11 ?_
    refine lv_aload_n hx hb dX9_back_14 rfl (lv_at hl 0 rfl) ?_
    refine zGet (ci := 9) (C := RX9) (F := TX9) (N := 12) (v := .ref (ad 3 0)) hx hb hts hiX9 hown hK hP 0 2 3 rfl rfl (by decide) rfl rfl rfl dX9_back_15 ?_
    obtain ⟨gow_1, hc18, hf⟩ := zB1_ok hf
    refine zCallVJV (wr := wX9 T ad gx) (ws' := wX9 T ad gx ++ wX8 T (ad 1) gow_1 ++ wX8 T (ad 3) gok) [.ref (ad 3 0)] ⟨hx, hb, hml, hown, hts⟩ (pX8_become l D T X (ad 1) (ad 3) H.size gow gok gow_1 hc18) (cwV 1 hts gX9_back_X8_become rfl rfl rfl (by decide +kernel) ⟨Nat.le_of_ble_eq_true rfl, Nat.le_of_ble_eq_true rfl⟩) hK hP hD hS hA hX [1, 2, 3, 4, 5, 6, 7, 8, 9, 10, 11, 12, 13, 14, 15, 16, 17, 18, 19, 20, 21, 22] [0] [0, 1, 2, 3, 4, 5, 6, 7, 8, 9, 10, 11, 12, 13, 14, 15, 16, 17, 18, 19, 20, 21, 22] rfl rfl rfl rfl 0 rfl rfl rfl hl.1 rfl (Nat.le_of_ble_eq_true rfl) dX9_back_18 ⟨Nat.zero_le _, Nat.zero_le _⟩ (fun H locs hP hD hS => ?_)
    refine lv_aload_n hx hb dX9_back_21 rfl (lv_at hl 0 rfl) ?_
    refine zGet (ci := 9) (C := RX9) (F := TX9) (N := 12) (v := .ref (ad 1 0)) hx hb hts hiX9 hown hK hP 0 0 2 rfl rfl (by decide) rfl rfl rfl dX9_back_22 ?_
    refine zGet (ci := 8) (C := RX8) (F := TX8) (N := 14) (v := .int (gow_1 0 3)) hx hb hts hiX8 hown hK hP 1 3 4 rfl rfl (by decide) rfl rfl rfl dX9_back_25 ?_
    obtain ⟨q1, q2⟩ := zI2 hf
    subst q1
    subst q2
    exact zRetI hQ hx hb hr hlocks hA0 hK hP hD hS rfl dX9_back_28
  · replace hf := zIf_t hc hf
    refine lv_bipush (v := (-3)) hx hb dX9_back_7 (by decide) ?_
    obtain ⟨q1, q2⟩ := zI2 hf
    subst q1
    subst q2
    exact zRetI hQ hx hb hr hlocks hA0 hK hP hD hS rfl dX9_back_9
set_option maxHeartbeats 4000000 in
set_option maxRecDepth 100000 in
theorem pX10_in (l : Launch) (D : va_G) (T : Nat → ClassId) (X : zFP) (sz : Nat) (a1 : Int32) (a2 : Int32) (a3 : Int32) (r : Int32) (hf : fX10_in a1 a2 a3 = some r) : Met l yX10_in wsX10_in rX10_in (zPre D T X [.int a1, .int a2, .int a3] ([]) sz) (zQi D T r ([]) ([]) sz) 0 0 (va_A ([]) sz) := by
  unfold fX10_in at hf
  refine zStart [(0, .int a1), (1, .int a2), (2, .int a3)] (by decide) rfl (Nat.le_of_ble_eq_true rfl) rfl ?_
  intro p e s m args below meth c A Q ls hx hb hr hml hown hlocks hts hsz hA0 hQ hA hK hX hP hD hS hl
  replace hown : s.vm.findClass RX10 = some m.cls := hown
  have hH := hsz
  obtain ⟨H, hHe⟩ : ∃ H : Heap, H = s.heap := ⟨_, rfl⟩
  obtain ⟨locs, hLe⟩ : ∃ L : List Loc, L = [] := ⟨_, rfl⟩
  replace hP : va_P D vwCl ([]) H := by rw [hHe]; exact hP
  replace hS : va_S A s.heap H locs := by rw [hHe, hLe]; exact hS
  suffices hgo : W p l e rX10_in s m args below meth c H locs 0 0 Q (F0 m 0 ls []) by rw [hHe, hLe] at hgo; exact hgo
  clear hHe hLe
  refine lv_iload_n hx hb dX10_in_0 rfl (lv_at hl 0 rfl) ?_
  refine lv_iload_n hx hb dX10_in_1 rfl (lv_at hl 1 rfl) ?_
  refine lv_icmp_lt (tgt := 14) hx hb dX10_in_2 (by decide) (fun hc => ?_) (fun hc => ?_)
  · replace hf := zIf_t hc hf
    refine lv_iconst (v := 0) hx hb dX10_in_14 (by decide) ?_
    obtain ⟨q1, -⟩ := zI1 hf
    subst q1
    exact zRetZ hQ hx hb hr hlocks hA0 hK hP hD hS (by decide) rfl dX10_in_15
  · replace hf := zIf_f hc hf
    refine lv_iload_n hx hb dX10_in_5 rfl (lv_at hl 0 rfl) ?_
    refine lv_iload_n hx hb dX10_in_6 rfl (lv_at hl 2 rfl) ?_
    refine lv_icmp_gt (tgt := 14) hx hb dX10_in_7 (by decide) (fun hc => ?_) (fun hc => ?_)
    · replace hf := zIf_t hc hf
      refine lv_iconst (v := 0) hx hb dX10_in_14 (by decide) ?_
      obtain ⟨q1, -⟩ := zI1 hf
      subst q1
      exact zRetZ hQ hx hb hr hlocks hA0 hK hP hD hS (by decide) rfl dX10_in_15
    · replace hf := zIf_f hc hf
      refine lv_iconst (v := 1) hx hb dX10_in_10 (by decide) ?_
      refine lv_goto (tgt := 15) hx hb dX10_in_11 (by decide) ?_
      obtain ⟨q1, -⟩ := zI1 hf
      subst q1
      exact zRetZ hQ hx hb hr hlocks hA0 hK hP hD hS (by decide) rfl dX10_in_15
set_option maxHeartbeats 4000000 in
set_option maxRecDepth 100000 in
theorem pX10_isPerson (l : Launch) (D : va_G) (T : Nat → ClassId) (X : zFP) (hgm : Nat → Nat) (sz : Nat) (gm : zM) (gml : zL) (a1 : Int32) (r : Int32) (hf : fX10_isPerson gm gml a1 = some r) : Met l yX10_isPerson wsX10_isPerson rX10_isPerson (zPre D T X [.ref (hgm 0), .int a1] (wX10 T hgm gm gml) sz) (zQi D T r (wX10 T hgm gm gml) (wX10 T hgm gm gml) sz) 0 0 (va_A (wX10 T hgm gm gml) sz) := by
  unfold fX10_isPerson at hf
  refine zStart [(0, .ref (hgm 0)), (1, .int a1)] (by decide) rfl (Nat.le_of_ble_eq_true rfl) rfl ?_
  intro p e s m args below meth c A Q ls hx hb hr hml hown hlocks hts hsz hA0 hQ hA hK hX hP hD hS hl
  replace hown : s.vm.findClass RX10 = some m.cls := hown
  have hH := hsz
  have hiX10 : ∀ w ∈ u_ws RX10 TX10 54, w ∈ wsX10_isPerson := fun w h => List.mem_cons_of_mem _ (List.mem_append_right _ (h))
  obtain ⟨H, hHe⟩ : ∃ H : Heap, H = s.heap := ⟨_, rfl⟩
  obtain ⟨locs, hLe⟩ : ∃ L : List Loc, L = [] := ⟨_, rfl⟩
  replace hP : va_P D vwCl (wX10 T hgm gm gml) H := by rw [hHe]; exact hP
  replace hS : va_S A s.heap H locs := by rw [hHe, hLe]; exact hS
  suffices hgo : W p l e rX10_isPerson s m args below meth c H locs 0 0 Q (F0 m 0 ls []) by rw [hHe, hLe] at hgo; exact hgo
  clear hHe hLe
  refine lv_iload_n hx hb dX10_isPerson_0 rfl (lv_at hl 1 rfl) ?_
  refine lv_iconst (v := 0) hx hb dX10_isPerson_1 (by decide) ?_
  refine lv_aload_n hx hb dX10_isPerson_2 rfl (lv_at hl 0 rfl) ?_
  refine zGet (ci := 10) (C := RX10) (F := TX10) (N := 54) (v := .int (gm 0 0)) hx hb hts hiX10 hown hK hP 0 0 1 rfl rfl (by decide) rfl rfl rfl dX10_isPerson_3 ?_
  refine lv_iconst (v := 1) hx hb dX10_isPerson_6 (by decide) ?_
  refine lv_isub hx hb dX10_isPerson_7 ?_
  obtain ⟨v1, hc8, hf⟩ := zB1_ok hf
  refine zCallS0I [.int a1, .int 0, .int ((gm 0 0) - 1)] ⟨hx, hb, hml, hown, hts⟩ (pX10_in l D T X H.size a1 0 ((gm 0 0) - 1) v1 hc8) (va_cwS 3 hts gX10_isPerson_X10_in rfl rfl rfl (by decide +kernel) ⟨Nat.le_of_ble_eq_true rfl, Nat.le_of_ble_eq_true rfl⟩) hK hP hD hS hA hX rfl hl.1 rfl (Nat.le_of_ble_eq_true rfl) dX10_isPerson_8 ⟨Nat.zero_le _, Nat.zero_le _⟩ (fun H locs hP hD hS => ?_)
  obtain ⟨hg, hf⟩ := zGd_ok hf
  obtain ⟨q1, -⟩ := zI1 hf
  subst q1
  exact zRetZ hQ hx hb hr hlocks hA0 hK hP hD hS hg rfl dX10_isPerson_11
set_option maxHeartbeats 4000000 in
set_option maxRecDepth 100000 in
theorem pX10_isTie (l : Launch) (D : va_G) (T : Nat → ClassId) (X : zFP) (hgm : Nat → Nat) (sz : Nat) (gm : zM) (gml : zL) (a1 : Int32) (r : Int32) (hf : fX10_isTie gm gml a1 = some r) : Met l yX10_isTie wsX10_isTie rX10_isTie (zPre D T X [.ref (hgm 0), .int a1] (wX10 T hgm gm gml) sz) (zQi D T r (wX10 T hgm gm gml) (wX10 T hgm gm gml) sz) 0 0 (va_A (wX10 T hgm gm gml) sz) := by
  unfold fX10_isTie at hf
  refine zStart [(0, .ref (hgm 0)), (1, .int a1)] (by decide) rfl (Nat.le_of_ble_eq_true rfl) rfl ?_
  intro p e s m args below meth c A Q ls hx hb hr hml hown hlocks hts hsz hA0 hQ hA hK hX hP hD hS hl
  replace hown : s.vm.findClass RX10 = some m.cls := hown
  have hH := hsz
  have hiX10 : ∀ w ∈ u_ws RX10 TX10 54, w ∈ wsX10_isTie := fun w h => List.mem_cons_of_mem _ (List.mem_append_right _ (h))
  obtain ⟨H, hHe⟩ : ∃ H : Heap, H = s.heap := ⟨_, rfl⟩
  obtain ⟨locs, hLe⟩ : ∃ L : List Loc, L = [] := ⟨_, rfl⟩
  replace hP : va_P D vwCl (wX10 T hgm gm gml) H := by rw [hHe]; exact hP
  replace hS : va_S A s.heap H locs := by rw [hHe, hLe]; exact hS
  suffices hgo : W p l e rX10_isTie s m args below meth c H locs 0 0 Q (F0 m 0 ls []) by rw [hHe, hLe] at hgo; exact hgo
  clear hHe hLe
  refine lv_iload_n hx hb dX10_isTie_0 rfl (lv_at hl 1 rfl) ?_
  refine lv_iconst (v := 0) hx hb dX10_isTie_1 (by decide) ?_
  refine lv_aload_n hx hb dX10_isTie_2 rfl (lv_at hl 0 rfl) ?_
  refine zGet (ci := 10) (C := RX10) (F := TX10) (N := 54) (v := .int (gm 0 2)) hx hb hts hiX10 hown hK hP 0 2 1 rfl rfl (by decide) rfl rfl rfl dX10_isTie_3 ?_
  refine lv_iconst (v := 1) hx hb dX10_isTie_6 (by decide) ?_
  refine lv_isub hx hb dX10_isTie_7 ?_
  obtain ⟨v1, hc8, hf⟩ := zB1_ok hf
  refine zCallS0I [.int a1, .int 0, .int ((gm 0 2) - 1)] ⟨hx, hb, hml, hown, hts⟩ (pX10_in l D T X H.size a1 0 ((gm 0 2) - 1) v1 hc8) (va_cwS 3 hts gX10_isTie_X10_in rfl rfl rfl (by decide +kernel) ⟨Nat.le_of_ble_eq_true rfl, Nat.le_of_ble_eq_true rfl⟩) hK hP hD hS hA hX rfl hl.1 rfl (Nat.le_of_ble_eq_true rfl) dX10_isTie_8 ⟨Nat.zero_le _, Nat.zero_le _⟩ (fun H locs hP hD hS => ?_)
  obtain ⟨hg, hf⟩ := zGd_ok hf
  obtain ⟨q1, -⟩ := zI1 hf
  subst q1
  exact zRetZ hQ hx hb hr hlocks hA0 hK hP hD hS hg rfl dX10_isTie_11
set_option maxHeartbeats 4000000 in
set_option maxRecDepth 100000 in
theorem pX10_areTwo (l : Launch) (D : va_G) (T : Nat → ClassId) (X : zFP) (hgm : Nat → Nat) (sz : Nat) (gm : zM) (gml : zL) (a1 : Int32) (a2 : Int32) (r : Int32) (hf : fX10_areTwo gm gml a1 a2 = some r) : Met l yX10_areTwo wsX10_areTwo rX10_areTwo (zPre D T X [.ref (hgm 0), .int a1, .int a2] (wX10 T hgm gm gml) sz) (zQi D T r (wX10 T hgm gm gml) (wX10 T hgm gm gml) sz) 0 0 (va_A (wX10 T hgm gm gml) sz) := by
  unfold fX10_areTwo at hf
  refine zStart [(0, .ref (hgm 0)), (1, .int a1), (2, .int a2)] (by decide) rfl (Nat.le_of_ble_eq_true rfl) rfl ?_
  intro p e s m args below meth c A Q ls hx hb hr hml hown hlocks hts hsz hA0 hQ hA hK hX hP hD hS hl
  replace hown : s.vm.findClass RX10 = some m.cls := hown
  have hH := hsz
  obtain ⟨H, hHe⟩ : ∃ H : Heap, H = s.heap := ⟨_, rfl⟩
  obtain ⟨locs, hLe⟩ : ∃ L : List Loc, L = [] := ⟨_, rfl⟩
  replace hP : va_P D vwCl (wX10 T hgm gm gml) H := by rw [hHe]; exact hP
  replace hS : va_S A s.heap H locs := by rw [hHe, hLe]; exact hS
  suffices hgo : W p l e rX10_areTwo s m args below meth c H locs 0 0 Q (F0 m 0 ls []) by rw [hHe, hLe] at hgo; exact hgo
  clear hHe hLe
  refine lv_aload_n hx hb dX10_areTwo_0 rfl (lv_at hl 0 rfl) ?_
  refine lv_iload_n hx hb dX10_areTwo_1 rfl (lv_at hl 1 rfl) ?_
  obtain ⟨v1, hc2, hf⟩ := zB1_ok hf
  refine zCallVEI [.int a1] ⟨hx, hb, hml, hown, hts⟩ (pX10_isPerson l D T X hgm H.size gm gml a1 v1 hc2) (cwV 1 hts gX10_areTwo_X10_isPerson rfl rfl rfl (by decide +kernel) ⟨Nat.le_of_ble_eq_true rfl, Nat.le_of_ble_eq_true rfl⟩) hK hP hD hS hA hX 0 rfl rfl rfl hl.1 rfl (Nat.le_of_ble_eq_true rfl) dX10_areTwo_2 ⟨Nat.zero_le _, Nat.zero_le _⟩ (fun H locs hP hD hS => ?_)
  refine lv_if_eq (tgt := 25) hx hb dX10_areTwo_5 (by decide) (fun hc => ?_) (fun hc => ?_)
  · replace hf := zIf_t hc hf
    refine lv_iconst (v := 0) hx hb dX10_areTwo_25 (by decide) ?_
    obtain ⟨q1, -⟩ := zI1 hf
    subst q1
    exact zRetZ hQ hx hb hr hlocks hA0 hK hP hD hS (by decide) rfl dX10_areTwo_26
  · replace hf := zIf_f hc hf
    refine lv_aload_n hx hb dX10_areTwo_8 rfl (lv_at hl 0 rfl) ?_
    refine lv_iload_n hx hb dX10_areTwo_9 rfl (lv_at hl 2 rfl) ?_
    obtain ⟨v2, hc10, hf⟩ := zB1_ok hf
    refine zCallVEI [.int a2] ⟨hx, hb, hml, hown, hts⟩ (pX10_isPerson l D T X hgm H.size gm gml a2 v2 hc10) (cwV 1 hts gX10_areTwo_X10_isPerson rfl rfl rfl (by decide +kernel) ⟨Nat.le_of_ble_eq_true rfl, Nat.le_of_ble_eq_true rfl⟩) hK hP hD hS hA hX 0 rfl rfl rfl hl.1 rfl (Nat.le_of_ble_eq_true rfl) dX10_areTwo_10 ⟨Nat.zero_le _, Nat.zero_le _⟩ (fun H locs hP hD hS => ?_)
    refine lv_if_eq (tgt := 25) hx hb dX10_areTwo_13 (by decide) (fun hc => ?_) (fun hc => ?_)
    · replace hf := zIf_t hc hf
      refine lv_iconst (v := 0) hx hb dX10_areTwo_25 (by decide) ?_
      obtain ⟨q1, -⟩ := zI1 hf
      subst q1
      exact zRetZ hQ hx hb hr hlocks hA0 hK hP hD hS (by decide) rfl dX10_areTwo_26
    · replace hf := zIf_f hc hf
      refine lv_iload_n hx hb dX10_areTwo_16 rfl (lv_at hl 1 rfl) ?_
      refine lv_iload_n hx hb dX10_areTwo_17 rfl (lv_at hl 2 rfl) ?_
      refine lv_icmp_eq (tgt := 25) hx hb dX10_areTwo_18 (by decide) (fun hc => ?_) (fun hc => ?_)
      · replace hf := zIf_t hc hf
        refine lv_iconst (v := 0) hx hb dX10_areTwo_25 (by decide) ?_
        obtain ⟨q1, -⟩ := zI1 hf
        subst q1
        exact zRetZ hQ hx hb hr hlocks hA0 hK hP hD hS (by decide) rfl dX10_areTwo_26
      · replace hf := zIf_f hc hf
        refine lv_iconst (v := 1) hx hb dX10_areTwo_21 (by decide) ?_
        refine lv_goto (tgt := 26) hx hb dX10_areTwo_22 (by decide) ?_
        obtain ⟨q1, -⟩ := zI1 hf
        subst q1
        exact zRetZ hQ hx hb hr hlocks hA0 hK hP hD hS (by decide) rfl dX10_areTwo_26
set_option maxHeartbeats 4000000 in
set_option maxRecDepth 100000 in
theorem pX10_isSide (l : Launch) (D : va_G) (T : Nat → ClassId) (X : zFP) (sz : Nat) (a1 : Int32) (r : Int32) (hf : fX10_isSide a1 = some r) : Met l yX10_isSide wsX10_isSide rX10_isSide (zPre D T X [.int a1] ([]) sz) (zQi D T r ([]) ([]) sz) 0 0 (va_A ([]) sz) := by
  unfold fX10_isSide at hf
  refine zStart [(0, .int a1)] (by decide) rfl (Nat.le_of_ble_eq_true rfl) rfl ?_
  intro p e s m args below meth c A Q ls hx hb hr hml hown hlocks hts hsz hA0 hQ hA hK hX hP hD hS hl
  replace hown : s.vm.findClass RX10 = some m.cls := hown
  have hH := hsz
  obtain ⟨H, hHe⟩ : ∃ H : Heap, H = s.heap := ⟨_, rfl⟩
  obtain ⟨locs, hLe⟩ : ∃ L : List Loc, L = [] := ⟨_, rfl⟩
  replace hP : va_P D vwCl ([]) H := by rw [hHe]; exact hP
  replace hS : va_S A s.heap H locs := by rw [hHe, hLe]; exact hS
  suffices hgo : W p l e rX10_isSide s m args below meth c H locs 0 0 Q (F0 m 0 ls []) by rw [hHe, hLe] at hgo; exact hgo
  clear hHe hLe
  refine lv_iload_n hx hb dX10_isSide_0 rfl (lv_at hl 0 rfl) ?_
  refine lv_iconst (v := 0) hx hb dX10_isSide_1 (by decide) ?_
  refine lv_iconst (v := 1) hx hb dX10_isSide_2 (by decide) ?_
  obtain ⟨v1, hc3, hf⟩ := zB1_ok hf
  refine zCallS0I [.int a1, .int 0, .int 1] ⟨hx, hb, hml, hown, hts⟩ (pX10_in l D T X H.size a1 0 1 v1 hc3) (va_cwS 3 hts gX10_isSide_X10_in rfl rfl rfl (by decide +kernel) ⟨Nat.le_of_ble_eq_true rfl, Nat.le_of_ble_eq_true rfl⟩) hK hP hD hS hA hX rfl hl.1 rfl (Nat.le_of_ble_eq_true rfl) dX10_isSide_3 ⟨Nat.zero_le _, Nat.zero_le _⟩ (fun H locs hP hD hS => ?_)
  obtain ⟨hg, hf⟩ := zGd_ok hf
  obtain ⟨q1, -⟩ := zI1 hf
  subst q1
  exact zRetZ hQ hx hb hr hlocks hA0 hK hP hD hS hg rfl dX10_isSide_6
set_option maxHeartbeats 4000000 in
set_option maxRecDepth 100000 in
theorem pX10_all (l : Launch) (D : va_G) (T : Nat → ClassId) (X : zFP) (hgm : Nat → Nat) (sz : Nat) (gm : zM) (gml : zL) (r : Int32) (hf : fX10_all gm gml = some r) : Met l yX10_all wsX10_all rX10_all (zPre D T X [.ref (hgm 0)] (wX10 T hgm gm gml) sz) (zQi D T r (wX10 T hgm gm gml) (wX10 T hgm gm gml) sz) 0 0 (va_A (wX10 T hgm gm gml) sz) := by
  unfold fX10_all at hf
  refine zStart [(0, .ref (hgm 0))] (by decide) rfl (Nat.le_of_ble_eq_true rfl) rfl ?_
  intro p e s m args below meth c A Q ls hx hb hr hml hown hlocks hts hsz hA0 hQ hA hK hX hP hD hS hl
  replace hown : s.vm.findClass RX10 = some m.cls := hown
  have hH := hsz
  have hiX10 : ∀ w ∈ u_ws RX10 TX10 54, w ∈ wsX10_all := fun w h => List.mem_cons_of_mem _ (List.mem_append_right _ (h))
  obtain ⟨H, hHe⟩ : ∃ H : Heap, H = s.heap := ⟨_, rfl⟩
  obtain ⟨locs, hLe⟩ : ∃ L : List Loc, L = [] := ⟨_, rfl⟩
  replace hP : va_P D vwCl (wX10 T hgm gm gml) H := by rw [hHe]; exact hP
  replace hS : va_S A s.heap H locs := by rw [hHe, hLe]; exact hS
  suffices hgo : W p l e rX10_all s m args below meth c H locs 0 0 Q (F0 m 0 ls []) by rw [hHe, hLe] at hgo; exact hgo
  clear hHe hLe
  refine lv_iconst (v := 1) hx hb dX10_all_0 (by decide) ?_
  refine lv_aload_n hx hb dX10_all_1 rfl (lv_at hl 0 rfl) ?_
  refine zGet (ci := 10) (C := RX10) (F := TX10) (N := 54) (v := .int (gm 0 0)) hx hb hts hiX10 hown hK hP 0 0 1 rfl rfl (by decide) rfl rfl rfl dX10_all_2 ?_
  refine lv_ishl hx hb dX10_all_5 ?_
  refine lv_iconst (v := 1) hx hb dX10_all_6 (by decide) ?_
  refine lv_isub hx hb dX10_all_7 ?_
  obtain ⟨q1, -⟩ := zI1 hf
  subst q1
  exact zRetI hQ hx hb hr hlocks hA0 hK hP hD hS rfl dX10_all_8
set_option maxHeartbeats 4000000 in
set_option maxRecDepth 100000 in
theorem pX10_its (l : Launch) (D : va_G) (T : Nat → ClassId) (X : zFP) (hgm : Nat → Nat) (sz : Nat) (gm : zM) (gml : zL) (a1 : Int32) (a2 : Int32) (r : Int32) (hf : fX10_its gm gml a1 a2 = some r) : Met l yX10_its wsX10_its rX10_its (zPre D T X [.ref (hgm 0), .int a1, .int a2] (wX10 T hgm gm gml) sz) (zQi D T r (wX10 T hgm gm gml) (wX10 T hgm gm gml) sz) 0 0 (va_A (wX10 T hgm gm gml) sz) := by
  unfold fX10_its at hf
  refine zStart [(0, .ref (hgm 0)), (1, .int a1), (2, .int a2)] (by decide) rfl (Nat.le_of_ble_eq_true rfl) rfl ?_
  intro p e s m args below meth c A Q ls hx hb hr hml hown hlocks hts hsz hA0 hQ hA hK hX hP hD hS hl
  replace hown : s.vm.findClass RX10 = some m.cls := hown
  have hH := hsz
  have hiX10 : ∀ w ∈ u_ws RX10 TX10 54, w ∈ wsX10_its := fun w h => List.mem_cons_of_mem _ (List.mem_append_right _ (h))
  obtain ⟨H, hHe⟩ : ∃ H : Heap, H = s.heap := ⟨_, rfl⟩
  obtain ⟨locs, hLe⟩ : ∃ L : List Loc, L = [] := ⟨_, rfl⟩
  replace hP : va_P D vwCl (wX10 T hgm gm gml) H := by rw [hHe]; exact hP
  replace hS : va_S A s.heap H locs := by rw [hHe, hLe]; exact hS
  suffices hgo : W p l e rX10_its s m args below meth c H locs 0 0 Q (F0 m 0 ls []) by rw [hHe, hLe] at hgo; exact hgo
  clear hHe hLe
  refine lv_aload_n hx hb dX10_its_0 rfl (lv_at hl 0 rfl) ?_
  refine zGet (ci := 10) (C := RX10) (F := TX10) (N := 54) (v := .ref (hgm 2)) hx hb hts hiX10 hown hK hP 0 3 1 rfl rfl (by decide) rfl rfl rfl dX10_its_1 ?_
  refine lv_iconst (v := 5) hx hb dX10_its_4 (by decide) ?_
  refine lv_iload_n hx hb dX10_its_5 rfl (lv_at hl 1 rfl) ?_
  refine lv_imul hx hb dX10_its_6 ?_
  refine lv_iload_n hx hb dX10_its_7 rfl (lv_at hl 2 rfl) ?_
  refine lv_iadd hx hb dX10_its_8 ?_
  obtain ⟨hg, hf⟩ := zGd_ok hf
  refine zAldI hx hb hK hP 2 rfl hg dX10_its_9 (fun v1 ev1 => ?_)
  replace hf := zLt_at ev1 hf
  obtain ⟨q1, -⟩ := zI1 hf
  subst q1
  exact zRetI hQ hx hb hr hlocks hA0 hK hP hD hS rfl dX10_its_10
set_option maxHeartbeats 4000000 in
set_option maxRecDepth 100000 in
theorem pX10_ends (l : Launch) (D : va_G) (T : Nat → ClassId) (X : zFP) (hgm : Nat → Nat) (sz : Nat) (gm : zM) (gml : zL) (a1 : Int32) (r : Int32) (hf : fX10_ends gm gml a1 = some r) : Met l yX10_ends wsX10_ends rX10_ends (zPre D T X [.ref (hgm 0), .int a1] (wX10 T hgm gm gml) sz) (zQi D T r (wX10 T hgm gm gml) (wX10 T hgm gm gml) sz) 0 0 (va_A (wX10 T hgm gm gml) sz) := by
  unfold fX10_ends at hf
  refine zStart [(0, .ref (hgm 0)), (1, .int a1)] (by decide) rfl (Nat.le_of_ble_eq_true rfl) rfl ?_
  intro p e s m args below meth c A Q ls hx hb hr hml hown hlocks hts hsz hA0 hQ hA hK hX hP hD hS hl
  replace hown : s.vm.findClass RX10 = some m.cls := hown
  have hH := hsz
  obtain ⟨H, hHe⟩ : ∃ H : Heap, H = s.heap := ⟨_, rfl⟩
  obtain ⟨locs, hLe⟩ : ∃ L : List Loc, L = [] := ⟨_, rfl⟩
  replace hP : va_P D vwCl (wX10 T hgm gm gml) H := by rw [hHe]; exact hP
  replace hS : va_S A s.heap H locs := by rw [hHe, hLe]; exact hS
  suffices hgo : W p l e rX10_ends s m args below meth c H locs 0 0 Q (F0 m 0 ls []) by rw [hHe, hLe] at hgo; exact hgo
  clear hHe hLe
  refine lv_iconst (v := 1) hx hb dX10_ends_0 (by decide) ?_
  refine lv_aload_n hx hb dX10_ends_1 rfl (lv_at hl 0 rfl) ?_
  refine lv_iload_n hx hb dX10_ends_2 rfl (lv_at hl 1 rfl) ?_
  refine lv_iconst (v := 0) hx hb dX10_ends_3 (by decide) ?_
  obtain ⟨v1, hc4, hf⟩ := zB1_ok hf
  refine zCallVEI [.int a1, .int 0] ⟨hx, hb, hml, hown, hts⟩ (pX10_its l D T X hgm H.size gm gml a1 0 v1 hc4) (cwV 2 hts gX10_ends_X10_its rfl rfl rfl (by decide +kernel) ⟨Nat.le_of_ble_eq_true rfl, Nat.le_of_ble_eq_true rfl⟩) hK hP hD hS hA hX 0 rfl rfl rfl hl.1 rfl (Nat.le_of_ble_eq_true rfl) dX10_ends_4 ⟨Nat.zero_le _, Nat.zero_le _⟩ (fun H locs hP hD hS => ?_)
  refine lv_ishl hx hb dX10_ends_7 ?_
  refine lv_iconst (v := 1) hx hb dX10_ends_8 (by decide) ?_
  refine lv_aload_n hx hb dX10_ends_9 rfl (lv_at hl 0 rfl) ?_
  refine lv_iload_n hx hb dX10_ends_10 rfl (lv_at hl 1 rfl) ?_
  refine lv_iconst (v := 1) hx hb dX10_ends_11 (by decide) ?_
  obtain ⟨v2, hc12, hf⟩ := zB1_ok hf
  refine zCallVEI [.int a1, .int 1] ⟨hx, hb, hml, hown, hts⟩ (pX10_its l D T X hgm H.size gm gml a1 1 v2 hc12) (cwV 2 hts gX10_ends_X10_its rfl rfl rfl (by decide +kernel) ⟨Nat.le_of_ble_eq_true rfl, Nat.le_of_ble_eq_true rfl⟩) hK hP hD hS hA hX 0 rfl rfl rfl hl.1 rfl (Nat.le_of_ble_eq_true rfl) dX10_ends_12 ⟨Nat.zero_le _, Nat.zero_le _⟩ (fun H locs hP hD hS => ?_)
  refine lv_ishl hx hb dX10_ends_15 ?_
  refine lv_ior hx hb dX10_ends_16 ?_
  obtain ⟨q1, -⟩ := zI1 hf
  subst q1
  exact zRetI hQ hx hb hr hlocks hA0 hK hP hD hS rfl dX10_ends_17
set_option maxHeartbeats 4000000 in
set_option maxRecDepth 100000 in
theorem pX10_ones (l : Launch) (D : va_G) (T : Nat → ClassId) (X : zFP) (sz : Nat) (a1 : Int32) (r : Int32) (hf : fX10_ones a1 = some r) : Met l yX10_ones wsX10_ones rX10_ones (zPre D T X [.int a1] ([]) sz) (zQi D T r ([]) ([]) sz) 0 0 (va_A ([]) sz) := by
  unfold fX10_ones at hf
  refine zStart [(0, .int a1)] (by decide) rfl (Nat.le_of_ble_eq_true rfl) rfl ?_
  intro p e s m args below meth c A Q ls hx hb hr hml hown hlocks hts hsz hA0 hQ hA hK hX hP hD hS hl
  replace hown : s.vm.findClass RX10 = some m.cls := hown
  have hH := hsz
  obtain ⟨H, hHe⟩ : ∃ H : Heap, H = s.heap := ⟨_, rfl⟩
  obtain ⟨locs, hLe⟩ : ∃ L : List Loc, L = [] := ⟨_, rfl⟩
  replace hP : va_P D vwCl ([]) H := by rw [hHe]; exact hP
  replace hS : va_S A s.heap H locs := by rw [hHe, hLe]; exact hS
  suffices hgo : W p l e rX10_ones s m args below meth c H locs 0 0 Q (F0 m 0 ls []) by rw [hHe, hLe] at hgo; exact hgo
  clear hHe hLe
  refine lv_iconst (v := 0) hx hb dX10_ones_0 (by decide) ?_
  refine lv_istore_n (lv' := [(1, .int 0), (0, .int a1)]) hx hb dX10_ones_1 rfl hl (by decide) rfl (fun ls hl => ?_)
  refine lv_iload_n hx hb dX10_ones_2 rfl (lv_at hl 1 rfl) ?_
  refine lv_istore_n (lv' := [(2, .int a1), (1, .int 0), (0, .int a1)]) hx hb dX10_ones_3 rfl hl (by decide) rfl (fun ls hl => ?_)
  obtain ⟨ex, hlp, hf⟩ := zB1_ok hf
  have hE4_20 : ∀ (v3 : Int32) , ex = v3 → ∀ (H : Heap) (locs : List Loc) (ls : Array Slot), va_P D vwCl ([]) H → va_D A ([]) → va_S A s.heap H locs → lv_has ls 3 [(1, .int v3)] → W p l e rX10_ones s m args below meth c H locs 0 0 Q (F0 m 20 ls []) := by
    intro v3 hex H locs ls hP hD hS hl
    have hf := zEx1 hex hf
    refine lv_iload_n hx hb dX10_ones_20 rfl (lv_at hl 0 rfl) ?_
    obtain ⟨q1, -⟩ := zI1 hf
    subst q1
    exact zRetI hQ hx hb hr hlocks hA0 hK hP hD hS rfl dX10_ones_21
  refine zLpS2 (body := fX10_ones_L4) (b := ex) (fun (v1 : Int32) (v2 : Int32) => ∀ (H : Heap) (locs : List Loc) (ls : Array Slot), va_P D vwCl ([]) H → va_D A ([]) → va_S A s.heap H locs → lv_has ls 3 [(1, .int v1), (2, .int v2)] → W p l e rX10_ones s m args below meth c H locs 0 0 Q (F0 m 4 ls [])) ?_ zFU 0 a1 hlp H locs ls hP hD hS (lv_sub hl [1, 0] rfl)
  intro v1 v2 z hf hzz H locs ls hP hD hS hl
  unfold fX10_ones_L4 at hf
  replace hf := zUk2 hf
  refine lv_iload_n hx hb dX10_ones_4 rfl (lv_at hl 1 rfl) ?_
  refine lv_if_eq (tgt := 20) hx hb dX10_ones_5 (by decide) (fun hc => ?_) (fun hc => ?_)
  · replace hf := zIf_t hc hf
    cases hf
    exact hE4_20 v1 hzz.symm H locs ls hP hD hS (lv_sub hl [0] rfl)
  · replace hf := zIf_f hc hf
    obtain ⟨v4, ev4⟩ : ∃ y : Int32, y = v1 + 1 := ⟨_, rfl⟩
    replace hf := zLt_at ev4 hf
    refine lv_iinc (v := v4) (lv' := [(1, .int v4), (2, .int v2)]) hx hb dX10_ones_8 hl (k := 0) rfl (by rw [ev4]; rfl) (by decide) rfl (fun ls hl => ?_)
    refine lv_iload_n hx hb dX10_ones_11 rfl (lv_at hl 1 rfl) ?_
    refine lv_iload_n hx hb dX10_ones_12 rfl (lv_at hl 1 rfl) ?_
    refine lv_iconst (v := 1) hx hb dX10_ones_13 (by decide) ?_
    refine lv_isub hx hb dX10_ones_14 ?_
    refine lv_iand hx hb dX10_ones_15 ?_
    refine lv_topi (fun v5 ev5 => ?_)
    replace hf := zLt_at ev5 hf
    refine lv_istore_n (lv' := [(2, .int v5), (1, .int v4)]) hx hb dX10_ones_16 rfl hl (by decide) rfl (fun ls hl => ?_)
    refine lv_goto (tgt := 4) hx hb dX10_ones_17 (by decide) ?_
    cases hf
    exact hzz H locs ls hP hD hS (lv_sub hl [1, 0] rfl)
set_option maxHeartbeats 4000000 in
set_option maxRecDepth 100000 in
theorem pX10_inSet (l : Launch) (D : va_G) (T : Nat → ClassId) (X : zFP) (hgm : Nat → Nat) (sz : Nat) (gm : zM) (gml : zL) (a1 : Int32) (a2 : Int32) (r : Int32) (hf : fX10_inSet gm gml a1 a2 = some r) : Met l yX10_inSet wsX10_inSet rX10_inSet (zPre D T X [.ref (hgm 0), .int a1, .int a2] (wX10 T hgm gm gml) sz) (zQi D T r (wX10 T hgm gm gml) (wX10 T hgm gm gml) sz) 0 0 (va_A (wX10 T hgm gm gml) sz) := by
  unfold fX10_inSet at hf
  refine zStart [(0, .ref (hgm 0)), (1, .int a1), (2, .int a2)] (by decide) rfl (Nat.le_of_ble_eq_true rfl) rfl ?_
  intro p e s m args below meth c A Q ls hx hb hr hml hown hlocks hts hsz hA0 hQ hA hK hX hP hD hS hl
  replace hown : s.vm.findClass RX10 = some m.cls := hown
  have hH := hsz
  obtain ⟨H, hHe⟩ : ∃ H : Heap, H = s.heap := ⟨_, rfl⟩
  obtain ⟨locs, hLe⟩ : ∃ L : List Loc, L = [] := ⟨_, rfl⟩
  replace hP : va_P D vwCl (wX10 T hgm gm gml) H := by rw [hHe]; exact hP
  replace hS : va_S A s.heap H locs := by rw [hHe, hLe]; exact hS
  suffices hgo : W p l e rX10_inSet s m args below meth c H locs 0 0 Q (F0 m 0 ls []) by rw [hHe, hLe] at hgo; exact hgo
  clear hHe hLe
  refine lv_aload_n hx hb dX10_inSet_0 rfl (lv_at hl 0 rfl) ?_
  refine lv_iload_n hx hb dX10_inSet_1 rfl (lv_at hl 1 rfl) ?_
  obtain ⟨v1, hc2, hf⟩ := zB1_ok hf
  refine zCallVEI [.int a1] ⟨hx, hb, hml, hown, hts⟩ (pX10_ends l D T X hgm H.size gm gml a1 v1 hc2) (cwV 1 hts gX10_inSet_X10_ends rfl rfl rfl (by decide +kernel) ⟨Nat.le_of_ble_eq_true rfl, Nat.le_of_ble_eq_true rfl⟩) hK hP hD hS hA hX 0 rfl rfl rfl hl.1 rfl (Nat.le_of_ble_eq_true rfl) dX10_inSet_2 ⟨Nat.zero_le _, Nat.zero_le _⟩ (fun H locs hP hD hS => ?_)
  refine lv_iload_n hx hb dX10_inSet_5 rfl (lv_at hl 2 rfl) ?_
  refine lv_iand hx hb dX10_inSet_6 ?_
  obtain ⟨v2, hc7, hf⟩ := zB1_ok hf
  refine zCallS0I [.int (v1 &&& a2)] ⟨hx, hb, hml, hown, hts⟩ (pX10_ones l D T X H.size (v1 &&& a2) v2 hc7) (va_cwS 1 hts gX10_inSet_X10_ones rfl rfl rfl (by decide +kernel) ⟨Nat.le_of_ble_eq_true rfl, Nat.le_of_ble_eq_true rfl⟩) hK hP hD hS hA hX rfl hl.1 rfl (Nat.le_of_ble_eq_true rfl) dX10_inSet_7 ⟨Nat.zero_le _, Nat.zero_le _⟩ (fun H locs hP hD hS => ?_)
  obtain ⟨q1, -⟩ := zI1 hf
  subst q1
  exact zRetI hQ hx hb hr hlocks hA0 hK hP hD hS rfl dX10_inSet_10
set_option maxHeartbeats 4000000 in
set_option maxRecDepth 100000 in
theorem pX10_feed (l : Launch) (D : va_G) (T : Nat → ClassId) (X : zFP) (hgm : Nat → Nat) (sz : Nat) (gm : zM) (gml : zL) (a1 : Int64) (a2 : Int32) (r : Int32) (ngm : zM) (hf : fX10_feed gm gml a1 a2 = some (r, ngm)) : Met l yX10_feed wsX10_feed rX10_feed (zPre D T X [.ref (hgm 0), .long a1, .int a2] (wX10 T hgm gm gml) sz) (zQi D T r (wX10 T hgm ngm gml) (wX10 T hgm gm gml) sz) 0 0 (va_A (wX10 T hgm gm gml) sz) := by
  unfold fX10_feed at hf
  refine zStart [(0, .ref (hgm 0)), (1, .long a1), (3, .int a2)] (by decide) rfl (Nat.le_of_ble_eq_true rfl) rfl ?_
  intro p e s m args below meth c A Q ls hx hb hr hml hown hlocks hts hsz hA0 hQ hA hK hX hP hD hS hl
  replace hown : s.vm.findClass RX10 = some m.cls := hown
  have hH := hsz
  have hiX10 : ∀ w ∈ u_ws RX10 TX10 54, w ∈ wsX10_feed := fun w h => List.mem_cons_of_mem _ (List.mem_append_right _ (h))
  obtain ⟨H, hHe⟩ : ∃ H : Heap, H = s.heap := ⟨_, rfl⟩
  obtain ⟨locs, hLe⟩ : ∃ L : List Loc, L = [] := ⟨_, rfl⟩
  replace hP : va_P D vwCl (wX10 T hgm gm gml) H := by rw [hHe]; exact hP
  replace hS : va_S A s.heap H locs := by rw [hHe, hLe]; exact hS
  suffices hgo : W p l e rX10_feed s m args below meth c H locs 0 0 Q (F0 m 0 ls []) by rw [hHe, hLe] at hgo; exact hgo
  clear hHe hLe
  refine lv_iload_n hx hb dX10_feed_0 rfl (lv_at hl 2 rfl) ?_
  refine lv_iconst (v := 1) hx hb dX10_feed_1 (by decide) ?_
  refine lv_bipush (v := 8) hx hb dX10_feed_2 (by decide) ?_
  obtain ⟨v1, hc4, hf⟩ := zB1_ok hf
  refine zCallS0I [.int a2, .int 1, .int 8] ⟨hx, hb, hml, hown, hts⟩ (pX10_in l D T X H.size a2 1 8 v1 hc4) (va_cwS 3 hts gX10_feed_X10_in rfl rfl rfl (by decide +kernel) ⟨Nat.le_of_ble_eq_true rfl, Nat.le_of_ble_eq_true rfl⟩) hK hP hD hS hA hX rfl hl.1 rfl (Nat.le_of_ble_eq_true rfl) dX10_feed_4 ⟨Nat.zero_le _, Nat.zero_le _⟩ (fun H locs hP hD hS => ?_)
  refine lv_if_ne (tgt := 12) hx hb dX10_feed_7 (by decide) (fun hc => ?_) (fun hc => ?_)
  · replace hf := zIf_f hc hf
    refine lv_aload_n hx hb dX10_feed_12 rfl (lv_at hl 0 rfl) ?_
    refine zGet (ci := 10) (C := RX10) (F := TX10) (N := 54) (v := .int (gm 0 9)) hx hb hts hiX10 hown hK hP 0 9 1 rfl rfl (by decide) rfl rfl rfl dX10_feed_13 ?_
    refine lv_iload_n hx hb dX10_feed_16 rfl (lv_at hl 2 rfl) ?_
    refine lv_iadd hx hb dX10_feed_17 ?_
    refine lv_sipush (v := 200) hx hb dX10_feed_18 (by decide) ?_
    refine lv_icmp_le (tgt := 27) hx hb dX10_feed_21 (by decide) (fun hc => ?_) (fun hc => ?_)
    · replace hf := zIf_t hc hf
      refine lv_iconst (v := 0) hx hb dX10_feed_27 (by decide) ?_
      refine lv_istore (lv' := [(4, .int 0), (0, .ref (hgm 0)), (1, .long a1), (3, .int a2)]) hx hb dX10_feed_28 hl (by decide) rfl (fun ls hl => ?_)
      obtain ⟨ex, hlp, hf⟩ := zB1_ok hf
      have hE30_73 : ∀ (gm_4 : zM) , ex = gm_4 → ∀ (H : Heap) (locs : List Loc) (ls : Array Slot), va_P D vwCl (wX10 T hgm gm_4 gml) H → va_D A (wX10 T hgm gm_4 gml) → va_S A s.heap H locs → lv_has ls 5 [(0, .ref (hgm 0))] → W p l e rX10_feed s m args below meth c H locs 0 0 Q (F0 m 73 ls []) := by
        intro gm_4 hex H locs ls hP hD hS hl
        have hf := zEx1 hex hf
        refine lv_aload_n hx hb dX10_feed_73 rfl (lv_at hl 0 rfl) ?_
        refine zGet (ci := 10) (C := RX10) (F := TX10) (N := 54) (v := .int (gm_4 0 9)) hx hb hts hiX10 hown hK hP 0 9 1 rfl rfl (by decide) rfl rfl rfl dX10_feed_74 ?_
        obtain ⟨q1, q2⟩ := zI2 hf
        subst q1
        subst q2
        exact zRetI hQ hx hb hr hlocks hA0 hK hP hD hS rfl dX10_feed_77
      refine zLpS2 (body := (fX10_feed_L30 a1 a2)) (b := ex) (fun (v2 : Int32) (gm_3 : zM) => ∀ (H : Heap) (locs : List Loc) (ls : Array Slot), va_P D vwCl (wX10 T hgm gm_3 gml) H → va_D A (wX10 T hgm gm_3 gml) → va_S A s.heap H locs → lv_has ls 5 [(0, .ref (hgm 0)), (1, .long a1), (3, .int a2), (4, .int v2)] → W p l e rX10_feed s m args below meth c H locs 0 0 Q (F0 m 30 ls [])) ?_ zFU 0 gm hlp H locs ls hP hD hS (lv_sub hl [1, 2, 3, 0] rfl)
      intro v2 gm_3 z hf hzz H locs ls hP hD hS hl
      unfold fX10_feed_L30 at hf
      replace hf := zUk2 hf
      refine lv_iload hx hb dX10_feed_30 (lv_at hl 3 rfl) ?_
      refine lv_iload_n hx hb dX10_feed_32 rfl (lv_at hl 2 rfl) ?_
      refine lv_icmp_ge (tgt := 73) hx hb dX10_feed_33 (by decide) (fun hc => ?_) (fun hc => ?_)
      · replace hf := zIf_t hc hf
        cases hf
        exact hE30_73 gm_3 hzz.symm H locs ls hP hD hS (lv_sub hl [0] rfl)
      · replace hf := zIf_f hc hf
        refine lv_aload_n hx hb dX10_feed_36 rfl (lv_at hl 0 rfl) ?_
        refine zGet (ci := 10) (C := RX10) (F := TX10) (N := 54) (v := .ref (hgm 5)) hx hb hts hiX10 hown hK hP 0 8 2 rfl rfl (by decide) rfl rfl rfl dX10_feed_37 ?_
        refine lv_aload_n hx hb dX10_feed_40 rfl (lv_at hl 0 rfl) ?_
        refine zGet (ci := 10) (C := RX10) (F := TX10) (N := 54) (v := .int (gm_3 0 9)) hx hb hts hiX10 hown hK hP 0 9 1 rfl rfl (by decide) rfl rfl rfl dX10_feed_41 ?_
        refine lv_lload_n hx hb dX10_feed_44 rfl (lv_at hl 1 rfl) ?_
        refine lv_bipush (v := 8) hx hb dX10_feed_45 (by decide) ?_
        refine lv_iload hx hb dX10_feed_47 (lv_at hl 3 rfl) ?_
        refine lv_imul hx hb dX10_feed_49 ?_
        refine lv_lshr hx hb dX10_feed_50 rfl ?_
        refine lv_ldc2 (v := 255) hx hb hown (hts _ (List.mem_of_getElem? (i := 3) rfl)) dX10_feed_51 ?_
        refine lv_land hx hb dX10_feed_54 ?_
        refine lv_l2i hx hb dX10_feed_55 rfl ?_
        refine lv_topi (fun v5 ev5 => ?_)
        replace hf := zLt_at ev5 hf
        obtain ⟨hg, hf⟩ := zGd_ok hf
        refine zAstI (w := gm_3) hx hb hK hP hD hS (fun g => wX10 T hgm g gml) 5 5 rfl hg rfl dX10_feed_56 (fun gm_6 egm_6 H locs hP hD hS => ?_)
        replace hP : va_P D vwCl (wX10 T hgm gm_6 gml) H := hP
        replace hD : va_D A (wX10 T hgm gm_6 gml) := hD
        replace hf := zLt_at egm_6 hf
        refine lv_aload_n hx hb dX10_feed_57 rfl (lv_at hl 0 rfl) ?_
        refine lv_dup hx hb dX10_feed_58 rfl ?_
        refine zGet (ci := 10) (C := RX10) (F := TX10) (N := 54) (v := .int (gm_6 0 9)) hx hb hts hiX10 hown hK hP 0 9 1 rfl rfl (by decide) rfl rfl rfl dX10_feed_59 ?_
        refine lv_iconst (v := 1) hx hb dX10_feed_62 (by decide) ?_
        refine lv_iadd hx hb dX10_feed_63 ?_
        refine lv_topi (fun v7 ev7 => ?_)
        replace hf := zLt_at ev7 hf
        refine zPut (ci := 10) (C := RX10) (F := TX10) (N := 54) (x := v7) (w := gm_6) hx hb hts hiX10 tyX10 tyX10_ok nmX10 hown hK hP hD hS (fun g => wX10 T hgm g gml) 0 9 1 rfl rfl (by decide) rfl rfl rfl ⟨rfl, rfl⟩ (Nat.le_of_ble_eq_true rfl) rfl dX10_feed_64 (fun gm_8 egm_8 H locs hP hD hS => ?_)
        replace hP : va_P D vwCl (wX10 T hgm gm_8 gml) H := hP
        replace hD : va_D A (wX10 T hgm gm_8 gml) := hD
        replace hf := zLt_at egm_8 hf
        obtain ⟨v9, ev9⟩ : ∃ y : Int32, y = v2 + 1 := ⟨_, rfl⟩
        replace hf := zLt_at ev9 hf
        refine lv_iinc (v := v9) (lv' := [(4, .int v9), (0, .ref (hgm 0)), (1, .long a1), (3, .int a2)]) hx hb dX10_feed_67 hl (k := 3) rfl (by rw [ev9]; rfl) (by decide) rfl (fun ls hl => ?_)
        refine lv_goto (tgt := 30) hx hb dX10_feed_70 (by decide) ?_
        cases hf
        exact hzz H locs ls hP hD hS (lv_sub hl [1, 2, 3, 0] rfl)
    · replace hf := zIf_f hc hf
      refine lv_bipush (v := (-2)) hx hb dX10_feed_24 (by decide) ?_
      obtain ⟨q1, q2⟩ := zI2 hf
      subst q1
      subst q2
      exact zRetI hQ hx hb hr hlocks hA0 hK hP hD hS rfl dX10_feed_26
  · replace hf := zIf_t hc hf
    refine lv_iconst (v := (-1)) hx hb dX10_feed_10 (by decide) ?_
    obtain ⟨q1, q2⟩ := zI2 hf
    subst q1
    subst q2
    exact zRetI hQ hx hb hr hlocks hA0 hK hP hD hS rfl dX10_feed_11
set_option maxHeartbeats 4000000 in
set_option maxRecDepth 100000 in
theorem pX10_byteAt (l : Launch) (D : va_G) (T : Nat → ClassId) (X : zFP) (hgm : Nat → Nat) (sz : Nat) (gm : zM) (gml : zL) (a1 : Int32) (r : Int32) (hf : fX10_byteAt gm gml a1 = some r) : Met l yX10_byteAt wsX10_byteAt rX10_byteAt (zPre D T X [.ref (hgm 0), .int a1] (wX10 T hgm gm gml) sz) (zQi D T r (wX10 T hgm gm gml) (wX10 T hgm gm gml) sz) 0 0 (va_A (wX10 T hgm gm gml) sz) := by
  unfold fX10_byteAt at hf
  refine zStart [(0, .ref (hgm 0)), (1, .int a1)] (by decide) rfl (Nat.le_of_ble_eq_true rfl) rfl ?_
  intro p e s m args below meth c A Q ls hx hb hr hml hown hlocks hts hsz hA0 hQ hA hK hX hP hD hS hl
  replace hown : s.vm.findClass RX10 = some m.cls := hown
  have hH := hsz
  have hiX10 : ∀ w ∈ u_ws RX10 TX10 54, w ∈ wsX10_byteAt := fun w h => List.mem_cons_of_mem _ (List.mem_append_right _ (h))
  obtain ⟨H, hHe⟩ : ∃ H : Heap, H = s.heap := ⟨_, rfl⟩
  obtain ⟨locs, hLe⟩ : ∃ L : List Loc, L = [] := ⟨_, rfl⟩
  replace hP : va_P D vwCl (wX10 T hgm gm gml) H := by rw [hHe]; exact hP
  replace hS : va_S A s.heap H locs := by rw [hHe, hLe]; exact hS
  suffices hgo : W p l e rX10_byteAt s m args below meth c H locs 0 0 Q (F0 m 0 ls []) by rw [hHe, hLe] at hgo; exact hgo
  clear hHe hLe
  refine lv_iload_n hx hb dX10_byteAt_0 rfl (lv_at hl 1 rfl) ?_
  refine lv_aload_n hx hb dX10_byteAt_1 rfl (lv_at hl 0 rfl) ?_
  refine zGet (ci := 10) (C := RX10) (F := TX10) (N := 54) (v := .int (gm 0 9)) hx hb hts hiX10 hown hK hP 0 9 1 rfl rfl (by decide) rfl rfl rfl dX10_byteAt_2 ?_
  refine lv_icmp_ge (tgt := 17) hx hb dX10_byteAt_5 (by decide) (fun hc => ?_) (fun hc => ?_)
  · replace hf := zIf_t hc hf
    refine lv_iconst (v := (-1)) hx hb dX10_byteAt_17 (by decide) ?_
    obtain ⟨q1, -⟩ := zI1 hf
    subst q1
    exact zRetI hQ hx hb hr hlocks hA0 hK hP hD hS rfl dX10_byteAt_18
  · replace hf := zIf_f hc hf
    refine lv_aload_n hx hb dX10_byteAt_8 rfl (lv_at hl 0 rfl) ?_
    refine zGet (ci := 10) (C := RX10) (F := TX10) (N := 54) (v := .ref (hgm 5)) hx hb hts hiX10 hown hK hP 0 8 2 rfl rfl (by decide) rfl rfl rfl dX10_byteAt_9 ?_
    refine lv_iload_n hx hb dX10_byteAt_12 rfl (lv_at hl 1 rfl) ?_
    obtain ⟨hg, hf⟩ := zGd_ok hf
    refine zAldI hx hb hK hP 5 rfl hg dX10_byteAt_13 (fun v1 ev1 => ?_)
    replace hf := zLt_at ev1 hf
    refine lv_goto (tgt := 18) hx hb dX10_byteAt_14 (by decide) ?_
    obtain ⟨q1, -⟩ := zI1 hf
    subst q1
    exact zRetI hQ hx hb hr hlocks hA0 hK hP hD hS rfl dX10_byteAt_18
set_option maxHeartbeats 4000000 in
set_option maxRecDepth 100000 in
theorem pX10_isLetter (l : Launch) (D : va_G) (T : Nat → ClassId) (X : zFP) (sz : Nat) (a1 : Int32) (r : Int32) (hf : fX10_isLetter a1 = some r) : Met l yX10_isLetter wsX10_isLetter rX10_isLetter (zPre D T X [.int a1] ([]) sz) (zQi D T r ([]) ([]) sz) 0 0 (va_A ([]) sz) := by
  unfold fX10_isLetter at hf
  refine zStart [(0, .int a1)] (by decide) rfl (Nat.le_of_ble_eq_true rfl) rfl ?_
  intro p e s m args below meth c A Q ls hx hb hr hml hown hlocks hts hsz hA0 hQ hA hK hX hP hD hS hl
  replace hown : s.vm.findClass RX10 = some m.cls := hown
  have hH := hsz
  obtain ⟨H, hHe⟩ : ∃ H : Heap, H = s.heap := ⟨_, rfl⟩
  obtain ⟨locs, hLe⟩ : ∃ L : List Loc, L = [] := ⟨_, rfl⟩
  replace hP : va_P D vwCl ([]) H := by rw [hHe]; exact hP
  replace hS : va_S A s.heap H locs := by rw [hHe, hLe]; exact hS
  suffices hgo : W p l e rX10_isLetter s m args below meth c H locs 0 0 Q (F0 m 0 ls []) by rw [hHe, hLe] at hgo; exact hgo
  clear hHe hLe
  refine lv_iload_n hx hb dX10_isLetter_0 rfl (lv_at hl 0 rfl) ?_
  refine lv_bipush (v := 97) hx hb dX10_isLetter_1 (by decide) ?_
  refine lv_bipush (v := 122) hx hb dX10_isLetter_3 (by decide) ?_
  obtain ⟨v1, hc5, hf⟩ := zB1_ok hf
  refine zCallS0I [.int a1, .int 97, .int 122] ⟨hx, hb, hml, hown, hts⟩ (pX10_in l D T X H.size a1 97 122 v1 hc5) (va_cwS 3 hts gX10_isLetter_X10_in rfl rfl rfl (by decide +kernel) ⟨Nat.le_of_ble_eq_true rfl, Nat.le_of_ble_eq_true rfl⟩) hK hP hD hS hA hX rfl hl.1 rfl (Nat.le_of_ble_eq_true rfl) dX10_isLetter_5 ⟨Nat.zero_le _, Nat.zero_le _⟩ (fun H locs hP hD hS => ?_)
  obtain ⟨hg, hf⟩ := zGd_ok hf
  obtain ⟨q1, -⟩ := zI1 hf
  subst q1
  exact zRetZ hQ hx hb hr hlocks hA0 hK hP hD hS hg rfl dX10_isLetter_8
set_option maxHeartbeats 4000000 in
set_option maxRecDepth 100000 in
theorem pX10_isDigit (l : Launch) (D : va_G) (T : Nat → ClassId) (X : zFP) (sz : Nat) (a1 : Int32) (r : Int32) (hf : fX10_isDigit a1 = some r) : Met l yX10_isDigit wsX10_isDigit rX10_isDigit (zPre D T X [.int a1] ([]) sz) (zQi D T r ([]) ([]) sz) 0 0 (va_A ([]) sz) := by
  unfold fX10_isDigit at hf
  refine zStart [(0, .int a1)] (by decide) rfl (Nat.le_of_ble_eq_true rfl) rfl ?_
  intro p e s m args below meth c A Q ls hx hb hr hml hown hlocks hts hsz hA0 hQ hA hK hX hP hD hS hl
  replace hown : s.vm.findClass RX10 = some m.cls := hown
  have hH := hsz
  obtain ⟨H, hHe⟩ : ∃ H : Heap, H = s.heap := ⟨_, rfl⟩
  obtain ⟨locs, hLe⟩ : ∃ L : List Loc, L = [] := ⟨_, rfl⟩
  replace hP : va_P D vwCl ([]) H := by rw [hHe]; exact hP
  replace hS : va_S A s.heap H locs := by rw [hHe, hLe]; exact hS
  suffices hgo : W p l e rX10_isDigit s m args below meth c H locs 0 0 Q (F0 m 0 ls []) by rw [hHe, hLe] at hgo; exact hgo
  clear hHe hLe
  refine lv_iload_n hx hb dX10_isDigit_0 rfl (lv_at hl 0 rfl) ?_
  refine lv_bipush (v := 48) hx hb dX10_isDigit_1 (by decide) ?_
  refine lv_bipush (v := 57) hx hb dX10_isDigit_3 (by decide) ?_
  obtain ⟨v1, hc5, hf⟩ := zB1_ok hf
  refine zCallS0I [.int a1, .int 48, .int 57] ⟨hx, hb, hml, hown, hts⟩ (pX10_in l D T X H.size a1 48 57 v1 hc5) (va_cwS 3 hts gX10_isDigit_X10_in rfl rfl rfl (by decide +kernel) ⟨Nat.le_of_ble_eq_true rfl, Nat.le_of_ble_eq_true rfl⟩) hK hP hD hS hA hX rfl hl.1 rfl (Nat.le_of_ble_eq_true rfl) dX10_isDigit_5 ⟨Nat.zero_le _, Nat.zero_le _⟩ (fun H locs hP hD hS => ?_)
  obtain ⟨hg, hf⟩ := zGd_ok hf
  obtain ⟨q1, -⟩ := zI1 hf
  subst q1
  exact zRetZ hQ hx hb hr hlocks hA0 hK hP hD hS hg rfl dX10_isDigit_8
