-- X10_cutOf X10_uncut X10_cutsIt X10_isOpen X10_openOn X10_open X10_around X10_joinedBy X10_joined X10_greatest X10_sets X10_weights X10_unsure X10_oftenOf X10_isSeen X10_findTale X10_lowest X10_often X10_lacksTale X10_chance X10_reach X10_seen X10_who X10_beginCut X10_countCut X10_fewest X10_between
set_option maxHeartbeats 4000000 in
set_option maxRecDepth 100000 in
theorem pX10_cutOf (l : Launch) (D : va_G) (T : Nat → ClassId) (X : zFP) (hgm : Nat → Nat) (sz : Nat) (gm : zM) (gml : zL) (a1 : Int32) (a2 : Int32) (r : Int32) (hf : fX10_cutOf gm gml a1 a2 = some r) : Met l yX10_cutOf wsX10_cutOf rX10_cutOf (zPre D T X [.ref (hgm 0), .int a1, .int a2] (wX10 T hgm gm gml) sz) (zQi D T r (wX10 T hgm gm gml) (wX10 T hgm gm gml) sz) 0 0 (va_A (wX10 T hgm gm gml) sz) := by
  unfold fX10_cutOf at hf
  refine zStart [(0, .ref (hgm 0)), (1, .int a1), (2, .int a2)] (by decide) rfl (Nat.le_of_ble_eq_true rfl) rfl ?_
  intro p e s m args below meth c A Q ls hx hb hr hml hown hlocks hts hsz hA0 hQ hA hK hX hP hD hS hl
  replace hown : s.vm.findClass RX10 = some m.cls := hown
  have hH := hsz
  have hiX10 : ∀ w ∈ u_ws RX10 TX10 54, w ∈ wsX10_cutOf := fun w h => List.mem_cons_of_mem _ (List.mem_append_right _ (h))
  obtain ⟨H, hHe⟩ : ∃ H : Heap, H = s.heap := ⟨_, rfl⟩
  obtain ⟨locs, hLe⟩ : ∃ L : List Loc, L = [] := ⟨_, rfl⟩
  replace hP : va_P D vwCl (wX10 T hgm gm gml) H := by rw [hHe]; exact hP
  replace hS : va_S A s.heap H locs := by rw [hHe, hLe]; exact hS
  suffices hgo : W p l e rX10_cutOf s m args below meth c H locs 0 0 Q (F0 m 0 ls []) by rw [hHe, hLe] at hgo; exact hgo
  clear hHe hLe
  refine lv_aload_n hx hb dX10_cutOf_0 rfl (lv_at hl 0 rfl) ?_
  refine lv_iload_n hx hb dX10_cutOf_1 rfl (lv_at hl 1 rfl) ?_
  obtain ⟨v1, hc2, hf⟩ := zB1_ok hf
  refine zCallVEI [.int a1] ⟨hx, hb, hml, hown, hts⟩ (pX10_isCut l D T X hgm H.size gm gml a1 v1 hc2) (cwV 1 hts gX10_cutOf_X10_isCut rfl rfl rfl (by decide +kernel) ⟨Nat.le_of_ble_eq_true rfl, Nat.le_of_ble_eq_true rfl⟩) hK hP hD hS hA hX 0 rfl rfl rfl hl.1 rfl (Nat.le_of_ble_eq_true rfl) dX10_cutOf_2 ⟨Nat.zero_le _, Nat.zero_le _⟩ (fun H locs hP hD hS => ?_)
  refine lv_if_eq (tgt := 30) hx hb dX10_cutOf_5 (by decide) (fun hc => ?_) (fun hc => ?_)
  · replace hf := zIf_t hc hf
    refine lv_iconst (v := (-1)) hx hb dX10_cutOf_30 (by decide) ?_
    obtain ⟨q1, -⟩ := zI1 hf
    subst q1
    exact zRetI hQ hx hb hr hlocks hA0 hK hP hD hS rfl dX10_cutOf_31
  · replace hf := zIf_f hc hf
    refine lv_iload_n hx hb dX10_cutOf_8 rfl (lv_at hl 2 rfl) ?_
    refine lv_iconst (v := 0) hx hb dX10_cutOf_9 (by decide) ?_
    refine lv_iconst (v := 2) hx hb dX10_cutOf_10 (by decide) ?_
    obtain ⟨v2, hc11, hf⟩ := zB1_ok hf
    refine zCallS0I [.int a2, .int 0, .int 2] ⟨hx, hb, hml, hown, hts⟩ (pX10_in l D T X H.size a2 0 2 v2 hc11) (va_cwS 3 hts gX10_cutOf_X10_in rfl rfl rfl (by decide +kernel) ⟨Nat.le_of_ble_eq_true rfl, Nat.le_of_ble_eq_true rfl⟩) hK hP hD hS hA hX rfl hl.1 rfl (Nat.le_of_ble_eq_true rfl) dX10_cutOf_11 ⟨Nat.zero_le _, Nat.zero_le _⟩ (fun H locs hP hD hS => ?_)
    refine lv_if_eq (tgt := 30) hx hb dX10_cutOf_14 (by decide) (fun hc => ?_) (fun hc => ?_)
    · replace hf := zIf_t hc hf
      refine lv_iconst (v := (-1)) hx hb dX10_cutOf_30 (by decide) ?_
      obtain ⟨q1, -⟩ := zI1 hf
      subst q1
      exact zRetI hQ hx hb hr hlocks hA0 hK hP hD hS rfl dX10_cutOf_31
    · replace hf := zIf_f hc hf
      refine lv_aload_n hx hb dX10_cutOf_17 rfl (lv_at hl 0 rfl) ?_
      refine zGet (ci := 10) (C := RX10) (F := TX10) (N := 54) (v := .ref (hgm 3)) hx hb hts hiX10 hown hK hP 0 5 1 rfl rfl (by decide) rfl rfl rfl dX10_cutOf_18 ?_
      refine lv_iconst (v := 3) hx hb dX10_cutOf_21 (by decide) ?_
      refine lv_iload_n hx hb dX10_cutOf_22 rfl (lv_at hl 1 rfl) ?_
      refine lv_imul hx hb dX10_cutOf_23 ?_
      refine lv_iload_n hx hb dX10_cutOf_24 rfl (lv_at hl 2 rfl) ?_
      refine lv_iadd hx hb dX10_cutOf_25 ?_
      obtain ⟨hg, hf⟩ := zGd_ok hf
      refine zAldI hx hb hK hP 3 rfl hg dX10_cutOf_26 (fun v3 ev3 => ?_)
      replace hf := zLt_at ev3 hf
      refine lv_goto (tgt := 31) hx hb dX10_cutOf_27 (by decide) ?_
      obtain ⟨q1, -⟩ := zI1 hf
      subst q1
      exact zRetI hQ hx hb hr hlocks hA0 hK hP hD hS rfl dX10_cutOf_31
set_option maxHeartbeats 4000000 in
set_option maxRecDepth 100000 in
theorem pX10_uncut (l : Launch) (D : va_G) (T : Nat → ClassId) (X : zFP) (hgm : Nat → Nat) (sz : Nat) (gm : zM) (gml : zL) (r : Int32) (ngm : zM) (hf : fX10_uncut gm gml = some (r, ngm)) : Met l yX10_uncut wsX10_uncut rX10_uncut (zPre D T X [.ref (hgm 0)] (wX10 T hgm gm gml) sz) (zQi D T r (wX10 T hgm ngm gml) (wX10 T hgm gm gml) sz) 0 0 (va_A (wX10 T hgm gm gml) sz) := by
  unfold fX10_uncut at hf
  refine zStart [(0, .ref (hgm 0))] (by decide) rfl (Nat.le_of_ble_eq_true rfl) rfl ?_
  intro p e s m args below meth c A Q ls hx hb hr hml hown hlocks hts hsz hA0 hQ hA hK hX hP hD hS hl
  replace hown : s.vm.findClass RX10 = some m.cls := hown
  have hH := hsz
  have hiX10 : ∀ w ∈ u_ws RX10 TX10 54, w ∈ wsX10_uncut := fun w h => List.mem_cons_of_mem _ (List.mem_append_right _ (h))
  obtain ⟨H, hHe⟩ : ∃ H : Heap, H = s.heap := ⟨_, rfl⟩
  obtain ⟨locs, hLe⟩ : ∃ L : List Loc, L = [] := ⟨_, rfl⟩
  replace hP : va_P D vwCl (wX10 T hgm gm gml) H := by rw [hHe]; exact hP
  replace hS : va_S A s.heap H locs := by rw [hHe, hLe]; exact hS
  suffices hgo : W p l e rX10_uncut s m args below meth c H locs 0 0 Q (F0 m 0 ls []) by rw [hHe, hLe] at hgo; exact hgo
  clear hHe hLe
  refine lv_aload_n hx hb dX10_uncut_0 rfl (lv_at hl 0 rfl) ?_
  refine zGet (ci := 10) (C := RX10) (F := TX10) (N := 54) (v := .int (gm 0 4)) hx hb hts hiX10 hown hK hP 0 4 1 rfl rfl (by decide) rfl rfl rfl dX10_uncut_1 ?_
  refine lv_if_ne (tgt := 10) hx hb dX10_uncut_4 (by decide) (fun hc => ?_) (fun hc => ?_)
  · replace hf := zIf_f hc hf
    refine lv_aload_n hx hb dX10_uncut_10 rfl (lv_at hl 0 rfl) ?_
    refine lv_dup hx hb dX10_uncut_11 rfl ?_
    refine zGet (ci := 10) (C := RX10) (F := TX10) (N := 54) (v := .int (gm 0 4)) hx hb hts hiX10 hown hK hP 0 4 1 rfl rfl (by decide) rfl rfl rfl dX10_uncut_12 ?_
    refine lv_iconst (v := 1) hx hb dX10_uncut_15 (by decide) ?_
    refine lv_isub hx hb dX10_uncut_16 ?_
    refine lv_topi (fun v1 ev1 => ?_)
    replace hf := zLt_at ev1 hf
    refine zPut (ci := 10) (C := RX10) (F := TX10) (N := 54) (x := v1) (w := gm) hx hb hts hiX10 tyX10 tyX10_ok nmX10 hown hK hP hD hS (fun g => wX10 T hgm g gml) 0 4 1 rfl rfl (by decide) rfl rfl rfl ⟨rfl, rfl⟩ (Nat.le_of_ble_eq_true rfl) rfl dX10_uncut_17 (fun gm_2 egm_2 H locs hP hD hS => ?_)
    replace hP : va_P D vwCl (wX10 T hgm gm_2 gml) H := hP
    replace hD : va_D A (wX10 T hgm gm_2 gml) := hD
    replace hf := zLt_at egm_2 hf
    refine lv_aload_n hx hb dX10_uncut_20 rfl (lv_at hl 0 rfl) ?_
    refine zGet (ci := 10) (C := RX10) (F := TX10) (N := 54) (v := .int (gm_2 0 4)) hx hb hts hiX10 hown hK hP 0 4 1 rfl rfl (by decide) rfl rfl rfl dX10_uncut_21 ?_
    obtain ⟨q1, q2⟩ := zI2 hf
    subst q1
    subst q2
    exact zRetI hQ hx hb hr hlocks hA0 hK hP hD hS rfl dX10_uncut_24
  · replace hf := zIf_t hc hf
    refine lv_bipush (v := (-3)) hx hb dX10_uncut_7 (by decide) ?_
    obtain ⟨q1, q2⟩ := zI2 hf
    subst q1
    subst q2
    exact zRetI hQ hx hb hr hlocks hA0 hK hP hD hS rfl dX10_uncut_9
set_option maxHeartbeats 4000000 in
set_option maxRecDepth 100000 in
theorem pX10_cutsIt (l : Launch) (D : va_G) (T : Nat → ClassId) (X : zFP) (hgm : Nat → Nat) (sz : Nat) (gm : zM) (gml : zL) (a1 : Int32) (a2 : Int32) (a3 : Int32) (r : Int32) (hf : fX10_cutsIt gm gml a1 a2 a3 = some r) : Met l yX10_cutsIt wsX10_cutsIt rX10_cutsIt (zPre D T X [.ref (hgm 0), .int a1, .int a2, .int a3] (wX10 T hgm gm gml) sz) (zQi D T r (wX10 T hgm gm gml) (wX10 T hgm gm gml) sz) 0 0 (va_A (wX10 T hgm gm gml) sz) := by
  unfold fX10_cutsIt at hf
  refine zStart [(0, .ref (hgm 0)), (1, .int a1), (2, .int a2), (3, .int a3)] (by decide) rfl (Nat.le_of_ble_eq_true rfl) rfl ?_
  intro p e s m args below meth c A Q ls hx hb hr hml hown hlocks hts hsz hA0 hQ hA hK hX hP hD hS hl
  replace hown : s.vm.findClass RX10 = some m.cls := hown
  have hH := hsz
  have hiX10 : ∀ w ∈ u_ws RX10 TX10 54, w ∈ wsX10_cutsIt := fun w h => List.mem_cons_of_mem _ (List.mem_append_right _ (h))
  obtain ⟨H, hHe⟩ : ∃ H : Heap, H = s.heap := ⟨_, rfl⟩
  obtain ⟨locs, hLe⟩ : ∃ L : List Loc, L = [] := ⟨_, rfl⟩
  replace hP : va_P D vwCl (wX10 T hgm gm gml) H := by rw [hHe]; exact hP
  replace hS : va_S A s.heap H locs := by rw [hHe, hLe]; exact hS
  suffices hgo : W p l e rX10_cutsIt s m args below meth c H locs 0 0 Q (F0 m 0 ls []) by rw [hHe, hLe] at hgo; exact hgo
  clear hHe hLe
  refine lv_aload_n hx hb dX10_cutsIt_0 rfl (lv_at hl 0 rfl) ?_
  refine zGet (ci := 10) (C := RX10) (F := TX10) (N := 54) (v := .ref (hgm 3)) hx hb hts hiX10 hown hK hP 0 5 1 rfl rfl (by decide) rfl rfl rfl dX10_cutsIt_1 ?_
  refine lv_iconst (v := 3) hx hb dX10_cutsIt_4 (by decide) ?_
  refine lv_iload_n hx hb dX10_cutsIt_5 rfl (lv_at hl 1 rfl) ?_
  refine lv_imul hx hb dX10_cutsIt_6 ?_
  refine lv_iconst (v := 1) hx hb dX10_cutsIt_7 (by decide) ?_
  refine lv_iadd hx hb dX10_cutsIt_8 ?_
  obtain ⟨hg, hf⟩ := zGd_ok hf
  refine zAldI hx hb hK hP 3 rfl hg dX10_cutsIt_9 (fun v1 ev1 => ?_)
  replace hf := zLt_at ev1 hf
  refine lv_istore (lv' := [(4, .int v1), (0, .ref (hgm 0)), (1, .int a1), (2, .int a2), (3, .int a3)]) hx hb dX10_cutsIt_10 hl (by decide) rfl (fun ls hl => ?_)
  refine lv_aload_n hx hb dX10_cutsIt_12 rfl (lv_at hl 1 rfl) ?_
  refine zGet (ci := 10) (C := RX10) (F := TX10) (N := 54) (v := .ref (hgm 3)) hx hb hts hiX10 hown hK hP 0 5 1 rfl rfl (by decide) rfl rfl rfl dX10_cutsIt_13 ?_
  refine lv_iconst (v := 3) hx hb dX10_cutsIt_16 (by decide) ?_
  refine lv_iload_n hx hb dX10_cutsIt_17 rfl (lv_at hl 2 rfl) ?_
  refine lv_imul hx hb dX10_cutsIt_18 ?_
  obtain ⟨hg, hf⟩ := zGd_ok hf
  refine zAldI hx hb hK hP 3 rfl hg dX10_cutsIt_19 (fun v2 ev2 => ?_)
  replace hf := zLt_at ev2 hf
  refine zSw (x := v2) (k := 1) (fun hc => ?_) (fun hk1 => ?_)
  · replace hf := zIf_t hc hf
    refine lv_tableIn (off := 36) (tgt := 56) hx hb dX10_cutsIt_20 (by rw [hc]; decide) (by rw [hc]; decide) (by rw [hc]; decide) (by decide) ?_
    refine lv_iload hx hb dX10_cutsIt_56 (lv_at hl 0 rfl) ?_
    refine lv_iload_n hx hb dX10_cutsIt_58 rfl (lv_at hl 3 rfl) ?_
    refine lv_icmp_ne (tgt := 66) hx hb dX10_cutsIt_59 (by decide) (fun hc => ?_) (fun hc => ?_)
    · replace hf := zIf_f hc hf
      refine lv_iconst (v := 0) hx hb dX10_cutsIt_66 (by decide) ?_
      obtain ⟨q1, -⟩ := zI1 hf
      subst q1
      exact zRetZ hQ hx hb hr hlocks hA0 hK hP hD hS (by decide) rfl dX10_cutsIt_67
    · replace hf := zIf_t hc hf
      refine lv_iconst (v := 1) hx hb dX10_cutsIt_62 (by decide) ?_
      refine lv_goto (tgt := 67) hx hb dX10_cutsIt_63 (by decide) ?_
      obtain ⟨q1, -⟩ := zI1 hf
      subst q1
      exact zRetZ hQ hx hb hr hlocks hA0 hK hP hD hS (by decide) rfl dX10_cutsIt_67
  replace hf := zIf_f hk1 hf
  refine zSw (x := v2) (k := 2) (fun hc => ?_) (fun hk2 => ?_)
  · replace hf := zIf_t hc hf
    refine lv_tableIn (off := 74) (tgt := 94) hx hb dX10_cutsIt_20 (by rw [hc]; decide) (by rw [hc]; decide) (by rw [hc]; decide) (by decide) ?_
    refine lv_aload_n hx hb dX10_cutsIt_94 rfl (lv_at hl 1 rfl) ?_
    refine lv_iload_n hx hb dX10_cutsIt_95 rfl (lv_at hl 3 rfl) ?_
    refine lv_iload hx hb dX10_cutsIt_96 (lv_at hl 0 rfl) ?_
    obtain ⟨v3, hc98, hf⟩ := zB1_ok hf
    refine zCallVEI [.int a2, .int v1] ⟨hx, hb, hml, hown, hts⟩ (pX10_inSet l D T X hgm H.size gm gml a2 v1 v3 hc98) (cwV 2 hts gX10_cutsIt_X10_inSet rfl rfl rfl (by decide +kernel) ⟨Nat.le_of_ble_eq_true rfl, Nat.le_of_ble_eq_true rfl⟩) hK hP hD hS hA hX 0 rfl rfl rfl hl.1 rfl (Nat.le_of_ble_eq_true rfl) dX10_cutsIt_98 ⟨Nat.zero_le _, Nat.zero_le _⟩ (fun H locs hP hD hS => ?_)
    refine lv_iconst (v := 1) hx hb dX10_cutsIt_101 (by decide) ?_
    refine lv_icmp_ne (tgt := 118) hx hb dX10_cutsIt_102 (by decide) (fun hc => ?_) (fun hc => ?_)
    · replace hf := zIf_f hc hf
      refine lv_iconst (v := 0) hx hb dX10_cutsIt_118 (by decide) ?_
      obtain ⟨q1, -⟩ := zI1 hf
      subst q1
      exact zRetZ hQ hx hb hr hlocks hA0 hK hP hD hS (by decide) rfl dX10_cutsIt_119
    · replace hf := zIf_t hc hf
      refine lv_aload_n hx hb dX10_cutsIt_105 rfl (lv_at hl 1 rfl) ?_
      refine lv_iload_n hx hb dX10_cutsIt_106 rfl (lv_at hl 3 rfl) ?_
      refine lv_iconst (v := 4) hx hb dX10_cutsIt_107 (by decide) ?_
      obtain ⟨v4, hc108, hf⟩ := zB1_ok hf
      refine zCallVEI [.int a2, .int 4] ⟨hx, hb, hml, hown, hts⟩ (pX10_its l D T X hgm H.size gm gml a2 4 v4 hc108) (cwV 2 hts gX10_cutsIt_X10_its rfl rfl rfl (by decide +kernel) ⟨Nat.le_of_ble_eq_true rfl, Nat.le_of_ble_eq_true rfl⟩) hK hP hD hS hA hX 0 rfl rfl rfl hl.1 rfl (Nat.le_of_ble_eq_true rfl) dX10_cutsIt_108 ⟨Nat.zero_le _, Nat.zero_le _⟩ (fun H locs hP hD hS => ?_)
      refine lv_if_ne (tgt := 118) hx hb dX10_cutsIt_111 (by decide) (fun hc => ?_) (fun hc => ?_)
      · replace hf := zIf_f hc hf
        refine lv_iconst (v := 0) hx hb dX10_cutsIt_118 (by decide) ?_
        obtain ⟨q1, -⟩ := zI1 hf
        subst q1
        exact zRetZ hQ hx hb hr hlocks hA0 hK hP hD hS (by decide) rfl dX10_cutsIt_119
      · replace hf := zIf_t hc hf
        refine lv_iconst (v := 1) hx hb dX10_cutsIt_114 (by decide) ?_
        refine lv_goto (tgt := 119) hx hb dX10_cutsIt_115 (by decide) ?_
        obtain ⟨q1, -⟩ := zI1 hf
        subst q1
        exact zRetZ hQ hx hb hr hlocks hA0 hK hP hD hS (by decide) rfl dX10_cutsIt_119
  replace hf := zIf_f hk2 hf
  refine zSw (x := v2) (k := 3) (fun hc => ?_) (fun hk3 => ?_)
  · replace hf := zIf_t hc hf
    refine lv_tableIn (off := 100) (tgt := 120) hx hb dX10_cutsIt_20 (by rw [hc]; decide) (by rw [hc]; decide) (by rw [hc]; decide) (by decide) ?_
    refine lv_aload_n hx hb dX10_cutsIt_120 rfl (lv_at hl 1 rfl) ?_
    refine lv_iload_n hx hb dX10_cutsIt_121 rfl (lv_at hl 3 rfl) ?_
    refine lv_iload hx hb dX10_cutsIt_122 (lv_at hl 0 rfl) ?_
    obtain ⟨v5, hc124, hf⟩ := zB1_ok hf
    refine zCallVEI [.int a2, .int v1] ⟨hx, hb, hml, hown, hts⟩ (pX10_inSet l D T X hgm H.size gm gml a2 v1 v5 hc124) (cwV 2 hts gX10_cutsIt_X10_inSet rfl rfl rfl (by decide +kernel) ⟨Nat.le_of_ble_eq_true rfl, Nat.le_of_ble_eq_true rfl⟩) hK hP hD hS hA hX 0 rfl rfl rfl hl.1 rfl (Nat.le_of_ble_eq_true rfl) dX10_cutsIt_124 ⟨Nat.zero_le _, Nat.zero_le _⟩ (fun H locs hP hD hS => ?_)
    refine lv_iconst (v := 1) hx hb dX10_cutsIt_127 (by decide) ?_
    refine lv_icmp_ne (tgt := 135) hx hb dX10_cutsIt_128 (by decide) (fun hc => ?_) (fun hc => ?_)
    · replace hf := zIf_f hc hf
      refine lv_iconst (v := 0) hx hb dX10_cutsIt_135 (by decide) ?_
      obtain ⟨q1, -⟩ := zI1 hf
      subst q1
      exact zRetZ hQ hx hb hr hlocks hA0 hK hP hD hS (by decide) rfl dX10_cutsIt_136
    · replace hf := zIf_t hc hf
      refine lv_iconst (v := 1) hx hb dX10_cutsIt_131 (by decide) ?_
      refine lv_goto (tgt := 136) hx hb dX10_cutsIt_132 (by decide) ?_
      obtain ⟨q1, -⟩ := zI1 hf
      subst q1
      exact zRetZ hQ hx hb hr hlocks hA0 hK hP hD hS (by decide) rfl dX10_cutsIt_136
  replace hf := zIf_f hk3 hf
  refine zSw (x := v2) (k := 4) (fun hc => ?_) (fun hk4 => ?_)
  · replace hf := zIf_t hc hf
    refine lv_tableIn (off := 48) (tgt := 68) hx hb dX10_cutsIt_20 (by rw [hc]; decide) (by rw [hc]; decide) (by rw [hc]; decide) (by decide) ?_
    refine lv_iload hx hb dX10_cutsIt_68 (lv_at hl 0 rfl) ?_
    refine lv_iload_n hx hb dX10_cutsIt_70 rfl (lv_at hl 3 rfl) ?_
    refine lv_icmp_ne (tgt := 92) hx hb dX10_cutsIt_71 (by decide) (fun hc => ?_) (fun hc => ?_)
    · replace hf := zIf_f hc hf
      refine lv_iconst (v := 0) hx hb dX10_cutsIt_92 (by decide) ?_
      obtain ⟨q1, -⟩ := zI1 hf
      subst q1
      exact zRetZ hQ hx hb hr hlocks hA0 hK hP hD hS (by decide) rfl dX10_cutsIt_93
    · replace hf := zIf_t hc hf
      refine lv_iload_n hx hb dX10_cutsIt_74 rfl (lv_at hl 4 rfl) ?_
      refine lv_aload_n hx hb dX10_cutsIt_75 rfl (lv_at hl 1 rfl) ?_
      refine zGet (ci := 10) (C := RX10) (F := TX10) (N := 54) (v := .ref (hgm 3)) hx hb hts hiX10 hown hK hP 0 5 1 rfl rfl (by decide) rfl rfl rfl dX10_cutsIt_76 ?_
      refine lv_iconst (v := 3) hx hb dX10_cutsIt_79 (by decide) ?_
      refine lv_iload_n hx hb dX10_cutsIt_80 rfl (lv_at hl 2 rfl) ?_
      refine lv_imul hx hb dX10_cutsIt_81 ?_
      refine lv_iconst (v := 2) hx hb dX10_cutsIt_82 (by decide) ?_
      refine lv_iadd hx hb dX10_cutsIt_83 ?_
      obtain ⟨hg, hf⟩ := zGd_ok hf
      refine zAldI hx hb hK hP 3 rfl hg dX10_cutsIt_84 (fun v6 ev6 => ?_)
      replace hf := zLt_at ev6 hf
      refine lv_icmp_lt (tgt := 92) hx hb dX10_cutsIt_85 (by decide) (fun hc => ?_) (fun hc => ?_)
      · replace hf := zIf_t hc hf
        refine lv_iconst (v := 0) hx hb dX10_cutsIt_92 (by decide) ?_
        obtain ⟨q1, -⟩ := zI1 hf
        subst q1
        exact zRetZ hQ hx hb hr hlocks hA0 hK hP hD hS (by decide) rfl dX10_cutsIt_93
      · replace hf := zIf_f hc hf
        refine lv_iconst (v := 1) hx hb dX10_cutsIt_88 (by decide) ?_
        refine lv_goto (tgt := 93) hx hb dX10_cutsIt_89 (by decide) ?_
        obtain ⟨q1, -⟩ := zI1 hf
        subst q1
        exact zRetZ hQ hx hb hr hlocks hA0 hK hP hD hS (by decide) rfl dX10_cutsIt_93
  replace hf := zIf_f hk4 hf
  refine zSw (x := v2) (k := 5) (fun hc => ?_) (fun hk5 => ?_)
  · replace hf := zIf_t hc hf
    refine lv_tableIn (off := 117) (tgt := 137) hx hb dX10_cutsIt_20 (by rw [hc]; decide) (by rw [hc]; decide) (by rw [hc]; decide) (by decide) ?_
    refine lv_aload_n hx hb dX10_cutsIt_137 rfl (lv_at hl 1 rfl) ?_
    refine lv_iload_n hx hb dX10_cutsIt_138 rfl (lv_at hl 3 rfl) ?_
    refine lv_iload hx hb dX10_cutsIt_139 (lv_at hl 0 rfl) ?_
    obtain ⟨v7, hc141, hf⟩ := zB1_ok hf
    refine zCallVEI [.int a2, .int v1] ⟨hx, hb, hml, hown, hts⟩ (pX10_inSet l D T X hgm H.size gm gml a2 v1 v7 hc141) (cwV 2 hts gX10_cutsIt_X10_inSet rfl rfl rfl (by decide +kernel) ⟨Nat.le_of_ble_eq_true rfl, Nat.le_of_ble_eq_true rfl⟩) hK hP hD hS hA hX 0 rfl rfl rfl hl.1 rfl (Nat.le_of_ble_eq_true rfl) dX10_cutsIt_141 ⟨Nat.zero_le _, Nat.zero_le _⟩ (fun H locs hP hD hS => ?_)
    refine lv_if_le (tgt := 151) hx hb dX10_cutsIt_144 (by decide) (fun hc => ?_) (fun hc => ?_)
    · replace hf := zIf_t hc hf
      refine lv_iconst (v := 0) hx hb dX10_cutsIt_151 (by decide) ?_
      obtain ⟨q1, -⟩ := zI1 hf
      subst q1
      exact zRetZ hQ hx hb hr hlocks hA0 hK hP hD hS (by decide) rfl dX10_cutsIt_152
    · replace hf := zIf_f hc hf
      refine lv_iconst (v := 1) hx hb dX10_cutsIt_147 (by decide) ?_
      refine lv_goto (tgt := 152) hx hb dX10_cutsIt_148 (by decide) ?_
      obtain ⟨q1, -⟩ := zI1 hf
      subst q1
      exact zRetZ hQ hx hb hr hlocks hA0 hK hP hD hS (by decide) rfl dX10_cutsIt_152
  replace hf := zIf_f hk5 hf
  refine lv_tableOut (tgt := 153) hx hb dX10_cutsIt_20 (by have := zNe hk1 (z := 1) (by decide); have := zNe hk2 (z := 2) (by decide); have := zNe hk3 (z := 3) (by decide); have := zNe hk4 (z := 4) (by decide); have := zNe hk5 (z := 5) (by decide); omega) (by decide) ?_
  refine lv_aload_n hx hb dX10_cutsIt_153 rfl (lv_at hl 1 rfl) ?_
  refine lv_iload_n hx hb dX10_cutsIt_154 rfl (lv_at hl 3 rfl) ?_
  refine lv_iload hx hb dX10_cutsIt_155 (lv_at hl 0 rfl) ?_
  obtain ⟨v8, hc157, hf⟩ := zB1_ok hf
  refine zCallVEI [.int a2, .int v1] ⟨hx, hb, hml, hown, hts⟩ (pX10_inSet l D T X hgm H.size gm gml a2 v1 v8 hc157) (cwV 2 hts gX10_cutsIt_X10_inSet rfl rfl rfl (by decide +kernel) ⟨Nat.le_of_ble_eq_true rfl, Nat.le_of_ble_eq_true rfl⟩) hK hP hD hS hA hX 0 rfl rfl rfl hl.1 rfl (Nat.le_of_ble_eq_true rfl) dX10_cutsIt_157 ⟨Nat.zero_le _, Nat.zero_le _⟩ (fun H locs hP hD hS => ?_)
  refine lv_iconst (v := 2) hx hb dX10_cutsIt_160 (by decide) ?_
  refine lv_icmp_ne (tgt := 168) hx hb dX10_cutsIt_161 (by decide) (fun hc => ?_) (fun hc => ?_)
  · replace hf := zIf_f hc hf
    refine lv_iconst (v := 0) hx hb dX10_cutsIt_168 (by decide) ?_
    obtain ⟨q1, -⟩ := zI1 hf
    subst q1
    exact zRetZ hQ hx hb hr hlocks hA0 hK hP hD hS (by decide) rfl dX10_cutsIt_169
  · replace hf := zIf_t hc hf
    refine lv_iconst (v := 1) hx hb dX10_cutsIt_164 (by decide) ?_
    refine lv_goto (tgt := 169) hx hb dX10_cutsIt_165 (by decide) ?_
    obtain ⟨q1, -⟩ := zI1 hf
    subst q1
    exact zRetZ hQ hx hb hr hlocks hA0 hK hP hD hS (by decide) rfl dX10_cutsIt_169
set_option maxHeartbeats 4000000 in
set_option maxRecDepth 100000 in
theorem pX10_isOpen (l : Launch) (D : va_G) (T : Nat → ClassId) (X : zFP) (hgm : Nat → Nat) (sz : Nat) (gm : zM) (gml : zL) (a1 : Int32) (a2 : Int32) (r : Int32) (hf : fX10_isOpen gm gml a1 a2 = some r) : Met l yX10_isOpen wsX10_isOpen rX10_isOpen (zPre D T X [.ref (hgm 0), .int a1, .int a2] (wX10 T hgm gm gml) sz) (zQi D T r (wX10 T hgm gm gml) (wX10 T hgm gm gml) sz) 0 0 (va_A (wX10 T hgm gm gml) sz) := by
  unfold fX10_isOpen at hf
  refine zStart [(0, .ref (hgm 0)), (1, .int a1), (2, .int a2)] (by decide) rfl (Nat.le_of_ble_eq_true rfl) rfl ?_
  intro p e s m args below meth c A Q ls hx hb hr hml hown hlocks hts hsz hA0 hQ hA hK hX hP hD hS hl
  replace hown : s.vm.findClass RX10 = some m.cls := hown
  have hH := hsz
  have hiX10 : ∀ w ∈ u_ws RX10 TX10 54, w ∈ wsX10_isOpen := fun w h => List.mem_cons_of_mem _ (List.mem_append_right _ (h))
  obtain ⟨H, hHe⟩ : ∃ H : Heap, H = s.heap := ⟨_, rfl⟩
  obtain ⟨locs, hLe⟩ : ∃ L : List Loc, L = [] := ⟨_, rfl⟩
  replace hP : va_P D vwCl (wX10 T hgm gm gml) H := by rw [hHe]; exact hP
  replace hS : va_S A s.heap H locs := by rw [hHe, hLe]; exact hS
  suffices hgo : W p l e rX10_isOpen s m args below meth c H locs 0 0 Q (F0 m 0 ls []) by rw [hHe, hLe] at hgo; exact hgo
  clear hHe hLe
  refine lv_iconst (v := 0) hx hb dX10_isOpen_0 (by decide) ?_
  refine lv_istore_n (lv' := [(3, .int 0), (0, .ref (hgm 0)), (1, .int a1), (2, .int a2)]) hx hb dX10_isOpen_1 rfl hl (by decide) rfl (fun ls hl => ?_)
  obtain ⟨ex, hlp, hf⟩ := zB1_ok hf
  have hE2_28 : ex = (.inl ()) → ∀ (H : Heap) (locs : List Loc) (ls : Array Slot), va_P D vwCl (wX10 T hgm gm gml) H → va_D A (wX10 T hgm gm gml) → va_S A s.heap H locs → lv_has ls 4 [] → W p l e rX10_isOpen s m args below meth c H locs 0 0 Q (F0 m 28 ls []) := by
    intro hex H locs ls hP hD hS hl
    have hf := zExL0 hex hf
    refine lv_iconst (v := 1) hx hb dX10_isOpen_28 (by decide) ?_
    obtain ⟨q1, -⟩ := zI1 hf
    subst q1
    exact zRetZ hQ hx hb hr hlocks hA0 hK hP hD hS (by decide) rfl dX10_isOpen_29
  have hE2_20 : ex = (.inr ()) → ∀ (H : Heap) (locs : List Loc) (ls : Array Slot), va_P D vwCl (wX10 T hgm gm gml) H → va_D A (wX10 T hgm gm gml) → va_S A s.heap H locs → lv_has ls 4 [] → W p l e rX10_isOpen s m args below meth c H locs 0 0 Q (F0 m 20 ls []) := by
    intro hex H locs ls hP hD hS hl
    have hf := zSmR hex hf
    have hf := zEx0 rfl hf
    refine lv_iconst (v := 0) hx hb dX10_isOpen_20 (by decide) ?_
    obtain ⟨q1, -⟩ := zI1 hf
    subst q1
    exact zRetZ hQ hx hb hr hlocks hA0 hK hP hD hS (by decide) rfl dX10_isOpen_21
  refine zLpS1 (body := (fX10_isOpen_L2 a1 a2 gm gml)) (b := ex) (fun (v1 : Int32) => ∀ (H : Heap) (locs : List Loc) (ls : Array Slot), va_P D vwCl (wX10 T hgm gm gml) H → va_D A (wX10 T hgm gm gml) → va_S A s.heap H locs → lv_has ls 4 [(0, .ref (hgm 0)), (1, .int a1), (2, .int a2), (3, .int v1)] → W p l e rX10_isOpen s m args below meth c H locs 0 0 Q (F0 m 2 ls [])) ?_ zFU 0 hlp H locs ls hP hD hS (lv_sub hl [1, 2, 3, 0] rfl)
  intro v1 z hf hzz H locs ls hP hD hS hl
  unfold fX10_isOpen_L2 at hf
  replace hf := zUk1 hf
  refine lv_iload_n hx hb dX10_isOpen_2 rfl (lv_at hl 3 rfl) ?_
  refine lv_aload_n hx hb dX10_isOpen_3 rfl (lv_at hl 0 rfl) ?_
  refine zGet (ci := 10) (C := RX10) (F := TX10) (N := 54) (v := .int (gm 0 4)) hx hb hts hiX10 hown hK hP 0 4 1 rfl rfl (by decide) rfl rfl rfl dX10_isOpen_4 ?_
  refine lv_icmp_ge (tgt := 28) hx hb dX10_isOpen_7 (by decide) (fun hc => ?_) (fun hc => ?_)
  · replace hf := zIf_t hc hf
    cases hf
    exact hE2_28 hzz.symm H locs ls hP hD hS (lv_sub hl [] rfl)
  · replace hf := zIf_f hc hf
    refine lv_aload_n hx hb dX10_isOpen_10 rfl (lv_at hl 0 rfl) ?_
    refine lv_iload_n hx hb dX10_isOpen_11 rfl (lv_at hl 3 rfl) ?_
    refine lv_iload_n hx hb dX10_isOpen_12 rfl (lv_at hl 1 rfl) ?_
    refine lv_iload_n hx hb dX10_isOpen_13 rfl (lv_at hl 2 rfl) ?_
    obtain ⟨v2, hc14, hf⟩ := zB1_ok hf
    refine zCallVEI [.int v1, .int a1, .int a2] ⟨hx, hb, hml, hown, hts⟩ (pX10_cutsIt l D T X hgm H.size gm gml v1 a1 a2 v2 hc14) (cwV 3 hts gX10_isOpen_X10_cutsIt rfl rfl rfl (by decide +kernel) ⟨Nat.le_of_ble_eq_true rfl, Nat.le_of_ble_eq_true rfl⟩) hK hP hD hS hA hX 0 rfl rfl rfl hl.1 rfl (Nat.le_of_ble_eq_true rfl) dX10_isOpen_14 ⟨Nat.zero_le _, Nat.zero_le _⟩ (fun H locs hP hD hS => ?_)
    refine lv_if_eq (tgt := 22) hx hb dX10_isOpen_17 (by decide) (fun hc => ?_) (fun hc => ?_)
    · replace hf := zIf_t hc hf
      obtain ⟨v3, ev3⟩ : ∃ y : Int32, y = v1 + 1 := ⟨_, rfl⟩
      replace hf := zLt_at ev3 hf
      refine lv_iinc (v := v3) (lv' := [(3, .int v3), (0, .ref (hgm 0)), (1, .int a1), (2, .int a2)]) hx hb dX10_isOpen_22 hl (k := 3) rfl (by rw [ev3]; rfl) (by decide) rfl (fun ls hl => ?_)
      refine lv_goto (tgt := 2) hx hb dX10_isOpen_25 (by decide) ?_
      cases hf
      exact hzz H locs ls hP hD hS (lv_sub hl [1, 2, 3, 0] rfl)
    · replace hf := zIf_f hc hf
      cases hf
      exact hE2_20 hzz.symm H locs ls hP hD hS (lv_sub hl [] rfl)
set_option maxHeartbeats 4000000 in
set_option maxRecDepth 100000 in
theorem pX10_openOn (l : Launch) (D : va_G) (T : Nat → ClassId) (X : zFP) (hgm : Nat → Nat) (sz : Nat) (gm : zM) (gml : zL) (a1 : Int32) (r : Int32) (hf : fX10_openOn gm gml a1 = some r) : Met l yX10_openOn wsX10_openOn rX10_openOn (zPre D T X [.ref (hgm 0), .int a1] (wX10 T hgm gm gml) sz) (zQi D T r (wX10 T hgm gm gml) (wX10 T hgm gm gml) sz) 0 0 (va_A (wX10 T hgm gm gml) sz) := by
  unfold fX10_openOn at hf
  refine zStart [(0, .ref (hgm 0)), (1, .int a1)] (by decide) rfl (Nat.le_of_ble_eq_true rfl) rfl ?_
  intro p e s m args below meth c A Q ls hx hb hr hml hown hlocks hts hsz hA0 hQ hA hK hX hP hD hS hl
  replace hown : s.vm.findClass RX10 = some m.cls := hown
  have hH := hsz
  have hiX10 : ∀ w ∈ u_ws RX10 TX10 54, w ∈ wsX10_openOn := fun w h => List.mem_cons_of_mem _ (List.mem_append_right _ (h))
  obtain ⟨H, hHe⟩ : ∃ H : Heap, H = s.heap := ⟨_, rfl⟩
  obtain ⟨locs, hLe⟩ : ∃ L : List Loc, L = [] := ⟨_, rfl⟩
  replace hP : va_P D vwCl (wX10 T hgm gm gml) H := by rw [hHe]; exact hP
  replace hS : va_S A s.heap H locs := by rw [hHe, hLe]; exact hS
  suffices hgo : W p l e rX10_openOn s m args below meth c H locs 0 0 Q (F0 m 0 ls []) by rw [hHe, hLe] at hgo; exact hgo
  clear hHe hLe
  refine lv_iconst (v := 0) hx hb dX10_openOn_0 (by decide) ?_
  refine lv_istore_n (lv' := [(2, .int 0), (0, .ref (hgm 0)), (1, .int a1)]) hx hb dX10_openOn_1 rfl hl (by decide) rfl (fun ls hl => ?_)
  refine lv_iconst (v := 0) hx hb dX10_openOn_2 (by decide) ?_
  refine lv_istore_n (lv' := [(3, .int 0), (2, .int 0), (0, .ref (hgm 0)), (1, .int a1)]) hx hb dX10_openOn_3 rfl hl (by decide) rfl (fun ls hl => ?_)
  obtain ⟨ex, hlp, hf⟩ := zB1_ok hf
  have hE4_37 : ∀ (v3 : Int32) , ex = v3 → ∀ (H : Heap) (locs : List Loc) (ls : Array Slot), va_P D vwCl (wX10 T hgm gm gml) H → va_D A (wX10 T hgm gm gml) → va_S A s.heap H locs → lv_has ls 4 [(2, .int v3)] → W p l e rX10_openOn s m args below meth c H locs 0 0 Q (F0 m 37 ls []) := by
    intro v3 hex H locs ls hP hD hS hl
    have hf := zEx1 hex hf
    refine lv_iload_n hx hb dX10_openOn_37 rfl (lv_at hl 0 rfl) ?_
    obtain ⟨q1, -⟩ := zI1 hf
    subst q1
    exact zRetI hQ hx hb hr hlocks hA0 hK hP hD hS rfl dX10_openOn_38
  refine zLpS2 (body := (fX10_openOn_L4 a1 gm gml)) (b := ex) (fun (v1 : Int32) (v2 : Int32) => ∀ (H : Heap) (locs : List Loc) (ls : Array Slot), va_P D vwCl (wX10 T hgm gm gml) H → va_D A (wX10 T hgm gm gml) → va_S A s.heap H locs → lv_has ls 4 [(0, .ref (hgm 0)), (1, .int a1), (2, .int v1), (3, .int v2)] → W p l e rX10_openOn s m args below meth c H locs 0 0 Q (F0 m 4 ls [])) ?_ zFU 0 0 hlp H locs ls hP hD hS (lv_sub hl [2, 3, 1, 0] rfl)
  intro v1 v2 z hf hzz H locs ls hP hD hS hl
  unfold fX10_openOn_L4 at hf
  replace hf := zUk2 hf
  refine lv_iload_n hx hb dX10_openOn_4 rfl (lv_at hl 3 rfl) ?_
  refine lv_aload_n hx hb dX10_openOn_5 rfl (lv_at hl 0 rfl) ?_
  refine zGet (ci := 10) (C := RX10) (F := TX10) (N := 54) (v := .int (gm 0 2)) hx hb hts hiX10 hown hK hP 0 2 1 rfl rfl (by decide) rfl rfl rfl dX10_openOn_6 ?_
  refine lv_icmp_ge (tgt := 37) hx hb dX10_openOn_9 (by decide) (fun hc => ?_) (fun hc => ?_)
  · replace hf := zIf_t hc hf
    cases hf
    exact hE4_37 v1 hzz.symm H locs ls hP hD hS (lv_sub hl [2] rfl)
  · replace hf := zIf_f hc hf
    refine lv_iload_n hx hb dX10_openOn_12 rfl (lv_at hl 2 rfl) ?_
    refine lv_aload_n hx hb dX10_openOn_13 rfl (lv_at hl 0 rfl) ?_
    refine lv_iload_n hx hb dX10_openOn_14 rfl (lv_at hl 3 rfl) ?_
    refine lv_iload_n hx hb dX10_openOn_15 rfl (lv_at hl 1 rfl) ?_
    obtain ⟨v4, hc16, hf⟩ := zB1_ok hf
    refine zCallVEI [.int v2, .int a1] ⟨hx, hb, hml, hown, hts⟩ (pX10_isOpen l D T X hgm H.size gm gml v2 a1 v4 hc16) (cwV 2 hts gX10_openOn_X10_isOpen rfl rfl rfl (by decide +kernel) ⟨Nat.le_of_ble_eq_true rfl, Nat.le_of_ble_eq_true rfl⟩) hK hP hD hS hA hX 0 rfl rfl rfl hl.1 rfl (Nat.le_of_ble_eq_true rfl) dX10_openOn_16 ⟨Nat.zero_le _, Nat.zero_le _⟩ (fun H locs hP hD hS => ?_)
    have hJ29 : ∀ (v5 : Int32) (v6 : Int32) (H : Heap) (locs : List Loc) (ls : Array Slot), fX10_openOn_L4J29 v2 v5 v6 = some z → va_P D vwCl (wX10 T hgm gm gml) H → va_D A (wX10 T hgm gm gml) → va_S A s.heap H locs → lv_has ls 4 [(0, .ref (hgm 0)), (1, .int a1), (3, .int v2)] → W p l e rX10_openOn s m args below meth c H locs 0 0 Q (F0 m 29 ls [.int v5, .int v6]) := by
      intro v5 v6 H locs ls hf hP hD hS hl
      unfold fX10_openOn_L4J29 at hf
      refine lv_ior hx hb dX10_openOn_29 ?_
      refine lv_topi (fun v7 ev7 => ?_)
      replace hf := zLt_at ev7 hf
      refine lv_istore_n (lv' := [(2, .int v7), (0, .ref (hgm 0)), (1, .int a1), (3, .int v2)]) hx hb dX10_openOn_30 rfl hl (by decide) rfl (fun ls hl => ?_)
      obtain ⟨v8, ev8⟩ : ∃ y : Int32, y = v2 + 1 := ⟨_, rfl⟩
      replace hf := zLt_at ev8 hf
      refine lv_iinc (v := v8) (lv' := [(3, .int v8), (2, .int v7), (0, .ref (hgm 0)), (1, .int a1)]) hx hb dX10_openOn_31 hl (k := 3) rfl (by rw [ev8]; rfl) (by decide) rfl (fun ls hl => ?_)
      refine lv_goto (tgt := 4) hx hb dX10_openOn_34 (by decide) ?_
      cases hf
      exact hzz H locs ls hP hD hS (lv_sub hl [2, 3, 1, 0] rfl)
    refine lv_if_eq (tgt := 28) hx hb dX10_openOn_19 (by decide) (fun hc => ?_) (fun hc => ?_)
    · replace hf := zIf_t hc hf
      refine lv_iconst (v := 0) hx hb dX10_openOn_28 (by decide) ?_
      exact hJ29 0 v1 H locs ls hf hP hD hS (lv_sub hl [0, 1, 3] rfl)
    · replace hf := zIf_f hc hf
      refine lv_iconst (v := 1) hx hb dX10_openOn_22 (by decide) ?_
      refine lv_iload_n hx hb dX10_openOn_23 rfl (lv_at hl 3 rfl) ?_
      refine lv_ishl hx hb dX10_openOn_24 ?_
      refine lv_goto (tgt := 29) hx hb dX10_openOn_25 (by decide) ?_
      exact hJ29 ((1 : Int32) <<< (v2 &&& 31)) v1 H locs ls hf hP hD hS (lv_sub hl [0, 1, 3] rfl)
set_option maxHeartbeats 4000000 in
set_option maxRecDepth 100000 in
theorem pX10_open (l : Launch) (D : va_G) (T : Nat → ClassId) (X : zFP) (hgm : Nat → Nat) (sz : Nat) (gm : zM) (gml : zL) (a1 : Int32) (a2 : Int32) (r : Int32) (hf : fX10_open gm gml a1 a2 = some r) : Met l yX10_open wsX10_open rX10_open (zPre D T X [.ref (hgm 0), .int a1, .int a2] (wX10 T hgm gm gml) sz) (zQi D T r (wX10 T hgm gm gml) (wX10 T hgm gm gml) sz) 0 0 (va_A (wX10 T hgm gm gml) sz) := by
  unfold fX10_open at hf
  refine zStart [(0, .ref (hgm 0)), (1, .int a1), (2, .int a2)] (by decide) rfl (Nat.le_of_ble_eq_true rfl) rfl ?_
  intro p e s m args below meth c A Q ls hx hb hr hml hown hlocks hts hsz hA0 hQ hA hK hX hP hD hS hl
  replace hown : s.vm.findClass RX10 = some m.cls := hown
  have hH := hsz
  obtain ⟨H, hHe⟩ : ∃ H : Heap, H = s.heap := ⟨_, rfl⟩
  obtain ⟨locs, hLe⟩ : ∃ L : List Loc, L = [] := ⟨_, rfl⟩
  replace hP : va_P D vwCl (wX10 T hgm gm gml) H := by rw [hHe]; exact hP
  replace hS : va_S A s.heap H locs := by rw [hHe, hLe]; exact hS
  suffices hgo : W p l e rX10_open s m args below meth c H locs 0 0 Q (F0 m 0 ls []) by rw [hHe, hLe] at hgo; exact hgo
  clear hHe hLe
  refine lv_aload_n hx hb dX10_open_0 rfl (lv_at hl 0 rfl) ?_
  refine lv_iload_n hx hb dX10_open_1 rfl (lv_at hl 1 rfl) ?_
  obtain ⟨v1, hc2, hf⟩ := zB1_ok hf
  refine zCallVEI [.int a1] ⟨hx, hb, hml, hown, hts⟩ (pX10_isTie l D T X hgm H.size gm gml a1 v1 hc2) (cwV 1 hts gX10_open_X10_isTie rfl rfl rfl (by decide +kernel) ⟨Nat.le_of_ble_eq_true rfl, Nat.le_of_ble_eq_true rfl⟩) hK hP hD hS hA hX 0 rfl rfl rfl hl.1 rfl (Nat.le_of_ble_eq_true rfl) dX10_open_2 ⟨Nat.zero_le _, Nat.zero_le _⟩ (fun H locs hP hD hS => ?_)
  refine lv_if_eq (tgt := 18) hx hb dX10_open_5 (by decide) (fun hc => ?_) (fun hc => ?_)
  · replace hf := zIf_t hc hf
    refine lv_iconst (v := (-1)) hx hb dX10_open_18 (by decide) ?_
    obtain ⟨q1, -⟩ := zI1 hf
    subst q1
    exact zRetI hQ hx hb hr hlocks hA0 hK hP hD hS rfl dX10_open_19
  · replace hf := zIf_f hc hf
    refine lv_iload_n hx hb dX10_open_8 rfl (lv_at hl 2 rfl) ?_
    refine lv_iconst (v := 0) hx hb dX10_open_9 (by decide) ?_
    refine lv_bipush (v := 99) hx hb dX10_open_10 (by decide) ?_
    obtain ⟨v2, hc12, hf⟩ := zB1_ok hf
    refine zCallS0I [.int a2, .int 0, .int 99] ⟨hx, hb, hml, hown, hts⟩ (pX10_in l D T X H.size a2 0 99 v2 hc12) (va_cwS 3 hts gX10_open_X10_in rfl rfl rfl (by decide +kernel) ⟨Nat.le_of_ble_eq_true rfl, Nat.le_of_ble_eq_true rfl⟩) hK hP hD hS hA hX rfl hl.1 rfl (Nat.le_of_ble_eq_true rfl) dX10_open_12 ⟨Nat.zero_le _, Nat.zero_le _⟩ (fun H locs hP hD hS => ?_)
    refine lv_if_ne (tgt := 20) hx hb dX10_open_15 (by decide) (fun hc => ?_) (fun hc => ?_)
    · replace hf := zIf_f hc hf
      refine lv_aload_n hx hb dX10_open_20 rfl (lv_at hl 0 rfl) ?_
      refine lv_iload_n hx hb dX10_open_21 rfl (lv_at hl 1 rfl) ?_
      refine lv_iload_n hx hb dX10_open_22 rfl (lv_at hl 2 rfl) ?_
      obtain ⟨v3, hc23, hf⟩ := zB1_ok hf
      refine zCallVEI [.int a1, .int a2] ⟨hx, hb, hml, hown, hts⟩ (pX10_isOpen l D T X hgm H.size gm gml a1 a2 v3 hc23) (cwV 2 hts gX10_open_X10_isOpen rfl rfl rfl (by decide +kernel) ⟨Nat.le_of_ble_eq_true rfl, Nat.le_of_ble_eq_true rfl⟩) hK hP hD hS hA hX 0 rfl rfl rfl hl.1 rfl (Nat.le_of_ble_eq_true rfl) dX10_open_23 ⟨Nat.zero_le _, Nat.zero_le _⟩ (fun H locs hP hD hS => ?_)
      refine lv_if_eq (tgt := 33) hx hb dX10_open_26 (by decide) (fun hc => ?_) (fun hc => ?_)
      · replace hf := zIf_t hc hf
        refine lv_iconst (v := 0) hx hb dX10_open_33 (by decide) ?_
        obtain ⟨q1, -⟩ := zI1 hf
        subst q1
        exact zRetI hQ hx hb hr hlocks hA0 hK hP hD hS rfl dX10_open_34
      · replace hf := zIf_f hc hf
        refine lv_iconst (v := 1) hx hb dX10_open_29 (by decide) ?_
        refine lv_goto (tgt := 34) hx hb dX10_open_30 (by decide) ?_
        obtain ⟨q1, -⟩ := zI1 hf
        subst q1
        exact zRetI hQ hx hb hr hlocks hA0 hK hP hD hS rfl dX10_open_34
    · replace hf := zIf_t hc hf
      refine lv_iconst (v := (-1)) hx hb dX10_open_18 (by decide) ?_
      obtain ⟨q1, -⟩ := zI1 hf
      subst q1
      exact zRetI hQ hx hb hr hlocks hA0 hK hP hD hS rfl dX10_open_19
set_option maxHeartbeats 4000000 in
set_option maxRecDepth 100000 in
theorem pX10_around (l : Launch) (D : va_G) (T : Nat → ClassId) (X : zFP) (hgm : Nat → Nat) (sz : Nat) (gm : zM) (gml : zL) (a1 : Int32) (a2 : Int32) (r : Int32) (hf : fX10_around gm gml a1 a2 = some r) : Met l yX10_around wsX10_around rX10_around (zPre D T X [.ref (hgm 0), .int a1, .int a2] (wX10 T hgm gm gml) sz) (zQi D T r (wX10 T hgm gm gml) (wX10 T hgm gm gml) sz) 0 0 (va_A (wX10 T hgm gm gml) sz) := by
  unfold fX10_around at hf
  refine zStart [(0, .ref (hgm 0)), (1, .int a1), (2, .int a2)] (by decide) rfl (Nat.le_of_ble_eq_true rfl) rfl ?_
  intro p e s m args below meth c A Q ls hx hb hr hml hown hlocks hts hsz hA0 hQ hA hK hX hP hD hS hl
  replace hown : s.vm.findClass RX10 = some m.cls := hown
  have hH := hsz
  have hiX10 : ∀ w ∈ u_ws RX10 TX10 54, w ∈ wsX10_around := fun w h => List.mem_cons_of_mem _ (List.mem_append_right _ (h))
  obtain ⟨H, hHe⟩ : ∃ H : Heap, H = s.heap := ⟨_, rfl⟩
  obtain ⟨locs, hLe⟩ : ∃ L : List Loc, L = [] := ⟨_, rfl⟩
  replace hP : va_P D vwCl (wX10 T hgm gm gml) H := by rw [hHe]; exact hP
  replace hS : va_S A s.heap H locs := by rw [hHe, hLe]; exact hS
  suffices hgo : W p l e rX10_around s m args below meth c H locs 0 0 Q (F0 m 0 ls []) by rw [hHe, hLe] at hgo; exact hgo
  clear hHe hLe
  refine lv_iload_n hx hb dX10_around_0 rfl (lv_at hl 1 rfl) ?_
  refine lv_istore_n (lv' := [(3, .int a1), (0, .ref (hgm 0)), (1, .int a1), (2, .int a2)]) hx hb dX10_around_1 rfl hl (by decide) rfl (fun ls hl => ?_)
  refine lv_iconst (v := 0) hx hb dX10_around_2 (by decide) ?_
  refine lv_istore (lv' := [(4, .int 0), (3, .int a1), (0, .ref (hgm 0)), (1, .int a1), (2, .int a2)]) hx hb dX10_around_3 hl (by decide) rfl (fun ls hl => ?_)
  obtain ⟨ex, hlp, hf⟩ := zB1_ok hf
  have hE5_54 : ∀ (v3 : Int32) , ex = v3 → ∀ (H : Heap) (locs : List Loc) (ls : Array Slot), va_P D vwCl (wX10 T hgm gm gml) H → va_D A (wX10 T hgm gm gml) → va_S A s.heap H locs → lv_has ls 5 [(3, .int v3)] → W p l e rX10_around s m args below meth c H locs 0 0 Q (F0 m 54 ls []) := by
    intro v3 hex H locs ls hP hD hS hl
    have hf := zEx1 hex hf
    refine lv_iload_n hx hb dX10_around_54 rfl (lv_at hl 0 rfl) ?_
    obtain ⟨q1, -⟩ := zI1 hf
    subst q1
    exact zRetI hQ hx hb hr hlocks hA0 hK hP hD hS rfl dX10_around_55
  refine zLpS2 (body := (fX10_around_L5 a1 a2 gm gml)) (b := ex) (fun (v1 : Int32) (v2 : Int32) => ∀ (H : Heap) (locs : List Loc) (ls : Array Slot), va_P D vwCl (wX10 T hgm gm gml) H → va_D A (wX10 T hgm gm gml) → va_S A s.heap H locs → lv_has ls 5 [(0, .ref (hgm 0)), (1, .int a1), (2, .int a2), (3, .int v1), (4, .int v2)] → W p l e rX10_around s m args below meth c H locs 0 0 Q (F0 m 5 ls [])) ?_ zFU a1 0 hlp H locs ls hP hD hS (lv_sub hl [2, 3, 4, 1, 0] rfl)
  intro v1 v2 z hf hzz H locs ls hP hD hS hl
  unfold fX10_around_L5 at hf
  replace hf := zUk2 hf
  refine lv_iload hx hb dX10_around_5 (lv_at hl 4 rfl) ?_
  refine lv_aload_n hx hb dX10_around_7 rfl (lv_at hl 0 rfl) ?_
  refine zGet (ci := 10) (C := RX10) (F := TX10) (N := 54) (v := .int (gm 0 2)) hx hb hts hiX10 hown hK hP 0 2 1 rfl rfl (by decide) rfl rfl rfl dX10_around_8 ?_
  refine lv_icmp_ge (tgt := 54) hx hb dX10_around_11 (by decide) (fun hc => ?_) (fun hc => ?_)
  · replace hf := zIf_t hc hf
    cases hf
    exact hE5_54 v1 hzz.symm H locs ls hP hD hS (lv_sub hl [3] rfl)
  · replace hf := zIf_f hc hf
    refine lv_iload_n hx hb dX10_around_14 rfl (lv_at hl 3 rfl) ?_
    refine lv_iload_n hx hb dX10_around_15 rfl (lv_at hl 2 rfl) ?_
    refine lv_iload hx hb dX10_around_16 (lv_at hl 4 rfl) ?_
    refine lv_ishr hx hb dX10_around_18 ?_
    refine lv_iconst (v := 1) hx hb dX10_around_19 (by decide) ?_
    refine lv_iand hx hb dX10_around_20 ?_
    refine lv_iconst (v := 1) hx hb dX10_around_21 (by decide) ?_
    have hJ46 : ∀ (v4 : Int32) (v5 : Int32) (H : Heap) (locs : List Loc) (ls : Array Slot), fX10_around_L5J46 v2 v4 v5 = some z → va_P D vwCl (wX10 T hgm gm gml) H → va_D A (wX10 T hgm gm gml) → va_S A s.heap H locs → lv_has ls 5 [(0, .ref (hgm 0)), (1, .int a1), (2, .int a2), (4, .int v2)] → W p l e rX10_around s m args below meth c H locs 0 0 Q (F0 m 46 ls [.int v4, .int v5]) := by
      intro v4 v5 H locs ls hf hP hD hS hl
      unfold fX10_around_L5J46 at hf
      refine lv_ior hx hb dX10_around_46 ?_
      refine lv_topi (fun v6 ev6 => ?_)
      replace hf := zLt_at ev6 hf
      refine lv_istore_n (lv' := [(3, .int v6), (0, .ref (hgm 0)), (1, .int a1), (2, .int a2), (4, .int v2)]) hx hb dX10_around_47 rfl hl (by decide) rfl (fun ls hl => ?_)
      obtain ⟨v7, ev7⟩ : ∃ y : Int32, y = v2 + 1 := ⟨_, rfl⟩
      replace hf := zLt_at ev7 hf
      refine lv_iinc (v := v7) (lv' := [(4, .int v7), (3, .int v6), (0, .ref (hgm 0)), (1, .int a1), (2, .int a2)]) hx hb dX10_around_48 hl (k := 4) rfl (by rw [ev7]; rfl) (by decide) rfl (fun ls hl => ?_)
      refine lv_goto (tgt := 5) hx hb dX10_around_51 (by decide) ?_
      cases hf
      exact hzz H locs ls hP hD hS (lv_sub hl [2, 3, 4, 1, 0] rfl)
    have hJ45 : ∀ (v8 : Int32) (H : Heap) (locs : List Loc) (ls : Array Slot), fX10_around_L5J45 v2 v8 = some z → va_P D vwCl (wX10 T hgm gm gml) H → va_D A (wX10 T hgm gm gml) → va_S A s.heap H locs → lv_has ls 5 [(0, .ref (hgm 0)), (1, .int a1), (2, .int a2), (4, .int v2)] → W p l e rX10_around s m args below meth c H locs 0 0 Q (F0 m 45 ls [.int v8]) := by
      intro v8 H locs ls hf hP hD hS hl
      unfold fX10_around_L5J45 at hf
      refine lv_iconst (v := 0) hx hb dX10_around_45 (by decide) ?_
      exact hJ46 0 v8 H locs ls hf hP hD hS hl
    refine lv_icmp_ne (tgt := 45) hx hb dX10_around_22 (by decide) (fun hc => ?_) (fun hc => ?_)
    · replace hf := zIf_f hc hf
      exact hJ45 v1 H locs ls hf hP hD hS (lv_sub hl [0, 1, 2, 4] rfl)
    · replace hf := zIf_t hc hf
      refine lv_aload_n hx hb dX10_around_25 rfl (lv_at hl 0 rfl) ?_
      refine lv_iload hx hb dX10_around_26 (lv_at hl 4 rfl) ?_
      refine lv_iload_n hx hb dX10_around_28 rfl (lv_at hl 1 rfl) ?_
      obtain ⟨v9, hc29, hf⟩ := zB1_ok hf
      refine zCallVEI [.int v2, .int a1] ⟨hx, hb, hml, hown, hts⟩ (pX10_inSet l D T X hgm H.size gm gml v2 a1 v9 hc29) (cwV 2 hts gX10_around_X10_inSet rfl rfl rfl (by decide +kernel) ⟨Nat.le_of_ble_eq_true rfl, Nat.le_of_ble_eq_true rfl⟩) hK hP hD hS hA hX 0 rfl rfl rfl hl.1 rfl (Nat.le_of_ble_eq_true rfl) dX10_around_29 ⟨Nat.zero_le _, Nat.zero_le _⟩ (fun H locs hP hD hS => ?_)
      refine lv_iconst (v := 1) hx hb dX10_around_32 (by decide) ?_
      refine lv_icmp_ne (tgt := 45) hx hb dX10_around_33 (by decide) (fun hc => ?_) (fun hc => ?_)
      · replace hf := zIf_f hc hf
        exact hJ45 v1 H locs ls hf hP hD hS (lv_sub hl [0, 1, 2, 4] rfl)
      · replace hf := zIf_t hc hf
        refine lv_aload_n hx hb dX10_around_36 rfl (lv_at hl 0 rfl) ?_
        refine lv_iload hx hb dX10_around_37 (lv_at hl 4 rfl) ?_
        obtain ⟨v10, hc39, hf⟩ := zB1_ok hf
        refine zCallVEI [.int v2] ⟨hx, hb, hml, hown, hts⟩ (pX10_ends l D T X hgm H.size gm gml v2 v10 hc39) (cwV 1 hts gX10_around_X10_ends rfl rfl rfl (by decide +kernel) ⟨Nat.le_of_ble_eq_true rfl, Nat.le_of_ble_eq_true rfl⟩) hK hP hD hS hA hX 0 rfl rfl rfl hl.1 rfl (Nat.le_of_ble_eq_true rfl) dX10_around_39 ⟨Nat.zero_le _, Nat.zero_le _⟩ (fun H locs hP hD hS => ?_)
        refine lv_goto (tgt := 46) hx hb dX10_around_42 (by decide) ?_
        exact hJ46 v10 v1 H locs ls hf hP hD hS (lv_sub hl [0, 1, 2, 4] rfl)
set_option maxHeartbeats 4000000 in
set_option maxRecDepth 100000 in
theorem pX10_joinedBy (l : Launch) (D : va_G) (T : Nat → ClassId) (X : zFP) (hgm : Nat → Nat) (sz : Nat) (gm : zM) (gml : zL) (a1 : Int32) (a2 : Int32) (a3 : Int32) (r : Int32) (hf : fX10_joinedBy gm gml a1 a2 a3 = some r) : Met l yX10_joinedBy wsX10_joinedBy rX10_joinedBy (zPre D T X [.ref (hgm 0), .int a1, .int a2, .int a3] (wX10 T hgm gm gml) sz) (zQi D T r (wX10 T hgm gm gml) (wX10 T hgm gm gml) sz) 0 0 (va_A (wX10 T hgm gm gml) sz) := by
  unfold fX10_joinedBy at hf
  refine zStart [(0, .ref (hgm 0)), (1, .int a1), (2, .int a2), (3, .int a3)] (by decide) rfl (Nat.le_of_ble_eq_true rfl) rfl ?_
  intro p e s m args below meth c A Q ls hx hb hr hml hown hlocks hts hsz hA0 hQ hA hK hX hP hD hS hl
  replace hown : s.vm.findClass RX10 = some m.cls := hown
  have hH := hsz
  obtain ⟨H, hHe⟩ : ∃ H : Heap, H = s.heap := ⟨_, rfl⟩
  obtain ⟨locs, hLe⟩ : ∃ L : List Loc, L = [] := ⟨_, rfl⟩
  replace hP : va_P D vwCl (wX10 T hgm gm gml) H := by rw [hHe]; exact hP
  replace hS : va_S A s.heap H locs := by rw [hHe, hLe]; exact hS
  suffices hgo : W p l e rX10_joinedBy s m args below meth c H locs 0 0 Q (F0 m 0 ls []) by rw [hHe, hLe] at hgo; exact hgo
  clear hHe hLe
  refine lv_iconst (v := 0) hx hb dX10_joinedBy_0 (by decide) ?_
  refine lv_istore (lv' := [(4, .int 0), (0, .ref (hgm 0)), (1, .int a1), (2, .int a2), (3, .int a3)]) hx hb dX10_joinedBy_1 hl (by decide) rfl (fun ls hl => ?_)
  refine lv_iload_n hx hb dX10_joinedBy_3 rfl (lv_at hl 2 rfl) ?_
  refine lv_iload_n hx hb dX10_joinedBy_4 rfl (lv_at hl 4 rfl) ?_
  refine lv_iand hx hb dX10_joinedBy_5 ?_
  refine lv_topi (fun v1 ev1 => ?_)
  replace hf := zLt_at ev1 hf
  refine lv_istore (lv' := [(5, .int v1), (4, .int 0), (0, .ref (hgm 0)), (1, .int a1), (2, .int a2), (3, .int a3)]) hx hb dX10_joinedBy_6 hl (by decide) rfl (fun ls hl => ?_)
  obtain ⟨ex, hlp, hf⟩ := zB1_ok hf
  have hE8_33 : ∀ (v4 : Int32) , ex = v4 → ∀ (H : Heap) (locs : List Loc) (ls : Array Slot), va_P D vwCl (wX10 T hgm gm gml) H → va_D A (wX10 T hgm gm gml) → va_S A s.heap H locs → lv_has ls 6 [(5, .int v4)] → W p l e rX10_joinedBy s m args below meth c H locs 0 0 Q (F0 m 33 ls []) := by
    intro v4 hex H locs ls hP hD hS hl
    have hf := zEx1 hex hf
    refine lv_iload hx hb dX10_joinedBy_33 (lv_at hl 0 rfl) ?_
    obtain ⟨q1, -⟩ := zI1 hf
    subst q1
    exact zRetI hQ hx hb hr hlocks hA0 hK hP hD hS rfl dX10_joinedBy_35
  refine zLpS2 (body := (fX10_joinedBy_L8 a2 a3 gm gml)) (b := ex) (fun (v2 : Int32) (v3 : Int32) => ∀ (H : Heap) (locs : List Loc) (ls : Array Slot), va_P D vwCl (wX10 T hgm gm gml) H → va_D A (wX10 T hgm gm gml) → va_S A s.heap H locs → lv_has ls 6 [(0, .ref (hgm 0)), (2, .int a2), (3, .int a3), (4, .int v2), (5, .int v3)] → W p l e rX10_joinedBy s m args below meth c H locs 0 0 Q (F0 m 8 ls [])) ?_ zFU 0 v1 hlp H locs ls hP hD hS (lv_sub hl [2, 4, 5, 1, 0] rfl)
  intro v2 v3 z hf hzz H locs ls hP hD hS hl
  unfold fX10_joinedBy_L8 at hf
  replace hf := zUk2 hf
  refine lv_iload hx hb dX10_joinedBy_8 (lv_at hl 4 rfl) ?_
  refine lv_iload hx hb dX10_joinedBy_10 (lv_at hl 3 rfl) ?_
  refine lv_icmp_eq (tgt := 33) hx hb dX10_joinedBy_12 (by decide) (fun hc => ?_) (fun hc => ?_)
  · replace hf := zIf_t hc hf
    cases hf
    exact hE8_33 v3 hzz.symm H locs ls hP hD hS (lv_sub hl [4] rfl)
  · replace hf := zIf_f hc hf
    refine lv_iload hx hb dX10_joinedBy_15 (lv_at hl 4 rfl) ?_
    refine lv_istore (lv' := [(4, .int v3), (0, .ref (hgm 0)), (2, .int a2), (3, .int a3), (5, .int v3)]) hx hb dX10_joinedBy_17 hl (by decide) rfl (fun ls hl => ?_)
    refine lv_aload_n hx hb dX10_joinedBy_19 rfl (lv_at hl 1 rfl) ?_
    refine lv_iload hx hb dX10_joinedBy_20 (lv_at hl 0 rfl) ?_
    refine lv_iload_n hx hb dX10_joinedBy_22 rfl (lv_at hl 2 rfl) ?_
    obtain ⟨v5, hc23, hf⟩ := zB1_ok hf
    refine zCallVEI [.int v3, .int a2] ⟨hx, hb, hml, hown, hts⟩ (pX10_around l D T X hgm H.size gm gml v3 a2 v5 hc23) (cwV 2 hts gX10_joinedBy_X10_around rfl rfl rfl (by decide +kernel) ⟨Nat.le_of_ble_eq_true rfl, Nat.le_of_ble_eq_true rfl⟩) hK hP hD hS hA hX 0 rfl rfl rfl hl.1 rfl (Nat.le_of_ble_eq_true rfl) dX10_joinedBy_23 ⟨Nat.zero_le _, Nat.zero_le _⟩ (fun H locs hP hD hS => ?_)
    refine lv_iload_n hx hb dX10_joinedBy_26 rfl (lv_at hl 3 rfl) ?_
    refine lv_iand hx hb dX10_joinedBy_27 ?_
    refine lv_topi (fun v6 ev6 => ?_)
    replace hf := zLt_at ev6 hf
    refine lv_istore (lv' := [(5, .int v6), (4, .int v3), (0, .ref (hgm 0)), (2, .int a2), (3, .int a3)]) hx hb dX10_joinedBy_28 hl (by decide) rfl (fun ls hl => ?_)
    refine lv_goto (tgt := 8) hx hb dX10_joinedBy_30 (by decide) ?_
    cases hf
    exact hzz H locs ls hP hD hS (lv_sub hl [2, 3, 4, 1, 0] rfl)
set_option maxHeartbeats 4000000 in
set_option maxRecDepth 100000 in
theorem pX10_joined (l : Launch) (D : va_G) (T : Nat → ClassId) (X : zFP) (hgm : Nat → Nat) (sz : Nat) (gm : zM) (gml : zL) (a1 : Int32) (r : Int32) (hf : fX10_joined gm gml a1 = some r) : Met l yX10_joined wsX10_joined rX10_joined (zPre D T X [.ref (hgm 0), .int a1] (wX10 T hgm gm gml) sz) (zQi D T r (wX10 T hgm gm gml) (wX10 T hgm gm gml) sz) 0 0 (va_A (wX10 T hgm gm gml) sz) := by
  unfold fX10_joined at hf
  refine zStart [(0, .ref (hgm 0)), (1, .int a1)] (by decide) rfl (Nat.le_of_ble_eq_true rfl) rfl ?_
  intro p e s m args below meth c A Q ls hx hb hr hml hown hlocks hts hsz hA0 hQ hA hK hX hP hD hS hl
  replace hown : s.vm.findClass RX10 = some m.cls := hown
  have hH := hsz
  obtain ⟨H, hHe⟩ : ∃ H : Heap, H = s.heap := ⟨_, rfl⟩
  obtain ⟨locs, hLe⟩ : ∃ L : List Loc, L = [] := ⟨_, rfl⟩
  replace hP : va_P D vwCl (wX10 T hgm gm gml) H := by rw [hHe]; exact hP
  replace hS : va_S A s.heap H locs := by rw [hHe, hLe]; exact hS
  suffices hgo : W p l e rX10_joined s m args below meth c H locs 0 0 Q (F0 m 0 ls []) by rw [hHe, hLe] at hgo; exact hgo
  clear hHe hLe
  refine lv_aload_n hx hb dX10_joined_0 rfl (lv_at hl 0 rfl) ?_
  refine lv_iload_n hx hb dX10_joined_1 rfl (lv_at hl 1 rfl) ?_
  obtain ⟨v1, hc2, hf⟩ := zB1_ok hf
  refine zCallVEI [.int a1] ⟨hx, hb, hml, hown, hts⟩ (pX10_isPerson l D T X hgm H.size gm gml a1 v1 hc2) (cwV 1 hts gX10_joined_X10_isPerson rfl rfl rfl (by decide +kernel) ⟨Nat.le_of_ble_eq_true rfl, Nat.le_of_ble_eq_true rfl⟩) hK hP hD hS hA hX 0 rfl rfl rfl hl.1 rfl (Nat.le_of_ble_eq_true rfl) dX10_joined_2 ⟨Nat.zero_le _, Nat.zero_le _⟩ (fun H locs hP hD hS => ?_)
  refine lv_if_eq (tgt := 27) hx hb dX10_joined_5 (by decide) (fun hc => ?_) (fun hc => ?_)
  · replace hf := zIf_t hc hf
    refine lv_iconst (v := (-1)) hx hb dX10_joined_27 (by decide) ?_
    obtain ⟨q1, -⟩ := zI1 hf
    subst q1
    exact zRetI hQ hx hb hr hlocks hA0 hK hP hD hS rfl dX10_joined_28
  · replace hf := zIf_f hc hf
    refine lv_aload_n hx hb dX10_joined_8 rfl (lv_at hl 0 rfl) ?_
    refine lv_iconst (v := 1) hx hb dX10_joined_9 (by decide) ?_
    refine lv_iload_n hx hb dX10_joined_10 rfl (lv_at hl 1 rfl) ?_
    refine lv_ishl hx hb dX10_joined_11 ?_
    refine lv_aload_n hx hb dX10_joined_12 rfl (lv_at hl 0 rfl) ?_
    refine lv_iconst (v := 0) hx hb dX10_joined_13 (by decide) ?_
    obtain ⟨v2, hc14, hf⟩ := zB1_ok hf
    refine zCallVEI [.int 0] ⟨hx, hb, hml, hown, hts⟩ (pX10_openOn l D T X hgm H.size gm gml 0 v2 hc14) (cwV 1 hts gX10_joined_X10_openOn rfl rfl rfl (by decide +kernel) ⟨Nat.le_of_ble_eq_true rfl, Nat.le_of_ble_eq_true rfl⟩) hK hP hD hS hA hX 0 rfl rfl rfl hl.1 rfl (Nat.le_of_ble_eq_true rfl) dX10_joined_14 ⟨Nat.zero_le _, Nat.zero_le _⟩ (fun H locs hP hD hS => ?_)
    refine lv_aload_n hx hb dX10_joined_17 rfl (lv_at hl 0 rfl) ?_
    obtain ⟨v3, hc18, hf⟩ := zB1_ok hf
    refine zCallVEI [] ⟨hx, hb, hml, hown, hts⟩ (pX10_all l D T X hgm H.size gm gml v3 hc18) (cwV 0 hts gX10_joined_X10_all rfl rfl rfl (by decide +kernel) ⟨Nat.le_of_ble_eq_true rfl, Nat.le_of_ble_eq_true rfl⟩) hK hP hD hS hA hX 0 rfl rfl rfl hl.1 rfl (Nat.le_of_ble_eq_true rfl) dX10_joined_18 ⟨Nat.zero_le _, Nat.zero_le _⟩ (fun H locs hP hD hS => ?_)
    obtain ⟨v4, hc21, hf⟩ := zB1_ok hf
    refine zCallVEI [.int ((1 : Int32) <<< (a1 &&& 31)), .int v2, .int v3] ⟨hx, hb, hml, hown, hts⟩ (pX10_joinedBy l D T X hgm H.size gm gml ((1 : Int32) <<< (a1 &&& 31)) v2 v3 v4 hc21) (cwV 3 hts gX10_joined_X10_joinedBy rfl rfl rfl (by decide +kernel) ⟨Nat.le_of_ble_eq_true rfl, Nat.le_of_ble_eq_true rfl⟩) hK hP hD hS hA hX 0 rfl rfl rfl hl.1 rfl (Nat.le_of_ble_eq_true rfl) dX10_joined_21 ⟨Nat.zero_le _, Nat.zero_le _⟩ (fun H locs hP hD hS => ?_)
    refine lv_goto (tgt := 28) hx hb dX10_joined_24 (by decide) ?_
    obtain ⟨q1, -⟩ := zI1 hf
    subst q1
    exact zRetI hQ hx hb hr hlocks hA0 hK hP hD hS rfl dX10_joined_28
set_option maxHeartbeats 4000000 in
set_option maxRecDepth 100000 in
theorem pX10_greatest (l : Launch) (D : va_G) (T : Nat → ClassId) (X : zFP) (hgm : Nat → Nat) (sz : Nat) (gm : zM) (gml : zL) (a1 : Int32) (a2 : Int32) (r : Int32) (ngm : zM) (hf : fX10_greatest gm gml a1 a2 = some (r, ngm)) : Met l yX10_greatest wsX10_greatest rX10_greatest (zPre D T X [.ref (hgm 0), .int a1, .int a2] (wX10 T hgm gm gml) sz) (zQi D T r (wX10 T hgm ngm gml) (wX10 T hgm gm gml) sz) 0 0 (va_A (wX10 T hgm gm gml) sz) := by
  unfold fX10_greatest at hf
  refine zStart [(0, .ref (hgm 0)), (1, .int a1), (2, .int a2)] (by decide) rfl (Nat.le_of_ble_eq_true rfl) rfl ?_
  intro p e s m args below meth c A Q ls hx hb hr hml hown hlocks hts hsz hA0 hQ hA hK hX hP hD hS hl
  replace hown : s.vm.findClass RX10 = some m.cls := hown
  have hH := hsz
  have hiX10 : ∀ w ∈ u_ws RX10 TX10 54, w ∈ wsX10_greatest := fun w h => List.mem_cons_of_mem _ (List.mem_append_right _ (h))
  obtain ⟨H, hHe⟩ : ∃ H : Heap, H = s.heap := ⟨_, rfl⟩
  obtain ⟨locs, hLe⟩ : ∃ L : List Loc, L = [] := ⟨_, rfl⟩
  replace hP : va_P D vwCl (wX10 T hgm gm gml) H := by rw [hHe]; exact hP
  replace hS : va_S A s.heap H locs := by rw [hHe, hLe]; exact hS
  suffices hgo : W p l e rX10_greatest s m args below meth c H locs 0 0 Q (F0 m 0 ls []) by rw [hHe, hLe] at hgo; exact hgo
  clear hHe hLe
  refine lv_iconst (v := 0) hx hb dX10_greatest_0 (by decide) ?_
  refine lv_istore_n (lv' := [(3, .int 0), (0, .ref (hgm 0)), (1, .int a1), (2, .int a2)]) hx hb dX10_greatest_1 rfl hl (by decide) rfl (fun ls hl => ?_)
  refine lv_iload_n hx hb dX10_greatest_2 rfl (lv_at hl 3 rfl) ?_
  refine lv_istore (lv' := [(4, .int a2), (3, .int 0), (0, .ref (hgm 0)), (1, .int a1), (2, .int a2)]) hx hb dX10_greatest_3 hl (by decide) rfl (fun ls hl => ?_)
  refine lv_aload_n hx hb dX10_greatest_5 rfl (lv_at hl 2 rfl) ?_
  refine lv_iconst (v := 0) hx hb dX10_greatest_6 (by decide) ?_
  refine zPut (ci := 10) (C := RX10) (F := TX10) (N := 54) (x := 0) (w := gm) hx hb hts hiX10 tyX10 tyX10_ok nmX10 hown hK hP hD hS (fun g => wX10 T hgm g gml) 0 22 1 rfl rfl (by decide) rfl rfl rfl ⟨rfl, rfl⟩ (Nat.le_of_ble_eq_true rfl) rfl dX10_greatest_7 (fun gm_1 egm_1 H locs hP hD hS => ?_)
  replace hP : va_P D vwCl (wX10 T hgm gm_1 gml) H := hP
  replace hD : va_D A (wX10 T hgm gm_1 gml) := hD
  replace hf := zLt_at egm_1 hf
  obtain ⟨ex, hlp, hf⟩ := zB1_ok hf
  have hE10_70 : ∀ (v5 : Int32) (gm_6 : zM) , ex = (v5, gm_6) → ∀ (H : Heap) (locs : List Loc) (ls : Array Slot), va_P D vwCl (wX10 T hgm gm_6 gml) H → va_D A (wX10 T hgm gm_6 gml) → va_S A s.heap H locs → lv_has ls 6 [(3, .int v5)] → W p l e rX10_greatest s m args below meth c H locs 0 0 Q (F0 m 70 ls []) := by
    intro v5 gm_6 hex H locs ls hP hD hS hl
    have hf := zEx2 hex hf
    refine lv_iload_n hx hb dX10_greatest_70 rfl (lv_at hl 0 rfl) ?_
    obtain ⟨q1, q2⟩ := zI2 hf
    subst q1
    subst q2
    exact zRetI hQ hx hb hr hlocks hA0 hK hP hD hS rfl dX10_greatest_71
  refine zLpS3 (body := (fX10_greatest_L10 a1 a2 gml)) (b := ex) (fun (v2 : Int32) (v3 : Int32) (gm_4 : zM) => ∀ (H : Heap) (locs : List Loc) (ls : Array Slot), va_P D vwCl (wX10 T hgm gm_4 gml) H → va_D A (wX10 T hgm gm_4 gml) → va_S A s.heap H locs → lv_has ls 6 [(0, .ref (hgm 0)), (1, .int a1), (2, .int a2), (3, .int v2), (4, .int v3)] → W p l e rX10_greatest s m args below meth c H locs 0 0 Q (F0 m 10 ls [])) ?_ zFU 0 a2 gm_1 hlp H locs ls hP hD hS (lv_sub hl [2, 3, 4, 1, 0] rfl)
  intro v2 v3 gm_4 z hf hzz H locs ls hP hD hS hl
  unfold fX10_greatest_L10 at hf
  replace hf := zUk3 hf
  refine lv_iload hx hb dX10_greatest_10 (lv_at hl 4 rfl) ?_
  refine lv_if_eq (tgt := 70) hx hb dX10_greatest_12 (by decide) (fun hc => ?_) (fun hc => ?_)
  · replace hf := zIf_t hc hf
    cases hf
    exact hE10_70 v2 gm_4 hzz.symm H locs ls hP hD hS (lv_sub hl [3] rfl)
  · replace hf := zIf_f hc hf
    refine lv_aload_n hx hb dX10_greatest_15 rfl (lv_at hl 0 rfl) ?_
    refine lv_iload hx hb dX10_greatest_16 (lv_at hl 4 rfl) ?_
    refine lv_iload hx hb dX10_greatest_18 (lv_at hl 4 rfl) ?_
    refine lv_ineg hx hb dX10_greatest_20 ?_
    refine lv_iand hx hb dX10_greatest_21 ?_
    refine lv_iload_n hx hb dX10_greatest_22 rfl (lv_at hl 1 rfl) ?_
    refine lv_iload_n hx hb dX10_greatest_23 rfl (lv_at hl 2 rfl) ?_
    obtain ⟨v7, hc24, hf⟩ := zB1_ok hf
    refine zCallVEI [.int (v3 &&& (-v3)), .int a1, .int a2] ⟨hx, hb, hml, hown, hts⟩ (pX10_joinedBy l D T X hgm H.size gm_4 gml (v3 &&& (-v3)) a1 a2 v7 hc24) (cwV 3 hts gX10_greatest_X10_joinedBy rfl rfl rfl (by decide +kernel) ⟨Nat.le_of_ble_eq_true rfl, Nat.le_of_ble_eq_true rfl⟩) hK hP hD hS hA hX 0 rfl rfl rfl hl.1 rfl (Nat.le_of_ble_eq_true rfl) dX10_greatest_24 ⟨Nat.zero_le _, Nat.zero_le _⟩ (fun H locs hP hD hS => ?_)
    refine lv_istore (lv' := [(5, .int v7), (0, .ref (hgm 0)), (1, .int a1), (2, .int a2), (3, .int v2), (4, .int v3)]) hx hb dX10_greatest_27 hl (by decide) rfl (fun ls hl => ?_)
    refine lv_iload hx hb dX10_greatest_29 (lv_at hl 0 rfl) ?_
    obtain ⟨v8, hc31, hf⟩ := zB1_ok hf
    refine zCallS0I [.int v7] ⟨hx, hb, hml, hown, hts⟩ (pX10_ones l D T X H.size v7 v8 hc31) (va_cwS 1 hts gX10_greatest_X10_ones rfl rfl rfl (by decide +kernel) ⟨Nat.le_of_ble_eq_true rfl, Nat.le_of_ble_eq_true rfl⟩) hK hP hD hS hA hX rfl hl.1 rfl (Nat.le_of_ble_eq_true rfl) dX10_greatest_31 ⟨Nat.zero_le _, Nat.zero_le _⟩ (fun H locs hP hD hS => ?_)
    refine lv_iload_n hx hb dX10_greatest_34 rfl (lv_at hl 4 rfl) ?_
    have hJ47 : ∀ (v9 : Int32) (H : Heap) (locs : List Loc) (ls : Array Slot), fX10_greatest_L10J47 v3 gm_4 v7 v9 = some z → va_P D vwCl (wX10 T hgm gm_4 gml) H → va_D A (wX10 T hgm gm_4 gml) → va_S A s.heap H locs → lv_has ls 6 [(0, .ref (hgm 0)), (1, .int a1), (2, .int a2), (4, .int v3), (5, .int v7)] → W p l e rX10_greatest s m args below meth c H locs 0 0 Q (F0 m 47 ls [.int v9]) := by
      intro v9 H locs ls hf hP hD hS hl
      unfold fX10_greatest_L10J47 at hf
      refine lv_istore_n (lv' := [(3, .int v9), (0, .ref (hgm 0)), (1, .int a1), (2, .int a2), (4, .int v3), (5, .int v7)]) hx hb dX10_greatest_47 rfl hl (by decide) rfl (fun ls hl => ?_)
      refine lv_iload hx hb dX10_greatest_48 (lv_at hl 4 rfl) ?_
      refine lv_iload hx hb dX10_greatest_50 (lv_at hl 5 rfl) ?_
      refine lv_iconst (v := (-1)) hx hb dX10_greatest_52 (by decide) ?_
      refine lv_ixor hx hb dX10_greatest_53 ?_
      refine lv_iand hx hb dX10_greatest_54 ?_
      refine lv_topi (fun v10 ev10 => ?_)
      replace hf := zLt_at ev10 hf
      refine lv_istore (lv' := [(4, .int v10), (3, .int v9), (0, .ref (hgm 0)), (1, .int a1), (2, .int a2), (5, .int v7)]) hx hb dX10_greatest_55 hl (by decide) rfl (fun ls hl => ?_)
      refine lv_aload_n hx hb dX10_greatest_57 rfl (lv_at hl 2 rfl) ?_
      refine lv_dup hx hb dX10_greatest_58 rfl ?_
      refine zGet (ci := 10) (C := RX10) (F := TX10) (N := 54) (v := .int (gm_4 0 22)) hx hb hts hiX10 hown hK hP 0 22 1 rfl rfl (by decide) rfl rfl rfl dX10_greatest_59 ?_
      refine lv_iconst (v := 1) hx hb dX10_greatest_62 (by decide) ?_
      refine lv_iadd hx hb dX10_greatest_63 ?_
      refine lv_topi (fun v11 ev11 => ?_)
      replace hf := zLt_at ev11 hf
      refine zPut (ci := 10) (C := RX10) (F := TX10) (N := 54) (x := v11) (w := gm_4) hx hb hts hiX10 tyX10 tyX10_ok nmX10 hown hK hP hD hS (fun g => wX10 T hgm g gml) 0 22 1 rfl rfl (by decide) rfl rfl rfl ⟨rfl, rfl⟩ (Nat.le_of_ble_eq_true rfl) rfl dX10_greatest_64 (fun gm_12 egm_12 H locs hP hD hS => ?_)
      replace hP : va_P D vwCl (wX10 T hgm gm_12 gml) H := hP
      replace hD : va_D A (wX10 T hgm gm_12 gml) := hD
      replace hf := zLt_at egm_12 hf
      refine lv_goto (tgt := 10) hx hb dX10_greatest_67 (by decide) ?_
      cases hf
      exact hzz H locs ls hP hD hS (lv_sub hl [2, 3, 4, 1, 0] rfl)
    refine lv_icmp_le (tgt := 46) hx hb dX10_greatest_35 (by decide) (fun hc => ?_) (fun hc => ?_)
    · replace hf := zIf_t hc hf
      refine lv_iload_n hx hb dX10_greatest_46 rfl (lv_at hl 4 rfl) ?_
      exact hJ47 v2 H locs ls hf hP hD hS (lv_sub hl [1, 2, 3, 5, 0] rfl)
    · replace hf := zIf_f hc hf
      refine lv_iload hx hb dX10_greatest_38 (lv_at hl 0 rfl) ?_
      obtain ⟨v13, hc40, hf⟩ := zB1_ok hf
      refine zCallS0I [.int v7] ⟨hx, hb, hml, hown, hts⟩ (pX10_ones l D T X H.size v7 v13 hc40) (va_cwS 1 hts gX10_greatest_X10_ones rfl rfl rfl (by decide +kernel) ⟨Nat.le_of_ble_eq_true rfl, Nat.le_of_ble_eq_true rfl⟩) hK hP hD hS hA hX rfl hl.1 rfl (Nat.le_of_ble_eq_true rfl) dX10_greatest_40 ⟨Nat.zero_le _, Nat.zero_le _⟩ (fun H locs hP hD hS => ?_)
      refine lv_goto (tgt := 47) hx hb dX10_greatest_43 (by decide) ?_
      exact hJ47 v13 H locs ls hf hP hD hS (lv_sub hl [1, 2, 3, 5, 0] rfl)
set_option maxHeartbeats 4000000 in
set_option maxRecDepth 100000 in
theorem pX10_sets (l : Launch) (D : va_G) (T : Nat → ClassId) (X : zFP) (hgm : Nat → Nat) (sz : Nat) (gm : zM) (gml : zL) (a1 : Int32) (r : Int32) (ngm : zM) (hf : fX10_sets gm gml a1 = some (r, ngm)) : Met l yX10_sets wsX10_sets rX10_sets (zPre D T X [.ref (hgm 0), .int a1] (wX10 T hgm gm gml) sz) (zQi D T r (wX10 T hgm ngm gml) (wX10 T hgm gm gml) sz) 0 0 (va_A (wX10 T hgm gm gml) sz) := by
  unfold fX10_sets at hf
  refine zStart [(0, .ref (hgm 0)), (1, .int a1)] (by decide) rfl (Nat.le_of_ble_eq_true rfl) rfl ?_
  intro p e s m args below meth c A Q ls hx hb hr hml hown hlocks hts hsz hA0 hQ hA hK hX hP hD hS hl
  replace hown : s.vm.findClass RX10 = some m.cls := hown
  have hH := hsz
  have hiX10 : ∀ w ∈ u_ws RX10 TX10 54, w ∈ wsX10_sets := fun w h => List.mem_cons_of_mem _ (List.mem_append_right _ (h))
  obtain ⟨H, hHe⟩ : ∃ H : Heap, H = s.heap := ⟨_, rfl⟩
  obtain ⟨locs, hLe⟩ : ∃ L : List Loc, L = [] := ⟨_, rfl⟩
  replace hP : va_P D vwCl (wX10 T hgm gm gml) H := by rw [hHe]; exact hP
  replace hS : va_S A s.heap H locs := by rw [hHe, hLe]; exact hS
  suffices hgo : W p l e rX10_sets s m args below meth c H locs 0 0 Q (F0 m 0 ls []) by rw [hHe, hLe] at hgo; exact hgo
  clear hHe hLe
  refine lv_iload_n hx hb dX10_sets_0 rfl (lv_at hl 1 rfl) ?_
  obtain ⟨v1, hc1, hf⟩ := zB1_ok hf
  refine zCallS0I [.int a1] ⟨hx, hb, hml, hown, hts⟩ (pX10_isSide l D T X H.size a1 v1 hc1) (va_cwS 1 hts gX10_sets_X10_isSide rfl rfl rfl (by decide +kernel) ⟨Nat.le_of_ble_eq_true rfl, Nat.le_of_ble_eq_true rfl⟩) hK hP hD hS hA hX rfl hl.1 rfl (Nat.le_of_ble_eq_true rfl) dX10_sets_1 ⟨Nat.zero_le _, Nat.zero_le _⟩ (fun H locs hP hD hS => ?_)
  refine lv_if_ne (tgt := 9) hx hb dX10_sets_4 (by decide) (fun hc => ?_) (fun hc => ?_)
  · replace hf := zIf_f hc hf
    refine lv_aload_n hx hb dX10_sets_9 rfl (lv_at hl 0 rfl) ?_
    refine lv_aload_n hx hb dX10_sets_10 rfl (lv_at hl 0 rfl) ?_
    refine lv_iconst (v := 0) hx hb dX10_sets_11 (by decide) ?_
    obtain ⟨v2, hc12, hf⟩ := zB1_ok hf
    refine zCallVEI [.int 0] ⟨hx, hb, hml, hown, hts⟩ (pX10_openOn l D T X hgm H.size gm gml 0 v2 hc12) (cwV 1 hts gX10_sets_X10_openOn rfl rfl rfl (by decide +kernel) ⟨Nat.le_of_ble_eq_true rfl, Nat.le_of_ble_eq_true rfl⟩) hK hP hD hS hA hX 0 rfl rfl rfl hl.1 rfl (Nat.le_of_ble_eq_true rfl) dX10_sets_12 ⟨Nat.zero_le _, Nat.zero_le _⟩ (fun H locs hP hD hS => ?_)
    refine lv_aload_n hx hb dX10_sets_15 rfl (lv_at hl 0 rfl) ?_
    obtain ⟨v3, hc16, hf⟩ := zB1_ok hf
    refine zCallVEI [] ⟨hx, hb, hml, hown, hts⟩ (pX10_all l D T X hgm H.size gm gml v3 hc16) (cwV 0 hts gX10_sets_X10_all rfl rfl rfl (by decide +kernel) ⟨Nat.le_of_ble_eq_true rfl, Nat.le_of_ble_eq_true rfl⟩) hK hP hD hS hA hX 0 rfl rfl rfl hl.1 rfl (Nat.le_of_ble_eq_true rfl) dX10_sets_16 ⟨Nat.zero_le _, Nat.zero_le _⟩ (fun H locs hP hD hS => ?_)
    obtain ⟨v4, gm_5, hc19, hf⟩ := zB2_ok hf
    refine zCallVEI [.int v2, .int v3] ⟨hx, hb, hml, hown, hts⟩ (pX10_greatest l D T X hgm H.size gm gml v2 v3 v4 gm_5 hc19) (cwV 2 hts gX10_sets_X10_greatest rfl rfl rfl (by decide +kernel) ⟨Nat.le_of_ble_eq_true rfl, Nat.le_of_ble_eq_true rfl⟩) hK hP hD hS hA hX 0 rfl rfl rfl hl.1 rfl (Nat.le_of_ble_eq_true rfl) dX10_sets_19 ⟨Nat.zero_le _, Nat.zero_le _⟩ (fun H locs hP hD hS => ?_)
    refine lv_istore_n (lv' := [(2, .int v4), (0, .ref (hgm 0)), (1, .int a1)]) hx hb dX10_sets_22 rfl hl (by decide) rfl (fun ls hl => ?_)
    refine lv_iload_n hx hb dX10_sets_23 rfl (lv_at hl 2 rfl) ?_
    refine lv_if_ne (tgt := 34) hx hb dX10_sets_24 (by decide) (fun hc => ?_) (fun hc => ?_)
    · replace hf := zIf_f hc hf
      refine lv_iload_n hx hb dX10_sets_34 rfl (lv_at hl 0 rfl) ?_
      obtain ⟨q1, q2⟩ := zI2 hf
      subst q1
      subst q2
      exact zRetI hQ hx hb hr hlocks hA0 hK hP hD hS rfl dX10_sets_35
    · replace hf := zIf_t hc hf
      refine lv_aload_n hx hb dX10_sets_27 rfl (lv_at hl 1 rfl) ?_
      refine zGet (ci := 10) (C := RX10) (F := TX10) (N := 54) (v := .int (gm_5 0 22)) hx hb hts hiX10 hown hK hP 0 22 1 rfl rfl (by decide) rfl rfl rfl dX10_sets_28 ?_
      refine lv_goto (tgt := 35) hx hb dX10_sets_31 (by decide) ?_
      obtain ⟨q1, q2⟩ := zI2 hf
      subst q1
      subst q2
      exact zRetI hQ hx hb hr hlocks hA0 hK hP hD hS rfl dX10_sets_35
  · replace hf := zIf_t hc hf
    refine lv_iconst (v := (-1)) hx hb dX10_sets_7 (by decide) ?_
    obtain ⟨q1, q2⟩ := zI2 hf
    subst q1
    subst q2
    exact zRetI hQ hx hb hr hlocks hA0 hK hP hD hS rfl dX10_sets_8
set_option maxHeartbeats 4000000 in
set_option maxRecDepth 100000 in
theorem pX10_weights (l : Launch) (D : va_G) (T : Nat → ClassId) (X : zFP) (hgm : Nat → Nat) (sz : Nat) (gm : zM) (gml : zL) (r : Int32) (hf : fX10_weights gm gml = some r) : Met l yX10_weights wsX10_weights rX10_weights (zPre D T X [.ref (hgm 0)] (wX10 T hgm gm gml) sz) (zQi D T r (wX10 T hgm gm gml) (wX10 T hgm gm gml) sz) 0 0 (va_A (wX10 T hgm gm gml) sz) := by
  unfold fX10_weights at hf
  refine zStart [(0, .ref (hgm 0))] (by decide) rfl (Nat.le_of_ble_eq_true rfl) rfl ?_
  intro p e s m args below meth c A Q ls hx hb hr hml hown hlocks hts hsz hA0 hQ hA hK hX hP hD hS hl
  replace hown : s.vm.findClass RX10 = some m.cls := hown
  have hH := hsz
  have hiX10 : ∀ w ∈ u_ws RX10 TX10 54, w ∈ wsX10_weights := fun w h => List.mem_cons_of_mem _ (List.mem_append_right _ (h))
  obtain ⟨H, hHe⟩ : ∃ H : Heap, H = s.heap := ⟨_, rfl⟩
  obtain ⟨locs, hLe⟩ : ∃ L : List Loc, L = [] := ⟨_, rfl⟩
  replace hP : va_P D vwCl (wX10 T hgm gm gml) H := by rw [hHe]; exact hP
  replace hS : va_S A s.heap H locs := by rw [hHe, hLe]; exact hS
  suffices hgo : W p l e rX10_weights s m args below meth c H locs 0 0 Q (F0 m 0 ls []) by rw [hHe, hLe] at hgo; exact hgo
  clear hHe hLe
  refine lv_iconst (v := 0) hx hb dX10_weights_0 (by decide) ?_
  refine lv_istore_n (lv' := [(1, .int 0), (0, .ref (hgm 0))]) hx hb dX10_weights_1 rfl hl (by decide) rfl (fun ls hl => ?_)
  refine lv_iconst (v := 0) hx hb dX10_weights_2 (by decide) ?_
  refine lv_istore_n (lv' := [(2, .int 0), (1, .int 0), (0, .ref (hgm 0))]) hx hb dX10_weights_3 rfl hl (by decide) rfl (fun ls hl => ?_)
  obtain ⟨ex, hlp, hf⟩ := zB1_ok hf
  have hE4_27 : ∀ (v3 : Int32) , ex = v3 → ∀ (H : Heap) (locs : List Loc) (ls : Array Slot), va_P D vwCl (wX10 T hgm gm gml) H → va_D A (wX10 T hgm gm gml) → va_S A s.heap H locs → lv_has ls 3 [(1, .int v3)] → W p l e rX10_weights s m args below meth c H locs 0 0 Q (F0 m 27 ls []) := by
    intro v3 hex H locs ls hP hD hS hl
    have hf := zEx1 hex hf
    refine lv_iload_n hx hb dX10_weights_27 rfl (lv_at hl 0 rfl) ?_
    obtain ⟨q1, -⟩ := zI1 hf
    subst q1
    exact zRetI hQ hx hb hr hlocks hA0 hK hP hD hS rfl dX10_weights_28
  refine zLpS2 (body := (fX10_weights_L4 gm)) (b := ex) (fun (v1 : Int32) (v2 : Int32) => ∀ (H : Heap) (locs : List Loc) (ls : Array Slot), va_P D vwCl (wX10 T hgm gm gml) H → va_D A (wX10 T hgm gm gml) → va_S A s.heap H locs → lv_has ls 3 [(0, .ref (hgm 0)), (1, .int v1), (2, .int v2)] → W p l e rX10_weights s m args below meth c H locs 0 0 Q (F0 m 4 ls [])) ?_ zFU 0 0 hlp H locs ls hP hD hS (lv_sub hl [2, 1, 0] rfl)
  intro v1 v2 z hf hzz H locs ls hP hD hS hl
  unfold fX10_weights_L4 at hf
  replace hf := zUk2 hf
  refine lv_iload_n hx hb dX10_weights_4 rfl (lv_at hl 2 rfl) ?_
  refine lv_aload_n hx hb dX10_weights_5 rfl (lv_at hl 0 rfl) ?_
  refine zGet (ci := 10) (C := RX10) (F := TX10) (N := 54) (v := .int (gm 0 0)) hx hb hts hiX10 hown hK hP 0 0 1 rfl rfl (by decide) rfl rfl rfl dX10_weights_6 ?_
  refine lv_icmp_ge (tgt := 27) hx hb dX10_weights_9 (by decide) (fun hc => ?_) (fun hc => ?_)
  · replace hf := zIf_t hc hf
    cases hf
    exact hE4_27 v1 hzz.symm H locs ls hP hD hS (lv_sub hl [1] rfl)
  · replace hf := zIf_f hc hf
    refine lv_iload_n hx hb dX10_weights_12 rfl (lv_at hl 1 rfl) ?_
    refine lv_aload_n hx hb dX10_weights_13 rfl (lv_at hl 0 rfl) ?_
    refine zGet (ci := 10) (C := RX10) (F := TX10) (N := 54) (v := .ref (hgm 1)) hx hb hts hiX10 hown hK hP 0 1 2 rfl rfl (by decide) rfl rfl rfl dX10_weights_14 ?_
    refine lv_iload_n hx hb dX10_weights_17 rfl (lv_at hl 2 rfl) ?_
    obtain ⟨hg, hf⟩ := zGd_ok hf
    refine zAldI hx hb hK hP 1 rfl hg dX10_weights_18 (fun v4 ev4 => ?_)
    replace hf := zLt_at ev4 hf
    refine lv_iadd hx hb dX10_weights_19 ?_
    refine lv_topi (fun v5 ev5 => ?_)
    replace hf := zLt_at ev5 hf
    refine lv_istore_n (lv' := [(1, .int v5), (0, .ref (hgm 0)), (2, .int v2)]) hx hb dX10_weights_20 rfl hl (by decide) rfl (fun ls hl => ?_)
    obtain ⟨v6, ev6⟩ : ∃ y : Int32, y = v2 + 1 := ⟨_, rfl⟩
    replace hf := zLt_at ev6 hf
    refine lv_iinc (v := v6) (lv' := [(2, .int v6), (1, .int v5), (0, .ref (hgm 0))]) hx hb dX10_weights_21 hl (k := 2) rfl (by rw [ev6]; rfl) (by decide) rfl (fun ls hl => ?_)
    refine lv_goto (tgt := 4) hx hb dX10_weights_24 (by decide) ?_
    cases hf
    exact hzz H locs ls hP hD hS (lv_sub hl [2, 1, 0] rfl)
set_option maxHeartbeats 4000000 in
set_option maxRecDepth 100000 in
theorem pX10_unsure (l : Launch) (D : va_G) (T : Nat → ClassId) (X : zFP) (hgm : Nat → Nat) (sz : Nat) (gm : zM) (gml : zL) (r : Int32) (hf : fX10_unsure gm gml = some r) : Met l yX10_unsure wsX10_unsure rX10_unsure (zPre D T X [.ref (hgm 0)] (wX10 T hgm gm gml) sz) (zQi D T r (wX10 T hgm gm gml) (wX10 T hgm gm gml) sz) 0 0 (va_A (wX10 T hgm gm gml) sz) := by
  unfold fX10_unsure at hf
  refine zStart [(0, .ref (hgm 0))] (by decide) rfl (Nat.le_of_ble_eq_true rfl) rfl ?_
  intro p e s m args below meth c A Q ls hx hb hr hml hown hlocks hts hsz hA0 hQ hA hK hX hP hD hS hl
  replace hown : s.vm.findClass RX10 = some m.cls := hown
  have hH := hsz
  have hiX10 : ∀ w ∈ u_ws RX10 TX10 54, w ∈ wsX10_unsure := fun w h => List.mem_cons_of_mem _ (List.mem_append_right _ (h))
  obtain ⟨H, hHe⟩ : ∃ H : Heap, H = s.heap := ⟨_, rfl⟩
  obtain ⟨locs, hLe⟩ : ∃ L : List Loc, L = [] := ⟨_, rfl⟩
  replace hP : va_P D vwCl (wX10 T hgm gm gml) H := by rw [hHe]; exact hP
  replace hS : va_S A s.heap H locs := by rw [hHe, hLe]; exact hS
  suffices hgo : W p l e rX10_unsure s m args below meth c H locs 0 0 Q (F0 m 0 ls []) by rw [hHe, hLe] at hgo; exact hgo
  clear hHe hLe
  refine lv_iconst (v := 0) hx hb dX10_unsure_0 (by decide) ?_
  refine lv_istore_n (lv' := [(1, .int 0), (0, .ref (hgm 0))]) hx hb dX10_unsure_1 rfl hl (by decide) rfl (fun ls hl => ?_)
  refine lv_aload_n hx hb dX10_unsure_2 rfl (lv_at hl 1 rfl) ?_
  refine lv_iconst (v := 0) hx hb dX10_unsure_3 (by decide) ?_
  obtain ⟨v1, hc4, hf⟩ := zB1_ok hf
  refine zCallVEI [.int 0] ⟨hx, hb, hml, hown, hts⟩ (pX10_openOn l D T X hgm H.size gm gml 0 v1 hc4) (cwV 1 hts gX10_unsure_X10_openOn rfl rfl rfl (by decide +kernel) ⟨Nat.le_of_ble_eq_true rfl, Nat.le_of_ble_eq_true rfl⟩) hK hP hD hS hA hX 0 rfl rfl rfl hl.1 rfl (Nat.le_of_ble_eq_true rfl) dX10_unsure_4 ⟨Nat.zero_le _, Nat.zero_le _⟩ (fun H locs hP hD hS => ?_)
  refine lv_istore_n (lv' := [(2, .int v1), (1, .int 0), (0, .ref (hgm 0))]) hx hb dX10_unsure_7 rfl hl (by decide) rfl (fun ls hl => ?_)
  refine lv_iconst (v := 0) hx hb dX10_unsure_8 (by decide) ?_
  refine lv_istore_n (lv' := [(3, .int 0), (2, .int v1), (1, .int 0), (0, .ref (hgm 0))]) hx hb dX10_unsure_9 rfl hl (by decide) rfl (fun ls hl => ?_)
  obtain ⟨ex, hlp, hf⟩ := zB1_ok hf
  have hE10_53 : ∀ (v4 : Int32) , ex = v4 → ∀ (H : Heap) (locs : List Loc) (ls : Array Slot), va_P D vwCl (wX10 T hgm gm gml) H → va_D A (wX10 T hgm gm gml) → va_S A s.heap H locs → lv_has ls 4 [(1, .int v4)] → W p l e rX10_unsure s m args below meth c H locs 0 0 Q (F0 m 53 ls []) := by
    intro v4 hex H locs ls hP hD hS hl
    have hf := zEx1 hex hf
    refine lv_iload_n hx hb dX10_unsure_53 rfl (lv_at hl 0 rfl) ?_
    obtain ⟨q1, -⟩ := zI1 hf
    subst q1
    exact zRetI hQ hx hb hr hlocks hA0 hK hP hD hS rfl dX10_unsure_54
  refine zLpS2 (body := (fX10_unsure_L10 gm gml v1)) (b := ex) (fun (v2 : Int32) (v3 : Int32) => ∀ (H : Heap) (locs : List Loc) (ls : Array Slot), va_P D vwCl (wX10 T hgm gm gml) H → va_D A (wX10 T hgm gm gml) → va_S A s.heap H locs → lv_has ls 4 [(0, .ref (hgm 0)), (1, .int v2), (2, .int v1), (3, .int v3)] → W p l e rX10_unsure s m args below meth c H locs 0 0 Q (F0 m 10 ls [])) ?_ zFU 0 0 hlp H locs ls hP hD hS (lv_sub hl [3, 2, 1, 0] rfl)
  intro v2 v3 z hf hzz H locs ls hP hD hS hl
  unfold fX10_unsure_L10 at hf
  replace hf := zUk2 hf
  refine lv_iload_n hx hb dX10_unsure_10 rfl (lv_at hl 3 rfl) ?_
  refine lv_aload_n hx hb dX10_unsure_11 rfl (lv_at hl 0 rfl) ?_
  refine zGet (ci := 10) (C := RX10) (F := TX10) (N := 54) (v := .int (gm 0 2)) hx hb hts hiX10 hown hK hP 0 2 1 rfl rfl (by decide) rfl rfl rfl dX10_unsure_12 ?_
  refine lv_icmp_ge (tgt := 53) hx hb dX10_unsure_15 (by decide) (fun hc => ?_) (fun hc => ?_)
  · replace hf := zIf_t hc hf
    cases hf
    exact hE10_53 v2 hzz.symm H locs ls hP hD hS (lv_sub hl [1] rfl)
  · replace hf := zIf_f hc hf
    refine lv_iload_n hx hb dX10_unsure_18 rfl (lv_at hl 1 rfl) ?_
    refine lv_iload_n hx hb dX10_unsure_19 rfl (lv_at hl 2 rfl) ?_
    refine lv_iload_n hx hb dX10_unsure_20 rfl (lv_at hl 3 rfl) ?_
    refine lv_ishr hx hb dX10_unsure_21 ?_
    refine lv_iconst (v := 1) hx hb dX10_unsure_22 (by decide) ?_
    refine lv_iand hx hb dX10_unsure_23 ?_
    refine lv_iconst (v := 1) hx hb dX10_unsure_24 (by decide) ?_
    have hJ45 : ∀ (v5 : Int32) (v6 : Int32) (H : Heap) (locs : List Loc) (ls : Array Slot), fX10_unsure_L10J45 v3 v5 v6 = some z → va_P D vwCl (wX10 T hgm gm gml) H → va_D A (wX10 T hgm gm gml) → va_S A s.heap H locs → lv_has ls 4 [(0, .ref (hgm 0)), (2, .int v1), (3, .int v3)] → W p l e rX10_unsure s m args below meth c H locs 0 0 Q (F0 m 45 ls [.int v5, .int v6]) := by
      intro v5 v6 H locs ls hf hP hD hS hl
      unfold fX10_unsure_L10J45 at hf
      refine lv_ior hx hb dX10_unsure_45 ?_
      refine lv_topi (fun v7 ev7 => ?_)
      replace hf := zLt_at ev7 hf
      refine lv_istore_n (lv' := [(1, .int v7), (0, .ref (hgm 0)), (2, .int v1), (3, .int v3)]) hx hb dX10_unsure_46 rfl hl (by decide) rfl (fun ls hl => ?_)
      obtain ⟨v8, ev8⟩ : ∃ y : Int32, y = v3 + 1 := ⟨_, rfl⟩
      replace hf := zLt_at ev8 hf
      refine lv_iinc (v := v8) (lv' := [(3, .int v8), (1, .int v7), (0, .ref (hgm 0)), (2, .int v1)]) hx hb dX10_unsure_47 hl (k := 3) rfl (by rw [ev8]; rfl) (by decide) rfl (fun ls hl => ?_)
      refine lv_goto (tgt := 10) hx hb dX10_unsure_50 (by decide) ?_
      cases hf
      exact hzz H locs ls hP hD hS (lv_sub hl [2, 1, 3, 0] rfl)
    have hJ44 : ∀ (v9 : Int32) (H : Heap) (locs : List Loc) (ls : Array Slot), fX10_unsure_L10J44 v3 v9 = some z → va_P D vwCl (wX10 T hgm gm gml) H → va_D A (wX10 T hgm gm gml) → va_S A s.heap H locs → lv_has ls 4 [(0, .ref (hgm 0)), (2, .int v1), (3, .int v3)] → W p l e rX10_unsure s m args below meth c H locs 0 0 Q (F0 m 44 ls [.int v9]) := by
      intro v9 H locs ls hf hP hD hS hl
      unfold fX10_unsure_L10J44 at hf
      refine lv_iconst (v := 0) hx hb dX10_unsure_44 (by decide) ?_
      exact hJ45 0 v9 H locs ls hf hP hD hS hl
    refine lv_icmp_ne (tgt := 44) hx hb dX10_unsure_25 (by decide) (fun hc => ?_) (fun hc => ?_)
    · replace hf := zIf_f hc hf
      exact hJ44 v2 H locs ls hf hP hD hS (lv_sub hl [0, 2, 3] rfl)
    · replace hf := zIf_t hc hf
      refine lv_aload_n hx hb dX10_unsure_28 rfl (lv_at hl 0 rfl) ?_
      refine lv_iload_n hx hb dX10_unsure_29 rfl (lv_at hl 3 rfl) ?_
      refine lv_iconst (v := 3) hx hb dX10_unsure_30 (by decide) ?_
      obtain ⟨v10, hc31, hf⟩ := zB1_ok hf
      refine zCallVEI [.int v3, .int 3] ⟨hx, hb, hml, hown, hts⟩ (pX10_its l D T X hgm H.size gm gml v3 3 v10 hc31) (cwV 2 hts gX10_unsure_X10_its rfl rfl rfl (by decide +kernel) ⟨Nat.le_of_ble_eq_true rfl, Nat.le_of_ble_eq_true rfl⟩) hK hP hD hS hA hX 0 rfl rfl rfl hl.1 rfl (Nat.le_of_ble_eq_true rfl) dX10_unsure_31 ⟨Nat.zero_le _, Nat.zero_le _⟩ (fun H locs hP hD hS => ?_)
      refine lv_iconst (v := 4) hx hb dX10_unsure_34 (by decide) ?_
      refine lv_icmp_ge (tgt := 44) hx hb dX10_unsure_35 (by decide) (fun hc => ?_) (fun hc => ?_)
      · replace hf := zIf_t hc hf
        exact hJ44 v2 H locs ls hf hP hD hS (lv_sub hl [0, 2, 3] rfl)
      · replace hf := zIf_f hc hf
        refine lv_iconst (v := 1) hx hb dX10_unsure_38 (by decide) ?_
        refine lv_iload_n hx hb dX10_unsure_39 rfl (lv_at hl 3 rfl) ?_
        refine lv_ishl hx hb dX10_unsure_40 ?_
        refine lv_goto (tgt := 45) hx hb dX10_unsure_41 (by decide) ?_
        exact hJ45 ((1 : Int32) <<< (v3 &&& 31)) v2 H locs ls hf hP hD hS (lv_sub hl [0, 2, 3] rfl)
set_option maxHeartbeats 4000000 in
set_option maxRecDepth 100000 in
theorem pX10_oftenOf (l : Launch) (D : va_G) (T : Nat → ClassId) (X : zFP) (hgm : Nat → Nat) (sz : Nat) (gm : zM) (gml : zL) (a1 : Int32) (a2 : Int32) (r : Int64) (hf : fX10_oftenOf gm gml a1 a2 = some r) : Met l yX10_oftenOf wsX10_oftenOf rX10_oftenOf (zPre D T X [.ref (hgm 0), .int a1, .int a2] (wX10 T hgm gm gml) sz) (zQl D T r (wX10 T hgm gm gml) (wX10 T hgm gm gml) sz) 0 0 (va_A (wX10 T hgm gm gml) sz) := by
  unfold fX10_oftenOf at hf
  refine zStart [(0, .ref (hgm 0)), (1, .int a1), (2, .int a2)] (by decide) rfl (Nat.le_of_ble_eq_true rfl) rfl ?_
  intro p e s m args below meth c A Q ls hx hb hr hml hown hlocks hts hsz hA0 hQ hA hK hX hP hD hS hl
  replace hown : s.vm.findClass RX10 = some m.cls := hown
  have hH := hsz
  have hiX10 : ∀ w ∈ u_ws RX10 TX10 54, w ∈ wsX10_oftenOf := fun w h => List.mem_cons_of_mem _ (List.mem_append_right _ (h))
  obtain ⟨H, hHe⟩ : ∃ H : Heap, H = s.heap := ⟨_, rfl⟩
  obtain ⟨locs, hLe⟩ : ∃ L : List Loc, L = [] := ⟨_, rfl⟩
  replace hP : va_P D vwCl (wX10 T hgm gm gml) H := by rw [hHe]; exact hP
  replace hS : va_S A s.heap H locs := by rw [hHe, hLe]; exact hS
  suffices hgo : W p l e rX10_oftenOf s m args below meth c H locs 0 0 Q (F0 m 0 ls []) by rw [hHe, hLe] at hgo; exact hgo
  clear hHe hLe
  refine lv_lconst (v := 1) hx hb dX10_oftenOf_0 (by decide) ?_
  refine lv_lstore_n (lv' := [(3, .long 1), (0, .ref (hgm 0)), (1, .int a1), (2, .int a2)]) hx hb dX10_oftenOf_1 rfl hl (by decide) rfl (fun ls hl => ?_)
  refine lv_iconst (v := 0) hx hb dX10_oftenOf_2 (by decide) ?_
  refine lv_istore (lv' := [(5, .int 0), (3, .long 1), (0, .ref (hgm 0)), (1, .int a1), (2, .int a2)]) hx hb dX10_oftenOf_3 hl (by decide) rfl (fun ls hl => ?_)
  obtain ⟨ex, hlp, hf⟩ := zB1_ok hf
  have hE5_64 : ∀ (v3 : Int64) , ex = v3 → ∀ (H : Heap) (locs : List Loc) (ls : Array Slot), va_P D vwCl (wX10 T hgm gm gml) H → va_D A (wX10 T hgm gm gml) → va_S A s.heap H locs → lv_has ls 6 [(3, .long v3)] → W p l e rX10_oftenOf s m args below meth c H locs 0 0 Q (F0 m 64 ls []) := by
    intro v3 hex H locs ls hP hD hS hl
    have hf := zEx1 hex hf
    refine lv_lload_n hx hb dX10_oftenOf_64 rfl (lv_at hl 0 rfl) ?_
    obtain ⟨q1, -⟩ := zI1 hf
    subst q1
    exact zRetL hQ hx hb hr hlocks hA0 hK hP hD hS rfl dX10_oftenOf_65
  refine zLpS2 (body := (fX10_oftenOf_L5 a1 a2 gm gml)) (b := ex) (fun (v1 : Int64) (v2 : Int32) => ∀ (H : Heap) (locs : List Loc) (ls : Array Slot), va_P D vwCl (wX10 T hgm gm gml) H → va_D A (wX10 T hgm gm gml) → va_S A s.heap H locs → lv_has ls 6 [(0, .ref (hgm 0)), (1, .int a1), (2, .int a2), (3, .long v1), (5, .int v2)] → W p l e rX10_oftenOf s m args below meth c H locs 0 0 Q (F0 m 5 ls [])) ?_ zFU 1 0 hlp H locs ls hP hD hS (lv_sub hl [2, 3, 4, 1, 0] rfl)
  intro v1 v2 z hf hzz H locs ls hP hD hS hl
  unfold fX10_oftenOf_L5 at hf
  replace hf := zUk2 hf
  refine lv_iload hx hb dX10_oftenOf_5 (lv_at hl 4 rfl) ?_
  refine lv_aload_n hx hb dX10_oftenOf_7 rfl (lv_at hl 0 rfl) ?_
  refine zGet (ci := 10) (C := RX10) (F := TX10) (N := 54) (v := .int (gm 0 2)) hx hb hts hiX10 hown hK hP 0 2 1 rfl rfl (by decide) rfl rfl rfl dX10_oftenOf_8 ?_
  refine lv_icmp_ge (tgt := 64) hx hb dX10_oftenOf_11 (by decide) (fun hc => ?_) (fun hc => ?_)
  · replace hf := zIf_t hc hf
    cases hf
    exact hE5_64 v1 hzz.symm H locs ls hP hD hS (lv_sub hl [3] rfl)
  · replace hf := zIf_f hc hf
    refine lv_iload_n hx hb dX10_oftenOf_14 rfl (lv_at hl 2 rfl) ?_
    refine lv_iload hx hb dX10_oftenOf_15 (lv_at hl 4 rfl) ?_
    refine lv_ishr hx hb dX10_oftenOf_17 ?_
    refine lv_iconst (v := 1) hx hb dX10_oftenOf_18 (by decide) ?_
    refine lv_iand hx hb dX10_oftenOf_19 ?_
    refine lv_iconst (v := 1) hx hb dX10_oftenOf_20 (by decide) ?_
    have hJ58 : ∀ (v4 : Int64) (H : Heap) (locs : List Loc) (ls : Array Slot), fX10_oftenOf_L5J58 v2 v4 = some z → va_P D vwCl (wX10 T hgm gm gml) H → va_D A (wX10 T hgm gm gml) → va_S A s.heap H locs → lv_has ls 6 [(0, .ref (hgm 0)), (1, .int a1), (2, .int a2), (3, .long v4), (5, .int v2)] → W p l e rX10_oftenOf s m args below meth c H locs 0 0 Q (F0 m 58 ls []) := by
      intro v4 H locs ls hf hP hD hS hl
      unfold fX10_oftenOf_L5J58 at hf
      obtain ⟨v5, ev5⟩ : ∃ y : Int32, y = v2 + 1 := ⟨_, rfl⟩
      replace hf := zLt_at ev5 hf
      refine lv_iinc (v := v5) (lv' := [(5, .int v5), (0, .ref (hgm 0)), (1, .int a1), (2, .int a2), (3, .long v4)]) hx hb dX10_oftenOf_58 hl (k := 4) rfl (by rw [ev5]; rfl) (by decide) rfl (fun ls hl => ?_)
      refine lv_goto (tgt := 5) hx hb dX10_oftenOf_61 (by decide) ?_
      cases hf
      exact hzz H locs ls hP hD hS (lv_sub hl [1, 2, 3, 4, 0] rfl)
    refine lv_icmp_ne (tgt := 58) hx hb dX10_oftenOf_21 (by decide) (fun hc => ?_) (fun hc => ?_)
    · replace hf := zIf_f hc hf
      exact hJ58 v1 H locs ls hf hP hD hS hl
    · replace hf := zIf_t hc hf
      refine lv_lload_n hx hb dX10_oftenOf_24 rfl (lv_at hl 3 rfl) ?_
      refine lv_iload_n hx hb dX10_oftenOf_25 rfl (lv_at hl 1 rfl) ?_
      refine lv_iload hx hb dX10_oftenOf_26 (lv_at hl 4 rfl) ?_
      refine lv_ishr hx hb dX10_oftenOf_28 ?_
      refine lv_iconst (v := 1) hx hb dX10_oftenOf_29 (by decide) ?_
      refine lv_iand hx hb dX10_oftenOf_30 ?_
      refine lv_iconst (v := 1) hx hb dX10_oftenOf_31 (by decide) ?_
      have hJ56 : ∀ (v6 : Int64) (v7 : Int64) (H : Heap) (locs : List Loc) (ls : Array Slot), fX10_oftenOf_L5J56 v2 v6 v7 = some z → va_P D vwCl (wX10 T hgm gm gml) H → va_D A (wX10 T hgm gm gml) → va_S A s.heap H locs → lv_has ls 6 [(0, .ref (hgm 0)), (1, .int a1), (2, .int a2), (5, .int v2)] → W p l e rX10_oftenOf s m args below meth c H locs 0 0 Q (F0 m 56 ls [.long v6, .long v7]) := by
        intro v6 v7 H locs ls hf hP hD hS hl
        unfold fX10_oftenOf_L5J56 at hf
        refine lv_lmul hx hb dX10_oftenOf_56 ?_
        refine lv_topl (fun v8 ev8 => ?_)
        replace hf := zLt_at ev8 hf
        refine lv_lstore_n (lv' := [(3, .long v8), (0, .ref (hgm 0)), (1, .int a1), (2, .int a2), (5, .int v2)]) hx hb dX10_oftenOf_57 rfl hl (by decide) rfl (fun ls hl => ?_)
        exact hJ58 v8 H locs ls hf hP hD hS (lv_sub hl [1, 2, 3, 0, 4] rfl)
      refine lv_icmp_ne (tgt := 46) hx hb dX10_oftenOf_32 (by decide) (fun hc => ?_) (fun hc => ?_)
      · replace hf := zIf_f hc hf
        refine lv_iconst (v := 4) hx hb dX10_oftenOf_46 (by decide) ?_
        refine lv_aload_n hx hb dX10_oftenOf_47 rfl (lv_at hl 0 rfl) ?_
        refine lv_iload hx hb dX10_oftenOf_48 (lv_at hl 4 rfl) ?_
        refine lv_iconst (v := 3) hx hb dX10_oftenOf_50 (by decide) ?_
        obtain ⟨v9, hc51, hf⟩ := zB1_ok hf
        refine zCallVEI [.int v2, .int 3] ⟨hx, hb, hml, hown, hts⟩ (pX10_its l D T X hgm H.size gm gml v2 3 v9 hc51) (cwV 2 hts gX10_oftenOf_X10_its rfl rfl rfl (by decide +kernel) ⟨Nat.le_of_ble_eq_true rfl, Nat.le_of_ble_eq_true rfl⟩) hK hP hD hS hA hX 0 rfl rfl rfl hl.1 rfl (Nat.le_of_ble_eq_true rfl) dX10_oftenOf_51 ⟨Nat.zero_le _, Nat.zero_le _⟩ (fun H locs hP hD hS => ?_)
        refine lv_isub hx hb dX10_oftenOf_54 ?_
        refine lv_i2l hx hb dX10_oftenOf_55 rfl ?_
        exact hJ56 ((4 - v9).toInt64) v1 H locs ls hf hP hD hS (lv_sub hl [0, 1, 2, 4] rfl)
      · replace hf := zIf_t hc hf
        refine lv_aload_n hx hb dX10_oftenOf_35 rfl (lv_at hl 0 rfl) ?_
        refine lv_iload hx hb dX10_oftenOf_36 (lv_at hl 4 rfl) ?_
        refine lv_iconst (v := 3) hx hb dX10_oftenOf_38 (by decide) ?_
        obtain ⟨v10, hc39, hf⟩ := zB1_ok hf
        refine zCallVEI [.int v2, .int 3] ⟨hx, hb, hml, hown, hts⟩ (pX10_its l D T X hgm H.size gm gml v2 3 v10 hc39) (cwV 2 hts gX10_oftenOf_X10_its rfl rfl rfl (by decide +kernel) ⟨Nat.le_of_ble_eq_true rfl, Nat.le_of_ble_eq_true rfl⟩) hK hP hD hS hA hX 0 rfl rfl rfl hl.1 rfl (Nat.le_of_ble_eq_true rfl) dX10_oftenOf_39 ⟨Nat.zero_le _, Nat.zero_le _⟩ (fun H locs hP hD hS => ?_)
        refine lv_i2l hx hb dX10_oftenOf_42 rfl ?_
        refine lv_goto (tgt := 56) hx hb dX10_oftenOf_43 (by decide) ?_
        exact hJ56 (v10.toInt64) v1 H locs ls hf hP hD hS (lv_sub hl [0, 1, 2, 4] rfl)
set_option maxHeartbeats 4000000 in
set_option maxRecDepth 100000 in
theorem pX10_isSeen (l : Launch) (D : va_G) (T : Nat → ClassId) (X : zFP) (hgm : Nat → Nat) (sz : Nat) (gm : zM) (gml : zL) (a1 : Int32) (r : Int32) (hf : fX10_isSeen gm gml a1 = some r) : Met l yX10_isSeen wsX10_isSeen rX10_isSeen (zPre D T X [.ref (hgm 0), .int a1] (wX10 T hgm gm gml) sz) (zQi D T r (wX10 T hgm gm gml) (wX10 T hgm gm gml) sz) 0 0 (va_A (wX10 T hgm gm gml) sz) := by
  unfold fX10_isSeen at hf
  refine zStart [(0, .ref (hgm 0)), (1, .int a1)] (by decide) rfl (Nat.le_of_ble_eq_true rfl) rfl ?_
  intro p e s m args below meth c A Q ls hx hb hr hml hown hlocks hts hsz hA0 hQ hA hK hX hP hD hS hl
  replace hown : s.vm.findClass RX10 = some m.cls := hown
  have hH := hsz
  have hiX10 : ∀ w ∈ u_ws RX10 TX10 54, w ∈ wsX10_isSeen := fun w h => List.mem_cons_of_mem _ (List.mem_append_right _ (h))
  obtain ⟨H, hHe⟩ : ∃ H : Heap, H = s.heap := ⟨_, rfl⟩
  obtain ⟨locs, hLe⟩ : ∃ L : List Loc, L = [] := ⟨_, rfl⟩
  replace hP : va_P D vwCl (wX10 T hgm gm gml) H := by rw [hHe]; exact hP
  replace hS : va_S A s.heap H locs := by rw [hHe, hLe]; exact hS
  suffices hgo : W p l e rX10_isSeen s m args below meth c H locs 0 0 Q (F0 m 0 ls []) by rw [hHe, hLe] at hgo; exact hgo
  clear hHe hLe
  refine lv_iconst (v := 0) hx hb dX10_isSeen_0 (by decide) ?_
  refine lv_istore_n (lv' := [(2, .int 0), (0, .ref (hgm 0)), (1, .int a1)]) hx hb dX10_isSeen_1 rfl hl (by decide) rfl (fun ls hl => ?_)
  obtain ⟨ex, hlp, hf⟩ := zB1_ok hf
  have hE2_43 : ex = (.inl ()) → ∀ (H : Heap) (locs : List Loc) (ls : Array Slot), va_P D vwCl (wX10 T hgm gm gml) H → va_D A (wX10 T hgm gm gml) → va_S A s.heap H locs → lv_has ls 3 [] → W p l e rX10_isSeen s m args below meth c H locs 0 0 Q (F0 m 43 ls []) := by
    intro hex H locs ls hP hD hS hl
    have hf := zExL0 hex hf
    refine lv_iconst (v := 1) hx hb dX10_isSeen_43 (by decide) ?_
    obtain ⟨q1, -⟩ := zI1 hf
    subst q1
    exact zRetZ hQ hx hb hr hlocks hA0 hK hP hD hS (by decide) rfl dX10_isSeen_44
  have hE2_35 : ex = (.inr ()) → ∀ (H : Heap) (locs : List Loc) (ls : Array Slot), va_P D vwCl (wX10 T hgm gm gml) H → va_D A (wX10 T hgm gm gml) → va_S A s.heap H locs → lv_has ls 3 [] → W p l e rX10_isSeen s m args below meth c H locs 0 0 Q (F0 m 35 ls []) := by
    intro hex H locs ls hP hD hS hl
    have hf := zSmR hex hf
    have hf := zEx0 rfl hf
    refine lv_iconst (v := 0) hx hb dX10_isSeen_35 (by decide) ?_
    obtain ⟨q1, -⟩ := zI1 hf
    subst q1
    exact zRetZ hQ hx hb hr hlocks hA0 hK hP hD hS (by decide) rfl dX10_isSeen_36
  refine zLpS1 (body := (fX10_isSeen_L2 a1 gm)) (b := ex) (fun (v1 : Int32) => ∀ (H : Heap) (locs : List Loc) (ls : Array Slot), va_P D vwCl (wX10 T hgm gm gml) H → va_D A (wX10 T hgm gm gml) → va_S A s.heap H locs → lv_has ls 3 [(0, .ref (hgm 0)), (1, .int a1), (2, .int v1)] → W p l e rX10_isSeen s m args below meth c H locs 0 0 Q (F0 m 2 ls [])) ?_ zFU 0 hlp H locs ls hP hD hS (lv_sub hl [1, 2, 0] rfl)
  intro v1 z hf hzz H locs ls hP hD hS hl
  unfold fX10_isSeen_L2 at hf
  replace hf := zUk1 hf
  refine lv_iload_n hx hb dX10_isSeen_2 rfl (lv_at hl 2 rfl) ?_
  refine lv_aload_n hx hb dX10_isSeen_3 rfl (lv_at hl 0 rfl) ?_
  refine zGet (ci := 10) (C := RX10) (F := TX10) (N := 54) (v := .int (gm 0 0)) hx hb hts hiX10 hown hK hP 0 0 1 rfl rfl (by decide) rfl rfl rfl dX10_isSeen_4 ?_
  refine lv_icmp_ge (tgt := 43) hx hb dX10_isSeen_7 (by decide) (fun hc => ?_) (fun hc => ?_)
  · replace hf := zIf_t hc hf
    cases hf
    exact hE2_43 hzz.symm H locs ls hP hD hS (lv_sub hl [] rfl)
  · replace hf := zIf_f hc hf
    refine lv_aload_n hx hb dX10_isSeen_10 rfl (lv_at hl 0 rfl) ?_
    refine zGet (ci := 10) (C := RX10) (F := TX10) (N := 54) (v := .ref (hgm 4)) hx hb hts hiX10 hown hK hP 0 6 2 rfl rfl (by decide) rfl rfl rfl dX10_isSeen_11 ?_
    refine lv_iload_n hx hb dX10_isSeen_14 rfl (lv_at hl 2 rfl) ?_
    obtain ⟨hg, hf⟩ := zGd_ok hf
    refine zAldI hx hb hK hP 4 rfl hg dX10_isSeen_15 (fun v2 ev2 => ?_)
    replace hf := zLt_at ev2 hf
    have hJ37 : ∀ (H : Heap) (locs : List Loc) (ls : Array Slot), fX10_isSeen_L2J37 v1 = some z → va_P D vwCl (wX10 T hgm gm gml) H → va_D A (wX10 T hgm gm gml) → va_S A s.heap H locs → lv_has ls 3 [(0, .ref (hgm 0)), (1, .int a1), (2, .int v1)] → W p l e rX10_isSeen s m args below meth c H locs 0 0 Q (F0 m 37 ls []) := by
      intro H locs ls hf hP hD hS hl
      unfold fX10_isSeen_L2J37 at hf
      obtain ⟨v3, ev3⟩ : ∃ y : Int32, y = v1 + 1 := ⟨_, rfl⟩
      replace hf := zLt_at ev3 hf
      refine lv_iinc (v := v3) (lv' := [(2, .int v3), (0, .ref (hgm 0)), (1, .int a1)]) hx hb dX10_isSeen_37 hl (k := 2) rfl (by rw [ev3]; rfl) (by decide) rfl (fun ls hl => ?_)
      refine lv_goto (tgt := 2) hx hb dX10_isSeen_40 (by decide) ?_
      cases hf
      exact hzz H locs ls hP hD hS (lv_sub hl [1, 2, 0] rfl)
    refine lv_if_le (tgt := 37) hx hb dX10_isSeen_16 (by decide) (fun hc => ?_) (fun hc => ?_)
    · replace hf := zIf_t hc hf
      exact hJ37 H locs ls hf hP hD hS hl
    · replace hf := zIf_f hc hf
      refine lv_iload_n hx hb dX10_isSeen_19 rfl (lv_at hl 1 rfl) ?_
      refine lv_iload_n hx hb dX10_isSeen_20 rfl (lv_at hl 2 rfl) ?_
      refine lv_ishr hx hb dX10_isSeen_21 ?_
      refine lv_iconst (v := 1) hx hb dX10_isSeen_22 (by decide) ?_
      refine lv_iand hx hb dX10_isSeen_23 ?_
      refine lv_aload_n hx hb dX10_isSeen_24 rfl (lv_at hl 0 rfl) ?_
      refine zGet (ci := 10) (C := RX10) (F := TX10) (N := 54) (v := .ref (hgm 4)) hx hb hts hiX10 hown hK hP 0 6 2 rfl rfl (by decide) rfl rfl rfl dX10_isSeen_25 ?_
      refine lv_iload_n hx hb dX10_isSeen_28 rfl (lv_at hl 2 rfl) ?_
      obtain ⟨hg, hf⟩ := zGd_ok hf
      refine zAldI hx hb hK hP 4 rfl hg dX10_isSeen_29 (fun v4 ev4 => ?_)
      replace hf := zLt_at ev4 hf
      refine lv_iconst (v := 1) hx hb dX10_isSeen_30 (by decide) ?_
      refine lv_isub hx hb dX10_isSeen_31 ?_
      refine lv_icmp_eq (tgt := 37) hx hb dX10_isSeen_32 (by decide) (fun hc => ?_) (fun hc => ?_)
      · replace hf := zIf_t hc hf
        exact hJ37 H locs ls hf hP hD hS hl
      · replace hf := zIf_f hc hf
        cases hf
        exact hE2_35 hzz.symm H locs ls hP hD hS (lv_sub hl [] rfl)
set_option maxHeartbeats 4000000 in
set_option maxRecDepth 100000 in
theorem pX10_findTale (l : Launch) (D : va_G) (T : Nat → ClassId) (X : zFP) (hgm : Nat → Nat) (sz : Nat) (gm : zM) (gml : zL) (ngml : zL) (hf : fX10_findTale gm gml = some ngml) : Met l yX10_findTale wsX10_findTale rX10_findTale (zPre D T X [.ref (hgm 0)] (wX10 T hgm gm gml) sz) (zQv D T (wX10 T hgm gm ngml) (wX10 T hgm gm gml) sz) 0 0 (va_A (wX10 T hgm gm gml) sz) := by
  unfold fX10_findTale at hf
  refine zStart [(0, .ref (hgm 0))] (by decide) rfl (Nat.le_of_ble_eq_true rfl) rfl ?_
  intro p e s m args below meth c A Q ls hx hb hr hml hown hlocks hts hsz hA0 hQ hA hK hX hP hD hS hl
  replace hown : s.vm.findClass RX10 = some m.cls := hown
  have hH := hsz
  have hiX10 : ∀ w ∈ u_ws RX10 TX10 54, w ∈ wsX10_findTale := fun w h => List.mem_cons_of_mem _ (List.mem_append_right _ (h))
  obtain ⟨H, hHe⟩ : ∃ H : Heap, H = s.heap := ⟨_, rfl⟩
  obtain ⟨locs, hLe⟩ : ∃ L : List Loc, L = [] := ⟨_, rfl⟩
  replace hP : va_P D vwCl (wX10 T hgm gm gml) H := by rw [hHe]; exact hP
  replace hS : va_S A s.heap H locs := by rw [hHe, hLe]; exact hS
  suffices hgo : W p l e rX10_findTale s m args below meth c H locs 0 0 Q (F0 m 0 ls []) by rw [hHe, hLe] at hgo; exact hgo
  clear hHe hLe
  refine lv_aload_n hx hb dX10_findTale_0 rfl (lv_at hl 0 rfl) ?_
  obtain ⟨v1, hc1, hf⟩ := zB1_ok hf
  refine zCallVEI [] ⟨hx, hb, hml, hown, hts⟩ (pX10_unsure l D T X hgm H.size gm gml v1 hc1) (cwV 0 hts gX10_findTale_X10_unsure rfl rfl rfl (by decide +kernel) ⟨Nat.le_of_ble_eq_true rfl, Nat.le_of_ble_eq_true rfl⟩) hK hP hD hS hA hX 0 rfl rfl rfl hl.1 rfl (Nat.le_of_ble_eq_true rfl) dX10_findTale_1 ⟨Nat.zero_le _, Nat.zero_le _⟩ (fun H locs hP hD hS => ?_)
  refine lv_istore_n (lv' := [(1, .int v1), (0, .ref (hgm 0))]) hx hb dX10_findTale_4 rfl hl (by decide) rfl (fun ls hl => ?_)
  refine lv_aload_n hx hb dX10_findTale_5 rfl (lv_at hl 1 rfl) ?_
  refine lv_iconst (v := 0) hx hb dX10_findTale_6 (by decide) ?_
  obtain ⟨v2, hc7, hf⟩ := zB1_ok hf
  refine zCallVEI [.int 0] ⟨hx, hb, hml, hown, hts⟩ (pX10_openOn l D T X hgm H.size gm gml 0 v2 hc7) (cwV 1 hts gX10_findTale_X10_openOn rfl rfl rfl (by decide +kernel) ⟨Nat.le_of_ble_eq_true rfl, Nat.le_of_ble_eq_true rfl⟩) hK hP hD hS hA hX 0 rfl rfl rfl hl.1 rfl (Nat.le_of_ble_eq_true rfl) dX10_findTale_7 ⟨Nat.zero_le _, Nat.zero_le _⟩ (fun H locs hP hD hS => ?_)
  refine lv_iload_n hx hb dX10_findTale_10 rfl (lv_at hl 0 rfl) ?_
  refine lv_iconst (v := (-1)) hx hb dX10_findTale_11 (by decide) ?_
  refine lv_ixor hx hb dX10_findTale_12 ?_
  refine lv_iand hx hb dX10_findTale_13 ?_
  refine lv_topi (fun v3 ev3 => ?_)
  replace hf := zLt_at ev3 hf
  refine lv_istore_n (lv' := [(2, .int v3), (1, .int v1), (0, .ref (hgm 0))]) hx hb dX10_findTale_14 rfl hl (by decide) rfl (fun ls hl => ?_)
  refine lv_iconst (v := 0) hx hb dX10_findTale_15 (by decide) ?_
  refine lv_istore_n (lv' := [(3, .int 0), (2, .int v3), (1, .int v1), (0, .ref (hgm 0))]) hx hb dX10_findTale_16 rfl hl (by decide) rfl (fun ls hl => ?_)
  obtain ⟨ex, hlp, hf⟩ := zB1_ok hf
  have hE17_45 : ∀ (gmL_6 : zL) , ex = gmL_6 → ∀ (H : Heap) (locs : List Loc) (ls : Array Slot), va_P D vwCl (wX10 T hgm gm gmL_6) H → va_D A (wX10 T hgm gm gmL_6) → va_S A s.heap H locs → lv_has ls 10 [(0, .ref (hgm 0)), (1, .int v1), (2, .int v3)] → W p l e rX10_findTale s m args below meth c H locs 0 0 Q (F0 m 45 ls []) := by
    intro gmL_6 hex H locs ls hP hD hS hl
    have hf := zEx1 hex hf
    refine lv_iload_n hx hb dX10_findTale_45 rfl (lv_at hl 1 rfl) ?_
    refine lv_istore_n (lv' := [(3, .int v1), (0, .ref (hgm 0)), (1, .int v1), (2, .int v3)]) hx hb dX10_findTale_46 rfl hl (by decide) rfl (fun ls hl => ?_)
    refine lv_iconst (v := 1) hx hb dX10_findTale_47 (by decide) ?_
    refine lv_istore (lv' := [(4, .int 1), (3, .int v1), (0, .ref (hgm 0)), (1, .int v1), (2, .int v3)]) hx hb dX10_findTale_48 hl (by decide) rfl (fun ls hl => ?_)
    obtain ⟨ex, hlp, hf⟩ := zB1_ok hf
    have hE50_206 : ∀ (gmL_13 : zL) , ex = gmL_13 → ∀ (H : Heap) (locs : List Loc) (ls : Array Slot), va_P D vwCl (wX10 T hgm gm gmL_13) H → va_D A (wX10 T hgm gm gmL_13) → va_S A s.heap H locs → lv_has ls 10 [] → W p l e rX10_findTale s m args below meth c H locs 0 0 Q (F0 m 206 ls []) := by
      intro gmL_13 hex H locs ls hP hD hS hl
      have hf := zEx1 hex hf
      obtain ⟨q1, -⟩ := zI1 hf
      subst q1
      exact zRetV hQ hx hb hr hlocks hA0 hK hP hD hS dX10_findTale_206
    refine zLpS3 (body := (fX10_findTale_L50 gm v1 v3)) (b := ex) (fun (v10 : Int32) (v11 : Int32) (gmL_12 : zL) => ∀ (H : Heap) (locs : List Loc) (ls : Array Slot), va_P D vwCl (wX10 T hgm gm gmL_12) H → va_D A (wX10 T hgm gm gmL_12) → va_S A s.heap H locs → lv_has ls 10 [(0, .ref (hgm 0)), (1, .int v1), (2, .int v3), (3, .int v10), (4, .int v11)] → W p l e rX10_findTale s m args below meth c H locs 0 0 Q (F0 m 50 ls [])) ?_ zFU v1 1 gmL_6 hlp H locs ls hP hD hS (lv_sub hl [2, 3, 4, 1, 0] rfl)
    intro v10 v11 gmL_12 z hf hzz H locs ls hP hD hS hl
    unfold fX10_findTale_L50 at hf
    replace hf := zUk3 hf
    refine lv_iload hx hb dX10_findTale_50 (lv_at hl 4 rfl) ?_
    refine lv_if_eq (tgt := 206) hx hb dX10_findTale_52 (by decide) (fun hc => ?_) (fun hc => ?_)
    · replace hf := zIf_t hc hf
      cases hf
      exact hE50_206 gmL_12 hzz.symm H locs ls hP hD hS (lv_sub hl [] rfl)
    · replace hf := zIf_f hc hf
      refine lv_aload_n hx hb dX10_findTale_55 rfl (lv_at hl 0 rfl) ?_
      refine lv_iload_n hx hb dX10_findTale_56 rfl (lv_at hl 3 rfl) ?_
      refine lv_iload_n hx hb dX10_findTale_57 rfl (lv_at hl 1 rfl) ?_
      obtain ⟨v14, hc58, hf⟩ := zB1_ok hf
      refine zCallVEL [.int v10, .int v1] ⟨hx, hb, hml, hown, hts⟩ (pX10_oftenOf l D T X hgm H.size gm gmL_12 v10 v1 v14 hc58) (cwV 2 hts gX10_findTale_X10_oftenOf rfl rfl rfl (by decide +kernel) ⟨Nat.le_of_ble_eq_true rfl, Nat.le_of_ble_eq_true rfl⟩) hK hP hD hS hA hX 0 rfl rfl rfl hl.1 rfl (Nat.le_of_ble_eq_true rfl) dX10_findTale_58 ⟨Nat.zero_le _, Nat.zero_le _⟩ (fun H locs hP hD hS => ?_)
      refine lv_lstore (lv' := [(5, .long v14), (0, .ref (hgm 0)), (1, .int v1), (2, .int v3), (3, .int v10), (4, .int v11)]) hx hb dX10_findTale_61 hl (by decide) rfl (fun ls hl => ?_)
      refine lv_iconst (v := 0) hx hb dX10_findTale_63 (by decide) ?_
      refine lv_istore (lv' := [(7, .int 0), (5, .long v14), (0, .ref (hgm 0)), (1, .int v1), (2, .int v3), (3, .int v10), (4, .int v11)]) hx hb dX10_findTale_64 hl (by decide) rfl (fun ls hl => ?_)
      obtain ⟨ex, hlp, hf⟩ := zB1_ok hf
      have hE66_186 : ∀ (gmL_17 : zL) , ex = gmL_17 → ∀ (H : Heap) (locs : List Loc) (ls : Array Slot), va_P D vwCl (wX10 T hgm gm gmL_17) H → va_D A (wX10 T hgm gm gmL_17) → va_S A s.heap H locs → lv_has ls 10 [(0, .ref (hgm 0)), (1, .int v1), (2, .int v3), (3, .int v10)] → W p l e rX10_findTale s m args below meth c H locs 0 0 Q (F0 m 186 ls []) := by
        intro gmL_17 hex H locs ls hP hD hS hl
        have hf := zEx1 hex hf
        refine lv_iload_n hx hb dX10_findTale_186 rfl (lv_at hl 3 rfl) ?_
        have hJ195 : ∀ (v40 : Int32) (H : Heap) (locs : List Loc) (ls : Array Slot), fX10_findTale_L50J195 v1 v10 gmL_17 v40 = some z → va_P D vwCl (wX10 T hgm gm gmL_17) H → va_D A (wX10 T hgm gm gmL_17) → va_S A s.heap H locs → lv_has ls 10 [(0, .ref (hgm 0)), (1, .int v1), (2, .int v3), (3, .int v10)] → W p l e rX10_findTale s m args below meth c H locs 0 0 Q (F0 m 195 ls [.int v40]) := by
          intro v40 H locs ls hf hP hD hS hl
          unfold fX10_findTale_L50J195 at hf
          refine lv_istore (lv' := [(4, .int v40), (0, .ref (hgm 0)), (1, .int v1), (2, .int v3), (3, .int v10)]) hx hb dX10_findTale_195 hl (by decide) rfl (fun ls hl => ?_)
          refine lv_iload_n hx hb dX10_findTale_197 rfl (lv_at hl 4 rfl) ?_
          refine lv_iconst (v := 1) hx hb dX10_findTale_198 (by decide) ?_
          refine lv_isub hx hb dX10_findTale_199 ?_
          refine lv_iload_n hx hb dX10_findTale_200 rfl (lv_at hl 2 rfl) ?_
          refine lv_iand hx hb dX10_findTale_201 ?_
          refine lv_topi (fun v41 ev41 => ?_)
          replace hf := zLt_at ev41 hf
          refine lv_istore_n (lv' := [(3, .int v41), (4, .int v40), (0, .ref (hgm 0)), (1, .int v1), (2, .int v3)]) hx hb dX10_findTale_202 rfl hl (by decide) rfl (fun ls hl => ?_)
          refine lv_goto (tgt := 50) hx hb dX10_findTale_203 (by decide) ?_
          cases hf
          exact hzz H locs ls hP hD hS (lv_sub hl [2, 3, 4, 0, 1] rfl)
        refine lv_if_eq (tgt := 194) hx hb dX10_findTale_187 (by decide) (fun hc => ?_) (fun hc => ?_)
        · replace hf := zIf_t hc hf
          refine lv_iconst (v := 0) hx hb dX10_findTale_194 (by decide) ?_
          exact hJ195 0 H locs ls hf hP hD hS hl
        · replace hf := zIf_f hc hf
          refine lv_iconst (v := 1) hx hb dX10_findTale_190 (by decide) ?_
          refine lv_goto (tgt := 195) hx hb dX10_findTale_191 (by decide) ?_
          exact hJ195 1 H locs ls hf hP hD hS hl
      refine zLpS2 (body := (fX10_findTale_L66 gm v3 v10 v14)) (b := ex) (fun (v15 : Int32) (gmL_16 : zL) => ∀ (H : Heap) (locs : List Loc) (ls : Array Slot), va_P D vwCl (wX10 T hgm gm gmL_16) H → va_D A (wX10 T hgm gm gmL_16) → va_S A s.heap H locs → lv_has ls 10 [(0, .ref (hgm 0)), (1, .int v1), (2, .int v3), (3, .int v10), (5, .long v14), (7, .int v15)] → W p l e rX10_findTale s m args below meth c H locs 0 0 Q (F0 m 66 ls [])) ?_ zFU 0 gmL_12 hlp H locs ls hP hD hS (lv_sub hl [2, 3, 4, 5, 1, 0] rfl)
      intro v15 gmL_16 z hf hzz H locs ls hP hD hS hl
      unfold fX10_findTale_L66 at hf
      replace hf := zUk2 hf
      refine lv_iload hx hb dX10_findTale_66 (lv_at hl 5 rfl) ?_
      refine lv_aload_n hx hb dX10_findTale_68 rfl (lv_at hl 0 rfl) ?_
      refine zGet (ci := 10) (C := RX10) (F := TX10) (N := 54) (v := .int (gm 0 0)) hx hb hts hiX10 hown hK hP 0 0 1 rfl rfl (by decide) rfl rfl rfl dX10_findTale_69 ?_
      refine lv_icmp_ge (tgt := 186) hx hb dX10_findTale_72 (by decide) (fun hc => ?_) (fun hc => ?_)
      · replace hf := zIf_t hc hf
        cases hf
        exact hE66_186 gmL_16 hzz.symm H locs ls hP hD hS (lv_sub hl [0, 1, 2, 3] rfl)
      · replace hf := zIf_f hc hf
        refine lv_aload_n hx hb dX10_findTale_75 rfl (lv_at hl 0 rfl) ?_
        refine lv_iconst (v := 1) hx hb dX10_findTale_76 (by decide) ?_
        refine lv_iload hx hb dX10_findTale_77 (lv_at hl 5 rfl) ?_
        refine lv_ishl hx hb dX10_findTale_79 ?_
        refine lv_iload_n hx hb dX10_findTale_80 rfl (lv_at hl 2 rfl) ?_
        refine lv_iload_n hx hb dX10_findTale_81 rfl (lv_at hl 3 rfl) ?_
        refine lv_ior hx hb dX10_findTale_82 ?_
        refine lv_aload_n hx hb dX10_findTale_83 rfl (lv_at hl 0 rfl) ?_
        obtain ⟨v18, hc84, hf⟩ := zB1_ok hf
        refine zCallVEI [] ⟨hx, hb, hml, hown, hts⟩ (pX10_all l D T X hgm H.size gm gmL_16 v18 hc84) (cwV 0 hts gX10_findTale_X10_all rfl rfl rfl (by decide +kernel) ⟨Nat.le_of_ble_eq_true rfl, Nat.le_of_ble_eq_true rfl⟩) hK hP hD hS hA hX 0 rfl rfl rfl hl.1 rfl (Nat.le_of_ble_eq_true rfl) dX10_findTale_84 ⟨Nat.zero_le _, Nat.zero_le _⟩ (fun H locs hP hD hS => ?_)
        obtain ⟨v19, hc87, hf⟩ := zB1_ok hf
        refine zCallVEI [.int ((1 : Int32) <<< (v15 &&& 31)), .int (v3 ||| v10), .int v18] ⟨hx, hb, hml, hown, hts⟩ (pX10_joinedBy l D T X hgm H.size gm gmL_16 ((1 : Int32) <<< (v15 &&& 31)) (v3 ||| v10) v18 v19 hc87) (cwV 3 hts gX10_findTale_X10_joinedBy rfl rfl rfl (by decide +kernel) ⟨Nat.le_of_ble_eq_true rfl, Nat.le_of_ble_eq_true rfl⟩) hK hP hD hS hA hX 0 rfl rfl rfl hl.1 rfl (Nat.le_of_ble_eq_true rfl) dX10_findTale_87 ⟨Nat.zero_le _, Nat.zero_le _⟩ (fun H locs hP hD hS => ?_)
        refine lv_istore (lv' := [(8, .int v19), (0, .ref (hgm 0)), (1, .int v1), (2, .int v3), (3, .int v10), (5, .long v14), (7, .int v15)]) hx hb dX10_findTale_90 hl (by decide) rfl (fun ls hl => ?_)
        refine lv_iconst (v := 0) hx hb dX10_findTale_92 (by decide) ?_
        refine lv_istore (lv' := [(9, .int 0), (8, .int v19), (0, .ref (hgm 0)), (1, .int v1), (2, .int v3), (3, .int v10), (5, .long v14), (7, .int v15)]) hx hb dX10_findTale_93 hl (by decide) rfl (fun ls hl => ?_)
        obtain ⟨ex, hlp, hf⟩ := zB1_ok hf
        have hE95_146 : ∀ (gmL_22 : zL) , ex = gmL_22 → ∀ (H : Heap) (locs : List Loc) (ls : Array Slot), va_P D vwCl (wX10 T hgm gm gmL_22) H → va_D A (wX10 T hgm gm gmL_22) → va_S A s.heap H locs → lv_has ls 10 [(0, .ref (hgm 0)), (1, .int v1), (2, .int v3), (3, .int v10), (5, .long v14), (7, .int v15), (8, .int v19)] → W p l e rX10_findTale s m args below meth c H locs 0 0 Q (F0 m 146 ls []) := by
          intro gmL_22 hex H locs ls hP hD hS hl
          have hf := zEx1 hex hf
          refine lv_aload_n hx hb dX10_findTale_146 rfl (lv_at hl 0 rfl) ?_
          refine zGet (ci := 10) (C := RX10) (F := TX10) (N := 54) (v := .ref (hgm 10)) hx hb hts hiX10 hown hK hP 0 24 3 rfl rfl (by decide) rfl rfl rfl dX10_findTale_147 ?_
          refine lv_iload hx hb dX10_findTale_150 (lv_at hl 5 rfl) ?_
          refine lv_dup2_11 hx hb dX10_findTale_152 rfl rfl ?_
          obtain ⟨hg, hf⟩ := zGd_ok hf
          refine zAldL hx hb hK hP 10 rfl hg dX10_findTale_153 (fun v31 ev31 => ?_)
          replace hf := zLt_at ev31 hf
          refine lv_aload_n hx hb dX10_findTale_154 rfl (lv_at hl 0 rfl) ?_
          refine lv_iload hx hb dX10_findTale_155 (lv_at hl 6 rfl) ?_
          obtain ⟨v32, hc157, hf⟩ := zB1_ok hf
          refine zCallVEI [.int v19] ⟨hx, hb, hml, hown, hts⟩ (pX10_isSeen l D T X hgm H.size gm gmL_22 v19 v32 hc157) (cwV 1 hts gX10_findTale_X10_isSeen rfl rfl rfl (by decide +kernel) ⟨Nat.le_of_ble_eq_true rfl, Nat.le_of_ble_eq_true rfl⟩) hK hP hD hS hA hX 0 rfl rfl rfl hl.1 rfl (Nat.le_of_ble_eq_true rfl) dX10_findTale_157 ⟨Nat.zero_le _, Nat.zero_le _⟩ (fun H locs hP hD hS => ?_)
          have hJ178 : ∀ (v33 : Int64) (v34 : Int64) (v35 : Int32) (H : Heap) (locs : List Loc) (ls : Array Slot), fX10_findTale_L66J178 v15 gmL_22 v33 v34 v35 = some z → va_P D vwCl (wX10 T hgm gm gmL_22) H → va_D A (wX10 T hgm gm gmL_22) → va_S A s.heap H locs → lv_has ls 10 [(0, .ref (hgm 0)), (1, .int v1), (2, .int v3), (3, .int v10), (5, .long v14), (7, .int v15)] → W p l e rX10_findTale s m args below meth c H locs 0 0 Q (F0 m 178 ls [.long v33, .long v34, .int v35, .ref (hgm 10)]) := by
            intro v33 v34 v35 H locs ls hf hP hD hS hl
            unfold fX10_findTale_L66J178 at hf
            refine lv_ladd hx hb dX10_findTale_178 ?_
            refine lv_topl (fun v36 ev36 => ?_)
            replace hf := zLt_at ev36 hf
            obtain ⟨hg, hf⟩ := zGd_ok hf
            refine zAstL (w := gmL_22) hx hb hK hP hD hS (fun g => wX10 T hgm gm g) 10 10 rfl hg rfl dX10_findTale_179 (fun gmL_37 egmL_37 H locs hP hD hS => ?_)
            replace hP : va_P D vwCl (wX10 T hgm gm gmL_37) H := hP
            replace hD : va_D A (wX10 T hgm gm gmL_37) := hD
            replace hf := zLt_at egmL_37 hf
            obtain ⟨v38, ev38⟩ : ∃ y : Int32, y = v15 + 1 := ⟨_, rfl⟩
            replace hf := zLt_at ev38 hf
            refine lv_iinc (v := v38) (lv' := [(7, .int v38), (0, .ref (hgm 0)), (1, .int v1), (2, .int v3), (3, .int v10), (5, .long v14)]) hx hb dX10_findTale_180 hl (k := 5) rfl (by rw [ev38]; rfl) (by decide) rfl (fun ls hl => ?_)
            refine lv_goto (tgt := 66) hx hb dX10_findTale_183 (by decide) ?_
            cases hf
            exact hzz H locs ls hP hD hS (lv_sub hl [1, 2, 3, 4, 5, 0] rfl)
          refine lv_if_eq (tgt := 177) hx hb dX10_findTale_160 (by decide) (fun hc => ?_) (fun hc => ?_)
          · replace hf := zIf_t hc hf
            refine lv_lconst (v := 0) hx hb dX10_findTale_177 (by decide) ?_
            exact hJ178 0 v31 v15 H locs ls hf hP hD hS (lv_sub hl [0, 1, 2, 3, 4, 5] rfl)
          · replace hf := zIf_f hc hf
            refine lv_lload hx hb dX10_findTale_163 (lv_at hl 4 rfl) ?_
            refine lv_aload_n hx hb dX10_findTale_165 rfl (lv_at hl 0 rfl) ?_
            refine zGet (ci := 10) (C := RX10) (F := TX10) (N := 54) (v := .ref (hgm 1)) hx hb hts hiX10 hown hK hP 0 1 4 rfl rfl (by decide) rfl rfl rfl dX10_findTale_166 ?_
            refine lv_iload hx hb dX10_findTale_169 (lv_at hl 5 rfl) ?_
            obtain ⟨hg, hf⟩ := zGd_ok hf
            refine zAldI hx hb hK hP 1 rfl hg dX10_findTale_171 (fun v39 ev39 => ?_)
            replace hf := zLt_at ev39 hf
            refine lv_i2l hx hb dX10_findTale_172 rfl ?_
            refine lv_lmul hx hb dX10_findTale_173 ?_
            refine lv_goto (tgt := 178) hx hb dX10_findTale_174 (by decide) ?_
            exact hJ178 (v14 * (v39.toInt64)) v31 v15 H locs ls hf hP hD hS (lv_sub hl [0, 1, 2, 3, 4, 5] rfl)
        refine zLpS2 (body := (fX10_findTale_L95 gm v14 v15 v19)) (b := ex) (fun (v20 : Int32) (gmL_21 : zL) => ∀ (H : Heap) (locs : List Loc) (ls : Array Slot), va_P D vwCl (wX10 T hgm gm gmL_21) H → va_D A (wX10 T hgm gm gmL_21) → va_S A s.heap H locs → lv_has ls 10 [(0, .ref (hgm 0)), (1, .int v1), (2, .int v3), (3, .int v10), (5, .long v14), (7, .int v15), (8, .int v19), (9, .int v20)] → W p l e rX10_findTale s m args below meth c H locs 0 0 Q (F0 m 95 ls [])) ?_ zFU 0 gmL_16 hlp H locs ls hP hD hS (lv_sub hl [2, 3, 4, 5, 6, 7, 1, 0] rfl)
        intro v20 gmL_21 z hf hzz H locs ls hP hD hS hl
        unfold fX10_findTale_L95 at hf
        replace hf := zUk2 hf
        refine lv_iload hx hb dX10_findTale_95 (lv_at hl 7 rfl) ?_
        refine lv_aload_n hx hb dX10_findTale_97 rfl (lv_at hl 0 rfl) ?_
        refine zGet (ci := 10) (C := RX10) (F := TX10) (N := 54) (v := .int (gm 0 0)) hx hb hts hiX10 hown hK hP 0 0 1 rfl rfl (by decide) rfl rfl rfl dX10_findTale_98 ?_
        refine lv_icmp_ge (tgt := 146) hx hb dX10_findTale_101 (by decide) (fun hc => ?_) (fun hc => ?_)
        · replace hf := zIf_t hc hf
          cases hf
          exact hE95_146 gmL_21 hzz.symm H locs ls hP hD hS (lv_sub hl [0, 1, 2, 3, 4, 5, 6] rfl)
        · replace hf := zIf_f hc hf
          refine lv_aload_n hx hb dX10_findTale_104 rfl (lv_at hl 0 rfl) ?_
          refine zGet (ci := 10) (C := RX10) (F := TX10) (N := 54) (v := .ref (hgm 9)) hx hb hts hiX10 hown hK hP 0 23 2 rfl rfl (by decide) rfl rfl rfl dX10_findTale_105 ?_
          refine lv_iload hx hb dX10_findTale_108 (lv_at hl 7 rfl) ?_
          refine lv_dup2_11 hx hb dX10_findTale_110 rfl rfl ?_
          obtain ⟨hg, hf⟩ := zGd_ok hf
          refine zAldL hx hb hK hP 9 rfl hg dX10_findTale_111 (fun v23 ev23 => ?_)
          replace hf := zLt_at ev23 hf
          refine lv_iload hx hb dX10_findTale_112 (lv_at hl 6 rfl) ?_
          refine lv_iload hx hb dX10_findTale_114 (lv_at hl 7 rfl) ?_
          refine lv_ishr hx hb dX10_findTale_116 ?_
          refine lv_iconst (v := 1) hx hb dX10_findTale_117 (by decide) ?_
          refine lv_iand hx hb dX10_findTale_118 ?_
          refine lv_iconst (v := 1) hx hb dX10_findTale_119 (by decide) ?_
          have hJ138 : ∀ (v24 : Int64) (v25 : Int64) (v26 : Int32) (H : Heap) (locs : List Loc) (ls : Array Slot), fX10_findTale_L95J138 v20 gmL_21 v24 v25 v26 = some z → va_P D vwCl (wX10 T hgm gm gmL_21) H → va_D A (wX10 T hgm gm gmL_21) → va_S A s.heap H locs → lv_has ls 10 [(0, .ref (hgm 0)), (1, .int v1), (2, .int v3), (3, .int v10), (5, .long v14), (7, .int v15), (8, .int v19), (9, .int v20)] → W p l e rX10_findTale s m args below meth c H locs 0 0 Q (F0 m 138 ls [.long v24, .long v25, .int v26, .ref (hgm 9)]) := by
            intro v24 v25 v26 H locs ls hf hP hD hS hl
            unfold fX10_findTale_L95J138 at hf
            refine lv_ladd hx hb dX10_findTale_138 ?_
            refine lv_topl (fun v27 ev27 => ?_)
            replace hf := zLt_at ev27 hf
            obtain ⟨hg, hf⟩ := zGd_ok hf
            refine zAstL (w := gmL_21) hx hb hK hP hD hS (fun g => wX10 T hgm gm g) 9 9 rfl hg rfl dX10_findTale_139 (fun gmL_28 egmL_28 H locs hP hD hS => ?_)
            replace hP : va_P D vwCl (wX10 T hgm gm gmL_28) H := hP
            replace hD : va_D A (wX10 T hgm gm gmL_28) := hD
            replace hf := zLt_at egmL_28 hf
            obtain ⟨v29, ev29⟩ : ∃ y : Int32, y = v20 + 1 := ⟨_, rfl⟩
            replace hf := zLt_at ev29 hf
            refine lv_iinc (v := v29) (lv' := [(9, .int v29), (0, .ref (hgm 0)), (1, .int v1), (2, .int v3), (3, .int v10), (5, .long v14), (7, .int v15), (8, .int v19)]) hx hb dX10_findTale_140 hl (k := 7) rfl (by rw [ev29]; rfl) (by decide) rfl (fun ls hl => ?_)
            refine lv_goto (tgt := 95) hx hb dX10_findTale_143 (by decide) ?_
            cases hf
            exact hzz H locs ls hP hD hS (lv_sub hl [1, 2, 3, 4, 5, 6, 7, 0] rfl)
          refine lv_icmp_ne (tgt := 137) hx hb dX10_findTale_120 (by decide) (fun hc => ?_) (fun hc => ?_)
          · replace hf := zIf_f hc hf
            refine lv_lconst (v := 0) hx hb dX10_findTale_137 (by decide) ?_
            exact hJ138 0 v23 v20 H locs ls hf hP hD hS hl
          · replace hf := zIf_t hc hf
            refine lv_lload hx hb dX10_findTale_123 (lv_at hl 4 rfl) ?_
            refine lv_aload_n hx hb dX10_findTale_125 rfl (lv_at hl 0 rfl) ?_
            refine zGet (ci := 10) (C := RX10) (F := TX10) (N := 54) (v := .ref (hgm 1)) hx hb hts hiX10 hown hK hP 0 1 4 rfl rfl (by decide) rfl rfl rfl dX10_findTale_126 ?_
            refine lv_iload hx hb dX10_findTale_129 (lv_at hl 5 rfl) ?_
            obtain ⟨hg, hf⟩ := zGd_ok hf
            refine zAldI hx hb hK hP 1 rfl hg dX10_findTale_131 (fun v30 ev30 => ?_)
            replace hf := zLt_at ev30 hf
            refine lv_i2l hx hb dX10_findTale_132 rfl ?_
            refine lv_lmul hx hb dX10_findTale_133 ?_
            refine lv_goto (tgt := 138) hx hb dX10_findTale_134 (by decide) ?_
            exact hJ138 (v14 * (v30.toInt64)) v23 v20 H locs ls hf hP hD hS hl
  refine zLpS2 (body := (fX10_findTale_L17 gm)) (b := ex) (fun (v4 : Int32) (gmL_5 : zL) => ∀ (H : Heap) (locs : List Loc) (ls : Array Slot), va_P D vwCl (wX10 T hgm gm gmL_5) H → va_D A (wX10 T hgm gm gmL_5) → va_S A s.heap H locs → lv_has ls 10 [(0, .ref (hgm 0)), (1, .int v1), (2, .int v3), (3, .int v4)] → W p l e rX10_findTale s m args below meth c H locs 0 0 Q (F0 m 17 ls [])) ?_ zFU 0 gml hlp H locs ls hP hD hS (lv_sub hl [3, 2, 1, 0] rfl)
  intro v4 gmL_5 z hf hzz H locs ls hP hD hS hl
  unfold fX10_findTale_L17 at hf
  replace hf := zUk2 hf
  refine lv_iload_n hx hb dX10_findTale_17 rfl (lv_at hl 3 rfl) ?_
  refine lv_aload_n hx hb dX10_findTale_18 rfl (lv_at hl 0 rfl) ?_
  refine zGet (ci := 10) (C := RX10) (F := TX10) (N := 54) (v := .int (gm 0 0)) hx hb hts hiX10 hown hK hP 0 0 1 rfl rfl (by decide) rfl rfl rfl dX10_findTale_19 ?_
  refine lv_icmp_ge (tgt := 45) hx hb dX10_findTale_22 (by decide) (fun hc => ?_) (fun hc => ?_)
  · replace hf := zIf_t hc hf
    cases hf
    exact hE17_45 gmL_5 hzz.symm H locs ls hP hD hS (lv_sub hl [0, 1, 2] rfl)
  · replace hf := zIf_f hc hf
    refine lv_aload_n hx hb dX10_findTale_25 rfl (lv_at hl 0 rfl) ?_
    refine zGet (ci := 10) (C := RX10) (F := TX10) (N := 54) (v := .ref (hgm 9)) hx hb hts hiX10 hown hK hP 0 23 2 rfl rfl (by decide) rfl rfl rfl dX10_findTale_26 ?_
    refine lv_iload_n hx hb dX10_findTale_29 rfl (lv_at hl 3 rfl) ?_
    refine lv_lconst (v := 0) hx hb dX10_findTale_30 (by decide) ?_
    obtain ⟨hg, hf⟩ := zGd_ok hf
    refine zAstL (w := gmL_5) hx hb hK hP hD hS (fun g => wX10 T hgm gm g) 9 9 rfl hg rfl dX10_findTale_31 (fun gmL_7 egmL_7 H locs hP hD hS => ?_)
    replace hP : va_P D vwCl (wX10 T hgm gm gmL_7) H := hP
    replace hD : va_D A (wX10 T hgm gm gmL_7) := hD
    replace hf := zLt_at egmL_7 hf
    refine lv_aload_n hx hb dX10_findTale_32 rfl (lv_at hl 0 rfl) ?_
    refine zGet (ci := 10) (C := RX10) (F := TX10) (N := 54) (v := .ref (hgm 10)) hx hb hts hiX10 hown hK hP 0 24 3 rfl rfl (by decide) rfl rfl rfl dX10_findTale_33 ?_
    refine lv_iload_n hx hb dX10_findTale_36 rfl (lv_at hl 3 rfl) ?_
    refine lv_lconst (v := 0) hx hb dX10_findTale_37 (by decide) ?_
    obtain ⟨hg, hf⟩ := zGd_ok hf
    refine zAstL (w := gmL_7) hx hb hK hP hD hS (fun g => wX10 T hgm gm g) 10 10 rfl hg rfl dX10_findTale_38 (fun gmL_8 egmL_8 H locs hP hD hS => ?_)
    replace hP : va_P D vwCl (wX10 T hgm gm gmL_8) H := hP
    replace hD : va_D A (wX10 T hgm gm gmL_8) := hD
    replace hf := zLt_at egmL_8 hf
    obtain ⟨v9, ev9⟩ : ∃ y : Int32, y = v4 + 1 := ⟨_, rfl⟩
    replace hf := zLt_at ev9 hf
    refine lv_iinc (v := v9) (lv' := [(3, .int v9), (0, .ref (hgm 0)), (1, .int v1), (2, .int v3)]) hx hb dX10_findTale_39 hl (k := 3) rfl (by rw [ev9]; rfl) (by decide) rfl (fun ls hl => ?_)
    refine lv_goto (tgt := 17) hx hb dX10_findTale_42 (by decide) ?_
    cases hf
    exact hzz H locs ls hP hD hS (lv_sub hl [1, 2, 3, 0] rfl)
set_option maxHeartbeats 4000000 in
set_option maxRecDepth 100000 in
theorem pX10_lowest (l : Launch) (D : va_G) (T : Nat → ClassId) (X : zFP) (hgm : Nat → Nat) (sz : Nat) (gm : zM) (gml : zL) (a1 : Int64) (a2 : Int64) (ngml : zL) (hf : fX10_lowest gm gml a1 a2 = some ngml) : Met l yX10_lowest wsX10_lowest rX10_lowest (zPre D T X [.ref (hgm 0), .long a1, .long a2] (wX10 T hgm gm gml) sz) (zQv D T (wX10 T hgm gm ngml) (wX10 T hgm gm gml) sz) 0 0 (va_A (wX10 T hgm gm gml) sz) := by
  unfold fX10_lowest at hf
  refine zStart [(0, .ref (hgm 0)), (1, .long a1), (3, .long a2)] (by decide) rfl (Nat.le_of_ble_eq_true rfl) rfl ?_
  intro p e s m args below meth c A Q ls hx hb hr hml hown hlocks hts hsz hA0 hQ hA hK hX hP hD hS hl
  replace hown : s.vm.findClass RX10 = some m.cls := hown
  have hH := hsz
  have hiX10 : ∀ w ∈ u_ws RX10 TX10 54, w ∈ wsX10_lowest := fun w h => List.mem_cons_of_mem _ (List.mem_append_right _ (h))
  obtain ⟨H, hHe⟩ : ∃ H : Heap, H = s.heap := ⟨_, rfl⟩
  obtain ⟨locs, hLe⟩ : ∃ L : List Loc, L = [] := ⟨_, rfl⟩
  replace hP : va_P D vwCl (wX10 T hgm gm gml) H := by rw [hHe]; exact hP
  replace hS : va_S A s.heap H locs := by rw [hHe, hLe]; exact hS
  suffices hgo : W p l e rX10_lowest s m args below meth c H locs 0 0 Q (F0 m 0 ls []) by rw [hHe, hLe] at hgo; exact hgo
  clear hHe hLe
  refine lv_lload_n hx hb dX10_lowest_0 rfl (lv_at hl 1 rfl) ?_
  refine lv_lstore (lv' := [(5, .long a1), (0, .ref (hgm 0)), (1, .long a1), (3, .long a2)]) hx hb dX10_lowest_1 hl (by decide) rfl (fun ls hl => ?_)
  refine lv_lload_n hx hb dX10_lowest_3 rfl (lv_at hl 3 rfl) ?_
  refine lv_lstore (lv' := [(7, .long a2), (5, .long a1), (0, .ref (hgm 0)), (1, .long a1), (3, .long a2)]) hx hb dX10_lowest_4 hl (by decide) rfl (fun ls hl => ?_)
  obtain ⟨ex, hlp, hf⟩ := zB1_ok hf
  have hE6_31 : ∀ (v3 : Int64) , ex = v3 → ∀ (H : Heap) (locs : List Loc) (ls : Array Slot), va_P D vwCl (wX10 T hgm gm gml) H → va_D A (wX10 T hgm gm gml) → va_S A s.heap H locs → lv_has ls 11 [(0, .ref (hgm 0)), (1, .long a1), (3, .long a2), (5, .long v3)] → W p l e rX10_lowest s m args below meth c H locs 0 0 Q (F0 m 31 ls []) := by
    intro v3 hex H locs ls hP hD hS hl
    have hf := zEx1 hex hf
    refine lv_aload_n hx hb dX10_lowest_31 rfl (lv_at hl 0 rfl) ?_
    refine lv_lload_n hx hb dX10_lowest_32 rfl (lv_at hl 1 rfl) ?_
    refine lv_lload hx hb dX10_lowest_33 (lv_at hl 3 rfl) ?_
    obtain ⟨hg, hf⟩ := zGd_ok hf
    refine lv_ldiv hx hb dX10_lowest_35 (zNzL_ok hg) ?_
    refine lv_topl (fun v5 ev5 => ?_)
    replace hf := zLt_at ev5 hf
    refine zPutL (ci := 10) (C := RX10) (F := TX10) (N := 54) (x := v5) (w := gml) hx hb hts hiX10 tyX10 tyX10_ok nmX10 hown hK hP hD hS (fun g => wX10 T hgm gm g) 0 25 1 rfl rfl (by decide) rfl rfl rfl ⟨rfl, rfl⟩ (Nat.le_of_ble_eq_true rfl) rfl dX10_lowest_36 (fun gmL_6 egmL_6 H locs hP hD hS => ?_)
    replace hP : va_P D vwCl (wX10 T hgm gm gmL_6) H := hP
    replace hD : va_D A (wX10 T hgm gm gmL_6) := hD
    replace hf := zLt_at egmL_6 hf
    refine lv_aload_n hx hb dX10_lowest_39 rfl (lv_at hl 0 rfl) ?_
    refine lv_lload_n hx hb dX10_lowest_40 rfl (lv_at hl 2 rfl) ?_
    refine lv_lload hx hb dX10_lowest_41 (lv_at hl 3 rfl) ?_
    obtain ⟨hg, hf⟩ := zGd_ok hf
    refine lv_ldiv hx hb dX10_lowest_43 (zNzL_ok hg) ?_
    refine lv_topl (fun v7 ev7 => ?_)
    replace hf := zLt_at ev7 hf
    refine zPutL (ci := 10) (C := RX10) (F := TX10) (N := 54) (x := v7) (w := gmL_6) hx hb hts hiX10 tyX10 tyX10_ok nmX10 hown hK hP hD hS (fun g => wX10 T hgm gm g) 0 26 2 rfl rfl (by decide) rfl rfl rfl ⟨rfl, rfl⟩ (Nat.le_of_ble_eq_true rfl) rfl dX10_lowest_44 (fun gmL_8 egmL_8 H locs hP hD hS => ?_)
    replace hP : va_P D vwCl (wX10 T hgm gm gmL_8) H := hP
    replace hD : va_D A (wX10 T hgm gm gmL_8) := hD
    replace hf := zLt_at egmL_8 hf
    obtain ⟨q1, -⟩ := zI1 hf
    subst q1
    exact zRetV hQ hx hb hr hlocks hA0 hK hP hD hS dX10_lowest_47
  refine zLpS2 (body := fX10_lowest_L6) (b := ex) (fun (v1 : Int64) (v2 : Int64) => ∀ (H : Heap) (locs : List Loc) (ls : Array Slot), va_P D vwCl (wX10 T hgm gm gml) H → va_D A (wX10 T hgm gm gml) → va_S A s.heap H locs → lv_has ls 11 [(0, .ref (hgm 0)), (1, .long a1), (3, .long a2), (5, .long v1), (7, .long v2)] → W p l e rX10_lowest s m args below meth c H locs 0 0 Q (F0 m 6 ls [])) ?_ zFU a1 a2 hlp H locs ls hP hD hS (lv_sub hl [2, 3, 4, 1, 0] rfl)
  intro v1 v2 z hf hzz H locs ls hP hD hS hl
  unfold fX10_lowest_L6 at hf
  replace hf := zUk2 hf
  refine lv_lload hx hb dX10_lowest_6 (lv_at hl 4 rfl) ?_
  refine lv_lconst (v := 0) hx hb dX10_lowest_8 (by decide) ?_
  refine W.lcmp hx hb dX10_lowest_9 ?_
  refine lv_if_eq (tgt := 31) hx hb dX10_lowest_10 (by decide) (fun hc => ?_) (fun hc => ?_)
  · replace hf := zIf_t hc hf
    cases hf
    exact hE6_31 v1 hzz.symm H locs ls hP hD hS (lv_sub hl [0, 1, 2, 3] rfl)
  · replace hf := zIf_f hc hf
    refine lv_lload hx hb dX10_lowest_13 (lv_at hl 3 rfl) ?_
    refine lv_lload hx hb dX10_lowest_15 (lv_at hl 4 rfl) ?_
    obtain ⟨hg, hf⟩ := zGd_ok hf
    refine lv_lrem hx hb dX10_lowest_17 (zNzL_ok hg) ?_
    refine lv_topl (fun v4 ev4 => ?_)
    replace hf := zLt_at ev4 hf
    refine lv_lstore (lv' := [(9, .long v4), (0, .ref (hgm 0)), (1, .long a1), (3, .long a2), (5, .long v1), (7, .long v2)]) hx hb dX10_lowest_18 hl (by decide) rfl (fun ls hl => ?_)
    refine lv_lload hx hb dX10_lowest_20 (lv_at hl 5 rfl) ?_
    refine lv_lstore (lv' := [(5, .long v2), (9, .long v4), (0, .ref (hgm 0)), (1, .long a1), (3, .long a2), (7, .long v2)]) hx hb dX10_lowest_22 hl (by decide) rfl (fun ls hl => ?_)
    refine lv_lload hx hb dX10_lowest_24 (lv_at hl 1 rfl) ?_
    refine lv_lstore (lv' := [(7, .long v4), (5, .long v2), (9, .long v4), (0, .ref (hgm 0)), (1, .long a1), (3, .long a2)]) hx hb dX10_lowest_26 hl (by decide) rfl (fun ls hl => ?_)
    refine lv_goto (tgt := 6) hx hb dX10_lowest_28 (by decide) ?_
    cases hf
    exact hzz H locs ls hP hD hS (lv_sub hl [3, 4, 5, 1, 0] rfl)
set_option maxHeartbeats 4000000 in
set_option maxRecDepth 100000 in
theorem pX10_often (l : Launch) (D : va_G) (T : Nat → ClassId) (X : zFP) (hgm : Nat → Nat) (sz : Nat) (gm : zM) (gml : zL) (r : Int64) (hf : fX10_often gm gml = some r) : Met l yX10_often wsX10_often rX10_often (zPre D T X [.ref (hgm 0)] (wX10 T hgm gm gml) sz) (zQl D T r (wX10 T hgm gm gml) (wX10 T hgm gm gml) sz) 0 0 (va_A (wX10 T hgm gm gml) sz) := by
  unfold fX10_often at hf
  refine zStart [(0, .ref (hgm 0))] (by decide) rfl (Nat.le_of_ble_eq_true rfl) rfl ?_
  intro p e s m args below meth c A Q ls hx hb hr hml hown hlocks hts hsz hA0 hQ hA hK hX hP hD hS hl
  replace hown : s.vm.findClass RX10 = some m.cls := hown
  have hH := hsz
  obtain ⟨H, hHe⟩ : ∃ H : Heap, H = s.heap := ⟨_, rfl⟩
  obtain ⟨locs, hLe⟩ : ∃ L : List Loc, L = [] := ⟨_, rfl⟩
  replace hP : va_P D vwCl (wX10 T hgm gm gml) H := by rw [hHe]; exact hP
  replace hS : va_S A s.heap H locs := by rw [hHe, hLe]; exact hS
  suffices hgo : W p l e rX10_often s m args below meth c H locs 0 0 Q (F0 m 0 ls []) by rw [hHe, hLe] at hgo; exact hgo
  clear hHe hLe
  refine lv_aload_n hx hb dX10_often_0 rfl (lv_at hl 0 rfl) ?_
  obtain ⟨v1, hc1, hf⟩ := zB1_ok hf
  refine zCallVEI [] ⟨hx, hb, hml, hown, hts⟩ (pX10_weights l D T X hgm H.size gm gml v1 hc1) (cwV 0 hts gX10_often_X10_weights rfl rfl rfl (by decide +kernel) ⟨Nat.le_of_ble_eq_true rfl, Nat.le_of_ble_eq_true rfl⟩) hK hP hD hS hA hX 0 rfl rfl rfl hl.1 rfl (Nat.le_of_ble_eq_true rfl) dX10_often_1 ⟨Nat.zero_le _, Nat.zero_le _⟩ (fun H locs hP hD hS => ?_)
  refine lv_i2l hx hb dX10_often_4 rfl ?_
  refine lv_iconst (v := 2) hx hb dX10_often_5 (by decide) ?_
  refine lv_aload_n hx hb dX10_often_6 rfl (lv_at hl 0 rfl) ?_
  obtain ⟨v2, hc7, hf⟩ := zB1_ok hf
  refine zCallVEI [] ⟨hx, hb, hml, hown, hts⟩ (pX10_unsure l D T X hgm H.size gm gml v2 hc7) (cwV 0 hts gX10_often_X10_unsure rfl rfl rfl (by decide +kernel) ⟨Nat.le_of_ble_eq_true rfl, Nat.le_of_ble_eq_true rfl⟩) hK hP hD hS hA hX 0 rfl rfl rfl hl.1 rfl (Nat.le_of_ble_eq_true rfl) dX10_often_7 ⟨Nat.zero_le _, Nat.zero_le _⟩ (fun H locs hP hD hS => ?_)
  obtain ⟨v3, hc10, hf⟩ := zB1_ok hf
  refine zCallS0I [.int v2] ⟨hx, hb, hml, hown, hts⟩ (pX10_ones l D T X H.size v2 v3 hc10) (va_cwS 1 hts gX10_often_X10_ones rfl rfl rfl (by decide +kernel) ⟨Nat.le_of_ble_eq_true rfl, Nat.le_of_ble_eq_true rfl⟩) hK hP hD hS hA hX rfl hl.1 rfl (Nat.le_of_ble_eq_true rfl) dX10_often_10 ⟨Nat.zero_le _, Nat.zero_le _⟩ (fun H locs hP hD hS => ?_)
  refine lv_imul hx hb dX10_often_13 ?_
  refine lv_lshl hx hb dX10_often_14 rfl ?_
  obtain ⟨q1, -⟩ := zI1 hf
  subst q1
  exact zRetL hQ hx hb hr hlocks hA0 hK hP hD hS rfl dX10_often_15
set_option maxHeartbeats 4000000 in
set_option maxRecDepth 100000 in
theorem pX10_lacksTale (l : Launch) (D : va_G) (T : Nat → ClassId) (X : zFP) (hgm : Nat → Nat) (sz : Nat) (gm : zM) (gml : zL) (r : Int32) (hf : fX10_lacksTale gm gml = some r) : Met l yX10_lacksTale wsX10_lacksTale rX10_lacksTale (zPre D T X [.ref (hgm 0)] (wX10 T hgm gm gml) sz) (zQi D T r (wX10 T hgm gm gml) (wX10 T hgm gm gml) sz) 0 0 (va_A (wX10 T hgm gm gml) sz) := by
  unfold fX10_lacksTale at hf
  refine zStart [(0, .ref (hgm 0))] (by decide) rfl (Nat.le_of_ble_eq_true rfl) rfl ?_
  intro p e s m args below meth c A Q ls hx hb hr hml hown hlocks hts hsz hA0 hQ hA hK hX hP hD hS hl
  replace hown : s.vm.findClass RX10 = some m.cls := hown
  have hH := hsz
  obtain ⟨H, hHe⟩ : ∃ H : Heap, H = s.heap := ⟨_, rfl⟩
  obtain ⟨locs, hLe⟩ : ∃ L : List Loc, L = [] := ⟨_, rfl⟩
  replace hP : va_P D vwCl (wX10 T hgm gm gml) H := by rw [hHe]; exact hP
  replace hS : va_S A s.heap H locs := by rw [hHe, hLe]; exact hS
  suffices hgo : W p l e rX10_lacksTale s m args below meth c H locs 0 0 Q (F0 m 0 ls []) by rw [hHe, hLe] at hgo; exact hgo
  clear hHe hLe
  refine lv_aload_n hx hb dX10_lacksTale_0 rfl (lv_at hl 0 rfl) ?_
  obtain ⟨v1, hc1, hf⟩ := zB1_ok hf
  refine zCallVEI [] ⟨hx, hb, hml, hown, hts⟩ (pX10_weights l D T X hgm H.size gm gml v1 hc1) (cwV 0 hts gX10_lacksTale_X10_weights rfl rfl rfl (by decide +kernel) ⟨Nat.le_of_ble_eq_true rfl, Nat.le_of_ble_eq_true rfl⟩) hK hP hD hS hA hX 0 rfl rfl rfl hl.1 rfl (Nat.le_of_ble_eq_true rfl) dX10_lacksTale_1 ⟨Nat.zero_le _, Nat.zero_le _⟩ (fun H locs hP hD hS => ?_)
  refine lv_if_ne (tgt := 12) hx hb dX10_lacksTale_4 (by decide) (fun hc => ?_) (fun hc => ?_)
  · replace hf := zIf_f hc hf
    refine lv_aload_n hx hb dX10_lacksTale_12 rfl (lv_at hl 0 rfl) ?_
    obtain ⟨v2, hc13, hf⟩ := zB1_ok hf
    refine zCallVEI [] ⟨hx, hb, hml, hown, hts⟩ (pX10_unsure l D T X hgm H.size gm gml v2 hc13) (cwV 0 hts gX10_lacksTale_X10_unsure rfl rfl rfl (by decide +kernel) ⟨Nat.le_of_ble_eq_true rfl, Nat.le_of_ble_eq_true rfl⟩) hK hP hD hS hA hX 0 rfl rfl rfl hl.1 rfl (Nat.le_of_ble_eq_true rfl) dX10_lacksTale_13 ⟨Nat.zero_le _, Nat.zero_le _⟩ (fun H locs hP hD hS => ?_)
    obtain ⟨v3, hc16, hf⟩ := zB1_ok hf
    refine zCallS0I [.int v2] ⟨hx, hb, hml, hown, hts⟩ (pX10_ones l D T X H.size v2 v3 hc16) (va_cwS 1 hts gX10_lacksTale_X10_ones rfl rfl rfl (by decide +kernel) ⟨Nat.le_of_ble_eq_true rfl, Nat.le_of_ble_eq_true rfl⟩) hK hP hD hS hA hX rfl hl.1 rfl (Nat.le_of_ble_eq_true rfl) dX10_lacksTale_16 ⟨Nat.zero_le _, Nat.zero_le _⟩ (fun H locs hP hD hS => ?_)
    refine lv_bipush (v := 9) hx hb dX10_lacksTale_19 (by decide) ?_
    refine lv_icmp_le (tgt := 29) hx hb dX10_lacksTale_21 (by decide) (fun hc => ?_) (fun hc => ?_)
    · replace hf := zIf_t hc hf
      refine lv_iconst (v := 0) hx hb dX10_lacksTale_29 (by decide) ?_
      obtain ⟨q1, -⟩ := zI1 hf
      subst q1
      exact zRetI hQ hx hb hr hlocks hA0 hK hP hD hS rfl dX10_lacksTale_30
    · replace hf := zIf_f hc hf
      refine lv_bipush (v := (-4)) hx hb dX10_lacksTale_24 (by decide) ?_
      refine lv_goto (tgt := 30) hx hb dX10_lacksTale_26 (by decide) ?_
      obtain ⟨q1, -⟩ := zI1 hf
      subst q1
      exact zRetI hQ hx hb hr hlocks hA0 hK hP hD hS rfl dX10_lacksTale_30
  · replace hf := zIf_t hc hf
    refine lv_bipush (v := (-3)) hx hb dX10_lacksTale_7 (by decide) ?_
    refine lv_goto (tgt := 30) hx hb dX10_lacksTale_9 (by decide) ?_
    obtain ⟨q1, -⟩ := zI1 hf
    subst q1
    exact zRetI hQ hx hb hr hlocks hA0 hK hP hD hS rfl dX10_lacksTale_30
set_option maxHeartbeats 4000000 in
set_option maxRecDepth 100000 in
theorem pX10_chance (l : Launch) (D : va_G) (T : Nat → ClassId) (X : zFP) (hgm : Nat → Nat) (sz : Nat) (gm : zM) (gml : zL) (a1 : Int32) (a2 : Int32) (r : Int32) (ngml : zL) (hf : fX10_chance gm gml a1 a2 = some (r, ngml)) : Met l yX10_chance wsX10_chance rX10_chance (zPre D T X [.ref (hgm 0), .int a1, .int a2] (wX10 T hgm gm gml) sz) (zQi D T r (wX10 T hgm gm ngml) (wX10 T hgm gm gml) sz) 0 0 (va_A (wX10 T hgm gm gml) sz) := by
  unfold fX10_chance at hf
  refine zStart [(0, .ref (hgm 0)), (1, .int a1), (2, .int a2)] (by decide) rfl (Nat.le_of_ble_eq_true rfl) rfl ?_
  intro p e s m args below meth c A Q ls hx hb hr hml hown hlocks hts hsz hA0 hQ hA hK hX hP hD hS hl
  replace hown : s.vm.findClass RX10 = some m.cls := hown
  have hH := hsz
  have hiX10 : ∀ w ∈ u_ws RX10 TX10 54, w ∈ wsX10_chance := fun w h => List.mem_cons_of_mem _ (List.mem_append_right _ (h))
  obtain ⟨H, hHe⟩ : ∃ H : Heap, H = s.heap := ⟨_, rfl⟩
  obtain ⟨locs, hLe⟩ : ∃ L : List Loc, L = [] := ⟨_, rfl⟩
  replace hP : va_P D vwCl (wX10 T hgm gm gml) H := by rw [hHe]; exact hP
  replace hS : va_S A s.heap H locs := by rw [hHe, hLe]; exact hS
  suffices hgo : W p l e rX10_chance s m args below meth c H locs 0 0 Q (F0 m 0 ls []) by rw [hHe, hLe] at hgo; exact hgo
  clear hHe hLe
  refine lv_aload_n hx hb dX10_chance_0 rfl (lv_at hl 0 rfl) ?_
  refine lv_iload_n hx hb dX10_chance_1 rfl (lv_at hl 1 rfl) ?_
  obtain ⟨v1, hc2, hf⟩ := zB1_ok hf
  refine zCallVEI [.int a1] ⟨hx, hb, hml, hown, hts⟩ (pX10_isPerson l D T X hgm H.size gm gml a1 v1 hc2) (cwV 1 hts gX10_chance_X10_isPerson rfl rfl rfl (by decide +kernel) ⟨Nat.le_of_ble_eq_true rfl, Nat.le_of_ble_eq_true rfl⟩) hK hP hD hS hA hX 0 rfl rfl rfl hl.1 rfl (Nat.le_of_ble_eq_true rfl) dX10_chance_2 ⟨Nat.zero_le _, Nat.zero_le _⟩ (fun H locs hP hD hS => ?_)
  refine lv_if_eq (tgt := 15) hx hb dX10_chance_5 (by decide) (fun hc => ?_) (fun hc => ?_)
  · replace hf := zIf_t hc hf
    refine lv_iconst (v := (-1)) hx hb dX10_chance_15 (by decide) ?_
    obtain ⟨q1, q2⟩ := zI2 hf
    subst q1
    subst q2
    exact zRetI hQ hx hb hr hlocks hA0 hK hP hD hS rfl dX10_chance_16
  · replace hf := zIf_f hc hf
    refine lv_iload_n hx hb dX10_chance_8 rfl (lv_at hl 2 rfl) ?_
    obtain ⟨v2, hc9, hf⟩ := zB1_ok hf
    refine zCallS0I [.int a2] ⟨hx, hb, hml, hown, hts⟩ (pX10_isSide l D T X H.size a2 v2 hc9) (va_cwS 1 hts gX10_chance_X10_isSide rfl rfl rfl (by decide +kernel) ⟨Nat.le_of_ble_eq_true rfl, Nat.le_of_ble_eq_true rfl⟩) hK hP hD hS hA hX rfl hl.1 rfl (Nat.le_of_ble_eq_true rfl) dX10_chance_9 ⟨Nat.zero_le _, Nat.zero_le _⟩ (fun H locs hP hD hS => ?_)
    refine lv_if_ne (tgt := 17) hx hb dX10_chance_12 (by decide) (fun hc => ?_) (fun hc => ?_)
    · replace hf := zIf_f hc hf
      refine lv_aload_n hx hb dX10_chance_17 rfl (lv_at hl 0 rfl) ?_
      obtain ⟨v3, hc18, hf⟩ := zB1_ok hf
      refine zCallVEI [] ⟨hx, hb, hml, hown, hts⟩ (pX10_lacksTale l D T X hgm H.size gm gml v3 hc18) (cwV 0 hts gX10_chance_X10_lacksTale rfl rfl rfl (by decide +kernel) ⟨Nat.le_of_ble_eq_true rfl, Nat.le_of_ble_eq_true rfl⟩) hK hP hD hS hA hX 0 rfl rfl rfl hl.1 rfl (Nat.le_of_ble_eq_true rfl) dX10_chance_18 ⟨Nat.zero_le _, Nat.zero_le _⟩ (fun H locs hP hD hS => ?_)
      refine lv_istore_n (lv' := [(3, .int v3), (0, .ref (hgm 0)), (1, .int a1), (2, .int a2)]) hx hb dX10_chance_21 rfl hl (by decide) rfl (fun ls hl => ?_)
      refine lv_iload_n hx hb dX10_chance_22 rfl (lv_at hl 0 rfl) ?_
      refine lv_if_eq (tgt := 28) hx hb dX10_chance_23 (by decide) (fun hc => ?_) (fun hc => ?_)
      · replace hf := zIf_t hc hf
        refine lv_aload_n hx hb dX10_chance_28 rfl (lv_at hl 1 rfl) ?_
        obtain ⟨gmL_4, hc29, hf⟩ := zB1_ok hf
        refine zCallVEV [] ⟨hx, hb, hml, hown, hts⟩ (pX10_findTale l D T X hgm H.size gm gml gmL_4 hc29) (cwV 0 hts gX10_chance_X10_findTale rfl rfl rfl (by decide +kernel) ⟨Nat.le_of_ble_eq_true rfl, Nat.le_of_ble_eq_true rfl⟩) hK hP hD hS hA hX 0 rfl rfl rfl hl.1 rfl (Nat.le_of_ble_eq_true rfl) dX10_chance_29 ⟨Nat.zero_le _, Nat.zero_le _⟩ (fun H locs hP hD hS => ?_)
        refine lv_aload_n hx hb dX10_chance_32 rfl (lv_at hl 1 rfl) ?_
        refine lv_aload_n hx hb dX10_chance_33 rfl (lv_at hl 1 rfl) ?_
        refine zGet (ci := 10) (C := RX10) (F := TX10) (N := 54) (v := .ref (hgm 9)) hx hb hts hiX10 hown hK hP 0 23 1 rfl rfl (by decide) rfl rfl rfl dX10_chance_34 ?_
        refine lv_iload_n hx hb dX10_chance_37 rfl (lv_at hl 2 rfl) ?_
        obtain ⟨hg, hf⟩ := zGd_ok hf
        refine zAldL hx hb hK hP 9 rfl hg dX10_chance_38 (fun v5 ev5 => ?_)
        replace hf := zLt_at ev5 hf
        refine lv_aload_n hx hb dX10_chance_39 rfl (lv_at hl 1 rfl) ?_
        obtain ⟨v6, hc40, hf⟩ := zB1_ok hf
        refine zCallVEL [] ⟨hx, hb, hml, hown, hts⟩ (pX10_often l D T X hgm H.size gm gmL_4 v6 hc40) (cwV 0 hts gX10_chance_X10_often rfl rfl rfl (by decide +kernel) ⟨Nat.le_of_ble_eq_true rfl, Nat.le_of_ble_eq_true rfl⟩) hK hP hD hS hA hX 0 rfl rfl rfl hl.1 rfl (Nat.le_of_ble_eq_true rfl) dX10_chance_40 ⟨Nat.zero_le _, Nat.zero_le _⟩ (fun H locs hP hD hS => ?_)
        obtain ⟨gmL_7, hc43, hf⟩ := zB1_ok hf
        refine zCallVEV [.long v5, .long v6] ⟨hx, hb, hml, hown, hts⟩ (pX10_lowest l D T X hgm H.size gm gmL_4 v5 v6 gmL_7 hc43) (cwV 2 hts gX10_chance_X10_lowest rfl rfl rfl (by decide +kernel) ⟨Nat.le_of_ble_eq_true rfl, Nat.le_of_ble_eq_true rfl⟩) hK hP hD hS hA hX 0 rfl rfl rfl hl.1 rfl (Nat.le_of_ble_eq_true rfl) dX10_chance_43 ⟨Nat.zero_le _, Nat.zero_le _⟩ (fun H locs hP hD hS => ?_)
        refine lv_iload_n hx hb dX10_chance_46 rfl (lv_at hl 3 rfl) ?_
        refine lv_if_ne (tgt := 57) hx hb dX10_chance_47 (by decide) (fun hc => ?_) (fun hc => ?_)
        · replace hf := zIf_f hc hf
          refine lv_aload_n hx hb dX10_chance_57 rfl (lv_at hl 1 rfl) ?_
          refine zGet (ci := 10) (C := RX10) (F := TX10) (N := 54) (v := .long (gmL_7 0 26)) hx hb hts hiX10 hown hK hP 0 26 3 rfl rfl (by decide) rfl rfl rfl dX10_chance_58 ?_
          refine lv_l2i hx hb dX10_chance_61 rfl ?_
          obtain ⟨q1, q2⟩ := zI2 hf
          subst q1
          subst q2
          exact zRetI hQ hx hb hr hlocks hA0 hK hP hD hS rfl dX10_chance_62
        · replace hf := zIf_t hc hf
          refine lv_aload_n hx hb dX10_chance_50 rfl (lv_at hl 1 rfl) ?_
          refine zGet (ci := 10) (C := RX10) (F := TX10) (N := 54) (v := .long (gmL_7 0 25)) hx hb hts hiX10 hown hK hP 0 25 2 rfl rfl (by decide) rfl rfl rfl dX10_chance_51 ?_
          refine lv_goto (tgt := 61) hx hb dX10_chance_54 (by decide) ?_
          refine lv_l2i hx hb dX10_chance_61 rfl ?_
          obtain ⟨q1, q2⟩ := zI2 hf
          subst q1
          subst q2
          exact zRetI hQ hx hb hr hlocks hA0 hK hP hD hS rfl dX10_chance_62
      · replace hf := zIf_f hc hf
        refine lv_iload_n hx hb dX10_chance_26 rfl (lv_at hl 0 rfl) ?_
        obtain ⟨q1, q2⟩ := zI2 hf
        subst q1
        subst q2
        exact zRetI hQ hx hb hr hlocks hA0 hK hP hD hS rfl dX10_chance_27
    · replace hf := zIf_t hc hf
      refine lv_iconst (v := (-1)) hx hb dX10_chance_15 (by decide) ?_
      obtain ⟨q1, q2⟩ := zI2 hf
      subst q1
      subst q2
      exact zRetI hQ hx hb hr hlocks hA0 hK hP hD hS rfl dX10_chance_16
set_option maxHeartbeats 4000000 in
set_option maxRecDepth 100000 in
theorem pX10_reach (l : Launch) (D : va_G) (T : Nat → ClassId) (X : zFP) (hgm : Nat → Nat) (sz : Nat) (gm : zM) (gml : zL) (a1 : Int32) (r : Int64) (ngml : zL) (hf : fX10_reach gm gml a1 = some (r, ngml)) : Met l yX10_reach wsX10_reach rX10_reach (zPre D T X [.ref (hgm 0), .int a1] (wX10 T hgm gm gml) sz) (zQl D T r (wX10 T hgm gm ngml) (wX10 T hgm gm gml) sz) 0 0 (va_A (wX10 T hgm gm gml) sz) := by
  unfold fX10_reach at hf
  refine zStart [(0, .ref (hgm 0)), (1, .int a1)] (by decide) rfl (Nat.le_of_ble_eq_true rfl) rfl ?_
  intro p e s m args below meth c A Q ls hx hb hr hml hown hlocks hts hsz hA0 hQ hA hK hX hP hD hS hl
  replace hown : s.vm.findClass RX10 = some m.cls := hown
  have hH := hsz
  have hiX10 : ∀ w ∈ u_ws RX10 TX10 54, w ∈ wsX10_reach := fun w h => List.mem_cons_of_mem _ (List.mem_append_right _ (h))
  obtain ⟨H, hHe⟩ : ∃ H : Heap, H = s.heap := ⟨_, rfl⟩
  obtain ⟨locs, hLe⟩ : ∃ L : List Loc, L = [] := ⟨_, rfl⟩
  replace hP : va_P D vwCl (wX10 T hgm gm gml) H := by rw [hHe]; exact hP
  replace hS : va_S A s.heap H locs := by rw [hHe, hLe]; exact hS
  suffices hgo : W p l e rX10_reach s m args below meth c H locs 0 0 Q (F0 m 0 ls []) by rw [hHe, hLe] at hgo; exact hgo
  clear hHe hLe
  refine lv_iload_n hx hb dX10_reach_0 rfl (lv_at hl 1 rfl) ?_
  obtain ⟨v1, hc1, hf⟩ := zB1_ok hf
  refine zCallS0I [.int a1] ⟨hx, hb, hml, hown, hts⟩ (pX10_isSide l D T X H.size a1 v1 hc1) (va_cwS 1 hts gX10_reach_X10_isSide rfl rfl rfl (by decide +kernel) ⟨Nat.le_of_ble_eq_true rfl, Nat.le_of_ble_eq_true rfl⟩) hK hP hD hS hA hX rfl hl.1 rfl (Nat.le_of_ble_eq_true rfl) dX10_reach_1 ⟨Nat.zero_le _, Nat.zero_le _⟩ (fun H locs hP hD hS => ?_)
  refine lv_if_ne (tgt := 11) hx hb dX10_reach_4 (by decide) (fun hc => ?_) (fun hc => ?_)
  · replace hf := zIf_f hc hf
    refine lv_aload_n hx hb dX10_reach_11 rfl (lv_at hl 0 rfl) ?_
    obtain ⟨v2, hc12, hf⟩ := zB1_ok hf
    refine zCallVEI [] ⟨hx, hb, hml, hown, hts⟩ (pX10_lacksTale l D T X hgm H.size gm gml v2 hc12) (cwV 0 hts gX10_reach_X10_lacksTale rfl rfl rfl (by decide +kernel) ⟨Nat.le_of_ble_eq_true rfl, Nat.le_of_ble_eq_true rfl⟩) hK hP hD hS hA hX 0 rfl rfl rfl hl.1 rfl (Nat.le_of_ble_eq_true rfl) dX10_reach_12 ⟨Nat.zero_le _, Nat.zero_le _⟩ (fun H locs hP hD hS => ?_)
    refine lv_istore_n (lv' := [(2, .int v2), (0, .ref (hgm 0)), (1, .int a1)]) hx hb dX10_reach_15 rfl hl (by decide) rfl (fun ls hl => ?_)
    refine lv_iload_n hx hb dX10_reach_16 rfl (lv_at hl 0 rfl) ?_
    refine lv_if_eq (tgt := 23) hx hb dX10_reach_17 (by decide) (fun hc => ?_) (fun hc => ?_)
    · replace hf := zIf_t hc hf
      refine lv_aload_n hx hb dX10_reach_23 rfl (lv_at hl 1 rfl) ?_
      obtain ⟨gmL_3, hc24, hf⟩ := zB1_ok hf
      refine zCallVEV [] ⟨hx, hb, hml, hown, hts⟩ (pX10_findTale l D T X hgm H.size gm gml gmL_3 hc24) (cwV 0 hts gX10_reach_X10_findTale rfl rfl rfl (by decide +kernel) ⟨Nat.le_of_ble_eq_true rfl, Nat.le_of_ble_eq_true rfl⟩) hK hP hD hS hA hX 0 rfl rfl rfl hl.1 rfl (Nat.le_of_ble_eq_true rfl) dX10_reach_24 ⟨Nat.zero_le _, Nat.zero_le _⟩ (fun H locs hP hD hS => ?_)
      refine lv_lconst (v := 0) hx hb dX10_reach_27 (by decide) ?_
      refine lv_lstore_n (lv' := [(3, .long 0), (2, .int v2), (0, .ref (hgm 0)), (1, .int a1)]) hx hb dX10_reach_28 rfl hl (by decide) rfl (fun ls hl => ?_)
      refine lv_iconst (v := 0) hx hb dX10_reach_29 (by decide) ?_
      refine lv_istore (lv' := [(5, .int 0), (3, .long 0), (2, .int v2), (0, .ref (hgm 0)), (1, .int a1)]) hx hb dX10_reach_30 hl (by decide) rfl (fun ls hl => ?_)
      obtain ⟨ex, hlp, hf⟩ := zB1_ok hf
      have hE32_57 : ∀ (v6 : Int64) , ex = v6 → ∀ (H : Heap) (locs : List Loc) (ls : Array Slot), va_P D vwCl (wX10 T hgm gm gmL_3) H → va_D A (wX10 T hgm gm gmL_3) → va_S A s.heap H locs → lv_has ls 6 [(0, .ref (hgm 0)), (1, .int a1), (3, .long v6)] → W p l e rX10_reach s m args below meth c H locs 0 0 Q (F0 m 57 ls []) := by
        intro v6 hex H locs ls hP hD hS hl
        have hf := zEx1 hex hf
        refine lv_aload_n hx hb dX10_reach_57 rfl (lv_at hl 0 rfl) ?_
        refine lv_lload_n hx hb dX10_reach_58 rfl (lv_at hl 2 rfl) ?_
        refine lv_aload_n hx hb dX10_reach_59 rfl (lv_at hl 0 rfl) ?_
        obtain ⟨v10, hc60, hf⟩ := zB1_ok hf
        refine zCallVEL [] ⟨hx, hb, hml, hown, hts⟩ (pX10_often l D T X hgm H.size gm gmL_3 v10 hc60) (cwV 0 hts gX10_reach_X10_often rfl rfl rfl (by decide +kernel) ⟨Nat.le_of_ble_eq_true rfl, Nat.le_of_ble_eq_true rfl⟩) hK hP hD hS hA hX 0 rfl rfl rfl hl.1 rfl (Nat.le_of_ble_eq_true rfl) dX10_reach_60 ⟨Nat.zero_le _, Nat.zero_le _⟩ (fun H locs hP hD hS => ?_)
        obtain ⟨gmL_11, hc63, hf⟩ := zB1_ok hf
        refine zCallVEV [.long v6, .long v10] ⟨hx, hb, hml, hown, hts⟩ (pX10_lowest l D T X hgm H.size gm gmL_3 v6 v10 gmL_11 hc63) (cwV 2 hts gX10_reach_X10_lowest rfl rfl rfl (by decide +kernel) ⟨Nat.le_of_ble_eq_true rfl, Nat.le_of_ble_eq_true rfl⟩) hK hP hD hS hA hX 0 rfl rfl rfl hl.1 rfl (Nat.le_of_ble_eq_true rfl) dX10_reach_63 ⟨Nat.zero_le _, Nat.zero_le _⟩ (fun H locs hP hD hS => ?_)
        refine lv_iload_n hx hb dX10_reach_66 rfl (lv_at hl 1 rfl) ?_
        refine lv_if_ne (tgt := 77) hx hb dX10_reach_67 (by decide) (fun hc => ?_) (fun hc => ?_)
        · replace hf := zIf_f hc hf
          refine lv_aload_n hx hb dX10_reach_77 rfl (lv_at hl 0 rfl) ?_
          refine zGet (ci := 10) (C := RX10) (F := TX10) (N := 54) (v := .long (gmL_11 0 26)) hx hb hts hiX10 hown hK hP 0 26 5 rfl rfl (by decide) rfl rfl rfl dX10_reach_78 ?_
          obtain ⟨q1, q2⟩ := zI2 hf
          subst q1
          subst q2
          exact zRetL hQ hx hb hr hlocks hA0 hK hP hD hS rfl dX10_reach_81
        · replace hf := zIf_t hc hf
          refine lv_aload_n hx hb dX10_reach_70 rfl (lv_at hl 0 rfl) ?_
          refine zGet (ci := 10) (C := RX10) (F := TX10) (N := 54) (v := .long (gmL_11 0 25)) hx hb hts hiX10 hown hK hP 0 25 4 rfl rfl (by decide) rfl rfl rfl dX10_reach_71 ?_
          refine lv_goto (tgt := 81) hx hb dX10_reach_74 (by decide) ?_
          obtain ⟨q1, q2⟩ := zI2 hf
          subst q1
          subst q2
          exact zRetL hQ hx hb hr hlocks hA0 hK hP hD hS rfl dX10_reach_81
      refine zLpS2 (body := (fX10_reach_L32 gm gmL_3)) (b := ex) (fun (v4 : Int64) (v5 : Int32) => ∀ (H : Heap) (locs : List Loc) (ls : Array Slot), va_P D vwCl (wX10 T hgm gm gmL_3) H → va_D A (wX10 T hgm gm gmL_3) → va_S A s.heap H locs → lv_has ls 6 [(0, .ref (hgm 0)), (1, .int a1), (3, .long v4), (5, .int v5)] → W p l e rX10_reach s m args below meth c H locs 0 0 Q (F0 m 32 ls [])) ?_ zFU 0 0 hlp H locs ls hP hD hS (lv_sub hl [3, 4, 1, 0] rfl)
      intro v4 v5 z hf hzz H locs ls hP hD hS hl
      unfold fX10_reach_L32 at hf
      replace hf := zUk2 hf
      refine lv_iload hx hb dX10_reach_32 (lv_at hl 3 rfl) ?_
      refine lv_aload_n hx hb dX10_reach_34 rfl (lv_at hl 0 rfl) ?_
      refine zGet (ci := 10) (C := RX10) (F := TX10) (N := 54) (v := .int (gm 0 0)) hx hb hts hiX10 hown hK hP 0 0 2 rfl rfl (by decide) rfl rfl rfl dX10_reach_35 ?_
      refine lv_icmp_ge (tgt := 57) hx hb dX10_reach_38 (by decide) (fun hc => ?_) (fun hc => ?_)
      · replace hf := zIf_t hc hf
        cases hf
        exact hE32_57 v4 hzz.symm H locs ls hP hD hS (lv_sub hl [0, 1, 2] rfl)
      · replace hf := zIf_f hc hf
        refine lv_lload_n hx hb dX10_reach_41 rfl (lv_at hl 2 rfl) ?_
        refine lv_aload_n hx hb dX10_reach_42 rfl (lv_at hl 0 rfl) ?_
        refine zGet (ci := 10) (C := RX10) (F := TX10) (N := 54) (v := .ref (hgm 9)) hx hb hts hiX10 hown hK hP 0 23 3 rfl rfl (by decide) rfl rfl rfl dX10_reach_43 ?_
        refine lv_iload hx hb dX10_reach_46 (lv_at hl 3 rfl) ?_
        obtain ⟨hg, hf⟩ := zGd_ok hf
        refine zAldL hx hb hK hP 9 rfl hg dX10_reach_48 (fun v7 ev7 => ?_)
        replace hf := zLt_at ev7 hf
        refine lv_ladd hx hb dX10_reach_49 ?_
        refine lv_topl (fun v8 ev8 => ?_)
        replace hf := zLt_at ev8 hf
        refine lv_lstore_n (lv' := [(3, .long v8), (0, .ref (hgm 0)), (1, .int a1), (5, .int v5)]) hx hb dX10_reach_50 rfl hl (by decide) rfl (fun ls hl => ?_)
        obtain ⟨v9, ev9⟩ : ∃ y : Int32, y = v5 + 1 := ⟨_, rfl⟩
        replace hf := zLt_at ev9 hf
        refine lv_iinc (v := v9) (lv' := [(5, .int v9), (3, .long v8), (0, .ref (hgm 0)), (1, .int a1)]) hx hb dX10_reach_51 hl (k := 3) rfl (by rw [ev9]; rfl) (by decide) rfl (fun ls hl => ?_)
        refine lv_goto (tgt := 32) hx hb dX10_reach_54 (by decide) ?_
        cases hf
        exact hzz H locs ls hP hD hS (lv_sub hl [2, 3, 1, 0] rfl)
    · replace hf := zIf_f hc hf
      refine lv_iload_n hx hb dX10_reach_20 rfl (lv_at hl 0 rfl) ?_
      refine lv_i2l hx hb dX10_reach_21 rfl ?_
      obtain ⟨q1, q2⟩ := zI2 hf
      subst q1
      subst q2
      exact zRetL hQ hx hb hr hlocks hA0 hK hP hD hS rfl dX10_reach_22
  · replace hf := zIf_t hc hf
    refine lv_ldc2 (v := (-1)) hx hb hown (hts _ (List.mem_of_getElem? (i := 1) rfl)) dX10_reach_7 ?_
    obtain ⟨q1, q2⟩ := zI2 hf
    subst q1
    subst q2
    exact zRetL hQ hx hb hr hlocks hA0 hK hP hD hS rfl dX10_reach_10
set_option maxHeartbeats 4000000 in
set_option maxRecDepth 100000 in
theorem pX10_seen (l : Launch) (D : va_G) (T : Nat → ClassId) (X : zFP) (hgm : Nat → Nat) (sz : Nat) (gm : zM) (gml : zL) (a1 : Int32) (a2 : Int32) (r : Int32) (ngm : zM) (hf : fX10_seen gm gml a1 a2 = some (r, ngm)) : Met l yX10_seen wsX10_seen rX10_seen (zPre D T X [.ref (hgm 0), .int a1, .int a2] (wX10 T hgm gm gml) sz) (zQi D T r (wX10 T hgm ngm gml) (wX10 T hgm gm gml) sz) 0 0 (va_A (wX10 T hgm gm gml) sz) := by
  unfold fX10_seen at hf
  refine zStart [(0, .ref (hgm 0)), (1, .int a1), (2, .int a2)] (by decide) rfl (Nat.le_of_ble_eq_true rfl) rfl ?_
  intro p e s m args below meth c A Q ls hx hb hr hml hown hlocks hts hsz hA0 hQ hA hK hX hP hD hS hl
  replace hown : s.vm.findClass RX10 = some m.cls := hown
  have hH := hsz
  have hiX10 : ∀ w ∈ u_ws RX10 TX10 54, w ∈ wsX10_seen := fun w h => List.mem_cons_of_mem _ (List.mem_append_right _ (h))
  obtain ⟨H, hHe⟩ : ∃ H : Heap, H = s.heap := ⟨_, rfl⟩
  obtain ⟨locs, hLe⟩ : ∃ L : List Loc, L = [] := ⟨_, rfl⟩
  replace hP : va_P D vwCl (wX10 T hgm gm gml) H := by rw [hHe]; exact hP
  replace hS : va_S A s.heap H locs := by rw [hHe, hLe]; exact hS
  suffices hgo : W p l e rX10_seen s m args below meth c H locs 0 0 Q (F0 m 0 ls []) by rw [hHe, hLe] at hgo; exact hgo
  clear hHe hLe
  refine lv_aload_n hx hb dX10_seen_0 rfl (lv_at hl 0 rfl) ?_
  refine lv_iload_n hx hb dX10_seen_1 rfl (lv_at hl 1 rfl) ?_
  obtain ⟨v1, hc2, hf⟩ := zB1_ok hf
  refine zCallVEI [.int a1] ⟨hx, hb, hml, hown, hts⟩ (pX10_isPerson l D T X hgm H.size gm gml a1 v1 hc2) (cwV 1 hts gX10_seen_X10_isPerson rfl rfl rfl (by decide +kernel) ⟨Nat.le_of_ble_eq_true rfl, Nat.le_of_ble_eq_true rfl⟩) hK hP hD hS hA hX 0 rfl rfl rfl hl.1 rfl (Nat.le_of_ble_eq_true rfl) dX10_seen_2 ⟨Nat.zero_le _, Nat.zero_le _⟩ (fun H locs hP hD hS => ?_)
  refine lv_if_eq (tgt := 17) hx hb dX10_seen_5 (by decide) (fun hc => ?_) (fun hc => ?_)
  · replace hf := zIf_t hc hf
    refine lv_iconst (v := (-1)) hx hb dX10_seen_17 (by decide) ?_
    obtain ⟨q1, q2⟩ := zI2 hf
    subst q1
    subst q2
    exact zRetI hQ hx hb hr hlocks hA0 hK hP hD hS rfl dX10_seen_18
  · replace hf := zIf_f hc hf
    refine lv_iload_n hx hb dX10_seen_8 rfl (lv_at hl 2 rfl) ?_
    refine lv_iconst (v := (-1)) hx hb dX10_seen_9 (by decide) ?_
    refine lv_iconst (v := 1) hx hb dX10_seen_10 (by decide) ?_
    obtain ⟨v2, hc11, hf⟩ := zB1_ok hf
    refine zCallS0I [.int a2, .int (-1), .int 1] ⟨hx, hb, hml, hown, hts⟩ (pX10_in l D T X H.size a2 (-1) 1 v2 hc11) (va_cwS 3 hts gX10_seen_X10_in rfl rfl rfl (by decide +kernel) ⟨Nat.le_of_ble_eq_true rfl, Nat.le_of_ble_eq_true rfl⟩) hK hP hD hS hA hX rfl hl.1 rfl (Nat.le_of_ble_eq_true rfl) dX10_seen_11 ⟨Nat.zero_le _, Nat.zero_le _⟩ (fun H locs hP hD hS => ?_)
    refine lv_if_ne (tgt := 19) hx hb dX10_seen_14 (by decide) (fun hc => ?_) (fun hc => ?_)
    · replace hf := zIf_f hc hf
      refine lv_aload_n hx hb dX10_seen_19 rfl (lv_at hl 0 rfl) ?_
      refine zGet (ci := 10) (C := RX10) (F := TX10) (N := 54) (v := .ref (hgm 4)) hx hb hts hiX10 hown hK hP 0 6 1 rfl rfl (by decide) rfl rfl rfl dX10_seen_20 ?_
      refine lv_iload_n hx hb dX10_seen_23 rfl (lv_at hl 1 rfl) ?_
      obtain ⟨hg, hf⟩ := zGd_ok hf
      refine zAldI hx hb hK hP 4 rfl hg dX10_seen_24 (fun v3 ev3 => ?_)
      replace hf := zLt_at ev3 hf
      refine lv_istore_n (lv' := [(3, .int v3), (0, .ref (hgm 0)), (1, .int a1), (2, .int a2)]) hx hb dX10_seen_25 rfl hl (by decide) rfl (fun ls hl => ?_)
      refine lv_aload_n hx hb dX10_seen_26 rfl (lv_at hl 1 rfl) ?_
      refine zGet (ci := 10) (C := RX10) (F := TX10) (N := 54) (v := .ref (hgm 4)) hx hb hts hiX10 hown hK hP 0 6 1 rfl rfl (by decide) rfl rfl rfl dX10_seen_27 ?_
      refine lv_iload_n hx hb dX10_seen_30 rfl (lv_at hl 2 rfl) ?_
      refine lv_iload_n hx hb dX10_seen_31 rfl (lv_at hl 3 rfl) ?_
      refine lv_iconst (v := 1) hx hb dX10_seen_32 (by decide) ?_
      refine lv_iadd hx hb dX10_seen_33 ?_
      refine lv_topi (fun v4 ev4 => ?_)
      replace hf := zLt_at ev4 hf
      obtain ⟨hg, hf⟩ := zGd_ok hf
      refine zAstI (w := gm) hx hb hK hP hD hS (fun g => wX10 T hgm g gml) 4 4 rfl hg rfl dX10_seen_34 (fun gm_5 egm_5 H locs hP hD hS => ?_)
      replace hP : va_P D vwCl (wX10 T hgm gm_5 gml) H := hP
      replace hD : va_D A (wX10 T hgm gm_5 gml) := hD
      replace hf := zLt_at egm_5 hf
      refine lv_iload_n hx hb dX10_seen_35 rfl (lv_at hl 0 rfl) ?_
      refine lv_if_ne (tgt := 44) hx hb dX10_seen_36 (by decide) (fun hc => ?_) (fun hc => ?_)
      · replace hf := zIf_f hc hf
        refine lv_iload_n hx hb dX10_seen_44 rfl (lv_at hl 0 rfl) ?_
        refine lv_iconst (v := 1) hx hb dX10_seen_45 (by decide) ?_
        refine lv_isub hx hb dX10_seen_46 ?_
        obtain ⟨q1, q2⟩ := zI2 hf
        subst q1
        subst q2
        exact zRetI hQ hx hb hr hlocks hA0 hK hP hD hS rfl dX10_seen_47
      · replace hf := zIf_t hc hf
        refine lv_bipush (v := (-9)) hx hb dX10_seen_39 (by decide) ?_
        refine lv_goto (tgt := 47) hx hb dX10_seen_41 (by decide) ?_
        obtain ⟨q1, q2⟩ := zI2 hf
        subst q1
        subst q2
        exact zRetI hQ hx hb hr hlocks hA0 hK hP hD hS rfl dX10_seen_47
    · replace hf := zIf_t hc hf
      refine lv_iconst (v := (-1)) hx hb dX10_seen_17 (by decide) ?_
      obtain ⟨q1, q2⟩ := zI2 hf
      subst q1
      subst q2
      exact zRetI hQ hx hb hr hlocks hA0 hK hP hD hS rfl dX10_seen_18
set_option maxHeartbeats 4000000 in
set_option maxRecDepth 100000 in
theorem pX10_who (l : Launch) (D : va_G) (T : Nat → ClassId) (X : zFP) (hgm : Nat → Nat) (sz : Nat) (gm : zM) (gml : zL) (a1 : Int32) (a2 : Int32) (r : Int32) (ngml : zL) (hf : fX10_who gm gml a1 a2 = some (r, ngml)) : Met l yX10_who wsX10_who rX10_who (zPre D T X [.ref (hgm 0), .int a1, .int a2] (wX10 T hgm gm gml) sz) (zQi D T r (wX10 T hgm gm ngml) (wX10 T hgm gm gml) sz) 0 0 (va_A (wX10 T hgm gm gml) sz) := by
  unfold fX10_who at hf
  refine zStart [(0, .ref (hgm 0)), (1, .int a1), (2, .int a2)] (by decide) rfl (Nat.le_of_ble_eq_true rfl) rfl ?_
  intro p e s m args below meth c A Q ls hx hb hr hml hown hlocks hts hsz hA0 hQ hA hK hX hP hD hS hl
  replace hown : s.vm.findClass RX10 = some m.cls := hown
  have hH := hsz
  have hiX10 : ∀ w ∈ u_ws RX10 TX10 54, w ∈ wsX10_who := fun w h => List.mem_cons_of_mem _ (List.mem_append_right _ (h))
  obtain ⟨H, hHe⟩ : ∃ H : Heap, H = s.heap := ⟨_, rfl⟩
  obtain ⟨locs, hLe⟩ : ∃ L : List Loc, L = [] := ⟨_, rfl⟩
  replace hP : va_P D vwCl (wX10 T hgm gm gml) H := by rw [hHe]; exact hP
  replace hS : va_S A s.heap H locs := by rw [hHe, hLe]; exact hS
  suffices hgo : W p l e rX10_who s m args below meth c H locs 0 0 Q (F0 m 0 ls []) by rw [hHe, hLe] at hgo; exact hgo
  clear hHe hLe
  refine lv_aload_n hx hb dX10_who_0 rfl (lv_at hl 0 rfl) ?_
  refine lv_iload_n hx hb dX10_who_1 rfl (lv_at hl 1 rfl) ?_
  obtain ⟨v1, hc2, hf⟩ := zB1_ok hf
  refine zCallVEI [.int a1] ⟨hx, hb, hml, hown, hts⟩ (pX10_isPerson l D T X hgm H.size gm gml a1 v1 hc2) (cwV 1 hts gX10_who_X10_isPerson rfl rfl rfl (by decide +kernel) ⟨Nat.le_of_ble_eq_true rfl, Nat.le_of_ble_eq_true rfl⟩) hK hP hD hS hA hX 0 rfl rfl rfl hl.1 rfl (Nat.le_of_ble_eq_true rfl) dX10_who_2 ⟨Nat.zero_le _, Nat.zero_le _⟩ (fun H locs hP hD hS => ?_)
  refine lv_if_eq (tgt := 15) hx hb dX10_who_5 (by decide) (fun hc => ?_) (fun hc => ?_)
  · replace hf := zIf_t hc hf
    refine lv_iconst (v := (-1)) hx hb dX10_who_15 (by decide) ?_
    obtain ⟨q1, q2⟩ := zI2 hf
    subst q1
    subst q2
    exact zRetI hQ hx hb hr hlocks hA0 hK hP hD hS rfl dX10_who_16
  · replace hf := zIf_f hc hf
    refine lv_iload_n hx hb dX10_who_8 rfl (lv_at hl 2 rfl) ?_
    obtain ⟨v2, hc9, hf⟩ := zB1_ok hf
    refine zCallS0I [.int a2] ⟨hx, hb, hml, hown, hts⟩ (pX10_isSide l D T X H.size a2 v2 hc9) (va_cwS 1 hts gX10_who_X10_isSide rfl rfl rfl (by decide +kernel) ⟨Nat.le_of_ble_eq_true rfl, Nat.le_of_ble_eq_true rfl⟩) hK hP hD hS hA hX rfl hl.1 rfl (Nat.le_of_ble_eq_true rfl) dX10_who_9 ⟨Nat.zero_le _, Nat.zero_le _⟩ (fun H locs hP hD hS => ?_)
    refine lv_if_ne (tgt := 17) hx hb dX10_who_12 (by decide) (fun hc => ?_) (fun hc => ?_)
    · replace hf := zIf_f hc hf
      refine lv_aload_n hx hb dX10_who_17 rfl (lv_at hl 0 rfl) ?_
      obtain ⟨v3, hc18, hf⟩ := zB1_ok hf
      refine zCallVEI [] ⟨hx, hb, hml, hown, hts⟩ (pX10_unsure l D T X hgm H.size gm gml v3 hc18) (cwV 0 hts gX10_who_X10_unsure rfl rfl rfl (by decide +kernel) ⟨Nat.le_of_ble_eq_true rfl, Nat.le_of_ble_eq_true rfl⟩) hK hP hD hS hA hX 0 rfl rfl rfl hl.1 rfl (Nat.le_of_ble_eq_true rfl) dX10_who_18 ⟨Nat.zero_le _, Nat.zero_le _⟩ (fun H locs hP hD hS => ?_)
      obtain ⟨v4, hc21, hf⟩ := zB1_ok hf
      refine zCallS0I [.int v3] ⟨hx, hb, hml, hown, hts⟩ (pX10_ones l D T X H.size v3 v4 hc21) (va_cwS 1 hts gX10_who_X10_ones rfl rfl rfl (by decide +kernel) ⟨Nat.le_of_ble_eq_true rfl, Nat.le_of_ble_eq_true rfl⟩) hK hP hD hS hA hX rfl hl.1 rfl (Nat.le_of_ble_eq_true rfl) dX10_who_21 ⟨Nat.zero_le _, Nat.zero_le _⟩ (fun H locs hP hD hS => ?_)
      refine lv_bipush (v := 9) hx hb dX10_who_24 (by decide) ?_
      refine lv_icmp_le (tgt := 32) hx hb dX10_who_26 (by decide) (fun hc => ?_) (fun hc => ?_)
      · replace hf := zIf_t hc hf
        refine lv_aload_n hx hb dX10_who_32 rfl (lv_at hl 0 rfl) ?_
        obtain ⟨gmL_5, hc33, hf⟩ := zB1_ok hf
        refine zCallVEV [] ⟨hx, hb, hml, hown, hts⟩ (pX10_findTale l D T X hgm H.size gm gml gmL_5 hc33) (cwV 0 hts gX10_who_X10_findTale rfl rfl rfl (by decide +kernel) ⟨Nat.le_of_ble_eq_true rfl, Nat.le_of_ble_eq_true rfl⟩) hK hP hD hS hA hX 0 rfl rfl rfl hl.1 rfl (Nat.le_of_ble_eq_true rfl) dX10_who_33 ⟨Nat.zero_le _, Nat.zero_le _⟩ (fun H locs hP hD hS => ?_)
        refine lv_lconst (v := 0) hx hb dX10_who_36 (by decide) ?_
        refine lv_lstore_n (lv' := [(3, .long 0), (0, .ref (hgm 0)), (1, .int a1), (2, .int a2)]) hx hb dX10_who_37 rfl hl (by decide) rfl (fun ls hl => ?_)
        refine lv_iconst (v := 0) hx hb dX10_who_38 (by decide) ?_
        refine lv_istore (lv' := [(5, .int 0), (3, .long 0), (0, .ref (hgm 0)), (1, .int a1), (2, .int a2)]) hx hb dX10_who_39 hl (by decide) rfl (fun ls hl => ?_)
        obtain ⟨ex, hlp, hf⟩ := zB1_ok hf
        have hE41_66 : ∀ (v8 : Int64) , ex = v8 → ∀ (H : Heap) (locs : List Loc) (ls : Array Slot), va_P D vwCl (wX10 T hgm gm gmL_5) H → va_D A (wX10 T hgm gm gmL_5) → va_S A s.heap H locs → lv_has ls 6 [(0, .ref (hgm 0)), (1, .int a1), (2, .int a2), (3, .long v8)] → W p l e rX10_who s m args below meth c H locs 0 0 Q (F0 m 66 ls []) := by
          intro v8 hex H locs ls hP hD hS hl
          have hf := zEx1 hex hf
          refine lv_lload_n hx hb dX10_who_66 rfl (lv_at hl 3 rfl) ?_
          refine lv_lconst (v := 0) hx hb dX10_who_67 (by decide) ?_
          refine W.lcmp hx hb dX10_who_68 ?_
          refine lv_if_ne (tgt := 75) hx hb dX10_who_69 (by decide) (fun hc => ?_) (fun hc => ?_)
          · replace hf := zIf_f hc hf
            refine lv_aload_n hx hb dX10_who_75 rfl (lv_at hl 0 rfl) ?_
            refine lv_aload_n hx hb dX10_who_76 rfl (lv_at hl 0 rfl) ?_
            refine zGet (ci := 10) (C := RX10) (F := TX10) (N := 54) (v := .ref (hgm 10)) hx hb hts hiX10 hown hK hP 0 24 2 rfl rfl (by decide) rfl rfl rfl dX10_who_77 ?_
            refine lv_iload_n hx hb dX10_who_80 rfl (lv_at hl 1 rfl) ?_
            obtain ⟨hg, hf⟩ := zGd_ok hf
            refine zAldL hx hb hK hP 10 rfl hg dX10_who_81 (fun v12 ev12 => ?_)
            replace hf := zLt_at ev12 hf
            refine lv_lload_n hx hb dX10_who_82 rfl (lv_at hl 3 rfl) ?_
            obtain ⟨gmL_13, hc83, hf⟩ := zB1_ok hf
            refine zCallVEV [.long v12, .long v8] ⟨hx, hb, hml, hown, hts⟩ (pX10_lowest l D T X hgm H.size gm gmL_5 v12 v8 gmL_13 hc83) (cwV 2 hts gX10_who_X10_lowest rfl rfl rfl (by decide +kernel) ⟨Nat.le_of_ble_eq_true rfl, Nat.le_of_ble_eq_true rfl⟩) hK hP hD hS hA hX 0 rfl rfl rfl hl.1 rfl (Nat.le_of_ble_eq_true rfl) dX10_who_83 ⟨Nat.zero_le _, Nat.zero_le _⟩ (fun H locs hP hD hS => ?_)
            refine lv_iload_n hx hb dX10_who_86 rfl (lv_at hl 2 rfl) ?_
            refine lv_if_ne (tgt := 97) hx hb dX10_who_87 (by decide) (fun hc => ?_) (fun hc => ?_)
            · replace hf := zIf_f hc hf
              refine lv_aload_n hx hb dX10_who_97 rfl (lv_at hl 0 rfl) ?_
              refine zGet (ci := 10) (C := RX10) (F := TX10) (N := 54) (v := .long (gmL_13 0 26)) hx hb hts hiX10 hown hK hP 0 26 4 rfl rfl (by decide) rfl rfl rfl dX10_who_98 ?_
              refine lv_l2i hx hb dX10_who_101 rfl ?_
              obtain ⟨q1, q2⟩ := zI2 hf
              subst q1
              subst q2
              exact zRetI hQ hx hb hr hlocks hA0 hK hP hD hS rfl dX10_who_102
            · replace hf := zIf_t hc hf
              refine lv_aload_n hx hb dX10_who_90 rfl (lv_at hl 0 rfl) ?_
              refine zGet (ci := 10) (C := RX10) (F := TX10) (N := 54) (v := .long (gmL_13 0 25)) hx hb hts hiX10 hown hK hP 0 25 3 rfl rfl (by decide) rfl rfl rfl dX10_who_91 ?_
              refine lv_goto (tgt := 101) hx hb dX10_who_94 (by decide) ?_
              refine lv_l2i hx hb dX10_who_101 rfl ?_
              obtain ⟨q1, q2⟩ := zI2 hf
              subst q1
              subst q2
              exact zRetI hQ hx hb hr hlocks hA0 hK hP hD hS rfl dX10_who_102
          · replace hf := zIf_t hc hf
            refine lv_bipush (v := (-3)) hx hb dX10_who_72 (by decide) ?_
            obtain ⟨q1, q2⟩ := zI2 hf
            subst q1
            subst q2
            exact zRetI hQ hx hb hr hlocks hA0 hK hP hD hS rfl dX10_who_74
        refine zLpS2 (body := (fX10_who_L41 gm gmL_5)) (b := ex) (fun (v6 : Int64) (v7 : Int32) => ∀ (H : Heap) (locs : List Loc) (ls : Array Slot), va_P D vwCl (wX10 T hgm gm gmL_5) H → va_D A (wX10 T hgm gm gmL_5) → va_S A s.heap H locs → lv_has ls 6 [(0, .ref (hgm 0)), (1, .int a1), (2, .int a2), (3, .long v6), (5, .int v7)] → W p l e rX10_who s m args below meth c H locs 0 0 Q (F0 m 41 ls [])) ?_ zFU 0 0 hlp H locs ls hP hD hS (lv_sub hl [2, 3, 4, 1, 0] rfl)
        intro v6 v7 z hf hzz H locs ls hP hD hS hl
        unfold fX10_who_L41 at hf
        replace hf := zUk2 hf
        refine lv_iload hx hb dX10_who_41 (lv_at hl 4 rfl) ?_
        refine lv_aload_n hx hb dX10_who_43 rfl (lv_at hl 0 rfl) ?_
        refine zGet (ci := 10) (C := RX10) (F := TX10) (N := 54) (v := .int (gm 0 0)) hx hb hts hiX10 hown hK hP 0 0 1 rfl rfl (by decide) rfl rfl rfl dX10_who_44 ?_
        refine lv_icmp_ge (tgt := 66) hx hb dX10_who_47 (by decide) (fun hc => ?_) (fun hc => ?_)
        · replace hf := zIf_t hc hf
          cases hf
          exact hE41_66 v6 hzz.symm H locs ls hP hD hS (lv_sub hl [0, 1, 2, 3] rfl)
        · replace hf := zIf_f hc hf
          refine lv_lload_n hx hb dX10_who_50 rfl (lv_at hl 3 rfl) ?_
          refine lv_aload_n hx hb dX10_who_51 rfl (lv_at hl 0 rfl) ?_
          refine zGet (ci := 10) (C := RX10) (F := TX10) (N := 54) (v := .ref (hgm 10)) hx hb hts hiX10 hown hK hP 0 24 2 rfl rfl (by decide) rfl rfl rfl dX10_who_52 ?_
          refine lv_iload hx hb dX10_who_55 (lv_at hl 4 rfl) ?_
          obtain ⟨hg, hf⟩ := zGd_ok hf
          refine zAldL hx hb hK hP 10 rfl hg dX10_who_57 (fun v9 ev9 => ?_)
          replace hf := zLt_at ev9 hf
          refine lv_ladd hx hb dX10_who_58 ?_
          refine lv_topl (fun v10 ev10 => ?_)
          replace hf := zLt_at ev10 hf
          refine lv_lstore_n (lv' := [(3, .long v10), (0, .ref (hgm 0)), (1, .int a1), (2, .int a2), (5, .int v7)]) hx hb dX10_who_59 rfl hl (by decide) rfl (fun ls hl => ?_)
          obtain ⟨v11, ev11⟩ : ∃ y : Int32, y = v7 + 1 := ⟨_, rfl⟩
          replace hf := zLt_at ev11 hf
          refine lv_iinc (v := v11) (lv' := [(5, .int v11), (3, .long v10), (0, .ref (hgm 0)), (1, .int a1), (2, .int a2)]) hx hb dX10_who_60 hl (k := 4) rfl (by rw [ev11]; rfl) (by decide) rfl (fun ls hl => ?_)
          refine lv_goto (tgt := 41) hx hb dX10_who_63 (by decide) ?_
          cases hf
          exact hzz H locs ls hP hD hS (lv_sub hl [2, 3, 4, 1, 0] rfl)
      · replace hf := zIf_f hc hf
        refine lv_bipush (v := (-4)) hx hb dX10_who_29 (by decide) ?_
        obtain ⟨q1, q2⟩ := zI2 hf
        subst q1
        subst q2
        exact zRetI hQ hx hb hr hlocks hA0 hK hP hD hS rfl dX10_who_31
    · replace hf := zIf_t hc hf
      refine lv_iconst (v := (-1)) hx hb dX10_who_15 (by decide) ?_
      obtain ⟨q1, q2⟩ := zI2 hf
      subst q1
      subst q2
      exact zRetI hQ hx hb hr hlocks hA0 hK hP hD hS rfl dX10_who_16
set_option maxHeartbeats 4000000 in
set_option maxRecDepth 100000 in
theorem pX10_beginCut (l : Launch) (D : va_G) (T : Nat → ClassId) (X : zFP) (hgm : Nat → Nat) (sz : Nat) (gm : zM) (gml : zL) (ngm : zM) (hf : fX10_beginCut gm gml = some ngm) : Met l yX10_beginCut wsX10_beginCut rX10_beginCut (zPre D T X [.ref (hgm 0)] (wX10 T hgm gm gml) sz) (zQv D T (wX10 T hgm ngm gml) (wX10 T hgm gm gml) sz) 0 0 (va_A (wX10 T hgm gm gml) sz) := by
  unfold fX10_beginCut at hf
  refine zStart [(0, .ref (hgm 0))] (by decide) rfl (Nat.le_of_ble_eq_true rfl) rfl ?_
  intro p e s m args below meth c A Q ls hx hb hr hml hown hlocks hts hsz hA0 hQ hA hK hX hP hD hS hl
  replace hown : s.vm.findClass RX10 = some m.cls := hown
  have hH := hsz
  have hiX10 : ∀ w ∈ u_ws RX10 TX10 54, w ∈ wsX10_beginCut := fun w h => List.mem_cons_of_mem _ (List.mem_append_right _ (h))
  obtain ⟨H, hHe⟩ : ∃ H : Heap, H = s.heap := ⟨_, rfl⟩
  obtain ⟨locs, hLe⟩ : ∃ L : List Loc, L = [] := ⟨_, rfl⟩
  replace hP : va_P D vwCl (wX10 T hgm gm gml) H := by rw [hHe]; exact hP
  replace hS : va_S A s.heap H locs := by rw [hHe, hLe]; exact hS
  suffices hgo : W p l e rX10_beginCut s m args below meth c H locs 0 0 Q (F0 m 0 ls []) by rw [hHe, hLe] at hgo; exact hgo
  clear hHe hLe
  refine lv_aload_n hx hb dX10_beginCut_0 rfl (lv_at hl 0 rfl) ?_
  refine lv_iconst (v := 0) hx hb dX10_beginCut_1 (by decide) ?_
  refine zPut (ci := 10) (C := RX10) (F := TX10) (N := 54) (x := 0) (w := gm) hx hb hts hiX10 tyX10 tyX10_ok nmX10 hown hK hP hD hS (fun g => wX10 T hgm g gml) 0 27 1 rfl rfl (by decide) rfl rfl rfl ⟨rfl, rfl⟩ (Nat.le_of_ble_eq_true rfl) rfl dX10_beginCut_2 (fun gm_1 egm_1 H locs hP hD hS => ?_)
  replace hP : va_P D vwCl (wX10 T hgm gm_1 gml) H := hP
  replace hD : va_D A (wX10 T hgm gm_1 gml) := hD
  replace hf := zLt_at egm_1 hf
  refine lv_aload_n hx hb dX10_beginCut_5 rfl (lv_at hl 0 rfl) ?_
  refine lv_iconst (v := 0) hx hb dX10_beginCut_6 (by decide) ?_
  refine zPut (ci := 10) (C := RX10) (F := TX10) (N := 54) (x := 0) (w := gm_1) hx hb hts hiX10 tyX10 tyX10_ok nmX10 hown hK hP hD hS (fun g => wX10 T hgm g gml) 0 28 2 rfl rfl (by decide) rfl rfl rfl ⟨rfl, rfl⟩ (Nat.le_of_ble_eq_true rfl) rfl dX10_beginCut_7 (fun gm_2 egm_2 H locs hP hD hS => ?_)
  replace hP : va_P D vwCl (wX10 T hgm gm_2 gml) H := hP
  replace hD : va_D A (wX10 T hgm gm_2 gml) := hD
  replace hf := zLt_at egm_2 hf
  refine lv_aload_n hx hb dX10_beginCut_10 rfl (lv_at hl 0 rfl) ?_
  refine lv_iconst (v := 0) hx hb dX10_beginCut_11 (by decide) ?_
  refine zPut (ci := 10) (C := RX10) (F := TX10) (N := 54) (x := 0) (w := gm_2) hx hb hts hiX10 tyX10 tyX10_ok nmX10 hown hK hP hD hS (fun g => wX10 T hgm g gml) 0 29 3 rfl rfl (by decide) rfl rfl rfl (by decide) (Nat.le_of_ble_eq_true rfl) rfl dX10_beginCut_12 (fun gm_3 egm_3 H locs hP hD hS => ?_)
  replace hP : va_P D vwCl (wX10 T hgm gm_3 gml) H := hP
  replace hD : va_D A (wX10 T hgm gm_3 gml) := hD
  replace hf := zLt_at egm_3 hf
  obtain ⟨q1, -⟩ := zI1 hf
  subst q1
  exact zRetV hQ hx hb hr hlocks hA0 hK hP hD hS dX10_beginCut_15
set_option maxHeartbeats 4000000 in
set_option maxRecDepth 100000 in
theorem pX10_countCut (l : Launch) (D : va_G) (T : Nat → ClassId) (X : zFP) (hgm : Nat → Nat) (sz : Nat) (gm : zM) (gml : zL) (a1 : Int32) (ngm : zM) (hf : fX10_countCut gm gml a1 = some ngm) : Met l yX10_countCut wsX10_countCut rX10_countCut (zPre D T X [.ref (hgm 0), .int a1] (wX10 T hgm gm gml) sz) (zQv D T (wX10 T hgm ngm gml) (wX10 T hgm gm gml) sz) 0 0 (va_A (wX10 T hgm gm gml) sz) := by
  unfold fX10_countCut at hf
  refine zStart [(0, .ref (hgm 0)), (1, .int a1)] (by decide) rfl (Nat.le_of_ble_eq_true rfl) rfl ?_
  intro p e s m args below meth c A Q ls hx hb hr hml hown hlocks hts hsz hA0 hQ hA hK hX hP hD hS hl
  replace hown : s.vm.findClass RX10 = some m.cls := hown
  have hH := hsz
  have hiX10 : ∀ w ∈ u_ws RX10 TX10 54, w ∈ wsX10_countCut := fun w h => List.mem_cons_of_mem _ (List.mem_append_right _ (h))
  obtain ⟨H, hHe⟩ : ∃ H : Heap, H = s.heap := ⟨_, rfl⟩
  obtain ⟨locs, hLe⟩ : ∃ L : List Loc, L = [] := ⟨_, rfl⟩
  replace hP : va_P D vwCl (wX10 T hgm gm gml) H := by rw [hHe]; exact hP
  replace hS : va_S A s.heap H locs := by rw [hHe, hLe]; exact hS
  suffices hgo : W p l e rX10_countCut s m args below meth c H locs 0 0 Q (F0 m 0 ls []) by rw [hHe, hLe] at hgo; exact hgo
  clear hHe hLe
  refine lv_aload_n hx hb dX10_countCut_0 rfl (lv_at hl 0 rfl) ?_
  refine lv_dup hx hb dX10_countCut_1 rfl ?_
  refine zGet (ci := 10) (C := RX10) (F := TX10) (N := 54) (v := .int (gm 0 27)) hx hb hts hiX10 hown hK hP 0 27 1 rfl rfl (by decide) rfl rfl rfl dX10_countCut_2 ?_
  refine lv_iconst (v := 1) hx hb dX10_countCut_5 (by decide) ?_
  refine lv_iadd hx hb dX10_countCut_6 ?_
  refine lv_topi (fun v1 ev1 => ?_)
  replace hf := zLt_at ev1 hf
  refine zPut (ci := 10) (C := RX10) (F := TX10) (N := 54) (x := v1) (w := gm) hx hb hts hiX10 tyX10 tyX10_ok nmX10 hown hK hP hD hS (fun g => wX10 T hgm g gml) 0 27 1 rfl rfl (by decide) rfl rfl rfl ⟨rfl, rfl⟩ (Nat.le_of_ble_eq_true rfl) rfl dX10_countCut_7 (fun gm_2 egm_2 H locs hP hD hS => ?_)
  replace hP : va_P D vwCl (wX10 T hgm gm_2 gml) H := hP
  replace hD : va_D A (wX10 T hgm gm_2 gml) := hD
  replace hf := zLt_at egm_2 hf
  refine lv_aload_n hx hb dX10_countCut_10 rfl (lv_at hl 0 rfl) ?_
  refine lv_dup hx hb dX10_countCut_11 rfl ?_
  refine zGet (ci := 10) (C := RX10) (F := TX10) (N := 54) (v := .int (gm_2 0 28)) hx hb hts hiX10 hown hK hP 0 28 2 rfl rfl (by decide) rfl rfl rfl dX10_countCut_12 ?_
  refine lv_aload_n hx hb dX10_countCut_15 rfl (lv_at hl 0 rfl) ?_
  refine lv_iload_n hx hb dX10_countCut_16 rfl (lv_at hl 1 rfl) ?_
  refine lv_iconst (v := 2) hx hb dX10_countCut_17 (by decide) ?_
  obtain ⟨v3, hc18, hf⟩ := zB1_ok hf
  refine zCallVEI [.int a1, .int 2] ⟨hx, hb, hml, hown, hts⟩ (pX10_its l D T X hgm H.size gm_2 gml a1 2 v3 hc18) (cwV 2 hts gX10_countCut_X10_its rfl rfl rfl (by decide +kernel) ⟨Nat.le_of_ble_eq_true rfl, Nat.le_of_ble_eq_true rfl⟩) hK hP hD hS hA hX 0 rfl rfl rfl hl.1 rfl (Nat.le_of_ble_eq_true rfl) dX10_countCut_18 ⟨Nat.zero_le _, Nat.zero_le _⟩ (fun H locs hP hD hS => ?_)
  refine lv_iadd hx hb dX10_countCut_21 ?_
  refine lv_topi (fun v4 ev4 => ?_)
  replace hf := zLt_at ev4 hf
  refine zPut (ci := 10) (C := RX10) (F := TX10) (N := 54) (x := v4) (w := gm_2) hx hb hts hiX10 tyX10 tyX10_ok nmX10 hown hK hP hD hS (fun g => wX10 T hgm g gml) 0 28 2 rfl rfl (by decide) rfl rfl rfl ⟨rfl, rfl⟩ (Nat.le_of_ble_eq_true rfl) rfl dX10_countCut_22 (fun gm_5 egm_5 H locs hP hD hS => ?_)
  replace hP : va_P D vwCl (wX10 T hgm gm_5 gml) H := hP
  replace hD : va_D A (wX10 T hgm gm_5 gml) := hD
  replace hf := zLt_at egm_5 hf
  refine lv_aload_n hx hb dX10_countCut_25 rfl (lv_at hl 0 rfl) ?_
  refine lv_aload_n hx hb dX10_countCut_26 rfl (lv_at hl 0 rfl) ?_
  refine zGet (ci := 10) (C := RX10) (F := TX10) (N := 54) (v := .int (gm_5 0 29)) hx hb hts hiX10 hown hK hP 0 29 3 rfl rfl (by decide) rfl rfl rfl dX10_countCut_27 ?_
  have hJ48 : ∀ (v6 : Int32) (H : Heap) (locs : List Loc) (ls : Array Slot), fX10_countCut_J48 gm_5 v6 = some ngm → va_P D vwCl (wX10 T hgm gm_5 gml) H → va_D A (wX10 T hgm gm_5 gml) → va_S A s.heap H locs → lv_has ls 2 [] → W p l e rX10_countCut s m args below meth c H locs 0 0 Q (F0 m 48 ls [.int v6, .ref (hgm 0)]) := by
    intro v6 H locs ls hf hP hD hS hl
    unfold fX10_countCut_J48 at hf
    obtain ⟨hg, hf⟩ := zGd_ok hf
    refine zPut (ci := 10) (C := RX10) (F := TX10) (N := 54) (x := v6) (w := gm_5) hx hb hts hiX10 tyX10 tyX10_ok nmX10 hown hK hP hD hS (fun g => wX10 T hgm g gml) 0 29 3 rfl rfl (by decide) rfl rfl rfl (zBo_ok hg) (Nat.le_of_ble_eq_true rfl) rfl dX10_countCut_48 (fun gm_7 egm_7 H locs hP hD hS => ?_)
    replace hP : va_P D vwCl (wX10 T hgm gm_7 gml) H := hP
    replace hD : va_D A (wX10 T hgm gm_7 gml) := hD
    replace hf := zLt_at egm_7 hf
    obtain ⟨q1, -⟩ := zI1 hf
    subst q1
    exact zRetV hQ hx hb hr hlocks hA0 hK hP hD hS dX10_countCut_51
  have hJ43 : ∀ (H : Heap) (locs : List Loc) (ls : Array Slot), fX10_countCut_J43 gm_5 = some ngm → va_P D vwCl (wX10 T hgm gm_5 gml) H → va_D A (wX10 T hgm gm_5 gml) → va_S A s.heap H locs → lv_has ls 2 [] → W p l e rX10_countCut s m args below meth c H locs 0 0 Q (F0 m 43 ls [.ref (hgm 0)]) := by
    intro H locs ls hf hP hD hS hl
    unfold fX10_countCut_J43 at hf
    refine lv_iconst (v := 1) hx hb dX10_countCut_43 (by decide) ?_
    refine lv_goto (tgt := 48) hx hb dX10_countCut_44 (by decide) ?_
    exact hJ48 1 H locs ls hf hP hD hS hl
  refine lv_if_ne (tgt := 43) hx hb dX10_countCut_30 (by decide) (fun hc => ?_) (fun hc => ?_)
  · replace hf := zIf_f hc hf
    exact hJ43 H locs ls hf hP hD hS (lv_sub hl [] rfl)
  · replace hf := zIf_t hc hf
    refine lv_aload_n hx hb dX10_countCut_33 rfl (lv_at hl 0 rfl) ?_
    refine lv_iload_n hx hb dX10_countCut_34 rfl (lv_at hl 1 rfl) ?_
    refine lv_iconst (v := 4) hx hb dX10_countCut_35 (by decide) ?_
    obtain ⟨v8, hc36, hf⟩ := zB1_ok hf
    refine zCallVEI [.int a1, .int 4] ⟨hx, hb, hml, hown, hts⟩ (pX10_its l D T X hgm H.size gm_5 gml a1 4 v8 hc36) (cwV 2 hts gX10_countCut_X10_its rfl rfl rfl (by decide +kernel) ⟨Nat.le_of_ble_eq_true rfl, Nat.le_of_ble_eq_true rfl⟩) hK hP hD hS hA hX 0 rfl rfl rfl hl.1 rfl (Nat.le_of_ble_eq_true rfl) dX10_countCut_36 ⟨Nat.zero_le _, Nat.zero_le _⟩ (fun H locs hP hD hS => ?_)
    refine lv_iconst (v := 1) hx hb dX10_countCut_39 (by decide) ?_
    refine lv_icmp_ne (tgt := 47) hx hb dX10_countCut_40 (by decide) (fun hc => ?_) (fun hc => ?_)
    · replace hf := zIf_f hc hf
      refine lv_iconst (v := 0) hx hb dX10_countCut_47 (by decide) ?_
      exact hJ48 0 H locs ls hf hP hD hS (lv_sub hl [] rfl)
    · replace hf := zIf_t hc hf
      exact hJ43 H locs ls hf hP hD hS (lv_sub hl [] rfl)
set_option maxHeartbeats 4000000 in
set_option maxRecDepth 100000 in
theorem pX10_fewest (l : Launch) (D : va_G) (T : Nat → ClassId) (X : zFP) (hgm : Nat → Nat) (sz : Nat) (gm : zM) (gml : zL) (a1 : Int32) (a2 : Int32) (a3 : Int32) (r : Int32) (ngm : zM) (hf : fX10_fewest gm gml a1 a2 a3 = some (r, ngm)) : Met l yX10_fewest wsX10_fewest rX10_fewest (zPre D T X [.ref (hgm 0), .int a1, .int a2, .int a3] (wX10 T hgm gm gml) sz) (zQi D T r (wX10 T hgm ngm gml) (wX10 T hgm gm gml) sz) 0 0 (va_A (wX10 T hgm gm gml) sz) := by
  unfold fX10_fewest at hf
  refine zStart [(0, .ref (hgm 0)), (1, .int a1), (2, .int a2), (3, .int a3)] (by decide) rfl (Nat.le_of_ble_eq_true rfl) rfl ?_
  intro p e s m args below meth c A Q ls hx hb hr hml hown hlocks hts hsz hA0 hQ hA hK hX hP hD hS hl
  replace hown : s.vm.findClass RX10 = some m.cls := hown
  have hH := hsz
  have hiX10 : ∀ w ∈ u_ws RX10 TX10 54, w ∈ wsX10_fewest := fun w h => List.mem_cons_of_mem _ (List.mem_append_right _ (h))
  obtain ⟨H, hHe⟩ : ∃ H : Heap, H = s.heap := ⟨_, rfl⟩
  obtain ⟨locs, hLe⟩ : ∃ L : List Loc, L = [] := ⟨_, rfl⟩
  replace hP : va_P D vwCl (wX10 T hgm gm gml) H := by rw [hHe]; exact hP
  replace hS : va_S A s.heap H locs := by rw [hHe, hLe]; exact hS
  suffices hgo : W p l e rX10_fewest s m args below meth c H locs 0 0 Q (F0 m 0 ls []) by rw [hHe, hLe] at hgo; exact hgo
  clear hHe hLe
  refine lv_aload_n hx hb dX10_fewest_0 rfl (lv_at hl 0 rfl) ?_
  refine lv_iload_n hx hb dX10_fewest_1 rfl (lv_at hl 1 rfl) ?_
  refine lv_iload_n hx hb dX10_fewest_2 rfl (lv_at hl 2 rfl) ?_
  obtain ⟨v1, hc3, hf⟩ := zB1_ok hf
  refine zCallVEI [.int a1, .int a2] ⟨hx, hb, hml, hown, hts⟩ (pX10_areTwo l D T X hgm H.size gm gml a1 a2 v1 hc3) (cwV 2 hts gX10_fewest_X10_areTwo rfl rfl rfl (by decide +kernel) ⟨Nat.le_of_ble_eq_true rfl, Nat.le_of_ble_eq_true rfl⟩) hK hP hD hS hA hX 0 rfl rfl rfl hl.1 rfl (Nat.le_of_ble_eq_true rfl) dX10_fewest_3 ⟨Nat.zero_le _, Nat.zero_le _⟩ (fun H locs hP hD hS => ?_)
  refine lv_if_eq (tgt := 16) hx hb dX10_fewest_6 (by decide) (fun hc => ?_) (fun hc => ?_)
  · replace hf := zIf_t hc hf
    refine lv_iconst (v := (-1)) hx hb dX10_fewest_16 (by decide) ?_
    obtain ⟨q1, q2⟩ := zI2 hf
    subst q1
    subst q2
    exact zRetI hQ hx hb hr hlocks hA0 hK hP hD hS rfl dX10_fewest_17
  · replace hf := zIf_f hc hf
    refine lv_iload_n hx hb dX10_fewest_9 rfl (lv_at hl 3 rfl) ?_
    obtain ⟨v2, hc10, hf⟩ := zB1_ok hf
    refine zCallS0I [.int a3] ⟨hx, hb, hml, hown, hts⟩ (pX10_isSide l D T X H.size a3 v2 hc10) (va_cwS 1 hts gX10_fewest_X10_isSide rfl rfl rfl (by decide +kernel) ⟨Nat.le_of_ble_eq_true rfl, Nat.le_of_ble_eq_true rfl⟩) hK hP hD hS hA hX rfl hl.1 rfl (Nat.le_of_ble_eq_true rfl) dX10_fewest_10 ⟨Nat.zero_le _, Nat.zero_le _⟩ (fun H locs hP hD hS => ?_)
    refine lv_if_ne (tgt := 18) hx hb dX10_fewest_13 (by decide) (fun hc => ?_) (fun hc => ?_)
    · replace hf := zIf_f hc hf
      refine lv_aload_n hx hb dX10_fewest_18 rfl (lv_at hl 0 rfl) ?_
      refine lv_iconst (v := 0) hx hb dX10_fewest_19 (by decide) ?_
      obtain ⟨v3, hc20, hf⟩ := zB1_ok hf
      refine zCallVEI [.int 0] ⟨hx, hb, hml, hown, hts⟩ (pX10_openOn l D T X hgm H.size gm gml 0 v3 hc20) (cwV 1 hts gX10_fewest_X10_openOn rfl rfl rfl (by decide +kernel) ⟨Nat.le_of_ble_eq_true rfl, Nat.le_of_ble_eq_true rfl⟩) hK hP hD hS hA hX 0 rfl rfl rfl hl.1 rfl (Nat.le_of_ble_eq_true rfl) dX10_fewest_20 ⟨Nat.zero_le _, Nat.zero_le _⟩ (fun H locs hP hD hS => ?_)
      refine lv_istore (lv' := [(4, .int v3), (0, .ref (hgm 0)), (1, .int a1), (2, .int a2), (3, .int a3)]) hx hb dX10_fewest_23 hl (by decide) rfl (fun ls hl => ?_)
      refine lv_bipush (v := (-3)) hx hb dX10_fewest_25 (by decide) ?_
      refine lv_istore (lv' := [(5, .int (-3)), (4, .int v3), (0, .ref (hgm 0)), (1, .int a1), (2, .int a2), (3, .int a3)]) hx hb dX10_fewest_27 hl (by decide) rfl (fun ls hl => ?_)
      refine lv_iconst (v := 0) hx hb dX10_fewest_29 (by decide) ?_
      refine lv_istore (lv' := [(6, .int 0), (5, .int (-3)), (4, .int v3), (0, .ref (hgm 0)), (1, .int a1), (2, .int a2), (3, .int a3)]) hx hb dX10_fewest_30 hl (by decide) rfl (fun ls hl => ?_)
      obtain ⟨ex, hlp, hf⟩ := zB1_ok hf
      have hE32_165 : ∀ (v7 : Int32) (gm_8 : zM) , ex = (v7, gm_8) → ∀ (H : Heap) (locs : List Loc) (ls : Array Slot), va_P D vwCl (wX10 T hgm gm_8 gml) H → va_D A (wX10 T hgm gm_8 gml) → va_S A s.heap H locs → lv_has ls 8 [(5, .int v7)] → W p l e rX10_fewest s m args below meth c H locs 0 0 Q (F0 m 165 ls []) := by
        intro v7 gm_8 hex H locs ls hP hD hS hl
        have hf := zEx2 hex hf
        refine lv_iload hx hb dX10_fewest_165 (lv_at hl 0 rfl) ?_
        obtain ⟨q1, q2⟩ := zI2 hf
        subst q1
        subst q2
        exact zRetI hQ hx hb hr hlocks hA0 hK hP hD hS rfl dX10_fewest_167
      refine zLpS3 (body := (fX10_fewest_L32 a1 a2 a3 gml v3)) (b := ex) (fun (v4 : Int32) (v5 : Int32) (gm_6 : zM) => ∀ (H : Heap) (locs : List Loc) (ls : Array Slot), va_P D vwCl (wX10 T hgm gm_6 gml) H → va_D A (wX10 T hgm gm_6 gml) → va_S A s.heap H locs → lv_has ls 8 [(0, .ref (hgm 0)), (1, .int a1), (2, .int a2), (3, .int a3), (4, .int v3), (5, .int v4), (6, .int v5)] → W p l e rX10_fewest s m args below meth c H locs 0 0 Q (F0 m 32 ls [])) ?_ zFU (-3) 0 gm hlp H locs ls hP hD hS (lv_sub hl [3, 4, 5, 6, 2, 1, 0] rfl)
      intro v4 v5 gm_6 z hf hzz H locs ls hP hD hS hl
      unfold fX10_fewest_L32 at hf
      replace hf := zUk3 hf
      refine lv_iload hx hb dX10_fewest_32 (lv_at hl 6 rfl) ?_
      refine lv_aload_n hx hb dX10_fewest_34 rfl (lv_at hl 0 rfl) ?_
      obtain ⟨v9, hc35, hf⟩ := zB1_ok hf
      refine zCallVEI [] ⟨hx, hb, hml, hown, hts⟩ (pX10_all l D T X hgm H.size gm_6 gml v9 hc35) (cwV 0 hts gX10_fewest_X10_all rfl rfl rfl (by decide +kernel) ⟨Nat.le_of_ble_eq_true rfl, Nat.le_of_ble_eq_true rfl⟩) hK hP hD hS hA hX 0 rfl rfl rfl hl.1 rfl (Nat.le_of_ble_eq_true rfl) dX10_fewest_35 ⟨Nat.zero_le _, Nat.zero_le _⟩ (fun H locs hP hD hS => ?_)
      refine lv_icmp_gt (tgt := 165) hx hb dX10_fewest_38 (by decide) (fun hc => ?_) (fun hc => ?_)
      · replace hf := zIf_t hc hf
        cases hf
        exact hE32_165 v4 gm_6 hzz.symm H locs ls hP hD hS (lv_sub hl [5] rfl)
      · replace hf := zIf_f hc hf
        refine lv_iload hx hb dX10_fewest_41 (lv_at hl 6 rfl) ?_
        refine lv_iload_n hx hb dX10_fewest_43 rfl (lv_at hl 1 rfl) ?_
        refine lv_ishr hx hb dX10_fewest_44 ?_
        refine lv_iconst (v := 1) hx hb dX10_fewest_45 (by decide) ?_
        refine lv_iand hx hb dX10_fewest_46 ?_
        have hJ159 : ∀ (v10 : Int32) (gm_11 : zM) (H : Heap) (locs : List Loc) (ls : Array Slot), fX10_fewest_L32J159 v5 v10 gm_11 = some z → va_P D vwCl (wX10 T hgm gm_11 gml) H → va_D A (wX10 T hgm gm_11 gml) → va_S A s.heap H locs → lv_has ls 8 [(0, .ref (hgm 0)), (1, .int a1), (2, .int a2), (3, .int a3), (4, .int v3), (5, .int v10), (6, .int v5)] → W p l e rX10_fewest s m args below meth c H locs 0 0 Q (F0 m 159 ls []) := by
          intro v10 gm_11 H locs ls hf hP hD hS hl
          unfold fX10_fewest_L32J159 at hf
          obtain ⟨v12, ev12⟩ : ∃ y : Int32, y = v5 + 1 := ⟨_, rfl⟩
          replace hf := zLt_at ev12 hf
          refine lv_iinc (v := v12) (lv' := [(6, .int v12), (0, .ref (hgm 0)), (1, .int a1), (2, .int a2), (3, .int a3), (4, .int v3), (5, .int v10)]) hx hb dX10_fewest_159 hl (k := 6) rfl (by rw [ev12]; rfl) (by decide) rfl (fun ls hl => ?_)
          refine lv_goto (tgt := 32) hx hb dX10_fewest_162 (by decide) ?_
          cases hf
          exact hzz H locs ls hP hD hS (lv_sub hl [1, 2, 3, 4, 5, 6, 0] rfl)
        refine lv_if_eq (tgt := 159) hx hb dX10_fewest_47 (by decide) (fun hc => ?_) (fun hc => ?_)
        · replace hf := zIf_t hc hf
          exact hJ159 v4 gm_6 H locs ls hf hP hD hS hl
        · replace hf := zIf_f hc hf
          refine lv_iload hx hb dX10_fewest_50 (lv_at hl 6 rfl) ?_
          refine lv_iload_n hx hb dX10_fewest_52 rfl (lv_at hl 2 rfl) ?_
          refine lv_ishr hx hb dX10_fewest_53 ?_
          refine lv_iconst (v := 1) hx hb dX10_fewest_54 (by decide) ?_
          refine lv_iand hx hb dX10_fewest_55 ?_
          refine lv_iconst (v := 1) hx hb dX10_fewest_56 (by decide) ?_
          refine lv_icmp_ne (tgt := 63) hx hb dX10_fewest_57 (by decide) (fun hc => ?_) (fun hc => ?_)
          · replace hf := zIf_f hc hf
            refine lv_aload_n hx hb dX10_fewest_63 rfl (lv_at hl 0 rfl) ?_
            obtain ⟨gm_13, hc64, hf⟩ := zB1_ok hf
            refine zCallVEV [] ⟨hx, hb, hml, hown, hts⟩ (pX10_beginCut l D T X hgm H.size gm_6 gml gm_13 hc64) (cwV 0 hts gX10_fewest_X10_beginCut rfl rfl rfl (by decide +kernel) ⟨Nat.le_of_ble_eq_true rfl, Nat.le_of_ble_eq_true rfl⟩) hK hP hD hS hA hX 0 rfl rfl rfl hl.1 rfl (Nat.le_of_ble_eq_true rfl) dX10_fewest_64 ⟨Nat.zero_le _, Nat.zero_le _⟩ (fun H locs hP hD hS => ?_)
            refine lv_iconst (v := 0) hx hb dX10_fewest_67 (by decide) ?_
            refine lv_istore (lv' := [(7, .int 0), (0, .ref (hgm 0)), (1, .int a1), (2, .int a2), (3, .int a3), (4, .int v3), (5, .int v4), (6, .int v5)]) hx hb dX10_fewest_68 hl (by decide) rfl (fun ls hl => ?_)
            obtain ⟨ex, hlp, hf⟩ := zB1_ok hf
            have hE70_114 : ∀ (gm_16 : zM) , ex = gm_16 → ∀ (H : Heap) (locs : List Loc) (ls : Array Slot), va_P D vwCl (wX10 T hgm gm_16 gml) H → va_D A (wX10 T hgm gm_16 gml) → va_S A s.heap H locs → lv_has ls 8 [(0, .ref (hgm 0)), (1, .int a1), (2, .int a2), (3, .int a3), (4, .int v3), (5, .int v4), (6, .int v5)] → W p l e rX10_fewest s m args below meth c H locs 0 0 Q (F0 m 114 ls []) := by
              intro gm_16 hex H locs ls hP hD hS hl
              have hf := zEx1 hex hf
              refine lv_iload_n hx hb dX10_fewest_114 rfl (lv_at hl 3 rfl) ?_
              have hJ129 : ∀ (v21 : Int32) (H : Heap) (locs : List Loc) (ls : Array Slot), fX10_fewest_L32J129 v4 v5 gm_16 v21 = some z → va_P D vwCl (wX10 T hgm gm_16 gml) H → va_D A (wX10 T hgm gm_16 gml) → va_S A s.heap H locs → lv_has ls 8 [(0, .ref (hgm 0)), (1, .int a1), (2, .int a2), (3, .int a3), (4, .int v3), (5, .int v4), (6, .int v5)] → W p l e rX10_fewest s m args below meth c H locs 0 0 Q (F0 m 129 ls [.int v21]) := by
                intro v21 H locs ls hf hP hD hS hl
                unfold fX10_fewest_L32J129 at hf
                refine lv_istore (lv' := [(7, .int v21), (0, .ref (hgm 0)), (1, .int a1), (2, .int a2), (3, .int a3), (4, .int v3), (5, .int v4), (6, .int v5)]) hx hb dX10_fewest_129 hl (by decide) rfl (fun ls hl => ?_)
                refine lv_aload_n hx hb dX10_fewest_131 rfl (lv_at hl 1 rfl) ?_
                refine zGet (ci := 10) (C := RX10) (F := TX10) (N := 54) (v := .int (gm_16 0 29)) hx hb hts hiX10 hown hK hP 0 29 4 rfl rfl (by decide) rfl rfl rfl dX10_fewest_132 ?_
                have hJ157 : ∀ (v22 : Int32) (H : Heap) (locs : List Loc) (ls : Array Slot), fX10_fewest_L32J157 v5 gm_16 v22 = some z → va_P D vwCl (wX10 T hgm gm_16 gml) H → va_D A (wX10 T hgm gm_16 gml) → va_S A s.heap H locs → lv_has ls 8 [(0, .ref (hgm 0)), (1, .int a1), (2, .int a2), (3, .int a3), (4, .int v3), (6, .int v5)] → W p l e rX10_fewest s m args below meth c H locs 0 0 Q (F0 m 157 ls [.int v22]) := by
                  intro v22 H locs ls hf hP hD hS hl
                  unfold fX10_fewest_L32J157 at hf
                  refine lv_istore (lv' := [(5, .int v22), (0, .ref (hgm 0)), (1, .int a1), (2, .int a2), (3, .int a3), (4, .int v3), (6, .int v5)]) hx hb dX10_fewest_157 hl (by decide) rfl (fun ls hl => ?_)
                  exact hJ159 v22 gm_16 H locs ls hf hP hD hS (lv_sub hl [1, 2, 3, 4, 5, 0, 6] rfl)
                have hJ155 : ∀ (H : Heap) (locs : List Loc) (ls : Array Slot), fX10_fewest_L32J155 v4 v5 gm_16 = some z → va_P D vwCl (wX10 T hgm gm_16 gml) H → va_D A (wX10 T hgm gm_16 gml) → va_S A s.heap H locs → lv_has ls 8 [(0, .ref (hgm 0)), (1, .int a1), (2, .int a2), (3, .int a3), (4, .int v3), (5, .int v4), (6, .int v5)] → W p l e rX10_fewest s m args below meth c H locs 0 0 Q (F0 m 155 ls []) := by
                  intro H locs ls hf hP hD hS hl
                  unfold fX10_fewest_L32J155 at hf
                  refine lv_iload hx hb dX10_fewest_155 (lv_at hl 5 rfl) ?_
                  exact hJ157 v4 H locs ls hf hP hD hS (lv_sub hl [0, 1, 2, 3, 4, 6] rfl)
                refine lv_if_ne (tgt := 155) hx hb dX10_fewest_135 (by decide) (fun hc => ?_) (fun hc => ?_)
                · replace hf := zIf_f hc hf
                  exact hJ155 H locs ls hf hP hD hS (lv_sub hl [1, 2, 3, 4, 5, 6, 7] rfl)
                · replace hf := zIf_t hc hf
                  refine lv_iload hx hb dX10_fewest_138 (lv_at hl 6 rfl) ?_
                  have hJ150 : ∀ (H : Heap) (locs : List Loc) (ls : Array Slot), fX10_fewest_L32J150 v5 gm_16 v21 = some z → va_P D vwCl (wX10 T hgm gm_16 gml) H → va_D A (wX10 T hgm gm_16 gml) → va_S A s.heap H locs → lv_has ls 8 [(0, .ref (hgm 0)), (1, .int a1), (2, .int a2), (3, .int a3), (4, .int v3), (6, .int v5), (7, .int v21)] → W p l e rX10_fewest s m args below meth c H locs 0 0 Q (F0 m 150 ls []) := by
                    intro H locs ls hf hP hD hS hl
                    unfold fX10_fewest_L32J150 at hf
                    refine lv_iload hx hb dX10_fewest_150 (lv_at hl 6 rfl) ?_
                    refine lv_goto (tgt := 157) hx hb dX10_fewest_152 (by decide) ?_
                    exact hJ157 v21 H locs ls hf hP hD hS (lv_sub hl [0, 1, 2, 3, 4, 5] rfl)
                  refine lv_if_lt (tgt := 150) hx hb dX10_fewest_140 (by decide) (fun hc => ?_) (fun hc => ?_)
                  · replace hf := zIf_t hc hf
                    exact hJ150 H locs ls hf hP hD hS (lv_sub hl [1, 2, 3, 4, 5, 7, 0] rfl)
                  · replace hf := zIf_f hc hf
                    refine lv_iload hx hb dX10_fewest_143 (lv_at hl 0 rfl) ?_
                    refine lv_iload hx hb dX10_fewest_145 (lv_at hl 6 rfl) ?_
                    refine lv_icmp_ge (tgt := 155) hx hb dX10_fewest_147 (by decide) (fun hc => ?_) (fun hc => ?_)
                    · replace hf := zIf_t hc hf
                      exact hJ155 H locs ls hf hP hD hS (lv_sub hl [1, 2, 3, 4, 5, 6, 7] rfl)
                    · replace hf := zIf_f hc hf
                      exact hJ150 H locs ls hf hP hD hS (lv_sub hl [1, 2, 3, 4, 5, 7, 0] rfl)
              refine lv_if_ne (tgt := 125) hx hb dX10_fewest_115 (by decide) (fun hc => ?_) (fun hc => ?_)
              · replace hf := zIf_f hc hf
                refine lv_aload_n hx hb dX10_fewest_125 rfl (lv_at hl 0 rfl) ?_
                refine zGet (ci := 10) (C := RX10) (F := TX10) (N := 54) (v := .int (gm_16 0 28)) hx hb hts hiX10 hown hK hP 0 28 3 rfl rfl (by decide) rfl rfl rfl dX10_fewest_126 ?_
                exact hJ129 (gm_16 0 28) H locs ls hf hP hD hS hl
              · replace hf := zIf_t hc hf
                refine lv_aload_n hx hb dX10_fewest_118 rfl (lv_at hl 0 rfl) ?_
                refine zGet (ci := 10) (C := RX10) (F := TX10) (N := 54) (v := .int (gm_16 0 27)) hx hb hts hiX10 hown hK hP 0 27 2 rfl rfl (by decide) rfl rfl rfl dX10_fewest_119 ?_
                refine lv_goto (tgt := 129) hx hb dX10_fewest_122 (by decide) ?_
                exact hJ129 (gm_16 0 27) H locs ls hf hP hD hS hl
            refine zLpS2 (body := (fX10_fewest_L70 gml v3 v5)) (b := ex) (fun (v14 : Int32) (gm_15 : zM) => ∀ (H : Heap) (locs : List Loc) (ls : Array Slot), va_P D vwCl (wX10 T hgm gm_15 gml) H → va_D A (wX10 T hgm gm_15 gml) → va_S A s.heap H locs → lv_has ls 8 [(0, .ref (hgm 0)), (1, .int a1), (2, .int a2), (3, .int a3), (4, .int v3), (5, .int v4), (6, .int v5), (7, .int v14)] → W p l e rX10_fewest s m args below meth c H locs 0 0 Q (F0 m 70 ls [])) ?_ zFU 0 gm_13 hlp H locs ls hP hD hS (lv_sub hl [1, 2, 3, 4, 5, 6, 7, 0] rfl)
            intro v14 gm_15 z hf hzz H locs ls hP hD hS hl
            unfold fX10_fewest_L70 at hf
            replace hf := zUk2 hf
            refine lv_iload hx hb dX10_fewest_70 (lv_at hl 7 rfl) ?_
            refine lv_aload_n hx hb dX10_fewest_72 rfl (lv_at hl 0 rfl) ?_
            refine zGet (ci := 10) (C := RX10) (F := TX10) (N := 54) (v := .int (gm_15 0 2)) hx hb hts hiX10 hown hK hP 0 2 1 rfl rfl (by decide) rfl rfl rfl dX10_fewest_73 ?_
            refine lv_icmp_ge (tgt := 114) hx hb dX10_fewest_76 (by decide) (fun hc => ?_) (fun hc => ?_)
            · replace hf := zIf_t hc hf
              cases hf
              exact hE70_114 gm_15 hzz.symm H locs ls hP hD hS (lv_sub hl [0, 1, 2, 3, 4, 5, 6] rfl)
            · replace hf := zIf_f hc hf
              refine lv_iload hx hb dX10_fewest_79 (lv_at hl 4 rfl) ?_
              refine lv_iload hx hb dX10_fewest_81 (lv_at hl 7 rfl) ?_
              refine lv_ishr hx hb dX10_fewest_83 ?_
              refine lv_iconst (v := 1) hx hb dX10_fewest_84 (by decide) ?_
              refine lv_iand hx hb dX10_fewest_85 ?_
              refine lv_iconst (v := 1) hx hb dX10_fewest_86 (by decide) ?_
              have hJ108 : ∀ (gm_17 : zM) (H : Heap) (locs : List Loc) (ls : Array Slot), fX10_fewest_L70J108 v14 gm_17 = some z → va_P D vwCl (wX10 T hgm gm_17 gml) H → va_D A (wX10 T hgm gm_17 gml) → va_S A s.heap H locs → lv_has ls 8 [(0, .ref (hgm 0)), (1, .int a1), (2, .int a2), (3, .int a3), (4, .int v3), (5, .int v4), (6, .int v5), (7, .int v14)] → W p l e rX10_fewest s m args below meth c H locs 0 0 Q (F0 m 108 ls []) := by
                intro gm_17 H locs ls hf hP hD hS hl
                unfold fX10_fewest_L70J108 at hf
                obtain ⟨v18, ev18⟩ : ∃ y : Int32, y = v14 + 1 := ⟨_, rfl⟩
                replace hf := zLt_at ev18 hf
                refine lv_iinc (v := v18) (lv' := [(7, .int v18), (0, .ref (hgm 0)), (1, .int a1), (2, .int a2), (3, .int a3), (4, .int v3), (5, .int v4), (6, .int v5)]) hx hb dX10_fewest_108 hl (k := 7) rfl (by rw [ev18]; rfl) (by decide) rfl (fun ls hl => ?_)
                refine lv_goto (tgt := 70) hx hb dX10_fewest_111 (by decide) ?_
                cases hf
                exact hzz H locs ls hP hD hS (lv_sub hl [1, 2, 3, 4, 5, 6, 7, 0] rfl)
              refine lv_icmp_ne (tgt := 108) hx hb dX10_fewest_87 (by decide) (fun hc => ?_) (fun hc => ?_)
              · replace hf := zIf_f hc hf
                exact hJ108 gm_15 H locs ls hf hP hD hS hl
              · replace hf := zIf_t hc hf
                refine lv_aload_n hx hb dX10_fewest_90 rfl (lv_at hl 0 rfl) ?_
                refine lv_iload hx hb dX10_fewest_91 (lv_at hl 7 rfl) ?_
                refine lv_iload hx hb dX10_fewest_93 (lv_at hl 6 rfl) ?_
                obtain ⟨v19, hc95, hf⟩ := zB1_ok hf
                refine zCallVEI [.int v14, .int v5] ⟨hx, hb, hml, hown, hts⟩ (pX10_inSet l D T X hgm H.size gm_15 gml v14 v5 v19 hc95) (cwV 2 hts gX10_fewest_X10_inSet rfl rfl rfl (by decide +kernel) ⟨Nat.le_of_ble_eq_true rfl, Nat.le_of_ble_eq_true rfl⟩) hK hP hD hS hA hX 0 rfl rfl rfl hl.1 rfl (Nat.le_of_ble_eq_true rfl) dX10_fewest_95 ⟨Nat.zero_le _, Nat.zero_le _⟩ (fun H locs hP hD hS => ?_)
                refine lv_iconst (v := 1) hx hb dX10_fewest_98 (by decide) ?_
                refine lv_icmp_ne (tgt := 108) hx hb dX10_fewest_99 (by decide) (fun hc => ?_) (fun hc => ?_)
                · replace hf := zIf_f hc hf
                  exact hJ108 gm_15 H locs ls hf hP hD hS hl
                · replace hf := zIf_t hc hf
                  refine lv_aload_n hx hb dX10_fewest_102 rfl (lv_at hl 0 rfl) ?_
                  refine lv_iload hx hb dX10_fewest_103 (lv_at hl 7 rfl) ?_
                  obtain ⟨gm_20, hc105, hf⟩ := zB1_ok hf
                  refine zCallVEV [.int v14] ⟨hx, hb, hml, hown, hts⟩ (pX10_countCut l D T X hgm H.size gm_15 gml v14 gm_20 hc105) (cwV 1 hts gX10_fewest_X10_countCut rfl rfl rfl (by decide +kernel) ⟨Nat.le_of_ble_eq_true rfl, Nat.le_of_ble_eq_true rfl⟩) hK hP hD hS hA hX 0 rfl rfl rfl hl.1 rfl (Nat.le_of_ble_eq_true rfl) dX10_fewest_105 ⟨Nat.zero_le _, Nat.zero_le _⟩ (fun H locs hP hD hS => ?_)
                  exact hJ108 gm_20 H locs ls hf hP hD hS hl
          · replace hf := zIf_t hc hf
            refine lv_goto (tgt := 159) hx hb dX10_fewest_60 (by decide) ?_
            exact hJ159 v4 gm_6 H locs ls hf hP hD hS hl
    · replace hf := zIf_t hc hf
      refine lv_iconst (v := (-1)) hx hb dX10_fewest_16 (by decide) ?_
      obtain ⟨q1, q2⟩ := zI2 hf
      subst q1
      subst q2
      exact zRetI hQ hx hb hr hlocks hA0 hK hP hD hS rfl dX10_fewest_17
set_option maxHeartbeats 4000000 in
set_option maxRecDepth 100000 in
theorem pX10_between (l : Launch) (D : va_G) (T : Nat → ClassId) (X : zFP) (hgm : Nat → Nat) (sz : Nat) (gm : zM) (gml : zL) (a1 : Int32) (a2 : Int32) (a3 : Int32) (r : Int32) (hf : fX10_between gm gml a1 a2 a3 = some r) : Met l yX10_between wsX10_between rX10_between (zPre D T X [.ref (hgm 0), .int a1, .int a2, .int a3] (wX10 T hgm gm gml) sz) (zQi D T r (wX10 T hgm gm gml) (wX10 T hgm gm gml) sz) 0 0 (va_A (wX10 T hgm gm gml) sz) := by
  unfold fX10_between at hf
  refine zStart [(0, .ref (hgm 0)), (1, .int a1), (2, .int a2), (3, .int a3)] (by decide) rfl (Nat.le_of_ble_eq_true rfl) rfl ?_
  intro p e s m args below meth c A Q ls hx hb hr hml hown hlocks hts hsz hA0 hQ hA hK hX hP hD hS hl
  replace hown : s.vm.findClass RX10 = some m.cls := hown
  have hH := hsz
  obtain ⟨H, hHe⟩ : ∃ H : Heap, H = s.heap := ⟨_, rfl⟩
  obtain ⟨locs, hLe⟩ : ∃ L : List Loc, L = [] := ⟨_, rfl⟩
  replace hP : va_P D vwCl (wX10 T hgm gm gml) H := by rw [hHe]; exact hP
  replace hS : va_S A s.heap H locs := by rw [hHe, hLe]; exact hS
  suffices hgo : W p l e rX10_between s m args below meth c H locs 0 0 Q (F0 m 0 ls []) by rw [hHe, hLe] at hgo; exact hgo
  clear hHe hLe
  refine lv_aload_n hx hb dX10_between_0 rfl (lv_at hl 0 rfl) ?_
  refine lv_iload_n hx hb dX10_between_1 rfl (lv_at hl 1 rfl) ?_
  refine lv_iload_n hx hb dX10_between_2 rfl (lv_at hl 2 rfl) ?_
  obtain ⟨v1, hc3, hf⟩ := zB1_ok hf
  refine zCallVEI [.int a1, .int a2] ⟨hx, hb, hml, hown, hts⟩ (pX10_areTwo l D T X hgm H.size gm gml a1 a2 v1 hc3) (cwV 2 hts gX10_between_X10_areTwo rfl rfl rfl (by decide +kernel) ⟨Nat.le_of_ble_eq_true rfl, Nat.le_of_ble_eq_true rfl⟩) hK hP hD hS hA hX 0 rfl rfl rfl hl.1 rfl (Nat.le_of_ble_eq_true rfl) dX10_between_3 ⟨Nat.zero_le _, Nat.zero_le _⟩ (fun H locs hP hD hS => ?_)
  refine lv_if_eq (tgt := 16) hx hb dX10_between_6 (by decide) (fun hc => ?_) (fun hc => ?_)
  · replace hf := zIf_t hc hf
    refine lv_iconst (v := (-1)) hx hb dX10_between_16 (by decide) ?_
    obtain ⟨q1, -⟩ := zI1 hf
    subst q1
    exact zRetI hQ hx hb hr hlocks hA0 hK hP hD hS rfl dX10_between_17
  · replace hf := zIf_f hc hf
    refine lv_iload_n hx hb dX10_between_9 rfl (lv_at hl 3 rfl) ?_
    obtain ⟨v2, hc10, hf⟩ := zB1_ok hf
    refine zCallS0I [.int a3] ⟨hx, hb, hml, hown, hts⟩ (pX10_isSide l D T X H.size a3 v2 hc10) (va_cwS 1 hts gX10_between_X10_isSide rfl rfl rfl (by decide +kernel) ⟨Nat.le_of_ble_eq_true rfl, Nat.le_of_ble_eq_true rfl⟩) hK hP hD hS hA hX rfl hl.1 rfl (Nat.le_of_ble_eq_true rfl) dX10_between_10 ⟨Nat.zero_le _, Nat.zero_le _⟩ (fun H locs hP hD hS => ?_)
    refine lv_if_ne (tgt := 18) hx hb dX10_between_13 (by decide) (fun hc => ?_) (fun hc => ?_)
    · replace hf := zIf_f hc hf
      refine lv_aload_n hx hb dX10_between_18 rfl (lv_at hl 0 rfl) ?_
      refine lv_iconst (v := 0) hx hb dX10_between_19 (by decide) ?_
      obtain ⟨v3, hc20, hf⟩ := zB1_ok hf
      refine zCallVEI [.int 0] ⟨hx, hb, hml, hown, hts⟩ (pX10_openOn l D T X hgm H.size gm gml 0 v3 hc20) (cwV 1 hts gX10_between_X10_openOn rfl rfl rfl (by decide +kernel) ⟨Nat.le_of_ble_eq_true rfl, Nat.le_of_ble_eq_true rfl⟩) hK hP hD hS hA hX 0 rfl rfl rfl hl.1 rfl (Nat.le_of_ble_eq_true rfl) dX10_between_20 ⟨Nat.zero_le _, Nat.zero_le _⟩ (fun H locs hP hD hS => ?_)
      refine lv_istore (lv' := [(4, .int v3), (0, .ref (hgm 0)), (1, .int a1), (2, .int a2), (3, .int a3)]) hx hb dX10_between_23 hl (by decide) rfl (fun ls hl => ?_)
      refine lv_iconst (v := 1) hx hb dX10_between_25 (by decide) ?_
      refine lv_iload_n hx hb dX10_between_26 rfl (lv_at hl 2 rfl) ?_
      refine lv_ishl hx hb dX10_between_27 ?_
      refine lv_iconst (v := 1) hx hb dX10_between_28 (by decide) ?_
      refine lv_iload_n hx hb dX10_between_29 rfl (lv_at hl 3 rfl) ?_
      refine lv_ishl hx hb dX10_between_30 ?_
      refine lv_ior hx hb dX10_between_31 ?_
      refine lv_topi (fun v4 ev4 => ?_)
      replace hf := zLt_at ev4 hf
      refine lv_istore (lv' := [(5, .int v4), (4, .int v3), (0, .ref (hgm 0)), (1, .int a1), (2, .int a2), (3, .int a3)]) hx hb dX10_between_32 hl (by decide) rfl (fun ls hl => ?_)
      refine lv_bipush (v := (-3)) hx hb dX10_between_34 (by decide) ?_
      refine lv_istore (lv' := [(6, .int (-3)), (5, .int v4), (4, .int v3), (0, .ref (hgm 0)), (1, .int a1), (2, .int a2), (3, .int a3)]) hx hb dX10_between_36 hl (by decide) rfl (fun ls hl => ?_)
      refine lv_iconst (v := 0) hx hb dX10_between_38 (by decide) ?_
      refine lv_istore (lv' := [(7, .int 0), (6, .int (-3)), (5, .int v4), (4, .int v3), (0, .ref (hgm 0)), (1, .int a1), (2, .int a2), (3, .int a3)]) hx hb dX10_between_39 hl (by decide) rfl (fun ls hl => ?_)
      obtain ⟨ex, hlp, hf⟩ := zB1_ok hf
      have hE41_133 : ∀ (v7 : Int32) , ex = v7 → ∀ (H : Heap) (locs : List Loc) (ls : Array Slot), va_P D vwCl (wX10 T hgm gm gml) H → va_D A (wX10 T hgm gm gml) → va_S A s.heap H locs → lv_has ls 9 [(3, .int a3), (6, .int v7)] → W p l e rX10_between s m args below meth c H locs 0 0 Q (F0 m 133 ls []) := by
        intro v7 hex H locs ls hP hD hS hl
        have hf := zEx1 hex hf
        refine lv_iload hx hb dX10_between_133 (lv_at hl 1 rfl) ?_
        refine lv_if_ge (tgt := 143) hx hb dX10_between_135 (by decide) (fun hc => ?_) (fun hc => ?_)
        · replace hf := zIf_t hc hf
          refine lv_iload_n hx hb dX10_between_143 rfl (lv_at hl 0 rfl) ?_
          refine lv_if_ne (tgt := 155) hx hb dX10_between_144 (by decide) (fun hc => ?_) (fun hc => ?_)
          · replace hf := zIf_f hc hf
            refine lv_iload hx hb dX10_between_155 (lv_at hl 1 rfl) ?_
            obtain ⟨q1, -⟩ := zI1 hf
            subst q1
            exact zRetI hQ hx hb hr hlocks hA0 hK hP hD hS rfl dX10_between_157
          · replace hf := zIf_t hc hf
            refine lv_iload hx hb dX10_between_147 (lv_at hl 1 rfl) ?_
            obtain ⟨v18, hc149, hf⟩ := zB1_ok hf
            refine zCallS0I [.int v7] ⟨hx, hb, hml, hown, hts⟩ (pX10_ones l D T X H.size v7 v18 hc149) (va_cwS 1 hts gX10_between_X10_ones rfl rfl rfl (by decide +kernel) ⟨Nat.le_of_ble_eq_true rfl, Nat.le_of_ble_eq_true rfl⟩) hK hP hD hS hA hX rfl hl.1 rfl (Nat.le_of_ble_eq_true rfl) dX10_between_149 ⟨Nat.zero_le _, Nat.zero_le _⟩ (fun H locs hP hD hS => ?_)
            refine lv_goto (tgt := 157) hx hb dX10_between_152 (by decide) ?_
            obtain ⟨q1, -⟩ := zI1 hf
            subst q1
            exact zRetI hQ hx hb hr hlocks hA0 hK hP hD hS rfl dX10_between_157
        · replace hf := zIf_f hc hf
          refine lv_bipush (v := (-3)) hx hb dX10_between_138 (by decide) ?_
          refine lv_goto (tgt := 157) hx hb dX10_between_140 (by decide) ?_
          obtain ⟨q1, -⟩ := zI1 hf
          subst q1
          exact zRetI hQ hx hb hr hlocks hA0 hK hP hD hS rfl dX10_between_157
      refine zLpS2 (body := (fX10_between_L41 a1 gm gml v3 v4)) (b := ex) (fun (v5 : Int32) (v6 : Int32) => ∀ (H : Heap) (locs : List Loc) (ls : Array Slot), va_P D vwCl (wX10 T hgm gm gml) H → va_D A (wX10 T hgm gm gml) → va_S A s.heap H locs → lv_has ls 9 [(0, .ref (hgm 0)), (1, .int a1), (3, .int a3), (4, .int v3), (5, .int v4), (6, .int v5), (7, .int v6)] → W p l e rX10_between s m args below meth c H locs 0 0 Q (F0 m 41 ls [])) ?_ zFU (-3) 0 hlp H locs ls hP hD hS (lv_sub hl [4, 5, 7, 3, 2, 1, 0] rfl)
      intro v5 v6 z hf hzz H locs ls hP hD hS hl
      unfold fX10_between_L41 at hf
      replace hf := zUk2 hf
      refine lv_iload hx hb dX10_between_41 (lv_at hl 6 rfl) ?_
      refine lv_aload_n hx hb dX10_between_43 rfl (lv_at hl 0 rfl) ?_
      obtain ⟨v8, hc44, hf⟩ := zB1_ok hf
      refine zCallVEI [] ⟨hx, hb, hml, hown, hts⟩ (pX10_all l D T X hgm H.size gm gml v8 hc44) (cwV 0 hts gX10_between_X10_all rfl rfl rfl (by decide +kernel) ⟨Nat.le_of_ble_eq_true rfl, Nat.le_of_ble_eq_true rfl⟩) hK hP hD hS hA hX 0 rfl rfl rfl hl.1 rfl (Nat.le_of_ble_eq_true rfl) dX10_between_44 ⟨Nat.zero_le _, Nat.zero_le _⟩ (fun H locs hP hD hS => ?_)
      refine lv_icmp_gt (tgt := 133) hx hb dX10_between_47 (by decide) (fun hc => ?_) (fun hc => ?_)
      · replace hf := zIf_t hc hf
        cases hf
        exact hE41_133 v5 hzz.symm H locs ls hP hD hS (lv_sub hl [2, 5] rfl)
      · replace hf := zIf_f hc hf
        refine lv_iload hx hb dX10_between_50 (lv_at hl 6 rfl) ?_
        refine lv_iload hx hb dX10_between_52 (lv_at hl 4 rfl) ?_
        refine lv_iand hx hb dX10_between_54 ?_
        have hJ90 : ∀ (v9 : Int32) (H : Heap) (locs : List Loc) (ls : Array Slot), fX10_between_L41J90 a1 gm gml v3 v4 v5 v6 v9 = some z → va_P D vwCl (wX10 T hgm gm gml) H → va_D A (wX10 T hgm gm gml) → va_S A s.heap H locs → lv_has ls 9 [(0, .ref (hgm 0)), (1, .int a1), (3, .int a3), (4, .int v3), (5, .int v4), (6, .int v5), (7, .int v6)] → W p l e rX10_between s m args below meth c H locs 0 0 Q (F0 m 90 ls [.int v9]) := by
          intro v9 H locs ls hf hP hD hS hl
          unfold fX10_between_L41J90 at hf
          refine lv_istore (lv' := [(8, .int v9), (0, .ref (hgm 0)), (1, .int a1), (3, .int a3), (4, .int v3), (5, .int v4), (6, .int v5), (7, .int v6)]) hx hb dX10_between_90 hl (by decide) rfl (fun ls hl => ?_)
          refine lv_iload hx hb dX10_between_92 (lv_at hl 0 rfl) ?_
          have hJ127 : ∀ (v10 : Int32) (H : Heap) (locs : List Loc) (ls : Array Slot), fX10_between_L41J127 v6 v10 = some z → va_P D vwCl (wX10 T hgm gm gml) H → va_D A (wX10 T hgm gm gml) → va_S A s.heap H locs → lv_has ls 9 [(0, .ref (hgm 0)), (1, .int a1), (3, .int a3), (4, .int v3), (5, .int v4), (6, .int v10), (7, .int v6)] → W p l e rX10_between s m args below meth c H locs 0 0 Q (F0 m 127 ls []) := by
            intro v10 H locs ls hf hP hD hS hl
            unfold fX10_between_L41J127 at hf
            obtain ⟨v11, ev11⟩ : ∃ y : Int32, y = v6 + 1 := ⟨_, rfl⟩
            replace hf := zLt_at ev11 hf
            refine lv_iinc (v := v11) (lv' := [(7, .int v11), (0, .ref (hgm 0)), (1, .int a1), (3, .int a3), (4, .int v3), (5, .int v4), (6, .int v10)]) hx hb dX10_between_127 hl (k := 6) rfl (by rw [ev11]; rfl) (by decide) rfl (fun ls hl => ?_)
            refine lv_goto (tgt := 41) hx hb dX10_between_130 (by decide) ?_
            cases hf
            exact hzz H locs ls hP hD hS (lv_sub hl [1, 2, 3, 4, 5, 6, 0] rfl)
          refine lv_if_eq (tgt := 127) hx hb dX10_between_94 (by decide) (fun hc => ?_) (fun hc => ?_)
          · replace hf := zIf_t hc hf
            exact hJ127 v5 H locs ls hf hP hD hS (lv_sub hl [1, 2, 3, 4, 5, 6, 7] rfl)
          · replace hf := zIf_f hc hf
            refine lv_aload_n hx hb dX10_between_97 rfl (lv_at hl 1 rfl) ?_
            refine lv_iconst (v := 1) hx hb dX10_between_98 (by decide) ?_
            refine lv_iload_n hx hb dX10_between_99 rfl (lv_at hl 2 rfl) ?_
            refine lv_ishl hx hb dX10_between_100 ?_
            refine lv_iload hx hb dX10_between_101 (lv_at hl 4 rfl) ?_
            refine lv_aload_n hx hb dX10_between_103 rfl (lv_at hl 1 rfl) ?_
            obtain ⟨v12, hc104, hf⟩ := zB1_ok hf
            refine zCallVEI [] ⟨hx, hb, hml, hown, hts⟩ (pX10_all l D T X hgm H.size gm gml v12 hc104) (cwV 0 hts gX10_between_X10_all rfl rfl rfl (by decide +kernel) ⟨Nat.le_of_ble_eq_true rfl, Nat.le_of_ble_eq_true rfl⟩) hK hP hD hS hA hX 0 rfl rfl rfl hl.1 rfl (Nat.le_of_ble_eq_true rfl) dX10_between_104 ⟨Nat.zero_le _, Nat.zero_le _⟩ (fun H locs hP hD hS => ?_)
            refine lv_iload hx hb dX10_between_107 (lv_at hl 7 rfl) ?_
            refine lv_iconst (v := (-1)) hx hb dX10_between_109 (by decide) ?_
            refine lv_ixor hx hb dX10_between_110 ?_
            refine lv_iand hx hb dX10_between_111 ?_
            obtain ⟨v13, hc112, hf⟩ := zB1_ok hf
            refine zCallVEI [.int ((1 : Int32) <<< (a1 &&& 31)), .int v3, .int (v12 &&& (v6 ^^^ (-1)))] ⟨hx, hb, hml, hown, hts⟩ (pX10_joinedBy l D T X hgm H.size gm gml ((1 : Int32) <<< (a1 &&& 31)) v3 (v12 &&& (v6 ^^^ (-1))) v13 hc112) (cwV 3 hts gX10_between_X10_joinedBy rfl rfl rfl (by decide +kernel) ⟨Nat.le_of_ble_eq_true rfl, Nat.le_of_ble_eq_true rfl⟩) hK hP hD hS hA hX 0 rfl rfl rfl hl.1 rfl (Nat.le_of_ble_eq_true rfl) dX10_between_112 ⟨Nat.zero_le _, Nat.zero_le _⟩ (fun H locs hP hD hS => ?_)
            refine lv_iload hx hb dX10_between_115 (lv_at hl 5 rfl) ?_
            refine lv_iand hx hb dX10_between_117 ?_
            refine lv_iload hx hb dX10_between_118 (lv_at hl 5 rfl) ?_
            refine lv_icmp_eq (tgt := 127) hx hb dX10_between_120 (by decide) (fun hc => ?_) (fun hc => ?_)
            · replace hf := zIf_t hc hf
              exact hJ127 v5 H locs ls hf hP hD hS (lv_sub hl [1, 2, 3, 4, 5, 6, 7] rfl)
            · replace hf := zIf_f hc hf
              refine lv_iload hx hb dX10_between_123 (lv_at hl 7 rfl) ?_
              refine lv_istore (lv' := [(6, .int v6), (8, .int v9), (0, .ref (hgm 0)), (1, .int a1), (3, .int a3), (4, .int v3), (5, .int v4), (7, .int v6)]) hx hb dX10_between_125 hl (by decide) rfl (fun ls hl => ?_)
              exact hJ127 v6 H locs ls hf hP hD hS (lv_sub hl [2, 3, 4, 5, 6, 0, 7] rfl)
        have hJ89 : ∀ (H : Heap) (locs : List Loc) (ls : Array Slot), fX10_between_L41J89 a1 gm gml v3 v4 v5 v6 = some z → va_P D vwCl (wX10 T hgm gm gml) H → va_D A (wX10 T hgm gm gml) → va_S A s.heap H locs → lv_has ls 9 [(0, .ref (hgm 0)), (1, .int a1), (3, .int a3), (4, .int v3), (5, .int v4), (6, .int v5), (7, .int v6)] → W p l e rX10_between s m args below meth c H locs 0 0 Q (F0 m 89 ls []) := by
          intro H locs ls hf hP hD hS hl
          unfold fX10_between_L41J89 at hf
          refine lv_iconst (v := 0) hx hb dX10_between_89 (by decide) ?_
          exact hJ90 0 H locs ls hf hP hD hS hl
        refine lv_if_ne (tgt := 89) hx hb dX10_between_55 (by decide) (fun hc => ?_) (fun hc => ?_)
        · replace hf := zIf_f hc hf
          exact hJ89 H locs ls hf hP hD hS hl
        · replace hf := zIf_t hc hf
          refine lv_iload hx hb dX10_between_58 (lv_at hl 5 rfl) ?_
          have hJ85 : ∀ (H : Heap) (locs : List Loc) (ls : Array Slot), fX10_between_L41J85 a1 gm gml v3 v4 v5 v6 = some z → va_P D vwCl (wX10 T hgm gm gml) H → va_D A (wX10 T hgm gm gml) → va_S A s.heap H locs → lv_has ls 9 [(0, .ref (hgm 0)), (1, .int a1), (3, .int a3), (4, .int v3), (5, .int v4), (6, .int v5), (7, .int v6)] → W p l e rX10_between s m args below meth c H locs 0 0 Q (F0 m 85 ls []) := by
            intro H locs ls hf hP hD hS hl
            unfold fX10_between_L41J85 at hf
            refine lv_iconst (v := 1) hx hb dX10_between_85 (by decide) ?_
            refine lv_goto (tgt := 90) hx hb dX10_between_86 (by decide) ?_
            exact hJ90 1 H locs ls hf hP hD hS hl
          refine lv_if_lt (tgt := 85) hx hb dX10_between_60 (by decide) (fun hc => ?_) (fun hc => ?_)
          · replace hf := zIf_t hc hf
            exact hJ85 H locs ls hf hP hD hS hl
          · replace hf := zIf_f hc hf
            refine lv_iload hx hb dX10_between_63 (lv_at hl 6 rfl) ?_
            obtain ⟨v14, hc65, hf⟩ := zB1_ok hf
            refine zCallS0I [.int v6] ⟨hx, hb, hml, hown, hts⟩ (pX10_ones l D T X H.size v6 v14 hc65) (va_cwS 1 hts gX10_between_X10_ones rfl rfl rfl (by decide +kernel) ⟨Nat.le_of_ble_eq_true rfl, Nat.le_of_ble_eq_true rfl⟩) hK hP hD hS hA hX rfl hl.1 rfl (Nat.le_of_ble_eq_true rfl) dX10_between_65 ⟨Nat.zero_le _, Nat.zero_le _⟩ (fun H locs hP hD hS => ?_)
            refine lv_iload hx hb dX10_between_68 (lv_at hl 5 rfl) ?_
            have hJ79 : ∀ (v15 : Int32) (v16 : Int32) (H : Heap) (locs : List Loc) (ls : Array Slot), fX10_between_L41J79 a1 gm gml v3 v4 v5 v6 v15 v16 = some z → va_P D vwCl (wX10 T hgm gm gml) H → va_D A (wX10 T hgm gm gml) → va_S A s.heap H locs → lv_has ls 9 [(0, .ref (hgm 0)), (1, .int a1), (3, .int a3), (4, .int v3), (5, .int v4), (6, .int v5), (7, .int v6)] → W p l e rX10_between s m args below meth c H locs 0 0 Q (F0 m 79 ls [.int v15, .int v16]) := by
              intro v15 v16 H locs ls hf hP hD hS hl
              unfold fX10_between_L41J79 at hf
              obtain ⟨v17, hc79, hf⟩ := zB1_ok hf
              refine zCallS0I [.int v15] ⟨hx, hb, hml, hown, hts⟩ (pX10_ones l D T X H.size v15 v17 hc79) (va_cwS 1 hts gX10_between_X10_ones rfl rfl rfl (by decide +kernel) ⟨Nat.le_of_ble_eq_true rfl, Nat.le_of_ble_eq_true rfl⟩) hK hP hD hS hA hX rfl hl.1 rfl (Nat.le_of_ble_eq_true rfl) dX10_between_79 ⟨Nat.zero_le _, Nat.zero_le _⟩ (fun H locs hP hD hS => ?_)
              refine lv_icmp_ge (tgt := 89) hx hb dX10_between_82 (by decide) (fun hc => ?_) (fun hc => ?_)
              · replace hf := zIf_t hc hf
                exact hJ89 H locs ls hf hP hD hS hl
              · replace hf := zIf_f hc hf
                exact hJ85 H locs ls hf hP hD hS hl
            refine lv_if_ge (tgt := 77) hx hb dX10_between_70 (by decide) (fun hc => ?_) (fun hc => ?_)
            · replace hf := zIf_t hc hf
              refine lv_iload hx hb dX10_between_77 (lv_at hl 5 rfl) ?_
              exact hJ79 v5 v14 H locs ls hf hP hD hS hl
            · replace hf := zIf_f hc hf
              refine lv_iconst (v := 0) hx hb dX10_between_73 (by decide) ?_
              refine lv_goto (tgt := 79) hx hb dX10_between_74 (by decide) ?_
              exact hJ79 0 v14 H locs ls hf hP hD hS hl
    · replace hf := zIf_t hc hf
      refine lv_iconst (v := (-1)) hx hb dX10_between_16 (by decide) ?_
      obtain ⟨q1, -⟩ := zI1 hf
      subst q1
      exact zRetI hQ hx hb hr hlocks hA0 hK hP hD hS rfl dX10_between_17
