-- X10_move X10_moveAll X10_keep X10_back
set_option maxHeartbeats 4000000 in
set_option maxRecDepth 100000 in
theorem pX10_move_c1 (l : Launch) (D : va_G) (T : Nat → ClassId) (X : zFP) (hgm : Nat → Nat) (sz : Nat) (gm : zM) (gml : zL) (a2 : Int32) (a3 : Int32) (ngm : zM) (hf : fX10_move_c1 gm gml a2 a3 = some ngm) : Met l yX10_move wsX10_move rX10_move_c1 (zPre D T X [.ref (hgm 0), .ref (hgm 1), .int a2, .int a3] (wX10 T hgm gm gml) sz) (zQv D T (wX10 T hgm ngm gml) (wX10 T hgm gm gml) sz) 0 0 (va_A (wX10 T hgm gm gml) sz) := by
  unfold fX10_move_c1 at hf
  refine zStart [(0, .ref (hgm 0)), (1, .ref (hgm 1)), (2, .int a2), (3, .int a3)] (by decide) rfl (Nat.le_of_ble_eq_true rfl) rfl ?_
  intro p e s m args below meth c A Q ls hx hb hr hml hown hlocks hts hsz hA0 hQ hA hK hX hP hD hS hl
  replace hown : s.vm.findClass RX10 = some m.cls := hown
  have hH := hsz
  have hiX10 : ∀ w ∈ u_ws RX10 TX10 54, w ∈ wsX10_move := fun w h => List.mem_cons_of_mem _ (List.mem_append_right _ (h))
  obtain ⟨H, hHe⟩ : ∃ H : Heap, H = s.heap := ⟨_, rfl⟩
  obtain ⟨locs, hLe⟩ : ∃ L : List Loc, L = [] := ⟨_, rfl⟩
  replace hP : va_P D vwCl (wX10 T hgm gm gml) H := by rw [hHe]; exact hP
  replace hS : va_S A s.heap H locs := by rw [hHe, hLe]; exact hS
  suffices hgo : W p l e rX10_move_c1 s m args below meth c H locs 0 0 Q (F0 m 0 ls []) by rw [hHe, hLe] at hgo; exact hgo
  clear hHe hLe
  refine lv_iconst (v := 0) hx hb dX10_move_0 (by decide) ?_
  refine lv_istore (lv' := [(4, .int 0), (0, .ref (hgm 0)), (1, .ref (hgm 1)), (2, .int a2), (3, .int a3)]) hx hb dX10_move_1 hl (by decide) rfl (fun ls hl => ?_)
  obtain ⟨ex, hlp, hf⟩ := zB1_ok hf
  have hE3_58 : ∀ (gm_3 : zM) , ex = gm_3 → ∀ (H : Heap) (locs : List Loc) (ls : Array Slot), va_P D vwCl (wX10 T hgm gm_3 gml) H → va_D A (wX10 T hgm gm_3 gml) → va_S A s.heap H locs → lv_has ls 5 [] → W p l e rX10_move_c1 s m args below meth c H locs 0 0 Q (F0 m 58 ls []) := by
    intro gm_3 hex H locs ls hP hD hS hl
    have hf := zEx1 hex hf
    obtain ⟨q1, -⟩ := zI1 hf
    subst q1
    exact zRetV hQ hx hb hr hlocks hA0 hK hP hD hS dX10_move_58
  refine zLpS2 (body := (fX10_move_c1_L3 a2 a3)) (b := ex) (fun (v1 : Int32) (gm_2 : zM) => ∀ (H : Heap) (locs : List Loc) (ls : Array Slot), va_P D vwCl (wX10 T hgm gm_2 gml) H → va_D A (wX10 T hgm gm_2 gml) → va_S A s.heap H locs → lv_has ls 5 [(0, .ref (hgm 0)), (1, .ref (hgm 1)), (2, .int a2), (3, .int a3), (4, .int v1)] → W p l e rX10_move_c1 s m args below meth c H locs 0 0 Q (F0 m 3 ls [])) ?_ zFU 0 gm hlp H locs ls hP hD hS (lv_sub hl [1, 2, 3, 4, 0] rfl)
  intro v1 gm_2 z hf hzz H locs ls hP hD hS hl
  unfold fX10_move_c1_L3 at hf
  replace hf := zUk2 hf
  refine lv_iload hx hb dX10_move_3 (lv_at hl 4 rfl) ?_
  refine lv_iload_n hx hb dX10_move_5 rfl (lv_at hl 2 rfl) ?_
  refine lv_icmp_ge (tgt := 58) hx hb dX10_move_6 (by decide) (fun hc => ?_) (fun hc => ?_)
  · replace hf := zIf_t hc hf
    cases hf
    exact hE3_58 gm_2 hzz.symm H locs ls hP hD hS (lv_sub hl [] rfl)
  · replace hf := zIf_f hc hf
    refine lv_iload_n hx hb dX10_move_9 rfl (lv_at hl 3 rfl) ?_
    have hJ42 : ∀ (gm_4 : zM) (H : Heap) (locs : List Loc) (ls : Array Slot), fX10_move_c1_L3J42 v1 gm_4 = some z → va_P D vwCl (wX10 T hgm gm_4 gml) H → va_D A (wX10 T hgm gm_4 gml) → va_S A s.heap H locs → lv_has ls 5 [(0, .ref (hgm 0)), (1, .ref (hgm 1)), (2, .int a2), (3, .int a3), (4, .int v1)] → W p l e rX10_move_c1 s m args below meth c H locs 0 0 Q (F0 m 42 ls []) := by
      intro gm_4 H locs ls hf hP hD hS hl
      unfold fX10_move_c1_L3J42 at hf
      refine lv_aload_n hx hb dX10_move_42 rfl (lv_at hl 0 rfl) ?_
      refine lv_dup hx hb dX10_move_43 rfl ?_
      refine zGet (ci := 10) (C := RX10) (F := TX10) (N := 54) (v := .int (gm_4 0 52)) hx hb hts hiX10 hown hK hP 0 52 2 rfl rfl (by decide) rfl rfl rfl dX10_move_44 ?_
      refine lv_iconst (v := 1) hx hb dX10_move_47 (by decide) ?_
      refine lv_iadd hx hb dX10_move_48 ?_
      refine lv_topi (fun v5 ev5 => ?_)
      replace hf := zLt_at ev5 hf
      refine zPut (ci := 10) (C := RX10) (F := TX10) (N := 54) (x := v5) (w := gm_4) hx hb hts hiX10 tyX10 tyX10_ok nmX10 hown hK hP hD hS (fun g => wX10 T hgm g gml) 0 52 2 rfl rfl (by decide) rfl rfl rfl ⟨rfl, rfl⟩ (Nat.le_of_ble_eq_true rfl) rfl dX10_move_49 (fun gm_6 egm_6 H locs hP hD hS => ?_)
      replace hP : va_P D vwCl (wX10 T hgm gm_6 gml) H := hP
      replace hD : va_D A (wX10 T hgm gm_6 gml) := hD
      replace hf := zLt_at egm_6 hf
      obtain ⟨v7, ev7⟩ : ∃ y : Int32, y = v1 + 1 := ⟨_, rfl⟩
      replace hf := zLt_at ev7 hf
      refine lv_iinc (v := v7) (lv' := [(4, .int v7), (0, .ref (hgm 0)), (1, .ref (hgm 1)), (2, .int a2), (3, .int a3)]) hx hb dX10_move_52 hl (k := 4) rfl (by rw [ev7]; rfl) (by decide) rfl (fun ls hl => ?_)
      refine lv_goto (tgt := 3) hx hb dX10_move_55 (by decide) ?_
      cases hf
      exact hzz H locs ls hP hD hS (lv_sub hl [1, 2, 3, 4, 0] rfl)
    refine lv_if_eq (tgt := 29) hx hb dX10_move_10 (by decide) (fun hc => ?_) (fun hc => ?_)
    · replace hf := zIf_t hc hf
      refine lv_aload_n hx hb dX10_move_29 rfl (lv_at hl 1 rfl) ?_
      refine lv_iload hx hb dX10_move_30 (lv_at hl 4 rfl) ?_
      refine lv_aload_n hx hb dX10_move_32 rfl (lv_at hl 0 rfl) ?_
      refine zGet (ci := 10) (C := RX10) (F := TX10) (N := 54) (v := .ref (hgm 25)) hx hb hts hiX10 hown hK hP 0 51 1 rfl rfl (by decide) rfl rfl rfl dX10_move_33 ?_
      refine lv_aload_n hx hb dX10_move_36 rfl (lv_at hl 0 rfl) ?_
      refine zGet (ci := 10) (C := RX10) (F := TX10) (N := 54) (v := .int (gm_2 0 52)) hx hb hts hiX10 hown hK hP 0 52 2 rfl rfl (by decide) rfl rfl rfl dX10_move_37 ?_
      obtain ⟨hg, hf⟩ := zGd_ok hf
      refine zAldI hx hb hK hP 25 rfl hg dX10_move_40 (fun v8 ev8 => ?_)
      replace hf := zLt_at ev8 hf
      obtain ⟨hg, hf⟩ := zGd_ok hf
      refine zAstI (w := gm_2) hx hb hK hP hD hS (fun g => wX10 T hgm g gml) 1 1 rfl hg rfl dX10_move_41 (fun gm_9 egm_9 H locs hP hD hS => ?_)
      replace hP : va_P D vwCl (wX10 T hgm gm_9 gml) H := hP
      replace hD : va_D A (wX10 T hgm gm_9 gml) := hD
      replace hf := zLt_at egm_9 hf
      exact hJ42 gm_9 H locs ls hf hP hD hS hl
    · replace hf := zIf_f hc hf
      refine lv_aload_n hx hb dX10_move_13 rfl (lv_at hl 0 rfl) ?_
      refine zGet (ci := 10) (C := RX10) (F := TX10) (N := 54) (v := .ref (hgm 25)) hx hb hts hiX10 hown hK hP 0 51 1 rfl rfl (by decide) rfl rfl rfl dX10_move_14 ?_
      refine lv_aload_n hx hb dX10_move_17 rfl (lv_at hl 0 rfl) ?_
      refine zGet (ci := 10) (C := RX10) (F := TX10) (N := 54) (v := .int (gm_2 0 52)) hx hb hts hiX10 hown hK hP 0 52 2 rfl rfl (by decide) rfl rfl rfl dX10_move_18 ?_
      refine lv_aload_n hx hb dX10_move_21 rfl (lv_at hl 1 rfl) ?_
      refine lv_iload hx hb dX10_move_22 (lv_at hl 4 rfl) ?_
      obtain ⟨hg, hf⟩ := zGd_ok hf
      refine zAldI hx hb hK hP 1 rfl hg dX10_move_24 (fun v10 ev10 => ?_)
      replace hf := zLt_at ev10 hf
      obtain ⟨hg, hf⟩ := zGd_ok hf
      refine zAstI (w := gm_2) hx hb hK hP hD hS (fun g => wX10 T hgm g gml) 25 25 rfl hg rfl dX10_move_25 (fun gm_11 egm_11 H locs hP hD hS => ?_)
      replace hP : va_P D vwCl (wX10 T hgm gm_11 gml) H := hP
      replace hD : va_D A (wX10 T hgm gm_11 gml) := hD
      replace hf := zLt_at egm_11 hf
      refine lv_goto (tgt := 42) hx hb dX10_move_26 (by decide) ?_
      exact hJ42 gm_11 H locs ls hf hP hD hS hl
set_option maxHeartbeats 4000000 in
set_option maxRecDepth 100000 in
theorem pX10_move_c2 (l : Launch) (D : va_G) (T : Nat → ClassId) (X : zFP) (hgm : Nat → Nat) (sz : Nat) (gm : zM) (gml : zL) (a2 : Int32) (a3 : Int32) (ngm : zM) (hf : fX10_move_c2 gm gml a2 a3 = some ngm) : Met l yX10_move wsX10_move rX10_move_c2 (zPre D T X [.ref (hgm 0), .ref (hgm 2), .int a2, .int a3] (wX10 T hgm gm gml) sz) (zQv D T (wX10 T hgm ngm gml) (wX10 T hgm gm gml) sz) 0 0 (va_A (wX10 T hgm gm gml) sz) := by
  unfold fX10_move_c2 at hf
  refine zStart [(0, .ref (hgm 0)), (1, .ref (hgm 2)), (2, .int a2), (3, .int a3)] (by decide) rfl (Nat.le_of_ble_eq_true rfl) rfl ?_
  intro p e s m args below meth c A Q ls hx hb hr hml hown hlocks hts hsz hA0 hQ hA hK hX hP hD hS hl
  replace hown : s.vm.findClass RX10 = some m.cls := hown
  have hH := hsz
  have hiX10 : ∀ w ∈ u_ws RX10 TX10 54, w ∈ wsX10_move := fun w h => List.mem_cons_of_mem _ (List.mem_append_right _ (h))
  obtain ⟨H, hHe⟩ : ∃ H : Heap, H = s.heap := ⟨_, rfl⟩
  obtain ⟨locs, hLe⟩ : ∃ L : List Loc, L = [] := ⟨_, rfl⟩
  replace hP : va_P D vwCl (wX10 T hgm gm gml) H := by rw [hHe]; exact hP
  replace hS : va_S A s.heap H locs := by rw [hHe, hLe]; exact hS
  suffices hgo : W p l e rX10_move_c2 s m args below meth c H locs 0 0 Q (F0 m 0 ls []) by rw [hHe, hLe] at hgo; exact hgo
  clear hHe hLe
  refine lv_iconst (v := 0) hx hb dX10_move_0 (by decide) ?_
  refine lv_istore (lv' := [(4, .int 0), (0, .ref (hgm 0)), (1, .ref (hgm 2)), (2, .int a2), (3, .int a3)]) hx hb dX10_move_1 hl (by decide) rfl (fun ls hl => ?_)
  obtain ⟨ex, hlp, hf⟩ := zB1_ok hf
  have hE3_58 : ∀ (gm_3 : zM) , ex = gm_3 → ∀ (H : Heap) (locs : List Loc) (ls : Array Slot), va_P D vwCl (wX10 T hgm gm_3 gml) H → va_D A (wX10 T hgm gm_3 gml) → va_S A s.heap H locs → lv_has ls 5 [] → W p l e rX10_move_c2 s m args below meth c H locs 0 0 Q (F0 m 58 ls []) := by
    intro gm_3 hex H locs ls hP hD hS hl
    have hf := zEx1 hex hf
    obtain ⟨q1, -⟩ := zI1 hf
    subst q1
    exact zRetV hQ hx hb hr hlocks hA0 hK hP hD hS dX10_move_58
  refine zLpS2 (body := (fX10_move_c2_L3 a2 a3)) (b := ex) (fun (v1 : Int32) (gm_2 : zM) => ∀ (H : Heap) (locs : List Loc) (ls : Array Slot), va_P D vwCl (wX10 T hgm gm_2 gml) H → va_D A (wX10 T hgm gm_2 gml) → va_S A s.heap H locs → lv_has ls 5 [(0, .ref (hgm 0)), (1, .ref (hgm 2)), (2, .int a2), (3, .int a3), (4, .int v1)] → W p l e rX10_move_c2 s m args below meth c H locs 0 0 Q (F0 m 3 ls [])) ?_ zFU 0 gm hlp H locs ls hP hD hS (lv_sub hl [1, 2, 3, 4, 0] rfl)
  intro v1 gm_2 z hf hzz H locs ls hP hD hS hl
  unfold fX10_move_c2_L3 at hf
  replace hf := zUk2 hf
  refine lv_iload hx hb dX10_move_3 (lv_at hl 4 rfl) ?_
  refine lv_iload_n hx hb dX10_move_5 rfl (lv_at hl 2 rfl) ?_
  refine lv_icmp_ge (tgt := 58) hx hb dX10_move_6 (by decide) (fun hc => ?_) (fun hc => ?_)
  · replace hf := zIf_t hc hf
    cases hf
    exact hE3_58 gm_2 hzz.symm H locs ls hP hD hS (lv_sub hl [] rfl)
  · replace hf := zIf_f hc hf
    refine lv_iload_n hx hb dX10_move_9 rfl (lv_at hl 3 rfl) ?_
    have hJ42 : ∀ (gm_4 : zM) (H : Heap) (locs : List Loc) (ls : Array Slot), fX10_move_c2_L3J42 v1 gm_4 = some z → va_P D vwCl (wX10 T hgm gm_4 gml) H → va_D A (wX10 T hgm gm_4 gml) → va_S A s.heap H locs → lv_has ls 5 [(0, .ref (hgm 0)), (1, .ref (hgm 2)), (2, .int a2), (3, .int a3), (4, .int v1)] → W p l e rX10_move_c2 s m args below meth c H locs 0 0 Q (F0 m 42 ls []) := by
      intro gm_4 H locs ls hf hP hD hS hl
      unfold fX10_move_c2_L3J42 at hf
      refine lv_aload_n hx hb dX10_move_42 rfl (lv_at hl 0 rfl) ?_
      refine lv_dup hx hb dX10_move_43 rfl ?_
      refine zGet (ci := 10) (C := RX10) (F := TX10) (N := 54) (v := .int (gm_4 0 52)) hx hb hts hiX10 hown hK hP 0 52 2 rfl rfl (by decide) rfl rfl rfl dX10_move_44 ?_
      refine lv_iconst (v := 1) hx hb dX10_move_47 (by decide) ?_
      refine lv_iadd hx hb dX10_move_48 ?_
      refine lv_topi (fun v5 ev5 => ?_)
      replace hf := zLt_at ev5 hf
      refine zPut (ci := 10) (C := RX10) (F := TX10) (N := 54) (x := v5) (w := gm_4) hx hb hts hiX10 tyX10 tyX10_ok nmX10 hown hK hP hD hS (fun g => wX10 T hgm g gml) 0 52 2 rfl rfl (by decide) rfl rfl rfl ⟨rfl, rfl⟩ (Nat.le_of_ble_eq_true rfl) rfl dX10_move_49 (fun gm_6 egm_6 H locs hP hD hS => ?_)
      replace hP : va_P D vwCl (wX10 T hgm gm_6 gml) H := hP
      replace hD : va_D A (wX10 T hgm gm_6 gml) := hD
      replace hf := zLt_at egm_6 hf
      obtain ⟨v7, ev7⟩ : ∃ y : Int32, y = v1 + 1 := ⟨_, rfl⟩
      replace hf := zLt_at ev7 hf
      refine lv_iinc (v := v7) (lv' := [(4, .int v7), (0, .ref (hgm 0)), (1, .ref (hgm 2)), (2, .int a2), (3, .int a3)]) hx hb dX10_move_52 hl (k := 4) rfl (by rw [ev7]; rfl) (by decide) rfl (fun ls hl => ?_)
      refine lv_goto (tgt := 3) hx hb dX10_move_55 (by decide) ?_
      cases hf
      exact hzz H locs ls hP hD hS (lv_sub hl [1, 2, 3, 4, 0] rfl)
    refine lv_if_eq (tgt := 29) hx hb dX10_move_10 (by decide) (fun hc => ?_) (fun hc => ?_)
    · replace hf := zIf_t hc hf
      refine lv_aload_n hx hb dX10_move_29 rfl (lv_at hl 1 rfl) ?_
      refine lv_iload hx hb dX10_move_30 (lv_at hl 4 rfl) ?_
      refine lv_aload_n hx hb dX10_move_32 rfl (lv_at hl 0 rfl) ?_
      refine zGet (ci := 10) (C := RX10) (F := TX10) (N := 54) (v := .ref (hgm 25)) hx hb hts hiX10 hown hK hP 0 51 1 rfl rfl (by decide) rfl rfl rfl dX10_move_33 ?_
      refine lv_aload_n hx hb dX10_move_36 rfl (lv_at hl 0 rfl) ?_
      refine zGet (ci := 10) (C := RX10) (F := TX10) (N := 54) (v := .int (gm_2 0 52)) hx hb hts hiX10 hown hK hP 0 52 2 rfl rfl (by decide) rfl rfl rfl dX10_move_37 ?_
      obtain ⟨hg, hf⟩ := zGd_ok hf
      refine zAldI hx hb hK hP 25 rfl hg dX10_move_40 (fun v8 ev8 => ?_)
      replace hf := zLt_at ev8 hf
      obtain ⟨hg, hf⟩ := zGd_ok hf
      refine zAstI (w := gm_2) hx hb hK hP hD hS (fun g => wX10 T hgm g gml) 2 2 rfl hg rfl dX10_move_41 (fun gm_9 egm_9 H locs hP hD hS => ?_)
      replace hP : va_P D vwCl (wX10 T hgm gm_9 gml) H := hP
      replace hD : va_D A (wX10 T hgm gm_9 gml) := hD
      replace hf := zLt_at egm_9 hf
      exact hJ42 gm_9 H locs ls hf hP hD hS hl
    · replace hf := zIf_f hc hf
      refine lv_aload_n hx hb dX10_move_13 rfl (lv_at hl 0 rfl) ?_
      refine zGet (ci := 10) (C := RX10) (F := TX10) (N := 54) (v := .ref (hgm 25)) hx hb hts hiX10 hown hK hP 0 51 1 rfl rfl (by decide) rfl rfl rfl dX10_move_14 ?_
      refine lv_aload_n hx hb dX10_move_17 rfl (lv_at hl 0 rfl) ?_
      refine zGet (ci := 10) (C := RX10) (F := TX10) (N := 54) (v := .int (gm_2 0 52)) hx hb hts hiX10 hown hK hP 0 52 2 rfl rfl (by decide) rfl rfl rfl dX10_move_18 ?_
      refine lv_aload_n hx hb dX10_move_21 rfl (lv_at hl 1 rfl) ?_
      refine lv_iload hx hb dX10_move_22 (lv_at hl 4 rfl) ?_
      obtain ⟨hg, hf⟩ := zGd_ok hf
      refine zAldI hx hb hK hP 2 rfl hg dX10_move_24 (fun v10 ev10 => ?_)
      replace hf := zLt_at ev10 hf
      obtain ⟨hg, hf⟩ := zGd_ok hf
      refine zAstI (w := gm_2) hx hb hK hP hD hS (fun g => wX10 T hgm g gml) 25 25 rfl hg rfl dX10_move_25 (fun gm_11 egm_11 H locs hP hD hS => ?_)
      replace hP : va_P D vwCl (wX10 T hgm gm_11 gml) H := hP
      replace hD : va_D A (wX10 T hgm gm_11 gml) := hD
      replace hf := zLt_at egm_11 hf
      refine lv_goto (tgt := 42) hx hb dX10_move_26 (by decide) ?_
      exact hJ42 gm_11 H locs ls hf hP hD hS hl
set_option maxHeartbeats 4000000 in
set_option maxRecDepth 100000 in
theorem pX10_move_c3 (l : Launch) (D : va_G) (T : Nat → ClassId) (X : zFP) (hgm : Nat → Nat) (sz : Nat) (gm : zM) (gml : zL) (a2 : Int32) (a3 : Int32) (ngm : zM) (hf : fX10_move_c3 gm gml a2 a3 = some ngm) : Met l yX10_move wsX10_move rX10_move_c3 (zPre D T X [.ref (hgm 0), .ref (hgm 3), .int a2, .int a3] (wX10 T hgm gm gml) sz) (zQv D T (wX10 T hgm ngm gml) (wX10 T hgm gm gml) sz) 0 0 (va_A (wX10 T hgm gm gml) sz) := by
  unfold fX10_move_c3 at hf
  refine zStart [(0, .ref (hgm 0)), (1, .ref (hgm 3)), (2, .int a2), (3, .int a3)] (by decide) rfl (Nat.le_of_ble_eq_true rfl) rfl ?_
  intro p e s m args below meth c A Q ls hx hb hr hml hown hlocks hts hsz hA0 hQ hA hK hX hP hD hS hl
  replace hown : s.vm.findClass RX10 = some m.cls := hown
  have hH := hsz
  have hiX10 : ∀ w ∈ u_ws RX10 TX10 54, w ∈ wsX10_move := fun w h => List.mem_cons_of_mem _ (List.mem_append_right _ (h))
  obtain ⟨H, hHe⟩ : ∃ H : Heap, H = s.heap := ⟨_, rfl⟩
  obtain ⟨locs, hLe⟩ : ∃ L : List Loc, L = [] := ⟨_, rfl⟩
  replace hP : va_P D vwCl (wX10 T hgm gm gml) H := by rw [hHe]; exact hP
  replace hS : va_S A s.heap H locs := by rw [hHe, hLe]; exact hS
  suffices hgo : W p l e rX10_move_c3 s m args below meth c H locs 0 0 Q (F0 m 0 ls []) by rw [hHe, hLe] at hgo; exact hgo
  clear hHe hLe
  refine lv_iconst (v := 0) hx hb dX10_move_0 (by decide) ?_
  refine lv_istore (lv' := [(4, .int 0), (0, .ref (hgm 0)), (1, .ref (hgm 3)), (2, .int a2), (3, .int a3)]) hx hb dX10_move_1 hl (by decide) rfl (fun ls hl => ?_)
  obtain ⟨ex, hlp, hf⟩ := zB1_ok hf
  have hE3_58 : ∀ (gm_3 : zM) , ex = gm_3 → ∀ (H : Heap) (locs : List Loc) (ls : Array Slot), va_P D vwCl (wX10 T hgm gm_3 gml) H → va_D A (wX10 T hgm gm_3 gml) → va_S A s.heap H locs → lv_has ls 5 [] → W p l e rX10_move_c3 s m args below meth c H locs 0 0 Q (F0 m 58 ls []) := by
    intro gm_3 hex H locs ls hP hD hS hl
    have hf := zEx1 hex hf
    obtain ⟨q1, -⟩ := zI1 hf
    subst q1
    exact zRetV hQ hx hb hr hlocks hA0 hK hP hD hS dX10_move_58
  refine zLpS2 (body := (fX10_move_c3_L3 a2 a3)) (b := ex) (fun (v1 : Int32) (gm_2 : zM) => ∀ (H : Heap) (locs : List Loc) (ls : Array Slot), va_P D vwCl (wX10 T hgm gm_2 gml) H → va_D A (wX10 T hgm gm_2 gml) → va_S A s.heap H locs → lv_has ls 5 [(0, .ref (hgm 0)), (1, .ref (hgm 3)), (2, .int a2), (3, .int a3), (4, .int v1)] → W p l e rX10_move_c3 s m args below meth c H locs 0 0 Q (F0 m 3 ls [])) ?_ zFU 0 gm hlp H locs ls hP hD hS (lv_sub hl [1, 2, 3, 4, 0] rfl)
  intro v1 gm_2 z hf hzz H locs ls hP hD hS hl
  unfold fX10_move_c3_L3 at hf
  replace hf := zUk2 hf
  refine lv_iload hx hb dX10_move_3 (lv_at hl 4 rfl) ?_
  refine lv_iload_n hx hb dX10_move_5 rfl (lv_at hl 2 rfl) ?_
  refine lv_icmp_ge (tgt := 58) hx hb dX10_move_6 (by decide) (fun hc => ?_) (fun hc => ?_)
  · replace hf := zIf_t hc hf
    cases hf
    exact hE3_58 gm_2 hzz.symm H locs ls hP hD hS (lv_sub hl [] rfl)
  · replace hf := zIf_f hc hf
    refine lv_iload_n hx hb dX10_move_9 rfl (lv_at hl 3 rfl) ?_
    have hJ42 : ∀ (gm_4 : zM) (H : Heap) (locs : List Loc) (ls : Array Slot), fX10_move_c3_L3J42 v1 gm_4 = some z → va_P D vwCl (wX10 T hgm gm_4 gml) H → va_D A (wX10 T hgm gm_4 gml) → va_S A s.heap H locs → lv_has ls 5 [(0, .ref (hgm 0)), (1, .ref (hgm 3)), (2, .int a2), (3, .int a3), (4, .int v1)] → W p l e rX10_move_c3 s m args below meth c H locs 0 0 Q (F0 m 42 ls []) := by
      intro gm_4 H locs ls hf hP hD hS hl
      unfold fX10_move_c3_L3J42 at hf
      refine lv_aload_n hx hb dX10_move_42 rfl (lv_at hl 0 rfl) ?_
      refine lv_dup hx hb dX10_move_43 rfl ?_
      refine zGet (ci := 10) (C := RX10) (F := TX10) (N := 54) (v := .int (gm_4 0 52)) hx hb hts hiX10 hown hK hP 0 52 2 rfl rfl (by decide) rfl rfl rfl dX10_move_44 ?_
      refine lv_iconst (v := 1) hx hb dX10_move_47 (by decide) ?_
      refine lv_iadd hx hb dX10_move_48 ?_
      refine lv_topi (fun v5 ev5 => ?_)
      replace hf := zLt_at ev5 hf
      refine zPut (ci := 10) (C := RX10) (F := TX10) (N := 54) (x := v5) (w := gm_4) hx hb hts hiX10 tyX10 tyX10_ok nmX10 hown hK hP hD hS (fun g => wX10 T hgm g gml) 0 52 2 rfl rfl (by decide) rfl rfl rfl ⟨rfl, rfl⟩ (Nat.le_of_ble_eq_true rfl) rfl dX10_move_49 (fun gm_6 egm_6 H locs hP hD hS => ?_)
      replace hP : va_P D vwCl (wX10 T hgm gm_6 gml) H := hP
      replace hD : va_D A (wX10 T hgm gm_6 gml) := hD
      replace hf := zLt_at egm_6 hf
      obtain ⟨v7, ev7⟩ : ∃ y : Int32, y = v1 + 1 := ⟨_, rfl⟩
      replace hf := zLt_at ev7 hf
      refine lv_iinc (v := v7) (lv' := [(4, .int v7), (0, .ref (hgm 0)), (1, .ref (hgm 3)), (2, .int a2), (3, .int a3)]) hx hb dX10_move_52 hl (k := 4) rfl (by rw [ev7]; rfl) (by decide) rfl (fun ls hl => ?_)
      refine lv_goto (tgt := 3) hx hb dX10_move_55 (by decide) ?_
      cases hf
      exact hzz H locs ls hP hD hS (lv_sub hl [1, 2, 3, 4, 0] rfl)
    refine lv_if_eq (tgt := 29) hx hb dX10_move_10 (by decide) (fun hc => ?_) (fun hc => ?_)
    · replace hf := zIf_t hc hf
      refine lv_aload_n hx hb dX10_move_29 rfl (lv_at hl 1 rfl) ?_
      refine lv_iload hx hb dX10_move_30 (lv_at hl 4 rfl) ?_
      refine lv_aload_n hx hb dX10_move_32 rfl (lv_at hl 0 rfl) ?_
      refine zGet (ci := 10) (C := RX10) (F := TX10) (N := 54) (v := .ref (hgm 25)) hx hb hts hiX10 hown hK hP 0 51 1 rfl rfl (by decide) rfl rfl rfl dX10_move_33 ?_
      refine lv_aload_n hx hb dX10_move_36 rfl (lv_at hl 0 rfl) ?_
      refine zGet (ci := 10) (C := RX10) (F := TX10) (N := 54) (v := .int (gm_2 0 52)) hx hb hts hiX10 hown hK hP 0 52 2 rfl rfl (by decide) rfl rfl rfl dX10_move_37 ?_
      obtain ⟨hg, hf⟩ := zGd_ok hf
      refine zAldI hx hb hK hP 25 rfl hg dX10_move_40 (fun v8 ev8 => ?_)
      replace hf := zLt_at ev8 hf
      obtain ⟨hg, hf⟩ := zGd_ok hf
      refine zAstI (w := gm_2) hx hb hK hP hD hS (fun g => wX10 T hgm g gml) 3 3 rfl hg rfl dX10_move_41 (fun gm_9 egm_9 H locs hP hD hS => ?_)
      replace hP : va_P D vwCl (wX10 T hgm gm_9 gml) H := hP
      replace hD : va_D A (wX10 T hgm gm_9 gml) := hD
      replace hf := zLt_at egm_9 hf
      exact hJ42 gm_9 H locs ls hf hP hD hS hl
    · replace hf := zIf_f hc hf
      refine lv_aload_n hx hb dX10_move_13 rfl (lv_at hl 0 rfl) ?_
      refine zGet (ci := 10) (C := RX10) (F := TX10) (N := 54) (v := .ref (hgm 25)) hx hb hts hiX10 hown hK hP 0 51 1 rfl rfl (by decide) rfl rfl rfl dX10_move_14 ?_
      refine lv_aload_n hx hb dX10_move_17 rfl (lv_at hl 0 rfl) ?_
      refine zGet (ci := 10) (C := RX10) (F := TX10) (N := 54) (v := .int (gm_2 0 52)) hx hb hts hiX10 hown hK hP 0 52 2 rfl rfl (by decide) rfl rfl rfl dX10_move_18 ?_
      refine lv_aload_n hx hb dX10_move_21 rfl (lv_at hl 1 rfl) ?_
      refine lv_iload hx hb dX10_move_22 (lv_at hl 4 rfl) ?_
      obtain ⟨hg, hf⟩ := zGd_ok hf
      refine zAldI hx hb hK hP 3 rfl hg dX10_move_24 (fun v10 ev10 => ?_)
      replace hf := zLt_at ev10 hf
      obtain ⟨hg, hf⟩ := zGd_ok hf
      refine zAstI (w := gm_2) hx hb hK hP hD hS (fun g => wX10 T hgm g gml) 25 25 rfl hg rfl dX10_move_25 (fun gm_11 egm_11 H locs hP hD hS => ?_)
      replace hP : va_P D vwCl (wX10 T hgm gm_11 gml) H := hP
      replace hD : va_D A (wX10 T hgm gm_11 gml) := hD
      replace hf := zLt_at egm_11 hf
      refine lv_goto (tgt := 42) hx hb dX10_move_26 (by decide) ?_
      exact hJ42 gm_11 H locs ls hf hP hD hS hl
set_option maxHeartbeats 4000000 in
set_option maxRecDepth 100000 in
theorem pX10_move_c4 (l : Launch) (D : va_G) (T : Nat → ClassId) (X : zFP) (hgm : Nat → Nat) (sz : Nat) (gm : zM) (gml : zL) (a2 : Int32) (a3 : Int32) (ngm : zM) (hf : fX10_move_c4 gm gml a2 a3 = some ngm) : Met l yX10_move wsX10_move rX10_move_c4 (zPre D T X [.ref (hgm 0), .ref (hgm 4), .int a2, .int a3] (wX10 T hgm gm gml) sz) (zQv D T (wX10 T hgm ngm gml) (wX10 T hgm gm gml) sz) 0 0 (va_A (wX10 T hgm gm gml) sz) := by
  unfold fX10_move_c4 at hf
  refine zStart [(0, .ref (hgm 0)), (1, .ref (hgm 4)), (2, .int a2), (3, .int a3)] (by decide) rfl (Nat.le_of_ble_eq_true rfl) rfl ?_
  intro p e s m args below meth c A Q ls hx hb hr hml hown hlocks hts hsz hA0 hQ hA hK hX hP hD hS hl
  replace hown : s.vm.findClass RX10 = some m.cls := hown
  have hH := hsz
  have hiX10 : ∀ w ∈ u_ws RX10 TX10 54, w ∈ wsX10_move := fun w h => List.mem_cons_of_mem _ (List.mem_append_right _ (h))
  obtain ⟨H, hHe⟩ : ∃ H : Heap, H = s.heap := ⟨_, rfl⟩
  obtain ⟨locs, hLe⟩ : ∃ L : List Loc, L = [] := ⟨_, rfl⟩
  replace hP : va_P D vwCl (wX10 T hgm gm gml) H := by rw [hHe]; exact hP
  replace hS : va_S A s.heap H locs := by rw [hHe, hLe]; exact hS
  suffices hgo : W p l e rX10_move_c4 s m args below meth c H locs 0 0 Q (F0 m 0 ls []) by rw [hHe, hLe] at hgo; exact hgo
  clear hHe hLe
  refine lv_iconst (v := 0) hx hb dX10_move_0 (by decide) ?_
  refine lv_istore (lv' := [(4, .int 0), (0, .ref (hgm 0)), (1, .ref (hgm 4)), (2, .int a2), (3, .int a3)]) hx hb dX10_move_1 hl (by decide) rfl (fun ls hl => ?_)
  obtain ⟨ex, hlp, hf⟩ := zB1_ok hf
  have hE3_58 : ∀ (gm_3 : zM) , ex = gm_3 → ∀ (H : Heap) (locs : List Loc) (ls : Array Slot), va_P D vwCl (wX10 T hgm gm_3 gml) H → va_D A (wX10 T hgm gm_3 gml) → va_S A s.heap H locs → lv_has ls 5 [] → W p l e rX10_move_c4 s m args below meth c H locs 0 0 Q (F0 m 58 ls []) := by
    intro gm_3 hex H locs ls hP hD hS hl
    have hf := zEx1 hex hf
    obtain ⟨q1, -⟩ := zI1 hf
    subst q1
    exact zRetV hQ hx hb hr hlocks hA0 hK hP hD hS dX10_move_58
  refine zLpS2 (body := (fX10_move_c4_L3 a2 a3)) (b := ex) (fun (v1 : Int32) (gm_2 : zM) => ∀ (H : Heap) (locs : List Loc) (ls : Array Slot), va_P D vwCl (wX10 T hgm gm_2 gml) H → va_D A (wX10 T hgm gm_2 gml) → va_S A s.heap H locs → lv_has ls 5 [(0, .ref (hgm 0)), (1, .ref (hgm 4)), (2, .int a2), (3, .int a3), (4, .int v1)] → W p l e rX10_move_c4 s m args below meth c H locs 0 0 Q (F0 m 3 ls [])) ?_ zFU 0 gm hlp H locs ls hP hD hS (lv_sub hl [1, 2, 3, 4, 0] rfl)
  intro v1 gm_2 z hf hzz H locs ls hP hD hS hl
  unfold fX10_move_c4_L3 at hf
  replace hf := zUk2 hf
  refine lv_iload hx hb dX10_move_3 (lv_at hl 4 rfl) ?_
  refine lv_iload_n hx hb dX10_move_5 rfl (lv_at hl 2 rfl) ?_
  refine lv_icmp_ge (tgt := 58) hx hb dX10_move_6 (by decide) (fun hc => ?_) (fun hc => ?_)
  · replace hf := zIf_t hc hf
    cases hf
    exact hE3_58 gm_2 hzz.symm H locs ls hP hD hS (lv_sub hl [] rfl)
  · replace hf := zIf_f hc hf
    refine lv_iload_n hx hb dX10_move_9 rfl (lv_at hl 3 rfl) ?_
    have hJ42 : ∀ (gm_4 : zM) (H : Heap) (locs : List Loc) (ls : Array Slot), fX10_move_c4_L3J42 v1 gm_4 = some z → va_P D vwCl (wX10 T hgm gm_4 gml) H → va_D A (wX10 T hgm gm_4 gml) → va_S A s.heap H locs → lv_has ls 5 [(0, .ref (hgm 0)), (1, .ref (hgm 4)), (2, .int a2), (3, .int a3), (4, .int v1)] → W p l e rX10_move_c4 s m args below meth c H locs 0 0 Q (F0 m 42 ls []) := by
      intro gm_4 H locs ls hf hP hD hS hl
      unfold fX10_move_c4_L3J42 at hf
      refine lv_aload_n hx hb dX10_move_42 rfl (lv_at hl 0 rfl) ?_
      refine lv_dup hx hb dX10_move_43 rfl ?_
      refine zGet (ci := 10) (C := RX10) (F := TX10) (N := 54) (v := .int (gm_4 0 52)) hx hb hts hiX10 hown hK hP 0 52 2 rfl rfl (by decide) rfl rfl rfl dX10_move_44 ?_
      refine lv_iconst (v := 1) hx hb dX10_move_47 (by decide) ?_
      refine lv_iadd hx hb dX10_move_48 ?_
      refine lv_topi (fun v5 ev5 => ?_)
      replace hf := zLt_at ev5 hf
      refine zPut (ci := 10) (C := RX10) (F := TX10) (N := 54) (x := v5) (w := gm_4) hx hb hts hiX10 tyX10 tyX10_ok nmX10 hown hK hP hD hS (fun g => wX10 T hgm g gml) 0 52 2 rfl rfl (by decide) rfl rfl rfl ⟨rfl, rfl⟩ (Nat.le_of_ble_eq_true rfl) rfl dX10_move_49 (fun gm_6 egm_6 H locs hP hD hS => ?_)
      replace hP : va_P D vwCl (wX10 T hgm gm_6 gml) H := hP
      replace hD : va_D A (wX10 T hgm gm_6 gml) := hD
      replace hf := zLt_at egm_6 hf
      obtain ⟨v7, ev7⟩ : ∃ y : Int32, y = v1 + 1 := ⟨_, rfl⟩
      replace hf := zLt_at ev7 hf
      refine lv_iinc (v := v7) (lv' := [(4, .int v7), (0, .ref (hgm 0)), (1, .ref (hgm 4)), (2, .int a2), (3, .int a3)]) hx hb dX10_move_52 hl (k := 4) rfl (by rw [ev7]; rfl) (by decide) rfl (fun ls hl => ?_)
      refine lv_goto (tgt := 3) hx hb dX10_move_55 (by decide) ?_
      cases hf
      exact hzz H locs ls hP hD hS (lv_sub hl [1, 2, 3, 4, 0] rfl)
    refine lv_if_eq (tgt := 29) hx hb dX10_move_10 (by decide) (fun hc => ?_) (fun hc => ?_)
    · replace hf := zIf_t hc hf
      refine lv_aload_n hx hb dX10_move_29 rfl (lv_at hl 1 rfl) ?_
      refine lv_iload hx hb dX10_move_30 (lv_at hl 4 rfl) ?_
      refine lv_aload_n hx hb dX10_move_32 rfl (lv_at hl 0 rfl) ?_
      refine zGet (ci := 10) (C := RX10) (F := TX10) (N := 54) (v := .ref (hgm 25)) hx hb hts hiX10 hown hK hP 0 51 1 rfl rfl (by decide) rfl rfl rfl dX10_move_33 ?_
      refine lv_aload_n hx hb dX10_move_36 rfl (lv_at hl 0 rfl) ?_
      refine zGet (ci := 10) (C := RX10) (F := TX10) (N := 54) (v := .int (gm_2 0 52)) hx hb hts hiX10 hown hK hP 0 52 2 rfl rfl (by decide) rfl rfl rfl dX10_move_37 ?_
      obtain ⟨hg, hf⟩ := zGd_ok hf
      refine zAldI hx hb hK hP 25 rfl hg dX10_move_40 (fun v8 ev8 => ?_)
      replace hf := zLt_at ev8 hf
      obtain ⟨hg, hf⟩ := zGd_ok hf
      refine zAstI (w := gm_2) hx hb hK hP hD hS (fun g => wX10 T hgm g gml) 4 4 rfl hg rfl dX10_move_41 (fun gm_9 egm_9 H locs hP hD hS => ?_)
      replace hP : va_P D vwCl (wX10 T hgm gm_9 gml) H := hP
      replace hD : va_D A (wX10 T hgm gm_9 gml) := hD
      replace hf := zLt_at egm_9 hf
      exact hJ42 gm_9 H locs ls hf hP hD hS hl
    · replace hf := zIf_f hc hf
      refine lv_aload_n hx hb dX10_move_13 rfl (lv_at hl 0 rfl) ?_
      refine zGet (ci := 10) (C := RX10) (F := TX10) (N := 54) (v := .ref (hgm 25)) hx hb hts hiX10 hown hK hP 0 51 1 rfl rfl (by decide) rfl rfl rfl dX10_move_14 ?_
      refine lv_aload_n hx hb dX10_move_17 rfl (lv_at hl 0 rfl) ?_
      refine zGet (ci := 10) (C := RX10) (F := TX10) (N := 54) (v := .int (gm_2 0 52)) hx hb hts hiX10 hown hK hP 0 52 2 rfl rfl (by decide) rfl rfl rfl dX10_move_18 ?_
      refine lv_aload_n hx hb dX10_move_21 rfl (lv_at hl 1 rfl) ?_
      refine lv_iload hx hb dX10_move_22 (lv_at hl 4 rfl) ?_
      obtain ⟨hg, hf⟩ := zGd_ok hf
      refine zAldI hx hb hK hP 4 rfl hg dX10_move_24 (fun v10 ev10 => ?_)
      replace hf := zLt_at ev10 hf
      obtain ⟨hg, hf⟩ := zGd_ok hf
      refine zAstI (w := gm_2) hx hb hK hP hD hS (fun g => wX10 T hgm g gml) 25 25 rfl hg rfl dX10_move_25 (fun gm_11 egm_11 H locs hP hD hS => ?_)
      replace hP : va_P D vwCl (wX10 T hgm gm_11 gml) H := hP
      replace hD : va_D A (wX10 T hgm gm_11 gml) := hD
      replace hf := zLt_at egm_11 hf
      refine lv_goto (tgt := 42) hx hb dX10_move_26 (by decide) ?_
      exact hJ42 gm_11 H locs ls hf hP hD hS hl
set_option maxHeartbeats 4000000 in
set_option maxRecDepth 100000 in
theorem pX10_move_c26 (l : Launch) (D : va_G) (T : Nat → ClassId) (X : zFP) (hgm : Nat → Nat) (sz : Nat) (gm : zM) (gml : zL) (a2 : Int32) (a3 : Int32) (ngm : zM) (hf : fX10_move_c26 gm gml a2 a3 = some ngm) : Met l yX10_move wsX10_move rX10_move_c26 (zPre D T X [.ref (hgm 0), .ref (hgm 26), .int a2, .int a3] (wX10 T hgm gm gml) sz) (zQv D T (wX10 T hgm ngm gml) (wX10 T hgm gm gml) sz) 0 0 (va_A (wX10 T hgm gm gml) sz) := by
  unfold fX10_move_c26 at hf
  refine zStart [(0, .ref (hgm 0)), (1, .ref (hgm 26)), (2, .int a2), (3, .int a3)] (by decide) rfl (Nat.le_of_ble_eq_true rfl) rfl ?_
  intro p e s m args below meth c A Q ls hx hb hr hml hown hlocks hts hsz hA0 hQ hA hK hX hP hD hS hl
  replace hown : s.vm.findClass RX10 = some m.cls := hown
  have hH := hsz
  have hiX10 : ∀ w ∈ u_ws RX10 TX10 54, w ∈ wsX10_move := fun w h => List.mem_cons_of_mem _ (List.mem_append_right _ (h))
  obtain ⟨H, hHe⟩ : ∃ H : Heap, H = s.heap := ⟨_, rfl⟩
  obtain ⟨locs, hLe⟩ : ∃ L : List Loc, L = [] := ⟨_, rfl⟩
  replace hP : va_P D vwCl (wX10 T hgm gm gml) H := by rw [hHe]; exact hP
  replace hS : va_S A s.heap H locs := by rw [hHe, hLe]; exact hS
  suffices hgo : W p l e rX10_move_c26 s m args below meth c H locs 0 0 Q (F0 m 0 ls []) by rw [hHe, hLe] at hgo; exact hgo
  clear hHe hLe
  refine lv_iconst (v := 0) hx hb dX10_move_0 (by decide) ?_
  refine lv_istore (lv' := [(4, .int 0), (0, .ref (hgm 0)), (1, .ref (hgm 26)), (2, .int a2), (3, .int a3)]) hx hb dX10_move_1 hl (by decide) rfl (fun ls hl => ?_)
  obtain ⟨ex, hlp, hf⟩ := zB1_ok hf
  have hE3_58 : ∀ (gm_3 : zM) , ex = gm_3 → ∀ (H : Heap) (locs : List Loc) (ls : Array Slot), va_P D vwCl (wX10 T hgm gm_3 gml) H → va_D A (wX10 T hgm gm_3 gml) → va_S A s.heap H locs → lv_has ls 5 [] → W p l e rX10_move_c26 s m args below meth c H locs 0 0 Q (F0 m 58 ls []) := by
    intro gm_3 hex H locs ls hP hD hS hl
    have hf := zEx1 hex hf
    obtain ⟨q1, -⟩ := zI1 hf
    subst q1
    exact zRetV hQ hx hb hr hlocks hA0 hK hP hD hS dX10_move_58
  refine zLpS2 (body := (fX10_move_c26_L3 a2 a3)) (b := ex) (fun (v1 : Int32) (gm_2 : zM) => ∀ (H : Heap) (locs : List Loc) (ls : Array Slot), va_P D vwCl (wX10 T hgm gm_2 gml) H → va_D A (wX10 T hgm gm_2 gml) → va_S A s.heap H locs → lv_has ls 5 [(0, .ref (hgm 0)), (1, .ref (hgm 26)), (2, .int a2), (3, .int a3), (4, .int v1)] → W p l e rX10_move_c26 s m args below meth c H locs 0 0 Q (F0 m 3 ls [])) ?_ zFU 0 gm hlp H locs ls hP hD hS (lv_sub hl [1, 2, 3, 4, 0] rfl)
  intro v1 gm_2 z hf hzz H locs ls hP hD hS hl
  unfold fX10_move_c26_L3 at hf
  replace hf := zUk2 hf
  refine lv_iload hx hb dX10_move_3 (lv_at hl 4 rfl) ?_
  refine lv_iload_n hx hb dX10_move_5 rfl (lv_at hl 2 rfl) ?_
  refine lv_icmp_ge (tgt := 58) hx hb dX10_move_6 (by decide) (fun hc => ?_) (fun hc => ?_)
  · replace hf := zIf_t hc hf
    cases hf
    exact hE3_58 gm_2 hzz.symm H locs ls hP hD hS (lv_sub hl [] rfl)
  · replace hf := zIf_f hc hf
    refine lv_iload_n hx hb dX10_move_9 rfl (lv_at hl 3 rfl) ?_
    have hJ42 : ∀ (gm_4 : zM) (H : Heap) (locs : List Loc) (ls : Array Slot), fX10_move_c26_L3J42 v1 gm_4 = some z → va_P D vwCl (wX10 T hgm gm_4 gml) H → va_D A (wX10 T hgm gm_4 gml) → va_S A s.heap H locs → lv_has ls 5 [(0, .ref (hgm 0)), (1, .ref (hgm 26)), (2, .int a2), (3, .int a3), (4, .int v1)] → W p l e rX10_move_c26 s m args below meth c H locs 0 0 Q (F0 m 42 ls []) := by
      intro gm_4 H locs ls hf hP hD hS hl
      unfold fX10_move_c26_L3J42 at hf
      refine lv_aload_n hx hb dX10_move_42 rfl (lv_at hl 0 rfl) ?_
      refine lv_dup hx hb dX10_move_43 rfl ?_
      refine zGet (ci := 10) (C := RX10) (F := TX10) (N := 54) (v := .int (gm_4 0 52)) hx hb hts hiX10 hown hK hP 0 52 2 rfl rfl (by decide) rfl rfl rfl dX10_move_44 ?_
      refine lv_iconst (v := 1) hx hb dX10_move_47 (by decide) ?_
      refine lv_iadd hx hb dX10_move_48 ?_
      refine lv_topi (fun v5 ev5 => ?_)
      replace hf := zLt_at ev5 hf
      refine zPut (ci := 10) (C := RX10) (F := TX10) (N := 54) (x := v5) (w := gm_4) hx hb hts hiX10 tyX10 tyX10_ok nmX10 hown hK hP hD hS (fun g => wX10 T hgm g gml) 0 52 2 rfl rfl (by decide) rfl rfl rfl ⟨rfl, rfl⟩ (Nat.le_of_ble_eq_true rfl) rfl dX10_move_49 (fun gm_6 egm_6 H locs hP hD hS => ?_)
      replace hP : va_P D vwCl (wX10 T hgm gm_6 gml) H := hP
      replace hD : va_D A (wX10 T hgm gm_6 gml) := hD
      replace hf := zLt_at egm_6 hf
      obtain ⟨v7, ev7⟩ : ∃ y : Int32, y = v1 + 1 := ⟨_, rfl⟩
      replace hf := zLt_at ev7 hf
      refine lv_iinc (v := v7) (lv' := [(4, .int v7), (0, .ref (hgm 0)), (1, .ref (hgm 26)), (2, .int a2), (3, .int a3)]) hx hb dX10_move_52 hl (k := 4) rfl (by rw [ev7]; rfl) (by decide) rfl (fun ls hl => ?_)
      refine lv_goto (tgt := 3) hx hb dX10_move_55 (by decide) ?_
      cases hf
      exact hzz H locs ls hP hD hS (lv_sub hl [1, 2, 3, 4, 0] rfl)
    refine lv_if_eq (tgt := 29) hx hb dX10_move_10 (by decide) (fun hc => ?_) (fun hc => ?_)
    · replace hf := zIf_t hc hf
      refine lv_aload_n hx hb dX10_move_29 rfl (lv_at hl 1 rfl) ?_
      refine lv_iload hx hb dX10_move_30 (lv_at hl 4 rfl) ?_
      refine lv_aload_n hx hb dX10_move_32 rfl (lv_at hl 0 rfl) ?_
      refine zGet (ci := 10) (C := RX10) (F := TX10) (N := 54) (v := .ref (hgm 25)) hx hb hts hiX10 hown hK hP 0 51 1 rfl rfl (by decide) rfl rfl rfl dX10_move_33 ?_
      refine lv_aload_n hx hb dX10_move_36 rfl (lv_at hl 0 rfl) ?_
      refine zGet (ci := 10) (C := RX10) (F := TX10) (N := 54) (v := .int (gm_2 0 52)) hx hb hts hiX10 hown hK hP 0 52 2 rfl rfl (by decide) rfl rfl rfl dX10_move_37 ?_
      obtain ⟨hg, hf⟩ := zGd_ok hf
      refine zAldI hx hb hK hP 25 rfl hg dX10_move_40 (fun v8 ev8 => ?_)
      replace hf := zLt_at ev8 hf
      obtain ⟨hg, hf⟩ := zGd_ok hf
      refine zAstI (w := gm_2) hx hb hK hP hD hS (fun g => wX10 T hgm g gml) 26 26 rfl hg rfl dX10_move_41 (fun gm_9 egm_9 H locs hP hD hS => ?_)
      replace hP : va_P D vwCl (wX10 T hgm gm_9 gml) H := hP
      replace hD : va_D A (wX10 T hgm gm_9 gml) := hD
      replace hf := zLt_at egm_9 hf
      exact hJ42 gm_9 H locs ls hf hP hD hS hl
    · replace hf := zIf_f hc hf
      refine lv_aload_n hx hb dX10_move_13 rfl (lv_at hl 0 rfl) ?_
      refine zGet (ci := 10) (C := RX10) (F := TX10) (N := 54) (v := .ref (hgm 25)) hx hb hts hiX10 hown hK hP 0 51 1 rfl rfl (by decide) rfl rfl rfl dX10_move_14 ?_
      refine lv_aload_n hx hb dX10_move_17 rfl (lv_at hl 0 rfl) ?_
      refine zGet (ci := 10) (C := RX10) (F := TX10) (N := 54) (v := .int (gm_2 0 52)) hx hb hts hiX10 hown hK hP 0 52 2 rfl rfl (by decide) rfl rfl rfl dX10_move_18 ?_
      refine lv_aload_n hx hb dX10_move_21 rfl (lv_at hl 1 rfl) ?_
      refine lv_iload hx hb dX10_move_22 (lv_at hl 4 rfl) ?_
      obtain ⟨hg, hf⟩ := zGd_ok hf
      refine zAldI hx hb hK hP 26 rfl hg dX10_move_24 (fun v10 ev10 => ?_)
      replace hf := zLt_at ev10 hf
      obtain ⟨hg, hf⟩ := zGd_ok hf
      refine zAstI (w := gm_2) hx hb hK hP hD hS (fun g => wX10 T hgm g gml) 25 25 rfl hg rfl dX10_move_25 (fun gm_11 egm_11 H locs hP hD hS => ?_)
      replace hP : va_P D vwCl (wX10 T hgm gm_11 gml) H := hP
      replace hD : va_D A (wX10 T hgm gm_11 gml) := hD
      replace hf := zLt_at egm_11 hf
      refine lv_goto (tgt := 42) hx hb dX10_move_26 (by decide) ?_
      exact hJ42 gm_11 H locs ls hf hP hD hS hl
set_option maxHeartbeats 4000000 in
set_option maxRecDepth 100000 in
theorem pX10_moveAll (l : Launch) (D : va_G) (T : Nat → ClassId) (X : zFP) (hgm : Nat → Nat) (sz : Nat) (gm : zM) (gml : zL) (a1 : Int32) (ngm : zM) (hf : fX10_moveAll gm gml a1 = some ngm) : Met l yX10_moveAll wsX10_moveAll rX10_moveAll (zPre D T X [.ref (hgm 0), .int a1] (wX10 T hgm gm gml) sz) (zQv D T (wX10 T hgm ngm gml) (wX10 T hgm gm gml) sz) 0 0 (va_A (wX10 T hgm gm gml) sz) := by
  unfold fX10_moveAll at hf
  refine zStart [(0, .ref (hgm 0)), (1, .int a1)] (by decide) rfl (Nat.le_of_ble_eq_true rfl) rfl ?_
  intro p e s m args below meth c A Q ls hx hb hr hml hown hlocks hts hsz hA0 hQ hA hK hX hP hD hS hl
  replace hown : s.vm.findClass RX10 = some m.cls := hown
  have hH := hsz
  have hiX10 : ∀ w ∈ u_ws RX10 TX10 54, w ∈ wsX10_moveAll := fun w h => List.mem_cons_of_mem _ (List.mem_append_right _ (h))
  obtain ⟨H, hHe⟩ : ∃ H : Heap, H = s.heap := ⟨_, rfl⟩
  obtain ⟨locs, hLe⟩ : ∃ L : List Loc, L = [] := ⟨_, rfl⟩
  replace hP : va_P D vwCl (wX10 T hgm gm gml) H := by rw [hHe]; exact hP
  replace hS : va_S A s.heap H locs := by rw [hHe, hLe]; exact hS
  suffices hgo : W p l e rX10_moveAll s m args below meth c H locs 0 0 Q (F0 m 0 ls []) by rw [hHe, hLe] at hgo; exact hgo
  clear hHe hLe
  refine lv_aload_n hx hb dX10_moveAll_0 rfl (lv_at hl 0 rfl) ?_
  refine lv_iconst (v := 0) hx hb dX10_moveAll_1 (by decide) ?_
  refine zPut (ci := 10) (C := RX10) (F := TX10) (N := 54) (x := 0) (w := gm) hx hb hts hiX10 tyX10 tyX10_ok nmX10 hown hK hP hD hS (fun g => wX10 T hgm g gml) 0 52 1 rfl rfl (by decide) rfl rfl rfl ⟨rfl, rfl⟩ (Nat.le_of_ble_eq_true rfl) rfl dX10_moveAll_2 (fun gm_1 egm_1 H locs hP hD hS => ?_)
  replace hP : va_P D vwCl (wX10 T hgm gm_1 gml) H := hP
  replace hD : va_D A (wX10 T hgm gm_1 gml) := hD
  replace hf := zLt_at egm_1 hf
  refine lv_aload_n hx hb dX10_moveAll_5 rfl (lv_at hl 0 rfl) ?_
  refine zGet (ci := 10) (C := RX10) (F := TX10) (N := 54) (v := .ref (hgm 26)) hx hb hts hiX10 hown hK hP 0 53 2 rfl rfl (by decide) rfl rfl rfl dX10_moveAll_6 ?_
  refine lv_iconst (v := 0) hx hb dX10_moveAll_9 (by decide) ?_
  refine lv_aload_n hx hb dX10_moveAll_10 rfl (lv_at hl 0 rfl) ?_
  refine zGet (ci := 10) (C := RX10) (F := TX10) (N := 54) (v := .int (gm_1 0 0)) hx hb hts hiX10 hown hK hP 0 0 3 rfl rfl (by decide) rfl rfl rfl dX10_moveAll_11 ?_
  refine lv_topi (fun v2 ev2 => ?_)
  replace hf := zLt_at ev2 hf
  obtain ⟨hg, hf⟩ := zGd_ok hf
  refine zAstI (w := gm_1) hx hb hK hP hD hS (fun g => wX10 T hgm g gml) 26 26 rfl hg rfl dX10_moveAll_14 (fun gm_3 egm_3 H locs hP hD hS => ?_)
  replace hP : va_P D vwCl (wX10 T hgm gm_3 gml) H := hP
  replace hD : va_D A (wX10 T hgm gm_3 gml) := hD
  replace hf := zLt_at egm_3 hf
  refine lv_aload_n hx hb dX10_moveAll_15 rfl (lv_at hl 0 rfl) ?_
  refine zGet (ci := 10) (C := RX10) (F := TX10) (N := 54) (v := .ref (hgm 26)) hx hb hts hiX10 hown hK hP 0 53 2 rfl rfl (by decide) rfl rfl rfl dX10_moveAll_16 ?_
  refine lv_iconst (v := 1) hx hb dX10_moveAll_19 (by decide) ?_
  refine lv_aload_n hx hb dX10_moveAll_20 rfl (lv_at hl 0 rfl) ?_
  refine zGet (ci := 10) (C := RX10) (F := TX10) (N := 54) (v := .int (gm_3 0 2)) hx hb hts hiX10 hown hK hP 0 2 4 rfl rfl (by decide) rfl rfl rfl dX10_moveAll_21 ?_
  refine lv_topi (fun v4 ev4 => ?_)
  replace hf := zLt_at ev4 hf
  obtain ⟨hg, hf⟩ := zGd_ok hf
  refine zAstI (w := gm_3) hx hb hK hP hD hS (fun g => wX10 T hgm g gml) 26 26 rfl hg rfl dX10_moveAll_24 (fun gm_5 egm_5 H locs hP hD hS => ?_)
  replace hP : va_P D vwCl (wX10 T hgm gm_5 gml) H := hP
  replace hD : va_D A (wX10 T hgm gm_5 gml) := hD
  replace hf := zLt_at egm_5 hf
  refine lv_aload_n hx hb dX10_moveAll_25 rfl (lv_at hl 0 rfl) ?_
  refine zGet (ci := 10) (C := RX10) (F := TX10) (N := 54) (v := .ref (hgm 26)) hx hb hts hiX10 hown hK hP 0 53 2 rfl rfl (by decide) rfl rfl rfl dX10_moveAll_26 ?_
  refine lv_iconst (v := 2) hx hb dX10_moveAll_29 (by decide) ?_
  refine lv_aload_n hx hb dX10_moveAll_30 rfl (lv_at hl 0 rfl) ?_
  refine zGet (ci := 10) (C := RX10) (F := TX10) (N := 54) (v := .int (gm_5 0 4)) hx hb hts hiX10 hown hK hP 0 4 5 rfl rfl (by decide) rfl rfl rfl dX10_moveAll_31 ?_
  refine lv_topi (fun v6 ev6 => ?_)
  replace hf := zLt_at ev6 hf
  obtain ⟨hg, hf⟩ := zGd_ok hf
  refine zAstI (w := gm_5) hx hb hK hP hD hS (fun g => wX10 T hgm g gml) 26 26 rfl hg rfl dX10_moveAll_34 (fun gm_7 egm_7 H locs hP hD hS => ?_)
  replace hP : va_P D vwCl (wX10 T hgm gm_7 gml) H := hP
  replace hD : va_D A (wX10 T hgm gm_7 gml) := hD
  replace hf := zLt_at egm_7 hf
  refine lv_aload_n hx hb dX10_moveAll_35 rfl (lv_at hl 0 rfl) ?_
  refine zGet (ci := 10) (C := RX10) (F := TX10) (N := 54) (v := .ref (hgm 26)) hx hb hts hiX10 hown hK hP 0 53 2 rfl rfl (by decide) rfl rfl rfl dX10_moveAll_36 ?_
  refine lv_iconst (v := 3) hx hb dX10_moveAll_39 (by decide) ?_
  refine lv_aload_n hx hb dX10_moveAll_40 rfl (lv_at hl 0 rfl) ?_
  refine zGet (ci := 10) (C := RX10) (F := TX10) (N := 54) (v := .int (gm_7 0 7)) hx hb hts hiX10 hown hK hP 0 7 6 rfl rfl (by decide) rfl rfl rfl dX10_moveAll_41 ?_
  refine lv_topi (fun v8 ev8 => ?_)
  replace hf := zLt_at ev8 hf
  obtain ⟨hg, hf⟩ := zGd_ok hf
  refine zAstI (w := gm_7) hx hb hK hP hD hS (fun g => wX10 T hgm g gml) 26 26 rfl hg rfl dX10_moveAll_44 (fun gm_9 egm_9 H locs hP hD hS => ?_)
  replace hP : va_P D vwCl (wX10 T hgm gm_9 gml) H := hP
  replace hD : va_D A (wX10 T hgm gm_9 gml) := hD
  replace hf := zLt_at egm_9 hf
  refine lv_aload_n hx hb dX10_moveAll_45 rfl (lv_at hl 0 rfl) ?_
  refine lv_aload_n hx hb dX10_moveAll_46 rfl (lv_at hl 0 rfl) ?_
  refine zGet (ci := 10) (C := RX10) (F := TX10) (N := 54) (v := .ref (hgm 26)) hx hb hts hiX10 hown hK hP 0 53 2 rfl rfl (by decide) rfl rfl rfl dX10_moveAll_47 ?_
  refine lv_iconst (v := 4) hx hb dX10_moveAll_50 (by decide) ?_
  refine lv_iload_n hx hb dX10_moveAll_51 rfl (lv_at hl 1 rfl) ?_
  obtain ⟨gm_10, hc52, hf⟩ := zB1_ok hf
  refine zCallVEV [.ref (hgm 26), .int 4, .int a1] ⟨hx, hb, hml, hown, hts⟩ (pX10_move_c26 l D T X hgm H.size gm_9 gml 4 a1 gm_10 hc52) (cwV 3 hts gX10_moveAll_X10_move rfl rfl rfl (by decide +kernel) ⟨Nat.le_of_ble_eq_true rfl, Nat.le_of_ble_eq_true rfl⟩) hK hP hD hS hA hX 0 rfl rfl rfl hl.1 rfl (Nat.le_of_ble_eq_true rfl) dX10_moveAll_52 ⟨Nat.zero_le _, Nat.zero_le _⟩ (fun H locs hP hD hS => ?_)
  refine lv_aload_n hx hb dX10_moveAll_55 rfl (lv_at hl 0 rfl) ?_
  refine lv_aload_n hx hb dX10_moveAll_56 rfl (lv_at hl 0 rfl) ?_
  refine zGet (ci := 10) (C := RX10) (F := TX10) (N := 54) (v := .ref (hgm 1)) hx hb hts hiX10 hown hK hP 0 1 7 rfl rfl (by decide) rfl rfl rfl dX10_moveAll_57 ?_
  refine lv_bipush (v := 10) hx hb dX10_moveAll_60 (by decide) ?_
  refine lv_iload_n hx hb dX10_moveAll_62 rfl (lv_at hl 1 rfl) ?_
  obtain ⟨gm_11, hc63, hf⟩ := zB1_ok hf
  refine zCallVEV [.ref (hgm 1), .int 10, .int a1] ⟨hx, hb, hml, hown, hts⟩ (pX10_move_c1 l D T X hgm H.size gm_10 gml 10 a1 gm_11 hc63) (cwV 3 hts gX10_moveAll_X10_move rfl rfl rfl (by decide +kernel) ⟨Nat.le_of_ble_eq_true rfl, Nat.le_of_ble_eq_true rfl⟩) hK hP hD hS hA hX 0 rfl rfl rfl hl.1 rfl (Nat.le_of_ble_eq_true rfl) dX10_moveAll_63 ⟨Nat.zero_le _, Nat.zero_le _⟩ (fun H locs hP hD hS => ?_)
  refine lv_aload_n hx hb dX10_moveAll_66 rfl (lv_at hl 0 rfl) ?_
  refine lv_aload_n hx hb dX10_moveAll_67 rfl (lv_at hl 0 rfl) ?_
  refine zGet (ci := 10) (C := RX10) (F := TX10) (N := 54) (v := .ref (hgm 2)) hx hb hts hiX10 hown hK hP 0 3 8 rfl rfl (by decide) rfl rfl rfl dX10_moveAll_68 ?_
  refine lv_bipush (v := 70) hx hb dX10_moveAll_71 (by decide) ?_
  refine lv_iload_n hx hb dX10_moveAll_73 rfl (lv_at hl 1 rfl) ?_
  obtain ⟨gm_12, hc74, hf⟩ := zB1_ok hf
  refine zCallVEV [.ref (hgm 2), .int 70, .int a1] ⟨hx, hb, hml, hown, hts⟩ (pX10_move_c2 l D T X hgm H.size gm_11 gml 70 a1 gm_12 hc74) (cwV 3 hts gX10_moveAll_X10_move rfl rfl rfl (by decide +kernel) ⟨Nat.le_of_ble_eq_true rfl, Nat.le_of_ble_eq_true rfl⟩) hK hP hD hS hA hX 0 rfl rfl rfl hl.1 rfl (Nat.le_of_ble_eq_true rfl) dX10_moveAll_74 ⟨Nat.zero_le _, Nat.zero_le _⟩ (fun H locs hP hD hS => ?_)
  refine lv_aload_n hx hb dX10_moveAll_77 rfl (lv_at hl 0 rfl) ?_
  refine lv_aload_n hx hb dX10_moveAll_78 rfl (lv_at hl 0 rfl) ?_
  refine zGet (ci := 10) (C := RX10) (F := TX10) (N := 54) (v := .ref (hgm 3)) hx hb hts hiX10 hown hK hP 0 5 9 rfl rfl (by decide) rfl rfl rfl dX10_moveAll_79 ?_
  refine lv_bipush (v := 24) hx hb dX10_moveAll_82 (by decide) ?_
  refine lv_iload_n hx hb dX10_moveAll_84 rfl (lv_at hl 1 rfl) ?_
  obtain ⟨gm_13, hc85, hf⟩ := zB1_ok hf
  refine zCallVEV [.ref (hgm 3), .int 24, .int a1] ⟨hx, hb, hml, hown, hts⟩ (pX10_move_c3 l D T X hgm H.size gm_12 gml 24 a1 gm_13 hc85) (cwV 3 hts gX10_moveAll_X10_move rfl rfl rfl (by decide +kernel) ⟨Nat.le_of_ble_eq_true rfl, Nat.le_of_ble_eq_true rfl⟩) hK hP hD hS hA hX 0 rfl rfl rfl hl.1 rfl (Nat.le_of_ble_eq_true rfl) dX10_moveAll_85 ⟨Nat.zero_le _, Nat.zero_le _⟩ (fun H locs hP hD hS => ?_)
  refine lv_aload_n hx hb dX10_moveAll_88 rfl (lv_at hl 0 rfl) ?_
  refine lv_aload_n hx hb dX10_moveAll_89 rfl (lv_at hl 0 rfl) ?_
  refine zGet (ci := 10) (C := RX10) (F := TX10) (N := 54) (v := .ref (hgm 4)) hx hb hts hiX10 hown hK hP 0 6 10 rfl rfl (by decide) rfl rfl rfl dX10_moveAll_90 ?_
  refine lv_bipush (v := 10) hx hb dX10_moveAll_93 (by decide) ?_
  refine lv_iload_n hx hb dX10_moveAll_95 rfl (lv_at hl 1 rfl) ?_
  obtain ⟨gm_14, hc96, hf⟩ := zB1_ok hf
  refine zCallVEV [.ref (hgm 4), .int 10, .int a1] ⟨hx, hb, hml, hown, hts⟩ (pX10_move_c4 l D T X hgm H.size gm_13 gml 10 a1 gm_14 hc96) (cwV 3 hts gX10_moveAll_X10_move rfl rfl rfl (by decide +kernel) ⟨Nat.le_of_ble_eq_true rfl, Nat.le_of_ble_eq_true rfl⟩) hK hP hD hS hA hX 0 rfl rfl rfl hl.1 rfl (Nat.le_of_ble_eq_true rfl) dX10_moveAll_96 ⟨Nat.zero_le _, Nat.zero_le _⟩ (fun H locs hP hD hS => ?_)
  obtain ⟨q1, -⟩ := zI1 hf
  subst q1
  exact zRetV hQ hx hb hr hlocks hA0 hK hP hD hS dX10_moveAll_99
set_option maxHeartbeats 4000000 in
set_option maxRecDepth 100000 in
theorem pX10_keep (l : Launch) (D : va_G) (T : Nat → ClassId) (X : zFP) (hgm : Nat → Nat) (sz : Nat) (gm : zM) (gml : zL) (r : Int32) (ngm : zM) (hf : fX10_keep gm gml = some (r, ngm)) : Met l yX10_keep wsX10_keep rX10_keep (zPre D T X [.ref (hgm 0)] (wX10 T hgm gm gml) sz) (zQi D T r (wX10 T hgm ngm gml) (wX10 T hgm gm gml) sz) 0 0 (va_A (wX10 T hgm gm gml) sz) := by
  unfold fX10_keep at hf
  refine zStart [(0, .ref (hgm 0))] (by decide) rfl (Nat.le_of_ble_eq_true rfl) rfl ?_
  intro p e s m args below meth c A Q ls hx hb hr hml hown hlocks hts hsz hA0 hQ hA hK hX hP hD hS hl
  replace hown : s.vm.findClass RX10 = some m.cls := hown
  have hH := hsz
  have hiX10 : ∀ w ∈ u_ws RX10 TX10 54, w ∈ wsX10_keep := fun w h => List.mem_cons_of_mem _ (List.mem_append_right _ (h))
  obtain ⟨H, hHe⟩ : ∃ H : Heap, H = s.heap := ⟨_, rfl⟩
  obtain ⟨locs, hLe⟩ : ∃ L : List Loc, L = [] := ⟨_, rfl⟩
  replace hP : va_P D vwCl (wX10 T hgm gm gml) H := by rw [hHe]; exact hP
  replace hS : va_S A s.heap H locs := by rw [hHe, hLe]; exact hS
  suffices hgo : W p l e rX10_keep s m args below meth c H locs 0 0 Q (F0 m 0 ls []) by rw [hHe, hLe] at hgo; exact hgo
  clear hHe hLe
  refine lv_aload_n hx hb dX10_keep_0 rfl (lv_at hl 0 rfl) ?_
  refine lv_iconst (v := 1) hx hb dX10_keep_1 (by decide) ?_
  obtain ⟨gm_1, hc2, hf⟩ := zB1_ok hf
  refine zCallVEV [.int 1] ⟨hx, hb, hml, hown, hts⟩ (pX10_moveAll l D T X hgm H.size gm gml 1 gm_1 hc2) (cwV 1 hts gX10_keep_X10_moveAll rfl rfl rfl (by decide +kernel) ⟨Nat.le_of_ble_eq_true rfl, Nat.le_of_ble_eq_true rfl⟩) hK hP hD hS hA hX 0 rfl rfl rfl hl.1 rfl (Nat.le_of_ble_eq_true rfl) dX10_keep_2 ⟨Nat.zero_le _, Nat.zero_le _⟩ (fun H locs hP hD hS => ?_)
  refine lv_aload_n hx hb dX10_keep_5 rfl (lv_at hl 0 rfl) ?_
  refine lv_iconst (v := 1) hx hb dX10_keep_6 (by decide) ?_
  refine zPut (ci := 10) (C := RX10) (F := TX10) (N := 54) (x := 1) (w := gm_1) hx hb hts hiX10 tyX10 tyX10_ok nmX10 hown hK hP hD hS (fun g => wX10 T hgm g gml) 0 50 1 rfl rfl (by decide) rfl rfl rfl (by decide) (Nat.le_of_ble_eq_true rfl) rfl dX10_keep_7 (fun gm_2 egm_2 H locs hP hD hS => ?_)
  replace hP : va_P D vwCl (wX10 T hgm gm_2 gml) H := hP
  replace hD : va_D A (wX10 T hgm gm_2 gml) := hD
  replace hf := zLt_at egm_2 hf
  refine lv_iconst (v := 1) hx hb dX10_keep_10 (by decide) ?_
  obtain ⟨q1, q2⟩ := zI2 hf
  subst q1
  subst q2
  exact zRetI hQ hx hb hr hlocks hA0 hK hP hD hS rfl dX10_keep_11
set_option maxHeartbeats 4000000 in
set_option maxRecDepth 100000 in
theorem pX10_back (l : Launch) (D : va_G) (T : Nat → ClassId) (X : zFP) (hgm : Nat → Nat) (sz : Nat) (gm : zM) (gml : zL) (r : Int32) (ngm : zM) (hf : fX10_back gm gml = some (r, ngm)) : Met l yX10_back wsX10_back rX10_back (zPre D T X [.ref (hgm 0)] (wX10 T hgm gm gml) sz) (zQi D T r (wX10 T hgm ngm gml) (wX10 T hgm gm gml) sz) 0 0 (va_A (wX10 T hgm gm gml) sz) := by
  unfold fX10_back at hf
  refine zStart [(0, .ref (hgm 0))] (by decide) rfl (Nat.le_of_ble_eq_true rfl) rfl ?_
  intro p e s m args below meth c A Q ls hx hb hr hml hown hlocks hts hsz hA0 hQ hA hK hX hP hD hS hl
  replace hown : s.vm.findClass RX10 = some m.cls := hown
  have hH := hsz
  have hiX10 : ∀ w ∈ u_ws RX10 TX10 54, w ∈ wsX10_back := fun w h => List.mem_cons_of_mem _ (List.mem_append_right _ (h))
  obtain ⟨H, hHe⟩ : ∃ H : Heap, H = s.heap := ⟨_, rfl⟩
  obtain ⟨locs, hLe⟩ : ∃ L : List Loc, L = [] := ⟨_, rfl⟩
  replace hP : va_P D vwCl (wX10 T hgm gm gml) H := by rw [hHe]; exact hP
  replace hS : va_S A s.heap H locs := by rw [hHe, hLe]; exact hS
  suffices hgo : W p l e rX10_back s m args below meth c H locs 0 0 Q (F0 m 0 ls []) by rw [hHe, hLe] at hgo; exact hgo
  clear hHe hLe
  refine lv_aload_n hx hb dX10_back_0 rfl (lv_at hl 0 rfl) ?_
  refine zGet (ci := 10) (C := RX10) (F := TX10) (N := 54) (v := .int (gm 0 50)) hx hb hts hiX10 hown hK hP 0 50 1 rfl rfl (by decide) rfl rfl rfl dX10_back_1 ?_
  refine lv_if_ne (tgt := 10) hx hb dX10_back_4 (by decide) (fun hc => ?_) (fun hc => ?_)
  · replace hf := zIf_f hc hf
    refine lv_aload_n hx hb dX10_back_10 rfl (lv_at hl 0 rfl) ?_
    refine lv_iconst (v := 0) hx hb dX10_back_11 (by decide) ?_
    obtain ⟨gm_1, hc12, hf⟩ := zB1_ok hf
    refine zCallVEV [.int 0] ⟨hx, hb, hml, hown, hts⟩ (pX10_moveAll l D T X hgm H.size gm gml 0 gm_1 hc12) (cwV 1 hts gX10_back_X10_moveAll rfl rfl rfl (by decide +kernel) ⟨Nat.le_of_ble_eq_true rfl, Nat.le_of_ble_eq_true rfl⟩) hK hP hD hS hA hX 0 rfl rfl rfl hl.1 rfl (Nat.le_of_ble_eq_true rfl) dX10_back_12 ⟨Nat.zero_le _, Nat.zero_le _⟩ (fun H locs hP hD hS => ?_)
    refine lv_aload_n hx hb dX10_back_15 rfl (lv_at hl 0 rfl) ?_
    refine lv_aload_n hx hb dX10_back_16 rfl (lv_at hl 0 rfl) ?_
    refine zGet (ci := 10) (C := RX10) (F := TX10) (N := 54) (v := .ref (hgm 26)) hx hb hts hiX10 hown hK hP 0 53 2 rfl rfl (by decide) rfl rfl rfl dX10_back_17 ?_
    refine lv_iconst (v := 0) hx hb dX10_back_20 (by decide) ?_
    obtain ⟨hg, hf⟩ := zGd_ok hf
    refine zAldI hx hb hK hP 26 rfl hg dX10_back_21 (fun v2 ev2 => ?_)
    replace hf := zLt_at ev2 hf
    refine zPut (ci := 10) (C := RX10) (F := TX10) (N := 54) (x := v2) (w := gm_1) hx hb hts hiX10 tyX10 tyX10_ok nmX10 hown hK hP hD hS (fun g => wX10 T hgm g gml) 0 0 3 rfl rfl (by decide) rfl rfl rfl ⟨rfl, rfl⟩ (Nat.le_of_ble_eq_true rfl) rfl dX10_back_22 (fun gm_3 egm_3 H locs hP hD hS => ?_)
    replace hP : va_P D vwCl (wX10 T hgm gm_3 gml) H := hP
    replace hD : va_D A (wX10 T hgm gm_3 gml) := hD
    replace hf := zLt_at egm_3 hf
    refine lv_aload_n hx hb dX10_back_25 rfl (lv_at hl 0 rfl) ?_
    refine lv_aload_n hx hb dX10_back_26 rfl (lv_at hl 0 rfl) ?_
    refine zGet (ci := 10) (C := RX10) (F := TX10) (N := 54) (v := .ref (hgm 26)) hx hb hts hiX10 hown hK hP 0 53 2 rfl rfl (by decide) rfl rfl rfl dX10_back_27 ?_
    refine lv_iconst (v := 1) hx hb dX10_back_30 (by decide) ?_
    obtain ⟨hg, hf⟩ := zGd_ok hf
    refine zAldI hx hb hK hP 26 rfl hg dX10_back_31 (fun v4 ev4 => ?_)
    replace hf := zLt_at ev4 hf
    refine zPut (ci := 10) (C := RX10) (F := TX10) (N := 54) (x := v4) (w := gm_3) hx hb hts hiX10 tyX10 tyX10_ok nmX10 hown hK hP hD hS (fun g => wX10 T hgm g gml) 0 2 4 rfl rfl (by decide) rfl rfl rfl ⟨rfl, rfl⟩ (Nat.le_of_ble_eq_true rfl) rfl dX10_back_32 (fun gm_5 egm_5 H locs hP hD hS => ?_)
    replace hP : va_P D vwCl (wX10 T hgm gm_5 gml) H := hP
    replace hD : va_D A (wX10 T hgm gm_5 gml) := hD
    replace hf := zLt_at egm_5 hf
    refine lv_aload_n hx hb dX10_back_35 rfl (lv_at hl 0 rfl) ?_
    refine lv_aload_n hx hb dX10_back_36 rfl (lv_at hl 0 rfl) ?_
    refine zGet (ci := 10) (C := RX10) (F := TX10) (N := 54) (v := .ref (hgm 26)) hx hb hts hiX10 hown hK hP 0 53 2 rfl rfl (by decide) rfl rfl rfl dX10_back_37 ?_
    refine lv_iconst (v := 2) hx hb dX10_back_40 (by decide) ?_
    obtain ⟨hg, hf⟩ := zGd_ok hf
    refine zAldI hx hb hK hP 26 rfl hg dX10_back_41 (fun v6 ev6 => ?_)
    replace hf := zLt_at ev6 hf
    refine zPut (ci := 10) (C := RX10) (F := TX10) (N := 54) (x := v6) (w := gm_5) hx hb hts hiX10 tyX10 tyX10_ok nmX10 hown hK hP hD hS (fun g => wX10 T hgm g gml) 0 4 5 rfl rfl (by decide) rfl rfl rfl ⟨rfl, rfl⟩ (Nat.le_of_ble_eq_true rfl) rfl dX10_back_42 (fun gm_7 egm_7 H locs hP hD hS => ?_)
    replace hP : va_P D vwCl (wX10 T hgm gm_7 gml) H := hP
    replace hD : va_D A (wX10 T hgm gm_7 gml) := hD
    replace hf := zLt_at egm_7 hf
    refine lv_aload_n hx hb dX10_back_45 rfl (lv_at hl 0 rfl) ?_
    refine lv_aload_n hx hb dX10_back_46 rfl (lv_at hl 0 rfl) ?_
    refine zGet (ci := 10) (C := RX10) (F := TX10) (N := 54) (v := .ref (hgm 26)) hx hb hts hiX10 hown hK hP 0 53 2 rfl rfl (by decide) rfl rfl rfl dX10_back_47 ?_
    refine lv_iconst (v := 3) hx hb dX10_back_50 (by decide) ?_
    obtain ⟨hg, hf⟩ := zGd_ok hf
    refine zAldI hx hb hK hP 26 rfl hg dX10_back_51 (fun v8 ev8 => ?_)
    replace hf := zLt_at ev8 hf
    refine zPut (ci := 10) (C := RX10) (F := TX10) (N := 54) (x := v8) (w := gm_7) hx hb hts hiX10 tyX10 tyX10_ok nmX10 hown hK hP hD hS (fun g => wX10 T hgm g gml) 0 7 6 rfl rfl (by decide) rfl rfl rfl ⟨rfl, rfl⟩ (Nat.le_of_ble_eq_true rfl) rfl dX10_back_52 (fun gm_9 egm_9 H locs hP hD hS => ?_)
    replace hP : va_P D vwCl (wX10 T hgm gm_9 gml) H := hP
    replace hD : va_D A (wX10 T hgm gm_9 gml) := hD
    replace hf := zLt_at egm_9 hf
    refine lv_aload_n hx hb dX10_back_55 rfl (lv_at hl 0 rfl) ?_
    refine zGet (ci := 10) (C := RX10) (F := TX10) (N := 54) (v := .int (gm_9 0 2)) hx hb hts hiX10 hown hK hP 0 2 4 rfl rfl (by decide) rfl rfl rfl dX10_back_56 ?_
    obtain ⟨q1, q2⟩ := zI2 hf
    subst q1
    subst q2
    exact zRetI hQ hx hb hr hlocks hA0 hK hP hD hS rfl dX10_back_59
  · replace hf := zIf_t hc hf
    refine lv_bipush (v := (-3)) hx hb dX10_back_7 (by decide) ?_
    obtain ⟨q1, q2⟩ := zI2 hf
    subst q1
    subst q2
    exact zRetI hQ hx hb hr hlocks hA0 hK hP hD hS rfl dX10_back_9
