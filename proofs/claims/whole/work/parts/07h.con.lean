-- X10_nextParting X10_beginPartings X10_isSmall X10_isWithin X10_small X10_sit X10_findDays X10_earlyOf X10_early X10_could X10_seed X10_run X10_tells X10_guards X10_tieOfTwo X10_areOpen X10_prove X10_isRow X10_row X10_alterRow X10_judge X10_chair
set_option maxHeartbeats 4000000 in
set_option maxRecDepth 100000 in
theorem pX10_nextParting (l : Launch) (D : va_G) (T : Nat → ClassId) (X : zFP) (hgm : Nat → Nat) (sz : Nat) (gm : zM) (gml : zL) (r : Int32) (ngm : zM) (hf : fX10_nextParting gm gml = some (r, ngm)) : Met l yX10_nextParting wsX10_nextParting rX10_nextParting (zPre D T X [.ref (hgm 0)] (wX10 T hgm gm gml) sz) (zQi D T r (wX10 T hgm ngm gml) (wX10 T hgm gm gml) sz) 0 0 (va_A (wX10 T hgm gm gml) sz) := by
  unfold fX10_nextParting at hf
  refine zStart [(0, .ref (hgm 0))] (by decide) rfl (Nat.le_of_ble_eq_true rfl) rfl ?_
  intro p e s m args below meth c A Q ls hx hb hr hml hown hlocks hts hsz hA0 hQ hA hK hX hP hD hS hl
  replace hown : s.vm.findClass RX10 = some m.cls := hown
  have hH := hsz
  have hiX10 : ∀ w ∈ u_ws RX10 TX10 54, w ∈ wsX10_nextParting := fun w h => List.mem_cons_of_mem _ (List.mem_append_right _ (h))
  obtain ⟨H, hHe⟩ : ∃ H : Heap, H = s.heap := ⟨_, rfl⟩
  obtain ⟨locs, hLe⟩ : ∃ L : List Loc, L = [] := ⟨_, rfl⟩
  replace hP : va_P D vwCl (wX10 T hgm gm gml) H := by rw [hHe]; exact hP
  replace hS : va_S A s.heap H locs := by rw [hHe, hLe]; exact hS
  suffices hgo : W p l e rX10_nextParting s m args below meth c H locs 0 0 Q (F0 m 0 ls []) by rw [hHe, hLe] at hgo; exact hgo
  clear hHe hLe
  refine lv_aload_n hx hb dX10_nextParting_0 rfl (lv_at hl 0 rfl) ?_
  refine zGet (ci := 10) (C := RX10) (F := TX10) (N := 54) (v := .int (gm 0 0)) hx hb hts hiX10 hown hK hP 0 0 1 rfl rfl (by decide) rfl rfl rfl dX10_nextParting_1 ?_
  refine lv_iconst (v := 1) hx hb dX10_nextParting_4 (by decide) ?_
  refine lv_isub hx hb dX10_nextParting_5 ?_
  refine lv_topi (fun v1 ev1 => ?_)
  replace hf := zLt_at ev1 hf
  refine lv_istore_n (lv' := [(1, .int v1), (0, .ref (hgm 0))]) hx hb dX10_nextParting_6 rfl hl (by decide) rfl (fun ls hl => ?_)
  obtain ⟨ex, hlp, hf⟩ := zB1_ok hf
  have hE7_100 : ex = (.inl ()) → ∀ (H : Heap) (locs : List Loc) (ls : Array Slot), va_P D vwCl (wX10 T hgm gm gml) H → va_D A (wX10 T hgm gm gml) → va_S A s.heap H locs → lv_has ls 4 [] → W p l e rX10_nextParting s m args below meth c H locs 0 0 Q (F0 m 100 ls []) := by
    intro hex H locs ls hP hD hS hl
    have hf := zExL0 hex hf
    refine lv_iconst (v := 0) hx hb dX10_nextParting_100 (by decide) ?_
    obtain ⟨q1, q2⟩ := zI2 hf
    subst q1
    subst q2
    exact zRetZ hQ hx hb hr hlocks hA0 hK hP hD hS (by decide) rfl dX10_nextParting_101
  have hE7_57 : ∀ (v3 : Int32) , ex = (.inr v3) → ∀ (H : Heap) (locs : List Loc) (ls : Array Slot), va_P D vwCl (wX10 T hgm gm gml) H → va_D A (wX10 T hgm gm gml) → va_S A s.heap H locs → lv_has ls 4 [(0, .ref (hgm 0)), (1, .int v3)] → W p l e rX10_nextParting s m args below meth c H locs 0 0 Q (F0 m 57 ls []) := by
    intro v3 hex H locs ls hP hD hS hl
    have hf := zSmR hex hf
    have hf := zEx1 rfl hf
    refine lv_aload_n hx hb dX10_nextParting_57 rfl (lv_at hl 0 rfl) ?_
    refine zGet (ci := 10) (C := RX10) (F := TX10) (N := 54) (v := .ref (hgm 11)) hx hb hts hiX10 hown hK hP 0 30 2 rfl rfl (by decide) rfl rfl rfl dX10_nextParting_58 ?_
    refine lv_iload_n hx hb dX10_nextParting_61 rfl (lv_at hl 1 rfl) ?_
    refine lv_dup2_11 hx hb dX10_nextParting_62 rfl rfl ?_
    obtain ⟨hg, hf⟩ := zGd_ok hf
    refine zAldI hx hb hK hP 11 rfl hg dX10_nextParting_63 (fun v13 ev13 => ?_)
    replace hf := zLt_at ev13 hf
    refine lv_iconst (v := 1) hx hb dX10_nextParting_64 (by decide) ?_
    refine lv_iadd hx hb dX10_nextParting_65 ?_
    refine lv_topi (fun v14 ev14 => ?_)
    replace hf := zLt_at ev14 hf
    obtain ⟨hg, hf⟩ := zGd_ok hf
    refine zAstI (w := gm) hx hb hK hP hD hS (fun g => wX10 T hgm g gml) 11 11 rfl hg rfl dX10_nextParting_66 (fun gm_15 egm_15 H locs hP hD hS => ?_)
    replace hP : va_P D vwCl (wX10 T hgm gm_15 gml) H := hP
    replace hD : va_D A (wX10 T hgm gm_15 gml) := hD
    replace hf := zLt_at egm_15 hf
    refine lv_iload_n hx hb dX10_nextParting_67 rfl (lv_at hl 1 rfl) ?_
    refine lv_iconst (v := 1) hx hb dX10_nextParting_68 (by decide) ?_
    refine lv_iadd hx hb dX10_nextParting_69 ?_
    refine lv_topi (fun v16 ev16 => ?_)
    replace hf := zLt_at ev16 hf
    refine lv_istore_n (lv' := [(3, .int v16), (0, .ref (hgm 0)), (1, .int v3)]) hx hb dX10_nextParting_70 rfl hl (by decide) rfl (fun ls hl => ?_)
    obtain ⟨ex, hlp, hf⟩ := zB1_ok hf
    have hE71_92 : ∀ (gm_19 : zM) , ex = gm_19 → ∀ (H : Heap) (locs : List Loc) (ls : Array Slot), va_P D vwCl (wX10 T hgm gm_19 gml) H → va_D A (wX10 T hgm gm_19 gml) → va_S A s.heap H locs → lv_has ls 4 [] → W p l e rX10_nextParting s m args below meth c H locs 0 0 Q (F0 m 92 ls []) := by
      intro gm_19 hex H locs ls hP hD hS hl
      have hf := zEx1 hex hf
      refine lv_iconst (v := 1) hx hb dX10_nextParting_92 (by decide) ?_
      obtain ⟨q1, q2⟩ := zI2 hf
      subst q1
      subst q2
      exact zRetZ hQ hx hb hr hlocks hA0 hK hP hD hS (by decide) rfl dX10_nextParting_93
    refine zLpS2 (body := fX10_nextParting_L71) (b := ex) (fun (v17 : Int32) (gm_18 : zM) => ∀ (H : Heap) (locs : List Loc) (ls : Array Slot), va_P D vwCl (wX10 T hgm gm_18 gml) H → va_D A (wX10 T hgm gm_18 gml) → va_S A s.heap H locs → lv_has ls 4 [(0, .ref (hgm 0)), (3, .int v17)] → W p l e rX10_nextParting s m args below meth c H locs 0 0 Q (F0 m 71 ls [])) ?_ zFU v16 gm_15 hlp H locs ls hP hD hS (lv_sub hl [1, 0] rfl)
    intro v17 gm_18 z hf hzz H locs ls hP hD hS hl
    unfold fX10_nextParting_L71 at hf
    replace hf := zUk2 hf
    refine lv_iload_n hx hb dX10_nextParting_71 rfl (lv_at hl 1 rfl) ?_
    refine lv_aload_n hx hb dX10_nextParting_72 rfl (lv_at hl 0 rfl) ?_
    refine zGet (ci := 10) (C := RX10) (F := TX10) (N := 54) (v := .int (gm_18 0 0)) hx hb hts hiX10 hown hK hP 0 0 1 rfl rfl (by decide) rfl rfl rfl dX10_nextParting_73 ?_
    refine lv_icmp_ge (tgt := 92) hx hb dX10_nextParting_76 (by decide) (fun hc => ?_) (fun hc => ?_)
    · replace hf := zIf_t hc hf
      cases hf
      exact hE71_92 gm_18 hzz.symm H locs ls hP hD hS (lv_sub hl [] rfl)
    · replace hf := zIf_f hc hf
      refine lv_aload_n hx hb dX10_nextParting_79 rfl (lv_at hl 0 rfl) ?_
      refine zGet (ci := 10) (C := RX10) (F := TX10) (N := 54) (v := .ref (hgm 11)) hx hb hts hiX10 hown hK hP 0 30 2 rfl rfl (by decide) rfl rfl rfl dX10_nextParting_80 ?_
      refine lv_iload_n hx hb dX10_nextParting_83 rfl (lv_at hl 1 rfl) ?_
      refine lv_iconst (v := 0) hx hb dX10_nextParting_84 (by decide) ?_
      obtain ⟨hg, hf⟩ := zGd_ok hf
      refine zAstI (w := gm_18) hx hb hK hP hD hS (fun g => wX10 T hgm g gml) 11 11 rfl hg rfl dX10_nextParting_85 (fun gm_20 egm_20 H locs hP hD hS => ?_)
      replace hP : va_P D vwCl (wX10 T hgm gm_20 gml) H := hP
      replace hD : va_D A (wX10 T hgm gm_20 gml) := hD
      replace hf := zLt_at egm_20 hf
      obtain ⟨v21, ev21⟩ : ∃ y : Int32, y = v17 + 1 := ⟨_, rfl⟩
      replace hf := zLt_at ev21 hf
      refine lv_iinc (v := v21) (lv' := [(3, .int v21), (0, .ref (hgm 0))]) hx hb dX10_nextParting_86 hl (k := 1) rfl (by rw [ev21]; rfl) (by decide) rfl (fun ls hl => ?_)
      refine lv_goto (tgt := 71) hx hb dX10_nextParting_89 (by decide) ?_
      cases hf
      exact hzz H locs ls hP hD hS (lv_sub hl [1, 0] rfl)
  refine zLpS1 (body := (fX10_nextParting_L7 gm)) (b := ex) (fun (v2 : Int32) => ∀ (H : Heap) (locs : List Loc) (ls : Array Slot), va_P D vwCl (wX10 T hgm gm gml) H → va_D A (wX10 T hgm gm gml) → va_S A s.heap H locs → lv_has ls 4 [(0, .ref (hgm 0)), (1, .int v2)] → W p l e rX10_nextParting s m args below meth c H locs 0 0 Q (F0 m 7 ls [])) ?_ zFU v1 hlp H locs ls hP hD hS (lv_sub hl [1, 0] rfl)
  intro v2 z hf hzz H locs ls hP hD hS hl
  unfold fX10_nextParting_L7 at hf
  replace hf := zUk1 hf
  refine lv_iload_n hx hb dX10_nextParting_7 rfl (lv_at hl 1 rfl) ?_
  refine lv_if_le (tgt := 100) hx hb dX10_nextParting_8 (by decide) (fun hc => ?_) (fun hc => ?_)
  · replace hf := zIf_t hc hf
    cases hf
    exact hE7_100 hzz.symm H locs ls hP hD hS (lv_sub hl [] rfl)
  · replace hf := zIf_f hc hf
    refine lv_iconst (v := 0) hx hb dX10_nextParting_11 (by decide) ?_
    refine lv_istore_n (lv' := [(2, .int 0), (0, .ref (hgm 0)), (1, .int v2)]) hx hb dX10_nextParting_12 rfl hl (by decide) rfl (fun ls hl => ?_)
    refine lv_iconst (v := 0) hx hb dX10_nextParting_13 (by decide) ?_
    refine lv_istore_n (lv' := [(3, .int 0), (2, .int 0), (0, .ref (hgm 0)), (1, .int v2)]) hx hb dX10_nextParting_14 rfl hl (by decide) rfl (fun ls hl => ?_)
    obtain ⟨ex, hlp, hf⟩ := zB1_ok hf
    have hE15_47 : ∀ (v6 : Int32) , ex = v6 → ∀ (H : Heap) (locs : List Loc) (ls : Array Slot), va_P D vwCl (wX10 T hgm gm gml) H → va_D A (wX10 T hgm gm gml) → va_S A s.heap H locs → lv_has ls 4 [(0, .ref (hgm 0)), (1, .int v2), (2, .int v6)] → W p l e rX10_nextParting s m args below meth c H locs 0 0 Q (F0 m 47 ls []) := by
      intro v6 hex H locs ls hP hD hS hl
      have hf := zEx1 hex hf
      refine lv_aload_n hx hb dX10_nextParting_47 rfl (lv_at hl 0 rfl) ?_
      refine zGet (ci := 10) (C := RX10) (F := TX10) (N := 54) (v := .ref (hgm 11)) hx hb hts hiX10 hown hK hP 0 30 2 rfl rfl (by decide) rfl rfl rfl dX10_nextParting_48 ?_
      refine lv_iload_n hx hb dX10_nextParting_51 rfl (lv_at hl 1 rfl) ?_
      obtain ⟨hg, hf⟩ := zGd_ok hf
      refine zAldI hx hb hK hP 11 rfl hg dX10_nextParting_52 (fun v11 ev11 => ?_)
      replace hf := zLt_at ev11 hf
      refine lv_iload_n hx hb dX10_nextParting_53 rfl (lv_at hl 2 rfl) ?_
      refine lv_icmp_gt (tgt := 94) hx hb dX10_nextParting_54 (by decide) (fun hc => ?_) (fun hc => ?_)
      · replace hf := zIf_t hc hf
        obtain ⟨v12, ev12⟩ : ∃ y : Int32, y = v2 + (-1) := ⟨_, rfl⟩
        replace hf := zLt_at ev12 hf
        refine lv_iinc (v := v12) (lv' := [(1, .int v12), (0, .ref (hgm 0)), (2, .int v6)]) hx hb dX10_nextParting_94 hl (k := 1) rfl (by rw [ev12]; rfl) (by decide) rfl (fun ls hl => ?_)
        refine lv_goto (tgt := 7) hx hb dX10_nextParting_97 (by decide) ?_
        cases hf
        exact hzz H locs ls hP hD hS (lv_sub hl [1, 0] rfl)
      · replace hf := zIf_f hc hf
        cases hf
        exact hE7_57 v2 hzz.symm H locs ls hP hD hS (lv_sub hl [0, 1] rfl)
    refine zLpS2 (body := (fX10_nextParting_L15 gm v2)) (b := ex) (fun (v4 : Int32) (v5 : Int32) => ∀ (H : Heap) (locs : List Loc) (ls : Array Slot), va_P D vwCl (wX10 T hgm gm gml) H → va_D A (wX10 T hgm gm gml) → va_S A s.heap H locs → lv_has ls 4 [(0, .ref (hgm 0)), (1, .int v2), (2, .int v4), (3, .int v5)] → W p l e rX10_nextParting s m args below meth c H locs 0 0 Q (F0 m 15 ls [])) ?_ zFU 0 0 hlp H locs ls hP hD hS (lv_sub hl [2, 3, 1, 0] rfl)
    intro v4 v5 z hf hzz H locs ls hP hD hS hl
    unfold fX10_nextParting_L15 at hf
    replace hf := zUk2 hf
    refine lv_iload_n hx hb dX10_nextParting_15 rfl (lv_at hl 3 rfl) ?_
    refine lv_iload_n hx hb dX10_nextParting_16 rfl (lv_at hl 1 rfl) ?_
    refine lv_icmp_ge (tgt := 47) hx hb dX10_nextParting_17 (by decide) (fun hc => ?_) (fun hc => ?_)
    · replace hf := zIf_t hc hf
      cases hf
      exact hE15_47 v4 hzz.symm H locs ls hP hD hS (lv_sub hl [0, 1, 2] rfl)
    · replace hf := zIf_f hc hf
      refine lv_aload_n hx hb dX10_nextParting_20 rfl (lv_at hl 0 rfl) ?_
      refine zGet (ci := 10) (C := RX10) (F := TX10) (N := 54) (v := .ref (hgm 11)) hx hb hts hiX10 hown hK hP 0 30 2 rfl rfl (by decide) rfl rfl rfl dX10_nextParting_21 ?_
      refine lv_iload_n hx hb dX10_nextParting_24 rfl (lv_at hl 3 rfl) ?_
      obtain ⟨hg, hf⟩ := zGd_ok hf
      refine zAldI hx hb hK hP 11 rfl hg dX10_nextParting_25 (fun v7 ev7 => ?_)
      replace hf := zLt_at ev7 hf
      refine lv_iload_n hx hb dX10_nextParting_26 rfl (lv_at hl 2 rfl) ?_
      have hJ40 : ∀ (v8 : Int32) (H : Heap) (locs : List Loc) (ls : Array Slot), fX10_nextParting_L15J40 v5 v8 = some z → va_P D vwCl (wX10 T hgm gm gml) H → va_D A (wX10 T hgm gm gml) → va_S A s.heap H locs → lv_has ls 4 [(0, .ref (hgm 0)), (1, .int v2), (3, .int v5)] → W p l e rX10_nextParting s m args below meth c H locs 0 0 Q (F0 m 40 ls [.int v8]) := by
        intro v8 H locs ls hf hP hD hS hl
        unfold fX10_nextParting_L15J40 at hf
        refine lv_istore_n (lv' := [(2, .int v8), (0, .ref (hgm 0)), (1, .int v2), (3, .int v5)]) hx hb dX10_nextParting_40 rfl hl (by decide) rfl (fun ls hl => ?_)
        obtain ⟨v9, ev9⟩ : ∃ y : Int32, y = v5 + 1 := ⟨_, rfl⟩
        replace hf := zLt_at ev9 hf
        refine lv_iinc (v := v9) (lv' := [(3, .int v9), (2, .int v8), (0, .ref (hgm 0)), (1, .int v2)]) hx hb dX10_nextParting_41 hl (k := 3) rfl (by rw [ev9]; rfl) (by decide) rfl (fun ls hl => ?_)
        refine lv_goto (tgt := 15) hx hb dX10_nextParting_44 (by decide) ?_
        cases hf
        exact hzz H locs ls hP hD hS (lv_sub hl [2, 3, 1, 0] rfl)
      refine lv_icmp_le (tgt := 39) hx hb dX10_nextParting_27 (by decide) (fun hc => ?_) (fun hc => ?_)
      · replace hf := zIf_t hc hf
        refine lv_iload_n hx hb dX10_nextParting_39 rfl (lv_at hl 2 rfl) ?_
        exact hJ40 v4 H locs ls hf hP hD hS (lv_sub hl [0, 1, 3] rfl)
      · replace hf := zIf_f hc hf
        refine lv_aload_n hx hb dX10_nextParting_30 rfl (lv_at hl 0 rfl) ?_
        refine zGet (ci := 10) (C := RX10) (F := TX10) (N := 54) (v := .ref (hgm 11)) hx hb hts hiX10 hown hK hP 0 30 2 rfl rfl (by decide) rfl rfl rfl dX10_nextParting_31 ?_
        refine lv_iload_n hx hb dX10_nextParting_34 rfl (lv_at hl 3 rfl) ?_
        obtain ⟨hg, hf⟩ := zGd_ok hf
        refine zAldI hx hb hK hP 11 rfl hg dX10_nextParting_35 (fun v10 ev10 => ?_)
        replace hf := zLt_at ev10 hf
        refine lv_goto (tgt := 40) hx hb dX10_nextParting_36 (by decide) ?_
        exact hJ40 v10 H locs ls hf hP hD hS (lv_sub hl [0, 1, 3] rfl)
set_option maxHeartbeats 4000000 in
set_option maxRecDepth 100000 in
theorem pX10_beginPartings (l : Launch) (D : va_G) (T : Nat → ClassId) (X : zFP) (hgm : Nat → Nat) (sz : Nat) (gm : zM) (gml : zL) (ngm : zM) (hf : fX10_beginPartings gm gml = some ngm) : Met l yX10_beginPartings wsX10_beginPartings rX10_beginPartings (zPre D T X [.ref (hgm 0)] (wX10 T hgm gm gml) sz) (zQv D T (wX10 T hgm ngm gml) (wX10 T hgm gm gml) sz) 0 0 (va_A (wX10 T hgm gm gml) sz) := by
  unfold fX10_beginPartings at hf
  refine zStart [(0, .ref (hgm 0))] (by decide) rfl (Nat.le_of_ble_eq_true rfl) rfl ?_
  intro p e s m args below meth c A Q ls hx hb hr hml hown hlocks hts hsz hA0 hQ hA hK hX hP hD hS hl
  replace hown : s.vm.findClass RX10 = some m.cls := hown
  have hH := hsz
  have hiX10 : ∀ w ∈ u_ws RX10 TX10 54, w ∈ wsX10_beginPartings := fun w h => List.mem_cons_of_mem _ (List.mem_append_right _ (h))
  obtain ⟨H, hHe⟩ : ∃ H : Heap, H = s.heap := ⟨_, rfl⟩
  obtain ⟨locs, hLe⟩ : ∃ L : List Loc, L = [] := ⟨_, rfl⟩
  replace hP : va_P D vwCl (wX10 T hgm gm gml) H := by rw [hHe]; exact hP
  replace hS : va_S A s.heap H locs := by rw [hHe, hLe]; exact hS
  suffices hgo : W p l e rX10_beginPartings s m args below meth c H locs 0 0 Q (F0 m 0 ls []) by rw [hHe, hLe] at hgo; exact hgo
  clear hHe hLe
  refine lv_iconst (v := 0) hx hb dX10_beginPartings_0 (by decide) ?_
  refine lv_istore_n (lv' := [(1, .int 0), (0, .ref (hgm 0))]) hx hb dX10_beginPartings_1 rfl hl (by decide) rfl (fun ls hl => ?_)
  obtain ⟨ex, hlp, hf⟩ := zB1_ok hf
  have hE2_21 : ∀ (gm_3 : zM) , ex = gm_3 → ∀ (H : Heap) (locs : List Loc) (ls : Array Slot), va_P D vwCl (wX10 T hgm gm_3 gml) H → va_D A (wX10 T hgm gm_3 gml) → va_S A s.heap H locs → lv_has ls 2 [] → W p l e rX10_beginPartings s m args below meth c H locs 0 0 Q (F0 m 21 ls []) := by
    intro gm_3 hex H locs ls hP hD hS hl
    have hf := zEx1 hex hf
    obtain ⟨q1, -⟩ := zI1 hf
    subst q1
    exact zRetV hQ hx hb hr hlocks hA0 hK hP hD hS dX10_beginPartings_21
  refine zLpS2 (body := fX10_beginPartings_L2) (b := ex) (fun (v1 : Int32) (gm_2 : zM) => ∀ (H : Heap) (locs : List Loc) (ls : Array Slot), va_P D vwCl (wX10 T hgm gm_2 gml) H → va_D A (wX10 T hgm gm_2 gml) → va_S A s.heap H locs → lv_has ls 2 [(0, .ref (hgm 0)), (1, .int v1)] → W p l e rX10_beginPartings s m args below meth c H locs 0 0 Q (F0 m 2 ls [])) ?_ zFU 0 gm hlp H locs ls hP hD hS (lv_sub hl [1, 0] rfl)
  intro v1 gm_2 z hf hzz H locs ls hP hD hS hl
  unfold fX10_beginPartings_L2 at hf
  replace hf := zUk2 hf
  refine lv_iload_n hx hb dX10_beginPartings_2 rfl (lv_at hl 1 rfl) ?_
  refine lv_bipush (v := 10) hx hb dX10_beginPartings_3 (by decide) ?_
  refine lv_icmp_ge (tgt := 21) hx hb dX10_beginPartings_5 (by decide) (fun hc => ?_) (fun hc => ?_)
  · replace hf := zIf_t hc hf
    cases hf
    exact hE2_21 gm_2 hzz.symm H locs ls hP hD hS (lv_sub hl [] rfl)
  · replace hf := zIf_f hc hf
    refine lv_aload_n hx hb dX10_beginPartings_8 rfl (lv_at hl 0 rfl) ?_
    refine zGet (ci := 10) (C := RX10) (F := TX10) (N := 54) (v := .ref (hgm 11)) hx hb hts hiX10 hown hK hP 0 30 1 rfl rfl (by decide) rfl rfl rfl dX10_beginPartings_9 ?_
    refine lv_iload_n hx hb dX10_beginPartings_12 rfl (lv_at hl 1 rfl) ?_
    refine lv_iconst (v := 0) hx hb dX10_beginPartings_13 (by decide) ?_
    obtain ⟨hg, hf⟩ := zGd_ok hf
    refine zAstI (w := gm_2) hx hb hK hP hD hS (fun g => wX10 T hgm g gml) 11 11 rfl hg rfl dX10_beginPartings_14 (fun gm_4 egm_4 H locs hP hD hS => ?_)
    replace hP : va_P D vwCl (wX10 T hgm gm_4 gml) H := hP
    replace hD : va_D A (wX10 T hgm gm_4 gml) := hD
    replace hf := zLt_at egm_4 hf
    obtain ⟨v5, ev5⟩ : ∃ y : Int32, y = v1 + 1 := ⟨_, rfl⟩
    replace hf := zLt_at ev5 hf
    refine lv_iinc (v := v5) (lv' := [(1, .int v5), (0, .ref (hgm 0))]) hx hb dX10_beginPartings_15 hl (k := 1) rfl (by rw [ev5]; rfl) (by decide) rfl (fun ls hl => ?_)
    refine lv_goto (tgt := 2) hx hb dX10_beginPartings_18 (by decide) ?_
    cases hf
    exact hzz H locs ls hP hD hS (lv_sub hl [1, 0] rfl)
set_option maxHeartbeats 4000000 in
set_option maxRecDepth 100000 in
theorem pX10_isSmall (l : Launch) (D : va_G) (T : Nat → ClassId) (X : zFP) (hgm : Nat → Nat) (sz : Nat) (gm : zM) (gml : zL) (a1 : Int32) (r : Int32) (ngm : zM) (hf : fX10_isSmall gm gml a1 = some (r, ngm)) : Met l yX10_isSmall wsX10_isSmall rX10_isSmall (zPre D T X [.ref (hgm 0), .int a1] (wX10 T hgm gm gml) sz) (zQi D T r (wX10 T hgm ngm gml) (wX10 T hgm gm gml) sz) 0 0 (va_A (wX10 T hgm gm gml) sz) := by
  unfold fX10_isSmall at hf
  refine zStart [(0, .ref (hgm 0)), (1, .int a1)] (by decide) rfl (Nat.le_of_ble_eq_true rfl) rfl ?_
  intro p e s m args below meth c A Q ls hx hb hr hml hown hlocks hts hsz hA0 hQ hA hK hX hP hD hS hl
  replace hown : s.vm.findClass RX10 = some m.cls := hown
  have hH := hsz
  have hiX10 : ∀ w ∈ u_ws RX10 TX10 54, w ∈ wsX10_isSmall := fun w h => List.mem_cons_of_mem _ (List.mem_append_right _ (h))
  obtain ⟨H, hHe⟩ : ∃ H : Heap, H = s.heap := ⟨_, rfl⟩
  obtain ⟨locs, hLe⟩ : ∃ L : List Loc, L = [] := ⟨_, rfl⟩
  replace hP : va_P D vwCl (wX10 T hgm gm gml) H := by rw [hHe]; exact hP
  replace hS : va_S A s.heap H locs := by rw [hHe, hLe]; exact hS
  suffices hgo : W p l e rX10_isSmall s m args below meth c H locs 0 0 Q (F0 m 0 ls []) by rw [hHe, hLe] at hgo; exact hgo
  clear hHe hLe
  refine lv_iconst (v := 0) hx hb dX10_isSmall_0 (by decide) ?_
  refine lv_istore_n (lv' := [(2, .int 0), (0, .ref (hgm 0)), (1, .int a1)]) hx hb dX10_isSmall_1 rfl hl (by decide) rfl (fun ls hl => ?_)
  obtain ⟨ex, hlp, hf⟩ := zB1_ok hf
  have hE2_23 : ∀ (gm_3 : zM) , ex = gm_3 → ∀ (H : Heap) (locs : List Loc) (ls : Array Slot), va_P D vwCl (wX10 T hgm gm_3 gml) H → va_D A (wX10 T hgm gm_3 gml) → va_S A s.heap H locs → lv_has ls 3 [(0, .ref (hgm 0)), (1, .int a1)] → W p l e rX10_isSmall s m args below meth c H locs 0 0 Q (F0 m 23 ls []) := by
    intro gm_3 hex H locs ls hP hD hS hl
    have hf := zEx1 hex hf
    refine lv_iconst (v := 0) hx hb dX10_isSmall_23 (by decide) ?_
    refine lv_istore_n (lv' := [(2, .int 0), (0, .ref (hgm 0)), (1, .int a1)]) hx hb dX10_isSmall_24 rfl hl (by decide) rfl (fun ls hl => ?_)
    obtain ⟨ex, hlp, hf⟩ := zB1_ok hf
    have hE25_71 : ∀ (gm_8 : zM) , ex = (.inl gm_8) → ∀ (H : Heap) (locs : List Loc) (ls : Array Slot), va_P D vwCl (wX10 T hgm gm_8 gml) H → va_D A (wX10 T hgm gm_8 gml) → va_S A s.heap H locs → lv_has ls 3 [] → W p l e rX10_isSmall s m args below meth c H locs 0 0 Q (F0 m 71 ls []) := by
      intro gm_8 hex H locs ls hP hD hS hl
      have hf := zExL1 hex hf
      refine lv_iconst (v := 1) hx hb dX10_isSmall_71 (by decide) ?_
      obtain ⟨q1, q2⟩ := zI2 hf
      subst q1
      subst q2
      exact zRetZ hQ hx hb hr hlocks hA0 hK hP hD hS (by decide) rfl dX10_isSmall_72
    have hE25_63 : ∀ (gm_9 : zM) , ex = (.inr gm_9) → ∀ (H : Heap) (locs : List Loc) (ls : Array Slot), va_P D vwCl (wX10 T hgm gm_9 gml) H → va_D A (wX10 T hgm gm_9 gml) → va_S A s.heap H locs → lv_has ls 3 [] → W p l e rX10_isSmall s m args below meth c H locs 0 0 Q (F0 m 63 ls []) := by
      intro gm_9 hex H locs ls hP hD hS hl
      have hf := zSmR hex hf
      have hf := zEx1 rfl hf
      refine lv_iconst (v := 0) hx hb dX10_isSmall_63 (by decide) ?_
      obtain ⟨q1, q2⟩ := zI2 hf
      subst q1
      subst q2
      exact zRetZ hQ hx hb hr hlocks hA0 hK hP hD hS (by decide) rfl dX10_isSmall_64
    refine zLpS2 (body := (fX10_isSmall_L25 a1)) (b := ex) (fun (v6 : Int32) (gm_7 : zM) => ∀ (H : Heap) (locs : List Loc) (ls : Array Slot), va_P D vwCl (wX10 T hgm gm_7 gml) H → va_D A (wX10 T hgm gm_7 gml) → va_S A s.heap H locs → lv_has ls 3 [(0, .ref (hgm 0)), (1, .int a1), (2, .int v6)] → W p l e rX10_isSmall s m args below meth c H locs 0 0 Q (F0 m 25 ls [])) ?_ zFU 0 gm_3 hlp H locs ls hP hD hS (lv_sub hl [1, 2, 0] rfl)
    intro v6 gm_7 z hf hzz H locs ls hP hD hS hl
    unfold fX10_isSmall_L25 at hf
    replace hf := zUk2 hf
    refine lv_iload_n hx hb dX10_isSmall_25 rfl (lv_at hl 2 rfl) ?_
    refine lv_aload_n hx hb dX10_isSmall_26 rfl (lv_at hl 0 rfl) ?_
    refine zGet (ci := 10) (C := RX10) (F := TX10) (N := 54) (v := .int (gm_7 0 0)) hx hb hts hiX10 hown hK hP 0 0 1 rfl rfl (by decide) rfl rfl rfl dX10_isSmall_27 ?_
    refine lv_icmp_ge (tgt := 71) hx hb dX10_isSmall_30 (by decide) (fun hc => ?_) (fun hc => ?_)
    · replace hf := zIf_t hc hf
      cases hf
      exact hE25_71 gm_7 hzz.symm H locs ls hP hD hS (lv_sub hl [] rfl)
    · replace hf := zIf_f hc hf
      refine lv_aload_n hx hb dX10_isSmall_33 rfl (lv_at hl 0 rfl) ?_
      refine zGet (ci := 10) (C := RX10) (F := TX10) (N := 54) (v := .ref (hgm 12)) hx hb hts hiX10 hown hK hP 0 31 2 rfl rfl (by decide) rfl rfl rfl dX10_isSmall_34 ?_
      refine lv_aload_n hx hb dX10_isSmall_37 rfl (lv_at hl 0 rfl) ?_
      refine zGet (ci := 10) (C := RX10) (F := TX10) (N := 54) (v := .ref (hgm 11)) hx hb hts hiX10 hown hK hP 0 30 3 rfl rfl (by decide) rfl rfl rfl dX10_isSmall_38 ?_
      refine lv_iload_n hx hb dX10_isSmall_41 rfl (lv_at hl 2 rfl) ?_
      obtain ⟨hg, hf⟩ := zGd_ok hf
      refine zAldI hx hb hK hP 11 rfl hg dX10_isSmall_42 (fun v10 ev10 => ?_)
      replace hf := zLt_at ev10 hf
      refine lv_dup2_11 hx hb dX10_isSmall_43 rfl rfl ?_
      obtain ⟨hg, hf⟩ := zGd_ok hf
      refine zAldI hx hb hK hP 12 rfl hg dX10_isSmall_44 (fun v11 ev11 => ?_)
      replace hf := zLt_at ev11 hf
      refine lv_iconst (v := 1) hx hb dX10_isSmall_45 (by decide) ?_
      refine lv_iadd hx hb dX10_isSmall_46 ?_
      refine lv_topi (fun v12 ev12 => ?_)
      replace hf := zLt_at ev12 hf
      obtain ⟨hg, hf⟩ := zGd_ok hf
      refine zAstI (w := gm_7) hx hb hK hP hD hS (fun g => wX10 T hgm g gml) 12 12 rfl hg rfl dX10_isSmall_47 (fun gm_13 egm_13 H locs hP hD hS => ?_)
      replace hP : va_P D vwCl (wX10 T hgm gm_13 gml) H := hP
      replace hD : va_D A (wX10 T hgm gm_13 gml) := hD
      replace hf := zLt_at egm_13 hf
      refine lv_aload_n hx hb dX10_isSmall_48 rfl (lv_at hl 0 rfl) ?_
      refine zGet (ci := 10) (C := RX10) (F := TX10) (N := 54) (v := .ref (hgm 12)) hx hb hts hiX10 hown hK hP 0 31 2 rfl rfl (by decide) rfl rfl rfl dX10_isSmall_49 ?_
      refine lv_aload_n hx hb dX10_isSmall_52 rfl (lv_at hl 0 rfl) ?_
      refine zGet (ci := 10) (C := RX10) (F := TX10) (N := 54) (v := .ref (hgm 11)) hx hb hts hiX10 hown hK hP 0 30 3 rfl rfl (by decide) rfl rfl rfl dX10_isSmall_53 ?_
      refine lv_iload_n hx hb dX10_isSmall_56 rfl (lv_at hl 2 rfl) ?_
      obtain ⟨hg, hf⟩ := zGd_ok hf
      refine zAldI hx hb hK hP 11 rfl hg dX10_isSmall_57 (fun v14 ev14 => ?_)
      replace hf := zLt_at ev14 hf
      obtain ⟨hg, hf⟩ := zGd_ok hf
      refine zAldI hx hb hK hP 12 rfl hg dX10_isSmall_58 (fun v15 ev15 => ?_)
      replace hf := zLt_at ev15 hf
      refine lv_iload_n hx hb dX10_isSmall_59 rfl (lv_at hl 1 rfl) ?_
      refine lv_icmp_le (tgt := 65) hx hb dX10_isSmall_60 (by decide) (fun hc => ?_) (fun hc => ?_)
      · replace hf := zIf_t hc hf
        obtain ⟨v16, ev16⟩ : ∃ y : Int32, y = v6 + 1 := ⟨_, rfl⟩
        replace hf := zLt_at ev16 hf
        refine lv_iinc (v := v16) (lv' := [(2, .int v16), (0, .ref (hgm 0)), (1, .int a1)]) hx hb dX10_isSmall_65 hl (k := 2) rfl (by rw [ev16]; rfl) (by decide) rfl (fun ls hl => ?_)
        refine lv_goto (tgt := 25) hx hb dX10_isSmall_68 (by decide) ?_
        cases hf
        exact hzz H locs ls hP hD hS (lv_sub hl [1, 2, 0] rfl)
      · replace hf := zIf_f hc hf
        cases hf
        exact hE25_63 gm_13 hzz.symm H locs ls hP hD hS (lv_sub hl [] rfl)
  refine zLpS2 (body := fX10_isSmall_L2) (b := ex) (fun (v1 : Int32) (gm_2 : zM) => ∀ (H : Heap) (locs : List Loc) (ls : Array Slot), va_P D vwCl (wX10 T hgm gm_2 gml) H → va_D A (wX10 T hgm gm_2 gml) → va_S A s.heap H locs → lv_has ls 3 [(0, .ref (hgm 0)), (1, .int a1), (2, .int v1)] → W p l e rX10_isSmall s m args below meth c H locs 0 0 Q (F0 m 2 ls [])) ?_ zFU 0 gm hlp H locs ls hP hD hS (lv_sub hl [1, 2, 0] rfl)
  intro v1 gm_2 z hf hzz H locs ls hP hD hS hl
  unfold fX10_isSmall_L2 at hf
  replace hf := zUk2 hf
  refine lv_iload_n hx hb dX10_isSmall_2 rfl (lv_at hl 2 rfl) ?_
  refine lv_aload_n hx hb dX10_isSmall_3 rfl (lv_at hl 0 rfl) ?_
  refine zGet (ci := 10) (C := RX10) (F := TX10) (N := 54) (v := .int (gm_2 0 0)) hx hb hts hiX10 hown hK hP 0 0 1 rfl rfl (by decide) rfl rfl rfl dX10_isSmall_4 ?_
  refine lv_icmp_ge (tgt := 23) hx hb dX10_isSmall_7 (by decide) (fun hc => ?_) (fun hc => ?_)
  · replace hf := zIf_t hc hf
    cases hf
    exact hE2_23 gm_2 hzz.symm H locs ls hP hD hS (lv_sub hl [0, 1] rfl)
  · replace hf := zIf_f hc hf
    refine lv_aload_n hx hb dX10_isSmall_10 rfl (lv_at hl 0 rfl) ?_
    refine zGet (ci := 10) (C := RX10) (F := TX10) (N := 54) (v := .ref (hgm 12)) hx hb hts hiX10 hown hK hP 0 31 2 rfl rfl (by decide) rfl rfl rfl dX10_isSmall_11 ?_
    refine lv_iload_n hx hb dX10_isSmall_14 rfl (lv_at hl 2 rfl) ?_
    refine lv_iconst (v := 0) hx hb dX10_isSmall_15 (by decide) ?_
    obtain ⟨hg, hf⟩ := zGd_ok hf
    refine zAstI (w := gm_2) hx hb hK hP hD hS (fun g => wX10 T hgm g gml) 12 12 rfl hg rfl dX10_isSmall_16 (fun gm_4 egm_4 H locs hP hD hS => ?_)
    replace hP : va_P D vwCl (wX10 T hgm gm_4 gml) H := hP
    replace hD : va_D A (wX10 T hgm gm_4 gml) := hD
    replace hf := zLt_at egm_4 hf
    obtain ⟨v5, ev5⟩ : ∃ y : Int32, y = v1 + 1 := ⟨_, rfl⟩
    replace hf := zLt_at ev5 hf
    refine lv_iinc (v := v5) (lv' := [(2, .int v5), (0, .ref (hgm 0)), (1, .int a1)]) hx hb dX10_isSmall_17 hl (k := 2) rfl (by rw [ev5]; rfl) (by decide) rfl (fun ls hl => ?_)
    refine lv_goto (tgt := 2) hx hb dX10_isSmall_20 (by decide) ?_
    cases hf
    exact hzz H locs ls hP hD hS (lv_sub hl [1, 2, 0] rfl)
set_option maxHeartbeats 4000000 in
set_option maxRecDepth 100000 in
theorem pX10_isWithin (l : Launch) (D : va_G) (T : Nat → ClassId) (X : zFP) (hgm : Nat → Nat) (sz : Nat) (gm : zM) (gml : zL) (a1 : Int32) (r : Int32) (hf : fX10_isWithin gm gml a1 = some r) : Met l yX10_isWithin wsX10_isWithin rX10_isWithin (zPre D T X [.ref (hgm 0), .int a1] (wX10 T hgm gm gml) sz) (zQi D T r (wX10 T hgm gm gml) (wX10 T hgm gm gml) sz) 0 0 (va_A (wX10 T hgm gm gml) sz) := by
  unfold fX10_isWithin at hf
  refine zStart [(0, .ref (hgm 0)), (1, .int a1)] (by decide) rfl (Nat.le_of_ble_eq_true rfl) rfl ?_
  intro p e s m args below meth c A Q ls hx hb hr hml hown hlocks hts hsz hA0 hQ hA hK hX hP hD hS hl
  replace hown : s.vm.findClass RX10 = some m.cls := hown
  have hH := hsz
  have hiX10 : ∀ w ∈ u_ws RX10 TX10 54, w ∈ wsX10_isWithin := fun w h => List.mem_cons_of_mem _ (List.mem_append_right _ (h))
  obtain ⟨H, hHe⟩ : ∃ H : Heap, H = s.heap := ⟨_, rfl⟩
  obtain ⟨locs, hLe⟩ : ∃ L : List Loc, L = [] := ⟨_, rfl⟩
  replace hP : va_P D vwCl (wX10 T hgm gm gml) H := by rw [hHe]; exact hP
  replace hS : va_S A s.heap H locs := by rw [hHe, hLe]; exact hS
  suffices hgo : W p l e rX10_isWithin s m args below meth c H locs 0 0 Q (F0 m 0 ls []) by rw [hHe, hLe] at hgo; exact hgo
  clear hHe hLe
  refine lv_aload_n hx hb dX10_isWithin_0 rfl (lv_at hl 0 rfl) ?_
  refine zGet (ci := 10) (C := RX10) (F := TX10) (N := 54) (v := .ref (hgm 11)) hx hb hts hiX10 hown hK hP 0 30 1 rfl rfl (by decide) rfl rfl rfl dX10_isWithin_1 ?_
  refine lv_aload_n hx hb dX10_isWithin_4 rfl (lv_at hl 0 rfl) ?_
  refine lv_iload_n hx hb dX10_isWithin_5 rfl (lv_at hl 1 rfl) ?_
  refine lv_iconst (v := 0) hx hb dX10_isWithin_6 (by decide) ?_
  obtain ⟨v1, hc7, hf⟩ := zB1_ok hf
  refine zCallVEI [.int a1, .int 0] ⟨hx, hb, hml, hown, hts⟩ (pX10_its l D T X hgm H.size gm gml a1 0 v1 hc7) (cwV 2 hts gX10_isWithin_X10_its rfl rfl rfl (by decide +kernel) ⟨Nat.le_of_ble_eq_true rfl, Nat.le_of_ble_eq_true rfl⟩) hK hP hD hS hA hX 0 rfl rfl rfl hl.1 rfl (Nat.le_of_ble_eq_true rfl) dX10_isWithin_7 ⟨Nat.zero_le _, Nat.zero_le _⟩ (fun H locs hP hD hS => ?_)
  obtain ⟨hg, hf⟩ := zGd_ok hf
  refine zAldI hx hb hK hP 11 rfl hg dX10_isWithin_10 (fun v2 ev2 => ?_)
  replace hf := zLt_at ev2 hf
  refine lv_aload_n hx hb dX10_isWithin_11 rfl (lv_at hl 0 rfl) ?_
  refine zGet (ci := 10) (C := RX10) (F := TX10) (N := 54) (v := .ref (hgm 11)) hx hb hts hiX10 hown hK hP 0 30 1 rfl rfl (by decide) rfl rfl rfl dX10_isWithin_12 ?_
  refine lv_aload_n hx hb dX10_isWithin_15 rfl (lv_at hl 0 rfl) ?_
  refine lv_iload_n hx hb dX10_isWithin_16 rfl (lv_at hl 1 rfl) ?_
  refine lv_iconst (v := 1) hx hb dX10_isWithin_17 (by decide) ?_
  obtain ⟨v3, hc18, hf⟩ := zB1_ok hf
  refine zCallVEI [.int a1, .int 1] ⟨hx, hb, hml, hown, hts⟩ (pX10_its l D T X hgm H.size gm gml a1 1 v3 hc18) (cwV 2 hts gX10_isWithin_X10_its rfl rfl rfl (by decide +kernel) ⟨Nat.le_of_ble_eq_true rfl, Nat.le_of_ble_eq_true rfl⟩) hK hP hD hS hA hX 0 rfl rfl rfl hl.1 rfl (Nat.le_of_ble_eq_true rfl) dX10_isWithin_18 ⟨Nat.zero_le _, Nat.zero_le _⟩ (fun H locs hP hD hS => ?_)
  obtain ⟨hg, hf⟩ := zGd_ok hf
  refine zAldI hx hb hK hP 11 rfl hg dX10_isWithin_21 (fun v4 ev4 => ?_)
  replace hf := zLt_at ev4 hf
  refine lv_icmp_ne (tgt := 29) hx hb dX10_isWithin_22 (by decide) (fun hc => ?_) (fun hc => ?_)
  · replace hf := zIf_f hc hf
    refine lv_iconst (v := 0) hx hb dX10_isWithin_29 (by decide) ?_
    obtain ⟨q1, -⟩ := zI1 hf
    subst q1
    exact zRetZ hQ hx hb hr hlocks hA0 hK hP hD hS (by decide) rfl dX10_isWithin_30
  · replace hf := zIf_t hc hf
    refine lv_iconst (v := 1) hx hb dX10_isWithin_25 (by decide) ?_
    refine lv_goto (tgt := 30) hx hb dX10_isWithin_26 (by decide) ?_
    obtain ⟨q1, -⟩ := zI1 hf
    subst q1
    exact zRetZ hQ hx hb hr hlocks hA0 hK hP hD hS (by decide) rfl dX10_isWithin_30
set_option maxHeartbeats 4000000 in
set_option maxRecDepth 100000 in
theorem pX10_small (l : Launch) (D : va_G) (T : Nat → ClassId) (X : zFP) (hgm : Nat → Nat) (sz : Nat) (gm : zM) (gml : zL) (a1 : Int32) (a2 : Int32) (r : Int32) (ngm : zM) (hf : fX10_small gm gml a1 a2 = some (r, ngm)) : Met l yX10_small wsX10_small rX10_small (zPre D T X [.ref (hgm 0), .int a1, .int a2] (wX10 T hgm gm gml) sz) (zQi D T r (wX10 T hgm ngm gml) (wX10 T hgm gm gml) sz) 0 0 (va_A (wX10 T hgm gm gml) sz) := by
  unfold fX10_small at hf
  refine zStart [(0, .ref (hgm 0)), (1, .int a1), (2, .int a2)] (by decide) rfl (Nat.le_of_ble_eq_true rfl) rfl ?_
  intro p e s m args below meth c A Q ls hx hb hr hml hown hlocks hts hsz hA0 hQ hA hK hX hP hD hS hl
  replace hown : s.vm.findClass RX10 = some m.cls := hown
  have hH := hsz
  have hiX10 : ∀ w ∈ u_ws RX10 TX10 54, w ∈ wsX10_small := fun w h => List.mem_cons_of_mem _ (List.mem_append_right _ (h))
  obtain ⟨H, hHe⟩ : ∃ H : Heap, H = s.heap := ⟨_, rfl⟩
  obtain ⟨locs, hLe⟩ : ∃ L : List Loc, L = [] := ⟨_, rfl⟩
  replace hP : va_P D vwCl (wX10 T hgm gm gml) H := by rw [hHe]; exact hP
  replace hS : va_S A s.heap H locs := by rw [hHe, hLe]; exact hS
  suffices hgo : W p l e rX10_small s m args below meth c H locs 0 0 Q (F0 m 0 ls []) by rw [hHe, hLe] at hgo; exact hgo
  clear hHe hLe
  refine lv_iload_n hx hb dX10_small_0 rfl (lv_at hl 1 rfl) ?_
  refine lv_iconst (v := 1) hx hb dX10_small_1 (by decide) ?_
  refine lv_bipush (v := 10) hx hb dX10_small_2 (by decide) ?_
  obtain ⟨v1, hc4, hf⟩ := zB1_ok hf
  refine zCallS0I [.int a1, .int 1, .int 10] ⟨hx, hb, hml, hown, hts⟩ (pX10_in l D T X H.size a1 1 10 v1 hc4) (va_cwS 3 hts gX10_small_X10_in rfl rfl rfl (by decide +kernel) ⟨Nat.le_of_ble_eq_true rfl, Nat.le_of_ble_eq_true rfl⟩) hK hP hD hS hA hX rfl hl.1 rfl (Nat.le_of_ble_eq_true rfl) dX10_small_4 ⟨Nat.zero_le _, Nat.zero_le _⟩ (fun H locs hP hD hS => ?_)
  refine lv_if_eq (tgt := 17) hx hb dX10_small_7 (by decide) (fun hc => ?_) (fun hc => ?_)
  · replace hf := zIf_t hc hf
    refine lv_iconst (v := (-1)) hx hb dX10_small_17 (by decide) ?_
    obtain ⟨q1, q2⟩ := zI2 hf
    subst q1
    subst q2
    exact zRetI hQ hx hb hr hlocks hA0 hK hP hD hS rfl dX10_small_18
  · replace hf := zIf_f hc hf
    refine lv_iload_n hx hb dX10_small_10 rfl (lv_at hl 2 rfl) ?_
    obtain ⟨v2, hc11, hf⟩ := zB1_ok hf
    refine zCallS0I [.int a2] ⟨hx, hb, hml, hown, hts⟩ (pX10_isSide l D T X H.size a2 v2 hc11) (va_cwS 1 hts gX10_small_X10_isSide rfl rfl rfl (by decide +kernel) ⟨Nat.le_of_ble_eq_true rfl, Nat.le_of_ble_eq_true rfl⟩) hK hP hD hS hA hX rfl hl.1 rfl (Nat.le_of_ble_eq_true rfl) dX10_small_11 ⟨Nat.zero_le _, Nat.zero_le _⟩ (fun H locs hP hD hS => ?_)
    refine lv_if_ne (tgt := 19) hx hb dX10_small_14 (by decide) (fun hc => ?_) (fun hc => ?_)
    · replace hf := zIf_f hc hf
      refine lv_aload_n hx hb dX10_small_19 rfl (lv_at hl 0 rfl) ?_
      refine zGet (ci := 10) (C := RX10) (F := TX10) (N := 54) (v := .int (gm 0 0)) hx hb hts hiX10 hown hK hP 0 0 1 rfl rfl (by decide) rfl rfl rfl dX10_small_20 ?_
      refine lv_bipush (v := 7) hx hb dX10_small_23 (by decide) ?_
      refine lv_icmp_le (tgt := 31) hx hb dX10_small_25 (by decide) (fun hc => ?_) (fun hc => ?_)
      · replace hf := zIf_t hc hf
        refine lv_aload_n hx hb dX10_small_31 rfl (lv_at hl 0 rfl) ?_
        refine lv_iconst (v := 0) hx hb dX10_small_32 (by decide) ?_
        obtain ⟨v3, hc33, hf⟩ := zB1_ok hf
        refine zCallVEI [.int 0] ⟨hx, hb, hml, hown, hts⟩ (pX10_openOn l D T X hgm H.size gm gml 0 v3 hc33) (cwV 1 hts gX10_small_X10_openOn rfl rfl rfl (by decide +kernel) ⟨Nat.le_of_ble_eq_true rfl, Nat.le_of_ble_eq_true rfl⟩) hK hP hD hS hA hX 0 rfl rfl rfl hl.1 rfl (Nat.le_of_ble_eq_true rfl) dX10_small_33 ⟨Nat.zero_le _, Nat.zero_le _⟩ (fun H locs hP hD hS => ?_)
        refine lv_istore_n (lv' := [(3, .int v3), (0, .ref (hgm 0)), (1, .int a1), (2, .int a2)]) hx hb dX10_small_36 rfl hl (by decide) rfl (fun ls hl => ?_)
        refine lv_bipush (v := (-3)) hx hb dX10_small_37 (by decide) ?_
        refine lv_istore (lv' := [(4, .int (-3)), (3, .int v3), (0, .ref (hgm 0)), (1, .int a1), (2, .int a2)]) hx hb dX10_small_39 hl (by decide) rfl (fun ls hl => ?_)
        refine lv_iconst (v := 0) hx hb dX10_small_41 (by decide) ?_
        refine lv_istore (lv' := [(5, .int 0), (4, .int (-3)), (3, .int v3), (0, .ref (hgm 0)), (1, .int a1), (2, .int a2)]) hx hb dX10_small_42 hl (by decide) rfl (fun ls hl => ?_)
        refine lv_aload_n hx hb dX10_small_44 rfl (lv_at hl 3 rfl) ?_
        obtain ⟨gm_4, hc45, hf⟩ := zB1_ok hf
        refine zCallVEV [] ⟨hx, hb, hml, hown, hts⟩ (pX10_beginPartings l D T X hgm H.size gm gml gm_4 hc45) (cwV 0 hts gX10_small_X10_beginPartings rfl rfl rfl (by decide +kernel) ⟨Nat.le_of_ble_eq_true rfl, Nat.le_of_ble_eq_true rfl⟩) hK hP hD hS hA hX 0 rfl rfl rfl hl.1 rfl (Nat.le_of_ble_eq_true rfl) dX10_small_45 ⟨Nat.zero_le _, Nat.zero_le _⟩ (fun H locs hP hD hS => ?_)
        refine lv_iconst (v := 1) hx hb dX10_small_48 (by decide) ?_
        refine lv_istore (lv' := [(6, .int 1), (5, .int 0), (4, .int (-3)), (3, .int v3), (0, .ref (hgm 0)), (1, .int a1), (2, .int a2)]) hx hb dX10_small_49 hl (by decide) rfl (fun ls hl => ?_)
        obtain ⟨ex, hlp, hf⟩ := zB1_ok hf
        have hE51_183 : ∀ (v9 : Int32) (v10 : Int32) (gm_11 : zM) , ex = (v9, v10, gm_11) → ∀ (H : Heap) (locs : List Loc) (ls : Array Slot), va_P D vwCl (wX10 T hgm gm_11 gml) H → va_D A (wX10 T hgm gm_11 gml) → va_S A s.heap H locs → lv_has ls 8 [(2, .int a2), (4, .int v9), (5, .int v10)] → W p l e rX10_small s m args below meth c H locs 0 0 Q (F0 m 183 ls []) := by
          intro v9 v10 gm_11 hex H locs ls hP hD hS hl
          have hf := zEx3 hex hf
          refine lv_iload hx hb dX10_small_183 (lv_at hl 1 rfl) ?_
          refine lv_if_ge (tgt := 193) hx hb dX10_small_185 (by decide) (fun hc => ?_) (fun hc => ?_)
          · replace hf := zIf_t hc hf
            refine lv_iload_n hx hb dX10_small_193 rfl (lv_at hl 0 rfl) ?_
            refine lv_if_ne (tgt := 202) hx hb dX10_small_194 (by decide) (fun hc => ?_) (fun hc => ?_)
            · replace hf := zIf_f hc hf
              refine lv_iload hx hb dX10_small_202 (lv_at hl 2 rfl) ?_
              obtain ⟨q1, q2⟩ := zI2 hf
              subst q1
              subst q2
              exact zRetI hQ hx hb hr hlocks hA0 hK hP hD hS rfl dX10_small_204
            · replace hf := zIf_t hc hf
              refine lv_iload hx hb dX10_small_197 (lv_at hl 1 rfl) ?_
              refine lv_goto (tgt := 204) hx hb dX10_small_199 (by decide) ?_
              obtain ⟨q1, q2⟩ := zI2 hf
              subst q1
              subst q2
              exact zRetI hQ hx hb hr hlocks hA0 hK hP hD hS rfl dX10_small_204
          · replace hf := zIf_f hc hf
            refine lv_bipush (v := (-3)) hx hb dX10_small_188 (by decide) ?_
            refine lv_goto (tgt := 204) hx hb dX10_small_190 (by decide) ?_
            obtain ⟨q1, q2⟩ := zI2 hf
            subst q1
            subst q2
            exact zRetI hQ hx hb hr hlocks hA0 hK hP hD hS rfl dX10_small_204
        refine zLpS4 (body := (fX10_small_L51 a1 gml v3)) (b := ex) (fun (v5 : Int32) (v6 : Int32) (v7 : Int32) (gm_8 : zM) => ∀ (H : Heap) (locs : List Loc) (ls : Array Slot), va_P D vwCl (wX10 T hgm gm_8 gml) H → va_D A (wX10 T hgm gm_8 gml) → va_S A s.heap H locs → lv_has ls 8 [(0, .ref (hgm 0)), (1, .int a1), (2, .int a2), (3, .int v3), (4, .int v5), (5, .int v6), (6, .int v7)] → W p l e rX10_small s m args below meth c H locs 0 0 Q (F0 m 51 ls [])) ?_ zFU (-3) 0 1 gm_4 hlp H locs ls hP hD hS (lv_sub hl [4, 5, 6, 3, 2, 1, 0] rfl)
        intro v5 v6 v7 gm_8 z hf hzz H locs ls hP hD hS hl
        unfold fX10_small_L51 at hf
        replace hf := zUk4 hf
        refine lv_iload hx hb dX10_small_51 (lv_at hl 6 rfl) ?_
        refine lv_if_eq (tgt := 183) hx hb dX10_small_53 (by decide) (fun hc => ?_) (fun hc => ?_)
        · replace hf := zIf_t hc hf
          cases hf
          exact hE51_183 v5 v6 gm_8 hzz.symm H locs ls hP hD hS (lv_sub hl [2, 4, 5] rfl)
        · replace hf := zIf_f hc hf
          refine lv_aload_n hx hb dX10_small_56 rfl (lv_at hl 0 rfl) ?_
          obtain ⟨gm_12, hc57, hf⟩ := zB1_ok hf
          refine zCallVEV [] ⟨hx, hb, hml, hown, hts⟩ (pX10_beginCut l D T X hgm H.size gm_8 gml gm_12 hc57) (cwV 0 hts gX10_small_X10_beginCut rfl rfl rfl (by decide +kernel) ⟨Nat.le_of_ble_eq_true rfl, Nat.le_of_ble_eq_true rfl⟩) hK hP hD hS hA hX 0 rfl rfl rfl hl.1 rfl (Nat.le_of_ble_eq_true rfl) dX10_small_57 ⟨Nat.zero_le _, Nat.zero_le _⟩ (fun H locs hP hD hS => ?_)
          refine lv_iconst (v := 0) hx hb dX10_small_60 (by decide) ?_
          refine lv_istore (lv' := [(7, .int 0), (0, .ref (hgm 0)), (1, .int a1), (2, .int a2), (3, .int v3), (4, .int v5), (5, .int v6), (6, .int v7)]) hx hb dX10_small_61 hl (by decide) rfl (fun ls hl => ?_)
          obtain ⟨ex, hlp, hf⟩ := zB1_ok hf
          have hE63_103 : ∀ (gm_15 : zM) , ex = gm_15 → ∀ (H : Heap) (locs : List Loc) (ls : Array Slot), va_P D vwCl (wX10 T hgm gm_15 gml) H → va_D A (wX10 T hgm gm_15 gml) → va_S A s.heap H locs → lv_has ls 8 [(0, .ref (hgm 0)), (1, .int a1), (2, .int a2), (3, .int v3), (4, .int v5), (5, .int v6)] → W p l e rX10_small s m args below meth c H locs 0 0 Q (F0 m 103 ls []) := by
            intro gm_15 hex H locs ls hP hD hS hl
            have hf := zEx1 hex hf
            refine lv_iload hx hb dX10_small_103 (lv_at hl 4 rfl) ?_
            have hJ140 : ∀ (v20 : Int32) (H : Heap) (locs : List Loc) (ls : Array Slot), fX10_small_L51J140 a1 gml v5 v6 gm_15 v20 = some z → va_P D vwCl (wX10 T hgm gm_15 gml) H → va_D A (wX10 T hgm gm_15 gml) → va_S A s.heap H locs → lv_has ls 8 [(0, .ref (hgm 0)), (1, .int a1), (2, .int a2), (3, .int v3), (4, .int v5), (5, .int v6)] → W p l e rX10_small s m args below meth c H locs 0 0 Q (F0 m 140 ls [.int v20]) := by
              intro v20 H locs ls hf hP hD hS hl
              unfold fX10_small_L51J140 at hf
              refine lv_istore (lv' := [(7, .int v20), (0, .ref (hgm 0)), (1, .int a1), (2, .int a2), (3, .int v3), (4, .int v5), (5, .int v6)]) hx hb dX10_small_140 hl (by decide) rfl (fun ls hl => ?_)
              refine lv_iload hx hb dX10_small_142 (lv_at hl 0 rfl) ?_
              have hJ174 : ∀ (v21 : Int32) (v22 : Int32) (gm_23 : zM) (H : Heap) (locs : List Loc) (ls : Array Slot), fX10_small_L51J174 gml v21 v22 gm_23 = some z → va_P D vwCl (wX10 T hgm gm_23 gml) H → va_D A (wX10 T hgm gm_23 gml) → va_S A s.heap H locs → lv_has ls 8 [(0, .ref (hgm 0)), (1, .int a1), (2, .int a2), (3, .int v3), (4, .int v21), (5, .int v22)] → W p l e rX10_small s m args below meth c H locs 0 0 Q (F0 m 174 ls []) := by
                intro v21 v22 gm_23 H locs ls hf hP hD hS hl
                unfold fX10_small_L51J174 at hf
                refine lv_aload_n hx hb dX10_small_174 rfl (lv_at hl 0 rfl) ?_
                obtain ⟨v24, gm_25, hc175, hf⟩ := zB2_ok hf
                refine zCallVEI [] ⟨hx, hb, hml, hown, hts⟩ (pX10_nextParting l D T X hgm H.size gm_23 gml v24 gm_25 hc175) (cwV 0 hts gX10_small_X10_nextParting rfl rfl rfl (by decide +kernel) ⟨Nat.le_of_ble_eq_true rfl, Nat.le_of_ble_eq_true rfl⟩) hK hP hD hS hA hX 0 rfl rfl rfl hl.1 rfl (Nat.le_of_ble_eq_true rfl) dX10_small_175 ⟨Nat.zero_le _, Nat.zero_le _⟩ (fun H locs hP hD hS => ?_)
                refine lv_istore (lv' := [(6, .int v24), (0, .ref (hgm 0)), (1, .int a1), (2, .int a2), (3, .int v3), (4, .int v21), (5, .int v22)]) hx hb dX10_small_178 hl (by decide) rfl (fun ls hl => ?_)
                refine lv_goto (tgt := 51) hx hb dX10_small_180 (by decide) ?_
                cases hf
                exact hzz H locs ls hP hD hS (lv_sub hl [1, 2, 3, 4, 5, 6, 0] rfl)
              refine lv_if_eq (tgt := 174) hx hb dX10_small_144 (by decide) (fun hc => ?_) (fun hc => ?_)
              · replace hf := zIf_t hc hf
                exact hJ174 v5 v6 gm_15 H locs ls hf hP hD hS (lv_sub hl [1, 2, 3, 4, 5, 6] rfl)
              · replace hf := zIf_f hc hf
                refine lv_aload_n hx hb dX10_small_147 rfl (lv_at hl 1 rfl) ?_
                refine zGet (ci := 10) (C := RX10) (F := TX10) (N := 54) (v := .int (gm_15 0 29)) hx hb hts hiX10 hown hK hP 0 29 5 rfl rfl (by decide) rfl rfl rfl dX10_small_148 ?_
                refine lv_if_ne (tgt := 174) hx hb dX10_small_151 (by decide) (fun hc => ?_) (fun hc => ?_)
                · replace hf := zIf_f hc hf
                  exact hJ174 v5 v6 gm_15 H locs ls hf hP hD hS (lv_sub hl [1, 2, 3, 4, 5, 6] rfl)
                · replace hf := zIf_t hc hf
                  refine lv_aload_n hx hb dX10_small_154 rfl (lv_at hl 1 rfl) ?_
                  refine lv_iload_n hx hb dX10_small_155 rfl (lv_at hl 2 rfl) ?_
                  obtain ⟨v26, gm_27, hc156, hf⟩ := zB2_ok hf
                  refine zCallVEI [.int a1] ⟨hx, hb, hml, hown, hts⟩ (pX10_isSmall l D T X hgm H.size gm_15 gml a1 v26 gm_27 hc156) (cwV 1 hts gX10_small_X10_isSmall rfl rfl rfl (by decide +kernel) ⟨Nat.le_of_ble_eq_true rfl, Nat.le_of_ble_eq_true rfl⟩) hK hP hD hS hA hX 0 rfl rfl rfl hl.1 rfl (Nat.le_of_ble_eq_true rfl) dX10_small_156 ⟨Nat.zero_le _, Nat.zero_le _⟩ (fun H locs hP hD hS => ?_)
                  refine lv_if_eq (tgt := 174) hx hb dX10_small_159 (by decide) (fun hc => ?_) (fun hc => ?_)
                  · replace hf := zIf_t hc hf
                    exact hJ174 v5 v6 gm_27 H locs ls hf hP hD hS (lv_sub hl [1, 2, 3, 4, 5, 6] rfl)
                  · replace hf := zIf_f hc hf
                    refine lv_aload_n hx hb dX10_small_162 rfl (lv_at hl 1 rfl) ?_
                    refine zGet (ci := 10) (C := RX10) (F := TX10) (N := 54) (v := .int (gm_27 0 27)) hx hb hts hiX10 hown hK hP 0 27 3 rfl rfl (by decide) rfl rfl rfl dX10_small_163 ?_
                    refine lv_topi (fun v28 ev28 => ?_)
                    replace hf := zLt_at ev28 hf
                    refine lv_istore (lv' := [(4, .int v28), (7, .int v20), (0, .ref (hgm 0)), (1, .int a1), (2, .int a2), (3, .int v3), (5, .int v6)]) hx hb dX10_small_166 hl (by decide) rfl (fun ls hl => ?_)
                    refine lv_aload_n hx hb dX10_small_168 rfl (lv_at hl 2 rfl) ?_
                    refine zGet (ci := 10) (C := RX10) (F := TX10) (N := 54) (v := .int (gm_27 0 28)) hx hb hts hiX10 hown hK hP 0 28 4 rfl rfl (by decide) rfl rfl rfl dX10_small_169 ?_
                    refine lv_topi (fun v29 ev29 => ?_)
                    replace hf := zLt_at ev29 hf
                    refine lv_istore (lv' := [(5, .int v29), (4, .int v28), (7, .int v20), (0, .ref (hgm 0)), (1, .int a1), (2, .int a2), (3, .int v3)]) hx hb dX10_small_172 hl (by decide) rfl (fun ls hl => ?_)
                    exact hJ174 v28 v29 gm_27 H locs ls hf hP hD hS (lv_sub hl [3, 4, 5, 6, 1, 0] rfl)
            have hJ135 : ∀ (H : Heap) (locs : List Loc) (ls : Array Slot), fX10_small_L51J135 a1 gml v5 v6 gm_15 = some z → va_P D vwCl (wX10 T hgm gm_15 gml) H → va_D A (wX10 T hgm gm_15 gml) → va_S A s.heap H locs → lv_has ls 8 [(0, .ref (hgm 0)), (1, .int a1), (2, .int a2), (3, .int v3), (4, .int v5), (5, .int v6)] → W p l e rX10_small s m args below meth c H locs 0 0 Q (F0 m 135 ls []) := by
              intro H locs ls hf hP hD hS hl
              unfold fX10_small_L51J135 at hf
              refine lv_iconst (v := 1) hx hb dX10_small_135 (by decide) ?_
              refine lv_goto (tgt := 140) hx hb dX10_small_136 (by decide) ?_
              exact hJ140 1 H locs ls hf hP hD hS hl
            refine lv_if_lt (tgt := 135) hx hb dX10_small_105 (by decide) (fun hc => ?_) (fun hc => ?_)
            · replace hf := zIf_t hc hf
              exact hJ135 H locs ls hf hP hD hS hl
            · replace hf := zIf_f hc hf
              refine lv_aload_n hx hb dX10_small_108 rfl (lv_at hl 0 rfl) ?_
              refine zGet (ci := 10) (C := RX10) (F := TX10) (N := 54) (v := .int (gm_15 0 27)) hx hb hts hiX10 hown hK hP 0 27 3 rfl rfl (by decide) rfl rfl rfl dX10_small_109 ?_
              refine lv_iload hx hb dX10_small_112 (lv_at hl 4 rfl) ?_
              refine lv_icmp_lt (tgt := 135) hx hb dX10_small_114 (by decide) (fun hc => ?_) (fun hc => ?_)
              · replace hf := zIf_t hc hf
                exact hJ135 H locs ls hf hP hD hS hl
              · replace hf := zIf_f hc hf
                refine lv_aload_n hx hb dX10_small_117 rfl (lv_at hl 0 rfl) ?_
                refine zGet (ci := 10) (C := RX10) (F := TX10) (N := 54) (v := .int (gm_15 0 27)) hx hb hts hiX10 hown hK hP 0 27 3 rfl rfl (by decide) rfl rfl rfl dX10_small_118 ?_
                refine lv_iload hx hb dX10_small_121 (lv_at hl 4 rfl) ?_
                have hJ139 : ∀ (H : Heap) (locs : List Loc) (ls : Array Slot), fX10_small_L51J139 a1 gml v5 v6 gm_15 = some z → va_P D vwCl (wX10 T hgm gm_15 gml) H → va_D A (wX10 T hgm gm_15 gml) → va_S A s.heap H locs → lv_has ls 8 [(0, .ref (hgm 0)), (1, .int a1), (2, .int a2), (3, .int v3), (4, .int v5), (5, .int v6)] → W p l e rX10_small s m args below meth c H locs 0 0 Q (F0 m 139 ls []) := by
                  intro H locs ls hf hP hD hS hl
                  unfold fX10_small_L51J139 at hf
                  refine lv_iconst (v := 0) hx hb dX10_small_139 (by decide) ?_
                  exact hJ140 0 H locs ls hf hP hD hS hl
                refine lv_icmp_ne (tgt := 139) hx hb dX10_small_123 (by decide) (fun hc => ?_) (fun hc => ?_)
                · replace hf := zIf_f hc hf
                  exact hJ139 H locs ls hf hP hD hS hl
                · replace hf := zIf_t hc hf
                  refine lv_aload_n hx hb dX10_small_126 rfl (lv_at hl 0 rfl) ?_
                  refine zGet (ci := 10) (C := RX10) (F := TX10) (N := 54) (v := .int (gm_15 0 28)) hx hb hts hiX10 hown hK hP 0 28 4 rfl rfl (by decide) rfl rfl rfl dX10_small_127 ?_
                  refine lv_iload hx hb dX10_small_130 (lv_at hl 5 rfl) ?_
                  refine lv_icmp_ge (tgt := 139) hx hb dX10_small_132 (by decide) (fun hc => ?_) (fun hc => ?_)
                  · replace hf := zIf_t hc hf
                    exact hJ139 H locs ls hf hP hD hS hl
                  · replace hf := zIf_f hc hf
                    exact hJ135 H locs ls hf hP hD hS hl
          refine zLpS2 (body := (fX10_small_L63 gml v3)) (b := ex) (fun (v13 : Int32) (gm_14 : zM) => ∀ (H : Heap) (locs : List Loc) (ls : Array Slot), va_P D vwCl (wX10 T hgm gm_14 gml) H → va_D A (wX10 T hgm gm_14 gml) → va_S A s.heap H locs → lv_has ls 8 [(0, .ref (hgm 0)), (1, .int a1), (2, .int a2), (3, .int v3), (4, .int v5), (5, .int v6), (7, .int v13)] → W p l e rX10_small s m args below meth c H locs 0 0 Q (F0 m 63 ls [])) ?_ zFU 0 gm_12 hlp H locs ls hP hD hS (lv_sub hl [1, 2, 3, 4, 5, 6, 0] rfl)
          intro v13 gm_14 z hf hzz H locs ls hP hD hS hl
          unfold fX10_small_L63 at hf
          replace hf := zUk2 hf
          refine lv_iload hx hb dX10_small_63 (lv_at hl 6 rfl) ?_
          refine lv_aload_n hx hb dX10_small_65 rfl (lv_at hl 0 rfl) ?_
          refine zGet (ci := 10) (C := RX10) (F := TX10) (N := 54) (v := .int (gm_14 0 2)) hx hb hts hiX10 hown hK hP 0 2 2 rfl rfl (by decide) rfl rfl rfl dX10_small_66 ?_
          refine lv_icmp_ge (tgt := 103) hx hb dX10_small_69 (by decide) (fun hc => ?_) (fun hc => ?_)
          · replace hf := zIf_t hc hf
            cases hf
            exact hE63_103 gm_14 hzz.symm H locs ls hP hD hS (lv_sub hl [0, 1, 2, 3, 4, 5] rfl)
          · replace hf := zIf_f hc hf
            refine lv_iload_n hx hb dX10_small_72 rfl (lv_at hl 3 rfl) ?_
            refine lv_iload hx hb dX10_small_73 (lv_at hl 6 rfl) ?_
            refine lv_ishr hx hb dX10_small_75 ?_
            refine lv_iconst (v := 1) hx hb dX10_small_76 (by decide) ?_
            refine lv_iand hx hb dX10_small_77 ?_
            refine lv_iconst (v := 1) hx hb dX10_small_78 (by decide) ?_
            have hJ97 : ∀ (gm_16 : zM) (H : Heap) (locs : List Loc) (ls : Array Slot), fX10_small_L63J97 v13 gm_16 = some z → va_P D vwCl (wX10 T hgm gm_16 gml) H → va_D A (wX10 T hgm gm_16 gml) → va_S A s.heap H locs → lv_has ls 8 [(0, .ref (hgm 0)), (1, .int a1), (2, .int a2), (3, .int v3), (4, .int v5), (5, .int v6), (7, .int v13)] → W p l e rX10_small s m args below meth c H locs 0 0 Q (F0 m 97 ls []) := by
              intro gm_16 H locs ls hf hP hD hS hl
              unfold fX10_small_L63J97 at hf
              obtain ⟨v17, ev17⟩ : ∃ y : Int32, y = v13 + 1 := ⟨_, rfl⟩
              replace hf := zLt_at ev17 hf
              refine lv_iinc (v := v17) (lv' := [(7, .int v17), (0, .ref (hgm 0)), (1, .int a1), (2, .int a2), (3, .int v3), (4, .int v5), (5, .int v6)]) hx hb dX10_small_97 hl (k := 6) rfl (by rw [ev17]; rfl) (by decide) rfl (fun ls hl => ?_)
              refine lv_goto (tgt := 63) hx hb dX10_small_100 (by decide) ?_
              cases hf
              exact hzz H locs ls hP hD hS (lv_sub hl [1, 2, 3, 4, 5, 6, 0] rfl)
            refine lv_icmp_ne (tgt := 97) hx hb dX10_small_79 (by decide) (fun hc => ?_) (fun hc => ?_)
            · replace hf := zIf_f hc hf
              exact hJ97 gm_14 H locs ls hf hP hD hS hl
            · replace hf := zIf_t hc hf
              refine lv_aload_n hx hb dX10_small_82 rfl (lv_at hl 0 rfl) ?_
              refine lv_iload hx hb dX10_small_83 (lv_at hl 6 rfl) ?_
              obtain ⟨v18, hc85, hf⟩ := zB1_ok hf
              refine zCallVEI [.int v13] ⟨hx, hb, hml, hown, hts⟩ (pX10_isWithin l D T X hgm H.size gm_14 gml v13 v18 hc85) (cwV 1 hts gX10_small_X10_isWithin rfl rfl rfl (by decide +kernel) ⟨Nat.le_of_ble_eq_true rfl, Nat.le_of_ble_eq_true rfl⟩) hK hP hD hS hA hX 0 rfl rfl rfl hl.1 rfl (Nat.le_of_ble_eq_true rfl) dX10_small_85 ⟨Nat.zero_le _, Nat.zero_le _⟩ (fun H locs hP hD hS => ?_)
              refine lv_if_ne (tgt := 97) hx hb dX10_small_88 (by decide) (fun hc => ?_) (fun hc => ?_)
              · replace hf := zIf_f hc hf
                exact hJ97 gm_14 H locs ls hf hP hD hS hl
              · replace hf := zIf_t hc hf
                refine lv_aload_n hx hb dX10_small_91 rfl (lv_at hl 0 rfl) ?_
                refine lv_iload hx hb dX10_small_92 (lv_at hl 6 rfl) ?_
                obtain ⟨gm_19, hc94, hf⟩ := zB1_ok hf
                refine zCallVEV [.int v13] ⟨hx, hb, hml, hown, hts⟩ (pX10_countCut l D T X hgm H.size gm_14 gml v13 gm_19 hc94) (cwV 1 hts gX10_small_X10_countCut rfl rfl rfl (by decide +kernel) ⟨Nat.le_of_ble_eq_true rfl, Nat.le_of_ble_eq_true rfl⟩) hK hP hD hS hA hX 0 rfl rfl rfl hl.1 rfl (Nat.le_of_ble_eq_true rfl) dX10_small_94 ⟨Nat.zero_le _, Nat.zero_le _⟩ (fun H locs hP hD hS => ?_)
                exact hJ97 gm_19 H locs ls hf hP hD hS hl
      · replace hf := zIf_f hc hf
        refine lv_bipush (v := (-4)) hx hb dX10_small_28 (by decide) ?_
        obtain ⟨q1, q2⟩ := zI2 hf
        subst q1
        subst q2
        exact zRetI hQ hx hb hr hlocks hA0 hK hP hD hS rfl dX10_small_30
    · replace hf := zIf_t hc hf
      refine lv_iconst (v := (-1)) hx hb dX10_small_17 (by decide) ?_
      obtain ⟨q1, q2⟩ := zI2 hf
      subst q1
      subst q2
      exact zRetI hQ hx hb hr hlocks hA0 hK hP hD hS rfl dX10_small_18
set_option maxHeartbeats 4000000 in
set_option maxRecDepth 100000 in
theorem pX10_sit (l : Launch) (D : va_G) (T : Nat → ClassId) (X : zFP) (hgm : Nat → Nat) (sz : Nat) (gm : zM) (gml : zL) (a1 : Int32) (a2 : Int32) (r : Int32) (ngm : zM) (hf : fX10_sit gm gml a1 a2 = some (r, ngm)) : Met l yX10_sit wsX10_sit rX10_sit (zPre D T X [.ref (hgm 0), .int a1, .int a2] (wX10 T hgm gm gml) sz) (zQi D T r (wX10 T hgm ngm gml) (wX10 T hgm gm gml) sz) 0 0 (va_A (wX10 T hgm gm gml) sz) := by
  unfold fX10_sit at hf
  refine zStart [(0, .ref (hgm 0)), (1, .int a1), (2, .int a2)] (by decide) rfl (Nat.le_of_ble_eq_true rfl) rfl ?_
  intro p e s m args below meth c A Q ls hx hb hr hml hown hlocks hts hsz hA0 hQ hA hK hX hP hD hS hl
  replace hown : s.vm.findClass RX10 = some m.cls := hown
  have hH := hsz
  have hiX10 : ∀ w ∈ u_ws RX10 TX10 54, w ∈ wsX10_sit := fun w h => List.mem_cons_of_mem _ (List.mem_append_right _ (h))
  obtain ⟨H, hHe⟩ : ∃ H : Heap, H = s.heap := ⟨_, rfl⟩
  obtain ⟨locs, hLe⟩ : ∃ L : List Loc, L = [] := ⟨_, rfl⟩
  replace hP : va_P D vwCl (wX10 T hgm gm gml) H := by rw [hHe]; exact hP
  replace hS : va_S A s.heap H locs := by rw [hHe, hLe]; exact hS
  suffices hgo : W p l e rX10_sit s m args below meth c H locs 0 0 Q (F0 m 0 ls []) by rw [hHe, hLe] at hgo; exact hgo
  clear hHe hLe
  refine lv_iload_n hx hb dX10_sit_0 rfl (lv_at hl 1 rfl) ?_
  refine lv_iconst (v := 1) hx hb dX10_sit_1 (by decide) ?_
  refine lv_bipush (v := 10) hx hb dX10_sit_2 (by decide) ?_
  obtain ⟨v1, hc4, hf⟩ := zB1_ok hf
  refine zCallS0I [.int a1, .int 1, .int 10] ⟨hx, hb, hml, hown, hts⟩ (pX10_in l D T X H.size a1 1 10 v1 hc4) (va_cwS 3 hts gX10_sit_X10_in rfl rfl rfl (by decide +kernel) ⟨Nat.le_of_ble_eq_true rfl, Nat.le_of_ble_eq_true rfl⟩) hK hP hD hS hA hX rfl hl.1 rfl (Nat.le_of_ble_eq_true rfl) dX10_sit_4 ⟨Nat.zero_le _, Nat.zero_le _⟩ (fun H locs hP hD hS => ?_)
  refine lv_if_eq (tgt := 17) hx hb dX10_sit_7 (by decide) (fun hc => ?_) (fun hc => ?_)
  · replace hf := zIf_t hc hf
    refine lv_iconst (v := (-1)) hx hb dX10_sit_17 (by decide) ?_
    obtain ⟨q1, q2⟩ := zI2 hf
    subst q1
    subst q2
    exact zRetI hQ hx hb hr hlocks hA0 hK hP hD hS rfl dX10_sit_18
  · replace hf := zIf_f hc hf
    refine lv_iload_n hx hb dX10_sit_10 rfl (lv_at hl 2 rfl) ?_
    obtain ⟨v2, hc11, hf⟩ := zB1_ok hf
    refine zCallS0I [.int a2] ⟨hx, hb, hml, hown, hts⟩ (pX10_isSide l D T X H.size a2 v2 hc11) (va_cwS 1 hts gX10_sit_X10_isSide rfl rfl rfl (by decide +kernel) ⟨Nat.le_of_ble_eq_true rfl, Nat.le_of_ble_eq_true rfl⟩) hK hP hD hS hA hX rfl hl.1 rfl (Nat.le_of_ble_eq_true rfl) dX10_sit_11 ⟨Nat.zero_le _, Nat.zero_le _⟩ (fun H locs hP hD hS => ?_)
    refine lv_if_ne (tgt := 19) hx hb dX10_sit_14 (by decide) (fun hc => ?_) (fun hc => ?_)
    · replace hf := zIf_f hc hf
      refine lv_aload_n hx hb dX10_sit_19 rfl (lv_at hl 0 rfl) ?_
      refine zGet (ci := 10) (C := RX10) (F := TX10) (N := 54) (v := .int (gm 0 0)) hx hb hts hiX10 hown hK hP 0 0 1 rfl rfl (by decide) rfl rfl rfl dX10_sit_20 ?_
      refine lv_bipush (v := 7) hx hb dX10_sit_23 (by decide) ?_
      refine lv_icmp_le (tgt := 31) hx hb dX10_sit_25 (by decide) (fun hc => ?_) (fun hc => ?_)
      · replace hf := zIf_t hc hf
        refine lv_iconst (v := (-1)) hx hb dX10_sit_31 (by decide) ?_
        refine lv_istore_n (lv' := [(3, .int (-1)), (0, .ref (hgm 0)), (1, .int a1), (2, .int a2)]) hx hb dX10_sit_32 rfl hl (by decide) rfl (fun ls hl => ?_)
        refine lv_iconst (v := 0) hx hb dX10_sit_33 (by decide) ?_
        refine lv_istore (lv' := [(4, .int 0), (3, .int (-1)), (0, .ref (hgm 0)), (1, .int a1), (2, .int a2)]) hx hb dX10_sit_34 hl (by decide) rfl (fun ls hl => ?_)
        refine lv_aload_n hx hb dX10_sit_36 rfl (lv_at hl 2 rfl) ?_
        obtain ⟨gm_3, hc37, hf⟩ := zB1_ok hf
        refine zCallVEV [] ⟨hx, hb, hml, hown, hts⟩ (pX10_beginPartings l D T X hgm H.size gm gml gm_3 hc37) (cwV 0 hts gX10_sit_X10_beginPartings rfl rfl rfl (by decide +kernel) ⟨Nat.le_of_ble_eq_true rfl, Nat.le_of_ble_eq_true rfl⟩) hK hP hD hS hA hX 0 rfl rfl rfl hl.1 rfl (Nat.le_of_ble_eq_true rfl) dX10_sit_37 ⟨Nat.zero_le _, Nat.zero_le _⟩ (fun H locs hP hD hS => ?_)
        refine lv_iconst (v := 1) hx hb dX10_sit_40 (by decide) ?_
        refine lv_istore (lv' := [(5, .int 1), (4, .int 0), (3, .int (-1)), (0, .ref (hgm 0)), (1, .int a1), (2, .int a2)]) hx hb dX10_sit_41 hl (by decide) rfl (fun ls hl => ?_)
        obtain ⟨ex, hlp, hf⟩ := zB1_ok hf
        have hE43_136 : ∀ (v8 : Int32) (v9 : Int32) (gm_10 : zM) , ex = (v8, v9, gm_10) → ∀ (H : Heap) (locs : List Loc) (ls : Array Slot), va_P D vwCl (wX10 T hgm gm_10 gml) H → va_D A (wX10 T hgm gm_10 gml) → va_S A s.heap H locs → lv_has ls 8 [(2, .int a2), (3, .int v8), (4, .int v9)] → W p l e rX10_sit s m args below meth c H locs 0 0 Q (F0 m 136 ls []) := by
          intro v8 v9 gm_10 hex H locs ls hP hD hS hl
          have hf := zEx3 hex hf
          refine lv_iload_n hx hb dX10_sit_136 rfl (lv_at hl 0 rfl) ?_
          refine lv_if_ne (tgt := 144) hx hb dX10_sit_137 (by decide) (fun hc => ?_) (fun hc => ?_)
          · replace hf := zIf_f hc hf
            refine lv_iload hx hb dX10_sit_144 (lv_at hl 2 rfl) ?_
            obtain ⟨q1, q2⟩ := zI2 hf
            subst q1
            subst q2
            exact zRetI hQ hx hb hr hlocks hA0 hK hP hD hS rfl dX10_sit_146
          · replace hf := zIf_t hc hf
            refine lv_iload_n hx hb dX10_sit_140 rfl (lv_at hl 1 rfl) ?_
            refine lv_goto (tgt := 146) hx hb dX10_sit_141 (by decide) ?_
            obtain ⟨q1, q2⟩ := zI2 hf
            subst q1
            subst q2
            exact zRetI hQ hx hb hr hlocks hA0 hK hP hD hS rfl dX10_sit_146
        refine zLpS4 (body := (fX10_sit_L43 a1 gml)) (b := ex) (fun (v4 : Int32) (v5 : Int32) (v6 : Int32) (gm_7 : zM) => ∀ (H : Heap) (locs : List Loc) (ls : Array Slot), va_P D vwCl (wX10 T hgm gm_7 gml) H → va_D A (wX10 T hgm gm_7 gml) → va_S A s.heap H locs → lv_has ls 8 [(0, .ref (hgm 0)), (1, .int a1), (2, .int a2), (3, .int v4), (4, .int v5), (5, .int v6)] → W p l e rX10_sit s m args below meth c H locs 0 0 Q (F0 m 43 ls [])) ?_ zFU (-1) 0 1 gm_3 hlp H locs ls hP hD hS (lv_sub hl [3, 4, 5, 2, 1, 0] rfl)
        intro v4 v5 v6 gm_7 z hf hzz H locs ls hP hD hS hl
        unfold fX10_sit_L43 at hf
        replace hf := zUk4 hf
        refine lv_iload hx hb dX10_sit_43 (lv_at hl 5 rfl) ?_
        refine lv_if_eq (tgt := 136) hx hb dX10_sit_45 (by decide) (fun hc => ?_) (fun hc => ?_)
        · replace hf := zIf_t hc hf
          cases hf
          exact hE43_136 v4 v5 gm_7 hzz.symm H locs ls hP hD hS (lv_sub hl [2, 3, 4] rfl)
        · replace hf := zIf_f hc hf
          refine lv_iconst (v := 0) hx hb dX10_sit_48 (by decide) ?_
          refine lv_istore (lv' := [(6, .int 0), (0, .ref (hgm 0)), (1, .int a1), (2, .int a2), (3, .int v4), (4, .int v5), (5, .int v6)]) hx hb dX10_sit_49 hl (by decide) rfl (fun ls hl => ?_)
          refine lv_iconst (v := 0) hx hb dX10_sit_51 (by decide) ?_
          refine lv_istore (lv' := [(7, .int 0), (6, .int 0), (0, .ref (hgm 0)), (1, .int a1), (2, .int a2), (3, .int v4), (4, .int v5), (5, .int v6)]) hx hb dX10_sit_52 hl (by decide) rfl (fun ls hl => ?_)
          obtain ⟨ex, hlp, hf⟩ := zB1_ok hf
          have hE54_94 : ∀ (v13 : Int32) , ex = v13 → ∀ (H : Heap) (locs : List Loc) (ls : Array Slot), va_P D vwCl (wX10 T hgm gm_7 gml) H → va_D A (wX10 T hgm gm_7 gml) → va_S A s.heap H locs → lv_has ls 8 [(0, .ref (hgm 0)), (1, .int a1), (2, .int a2), (3, .int v4), (4, .int v5), (6, .int v13)] → W p l e rX10_sit s m args below meth c H locs 0 0 Q (F0 m 94 ls []) := by
            intro v13 hex H locs ls hP hD hS hl
            have hf := zEx1 hex hf
            refine lv_iload hx hb dX10_sit_94 (lv_at hl 5 rfl) ?_
            refine lv_iload_n hx hb dX10_sit_96 rfl (lv_at hl 3 rfl) ?_
            have hJ127 : ∀ (v20 : Int32) (v21 : Int32) (gm_22 : zM) (H : Heap) (locs : List Loc) (ls : Array Slot), fX10_sit_L43J127 gml v20 v21 gm_22 = some z → va_P D vwCl (wX10 T hgm gm_22 gml) H → va_D A (wX10 T hgm gm_22 gml) → va_S A s.heap H locs → lv_has ls 8 [(0, .ref (hgm 0)), (1, .int a1), (2, .int a2), (3, .int v20), (4, .int v21)] → W p l e rX10_sit s m args below meth c H locs 0 0 Q (F0 m 127 ls []) := by
              intro v20 v21 gm_22 H locs ls hf hP hD hS hl
              unfold fX10_sit_L43J127 at hf
              refine lv_aload_n hx hb dX10_sit_127 rfl (lv_at hl 0 rfl) ?_
              obtain ⟨v23, gm_24, hc128, hf⟩ := zB2_ok hf
              refine zCallVEI [] ⟨hx, hb, hml, hown, hts⟩ (pX10_nextParting l D T X hgm H.size gm_22 gml v23 gm_24 hc128) (cwV 0 hts gX10_sit_X10_nextParting rfl rfl rfl (by decide +kernel) ⟨Nat.le_of_ble_eq_true rfl, Nat.le_of_ble_eq_true rfl⟩) hK hP hD hS hA hX 0 rfl rfl rfl hl.1 rfl (Nat.le_of_ble_eq_true rfl) dX10_sit_128 ⟨Nat.zero_le _, Nat.zero_le _⟩ (fun H locs hP hD hS => ?_)
              refine lv_istore (lv' := [(5, .int v23), (0, .ref (hgm 0)), (1, .int a1), (2, .int a2), (3, .int v20), (4, .int v21)]) hx hb dX10_sit_131 hl (by decide) rfl (fun ls hl => ?_)
              refine lv_goto (tgt := 43) hx hb dX10_sit_133 (by decide) ?_
              cases hf
              exact hzz H locs ls hP hD hS (lv_sub hl [1, 2, 3, 4, 5, 0] rfl)
            refine lv_icmp_lt (tgt := 127) hx hb dX10_sit_97 (by decide) (fun hc => ?_) (fun hc => ?_)
            · replace hf := zIf_t hc hf
              exact hJ127 v4 v5 gm_7 H locs ls hf hP hD hS (lv_sub hl [0, 1, 2, 3, 4] rfl)
            · replace hf := zIf_f hc hf
              refine lv_aload_n hx hb dX10_sit_100 rfl (lv_at hl 0 rfl) ?_
              refine lv_iload_n hx hb dX10_sit_101 rfl (lv_at hl 1 rfl) ?_
              obtain ⟨v25, gm_26, hc102, hf⟩ := zB2_ok hf
              refine zCallVEI [.int a1] ⟨hx, hb, hml, hown, hts⟩ (pX10_isSmall l D T X hgm H.size gm_7 gml a1 v25 gm_26 hc102) (cwV 1 hts gX10_sit_X10_isSmall rfl rfl rfl (by decide +kernel) ⟨Nat.le_of_ble_eq_true rfl, Nat.le_of_ble_eq_true rfl⟩) hK hP hD hS hA hX 0 rfl rfl rfl hl.1 rfl (Nat.le_of_ble_eq_true rfl) dX10_sit_102 ⟨Nat.zero_le _, Nat.zero_le _⟩ (fun H locs hP hD hS => ?_)
              refine lv_if_eq (tgt := 127) hx hb dX10_sit_105 (by decide) (fun hc => ?_) (fun hc => ?_)
              · replace hf := zIf_t hc hf
                exact hJ127 v4 v5 gm_26 H locs ls hf hP hD hS (lv_sub hl [0, 1, 2, 3, 4] rfl)
              · replace hf := zIf_f hc hf
                refine lv_iload hx hb dX10_sit_108 (lv_at hl 5 rfl) ?_
                refine lv_iload_n hx hb dX10_sit_110 rfl (lv_at hl 3 rfl) ?_
                have hJ122 : ∀ (v27 : Int32) (H : Heap) (locs : List Loc) (ls : Array Slot), fX10_sit_L43J122 gml v13 gm_26 v27 = some z → va_P D vwCl (wX10 T hgm gm_26 gml) H → va_D A (wX10 T hgm gm_26 gml) → va_S A s.heap H locs → lv_has ls 8 [(0, .ref (hgm 0)), (1, .int a1), (2, .int a2), (6, .int v13)] → W p l e rX10_sit s m args below meth c H locs 0 0 Q (F0 m 122 ls [.int v27]) := by
                  intro v27 H locs ls hf hP hD hS hl
                  unfold fX10_sit_L43J122 at hf
                  refine lv_istore (lv' := [(4, .int v27), (0, .ref (hgm 0)), (1, .int a1), (2, .int a2), (6, .int v13)]) hx hb dX10_sit_122 hl (by decide) rfl (fun ls hl => ?_)
                  refine lv_iload hx hb dX10_sit_124 (lv_at hl 4 rfl) ?_
                  refine lv_istore_n (lv' := [(3, .int v13), (4, .int v27), (0, .ref (hgm 0)), (1, .int a1), (2, .int a2), (6, .int v13)]) hx hb dX10_sit_126 rfl hl (by decide) rfl (fun ls hl => ?_)
                  exact hJ127 v13 v27 gm_26 H locs ls hf hP hD hS (lv_sub hl [2, 3, 4, 0, 1] rfl)
                refine lv_icmp_le (tgt := 118) hx hb dX10_sit_111 (by decide) (fun hc => ?_) (fun hc => ?_)
                · replace hf := zIf_t hc hf
                  refine lv_iload hx hb dX10_sit_118 (lv_at hl 4 rfl) ?_
                  refine lv_iconst (v := 1) hx hb dX10_sit_120 (by decide) ?_
                  refine lv_iadd hx hb dX10_sit_121 ?_
                  exact hJ122 (v5 + 1) H locs ls hf hP hD hS (lv_sub hl [0, 1, 2, 5] rfl)
                · replace hf := zIf_f hc hf
                  refine lv_iconst (v := 1) hx hb dX10_sit_114 (by decide) ?_
                  refine lv_goto (tgt := 122) hx hb dX10_sit_115 (by decide) ?_
                  exact hJ122 1 H locs ls hf hP hD hS (lv_sub hl [0, 1, 2, 5] rfl)
          refine zLpS2 (body := (fX10_sit_L54 gml gm_7)) (b := ex) (fun (v11 : Int32) (v12 : Int32) => ∀ (H : Heap) (locs : List Loc) (ls : Array Slot), va_P D vwCl (wX10 T hgm gm_7 gml) H → va_D A (wX10 T hgm gm_7 gml) → va_S A s.heap H locs → lv_has ls 8 [(0, .ref (hgm 0)), (1, .int a1), (2, .int a2), (3, .int v4), (4, .int v5), (6, .int v11), (7, .int v12)] → W p l e rX10_sit s m args below meth c H locs 0 0 Q (F0 m 54 ls [])) ?_ zFU 0 0 hlp H locs ls hP hD hS (lv_sub hl [2, 3, 4, 5, 6, 1, 0] rfl)
          intro v11 v12 z hf hzz H locs ls hP hD hS hl
          unfold fX10_sit_L54 at hf
          replace hf := zUk2 hf
          refine lv_iload hx hb dX10_sit_54 (lv_at hl 6 rfl) ?_
          refine lv_aload_n hx hb dX10_sit_56 rfl (lv_at hl 0 rfl) ?_
          refine zGet (ci := 10) (C := RX10) (F := TX10) (N := 54) (v := .int (gm_7 0 2)) hx hb hts hiX10 hown hK hP 0 2 2 rfl rfl (by decide) rfl rfl rfl dX10_sit_57 ?_
          refine lv_icmp_ge (tgt := 94) hx hb dX10_sit_60 (by decide) (fun hc => ?_) (fun hc => ?_)
          · replace hf := zIf_t hc hf
            cases hf
            exact hE54_94 v11 hzz.symm H locs ls hP hD hS (lv_sub hl [0, 1, 2, 3, 4, 5] rfl)
          · replace hf := zIf_f hc hf
            refine lv_iload hx hb dX10_sit_63 (lv_at hl 5 rfl) ?_
            refine lv_aload_n hx hb dX10_sit_65 rfl (lv_at hl 0 rfl) ?_
            refine lv_iload hx hb dX10_sit_66 (lv_at hl 6 rfl) ?_
            obtain ⟨v14, hc68, hf⟩ := zB1_ok hf
            refine zCallVEI [.int v12] ⟨hx, hb, hml, hown, hts⟩ (pX10_isWithin l D T X hgm H.size gm_7 gml v12 v14 hc68) (cwV 1 hts gX10_sit_X10_isWithin rfl rfl rfl (by decide +kernel) ⟨Nat.le_of_ble_eq_true rfl, Nat.le_of_ble_eq_true rfl⟩) hK hP hD hS hA hX 0 rfl rfl rfl hl.1 rfl (Nat.le_of_ble_eq_true rfl) dX10_sit_68 ⟨Nat.zero_le _, Nat.zero_le _⟩ (fun H locs hP hD hS => ?_)
            have hJ85 : ∀ (v15 : Int32) (v16 : Int32) (H : Heap) (locs : List Loc) (ls : Array Slot), fX10_sit_L54J85 v12 v15 v16 = some z → va_P D vwCl (wX10 T hgm gm_7 gml) H → va_D A (wX10 T hgm gm_7 gml) → va_S A s.heap H locs → lv_has ls 8 [(0, .ref (hgm 0)), (1, .int a1), (2, .int a2), (3, .int v4), (4, .int v5), (7, .int v12)] → W p l e rX10_sit s m args below meth c H locs 0 0 Q (F0 m 85 ls [.int v15, .int v16]) := by
              intro v15 v16 H locs ls hf hP hD hS hl
              unfold fX10_sit_L54J85 at hf
              refine lv_iadd hx hb dX10_sit_85 ?_
              refine lv_topi (fun v17 ev17 => ?_)
              replace hf := zLt_at ev17 hf
              refine lv_istore (lv' := [(6, .int v17), (0, .ref (hgm 0)), (1, .int a1), (2, .int a2), (3, .int v4), (4, .int v5), (7, .int v12)]) hx hb dX10_sit_86 hl (by decide) rfl (fun ls hl => ?_)
              obtain ⟨v18, ev18⟩ : ∃ y : Int32, y = v12 + 1 := ⟨_, rfl⟩
              replace hf := zLt_at ev18 hf
              refine lv_iinc (v := v18) (lv' := [(7, .int v18), (6, .int v17), (0, .ref (hgm 0)), (1, .int a1), (2, .int a2), (3, .int v4), (4, .int v5)]) hx hb dX10_sit_88 hl (k := 6) rfl (by rw [ev18]; rfl) (by decide) rfl (fun ls hl => ?_)
              refine lv_goto (tgt := 54) hx hb dX10_sit_91 (by decide) ?_
              cases hf
              exact hzz H locs ls hP hD hS (lv_sub hl [2, 3, 4, 5, 6, 1, 0] rfl)
            refine lv_if_eq (tgt := 84) hx hb dX10_sit_71 (by decide) (fun hc => ?_) (fun hc => ?_)
            · replace hf := zIf_t hc hf
              refine lv_iconst (v := 0) hx hb dX10_sit_84 (by decide) ?_
              exact hJ85 0 v11 H locs ls hf hP hD hS (lv_sub hl [0, 1, 2, 3, 4, 6] rfl)
            · replace hf := zIf_f hc hf
              refine lv_aload_n hx hb dX10_sit_74 rfl (lv_at hl 0 rfl) ?_
              refine lv_iload hx hb dX10_sit_75 (lv_at hl 6 rfl) ?_
              refine lv_iconst (v := 2) hx hb dX10_sit_77 (by decide) ?_
              obtain ⟨v19, hc78, hf⟩ := zB1_ok hf
              refine zCallVEI [.int v12, .int 2] ⟨hx, hb, hml, hown, hts⟩ (pX10_its l D T X hgm H.size gm_7 gml v12 2 v19 hc78) (cwV 2 hts gX10_sit_X10_its rfl rfl rfl (by decide +kernel) ⟨Nat.le_of_ble_eq_true rfl, Nat.le_of_ble_eq_true rfl⟩) hK hP hD hS hA hX 0 rfl rfl rfl hl.1 rfl (Nat.le_of_ble_eq_true rfl) dX10_sit_78 ⟨Nat.zero_le _, Nat.zero_le _⟩ (fun H locs hP hD hS => ?_)
              refine lv_goto (tgt := 85) hx hb dX10_sit_81 (by decide) ?_
              exact hJ85 v19 v11 H locs ls hf hP hD hS (lv_sub hl [0, 1, 2, 3, 4, 6] rfl)
      · replace hf := zIf_f hc hf
        refine lv_bipush (v := (-4)) hx hb dX10_sit_28 (by decide) ?_
        obtain ⟨q1, q2⟩ := zI2 hf
        subst q1
        subst q2
        exact zRetI hQ hx hb hr hlocks hA0 hK hP hD hS rfl dX10_sit_30
    · replace hf := zIf_t hc hf
      refine lv_iconst (v := (-1)) hx hb dX10_sit_17 (by decide) ?_
      obtain ⟨q1, q2⟩ := zI2 hf
      subst q1
      subst q2
      exact zRetI hQ hx hb hr hlocks hA0 hK hP hD hS rfl dX10_sit_18
set_option maxHeartbeats 4000000 in
set_option maxRecDepth 100000 in
theorem pX10_findDays (l : Launch) (D : va_G) (T : Nat → ClassId) (X : zFP) (hgm : Nat → Nat) (sz : Nat) (gm : zM) (gml : zL) (a1 : Int32) (ngm : zM) (hf : fX10_findDays gm gml a1 = some ngm) : Met l yX10_findDays wsX10_findDays rX10_findDays (zPre D T X [.ref (hgm 0), .int a1] (wX10 T hgm gm gml) sz) (zQv D T (wX10 T hgm ngm gml) (wX10 T hgm gm gml) sz) 0 0 (va_A (wX10 T hgm gm gml) sz) := by
  unfold fX10_findDays at hf
  refine zStart [(0, .ref (hgm 0)), (1, .int a1)] (by decide) rfl (Nat.le_of_ble_eq_true rfl) rfl ?_
  intro p e s m args below meth c A Q ls hx hb hr hml hown hlocks hts hsz hA0 hQ hA hK hX hP hD hS hl
  replace hown : s.vm.findClass RX10 = some m.cls := hown
  have hH := hsz
  have hiX10 : ∀ w ∈ u_ws RX10 TX10 54, w ∈ wsX10_findDays := fun w h => List.mem_cons_of_mem _ (List.mem_append_right _ (h))
  obtain ⟨H, hHe⟩ : ∃ H : Heap, H = s.heap := ⟨_, rfl⟩
  obtain ⟨locs, hLe⟩ : ∃ L : List Loc, L = [] := ⟨_, rfl⟩
  replace hP : va_P D vwCl (wX10 T hgm gm gml) H := by rw [hHe]; exact hP
  replace hS : va_S A s.heap H locs := by rw [hHe, hLe]; exact hS
  suffices hgo : W p l e rX10_findDays s m args below meth c H locs 0 0 Q (F0 m 0 ls []) by rw [hHe, hLe] at hgo; exact hgo
  clear hHe hLe
  refine lv_aload_n hx hb dX10_findDays_0 rfl (lv_at hl 0 rfl) ?_
  refine zGet (ci := 10) (C := RX10) (F := TX10) (N := 54) (v := .ref (hgm 13)) hx hb hts hiX10 hown hK hP 0 32 1 rfl rfl (by decide) rfl rfl rfl dX10_findDays_1 ?_
  refine lv_iconst (v := 0) hx hb dX10_findDays_4 (by decide) ?_
  refine lv_iload_n hx hb dX10_findDays_5 rfl (lv_at hl 1 rfl) ?_
  obtain ⟨hg, hf⟩ := zGd_ok hf
  refine zAstI (w := gm) hx hb hK hP hD hS (fun g => wX10 T hgm g gml) 13 13 rfl hg rfl dX10_findDays_6 (fun gm_1 egm_1 H locs hP hD hS => ?_)
  replace hP : va_P D vwCl (wX10 T hgm gm_1 gml) H := hP
  replace hD : va_D A (wX10 T hgm gm_1 gml) := hD
  replace hf := zLt_at egm_1 hf
  refine lv_iconst (v := 0) hx hb dX10_findDays_7 (by decide) ?_
  refine lv_istore_n (lv' := [(2, .int 0), (0, .ref (hgm 0)), (1, .int a1)]) hx hb dX10_findDays_8 rfl hl (by decide) rfl (fun ls hl => ?_)
  obtain ⟨ex, hlp, hf⟩ := zB1_ok hf
  have hE9_64 : ∀ (gm_4 : zM) , ex = gm_4 → ∀ (H : Heap) (locs : List Loc) (ls : Array Slot), va_P D vwCl (wX10 T hgm gm_4 gml) H → va_D A (wX10 T hgm gm_4 gml) → va_S A s.heap H locs → lv_has ls 3 [] → W p l e rX10_findDays s m args below meth c H locs 0 0 Q (F0 m 64 ls []) := by
    intro gm_4 hex H locs ls hP hD hS hl
    have hf := zEx1 hex hf
    obtain ⟨q1, -⟩ := zI1 hf
    subst q1
    exact zRetV hQ hx hb hr hlocks hA0 hK hP hD hS dX10_findDays_64
  refine zLpS2 (body := (fX10_findDays_L9 gml)) (b := ex) (fun (v2 : Int32) (gm_3 : zM) => ∀ (H : Heap) (locs : List Loc) (ls : Array Slot), va_P D vwCl (wX10 T hgm gm_3 gml) H → va_D A (wX10 T hgm gm_3 gml) → va_S A s.heap H locs → lv_has ls 3 [(0, .ref (hgm 0)), (2, .int v2)] → W p l e rX10_findDays s m args below meth c H locs 0 0 Q (F0 m 9 ls [])) ?_ zFU 0 gm_1 hlp H locs ls hP hD hS (lv_sub hl [1, 0] rfl)
  intro v2 gm_3 z hf hzz H locs ls hP hD hS hl
  unfold fX10_findDays_L9 at hf
  replace hf := zUk2 hf
  refine lv_iload_n hx hb dX10_findDays_9 rfl (lv_at hl 1 rfl) ?_
  refine lv_bipush (v := 100) hx hb dX10_findDays_10 (by decide) ?_
  refine lv_icmp_ge (tgt := 64) hx hb dX10_findDays_12 (by decide) (fun hc => ?_) (fun hc => ?_)
  · replace hf := zIf_t hc hf
    cases hf
    exact hE9_64 gm_3 hzz.symm H locs ls hP hD hS (lv_sub hl [] rfl)
  · replace hf := zIf_f hc hf
    refine lv_aload_n hx hb dX10_findDays_15 rfl (lv_at hl 0 rfl) ?_
    refine zGet (ci := 10) (C := RX10) (F := TX10) (N := 54) (v := .ref (hgm 13)) hx hb hts hiX10 hown hK hP 0 32 1 rfl rfl (by decide) rfl rfl rfl dX10_findDays_16 ?_
    refine lv_iload_n hx hb dX10_findDays_19 rfl (lv_at hl 1 rfl) ?_
    refine lv_iconst (v := 1) hx hb dX10_findDays_20 (by decide) ?_
    refine lv_iadd hx hb dX10_findDays_21 ?_
    refine lv_aload_n hx hb dX10_findDays_22 rfl (lv_at hl 0 rfl) ?_
    refine zGet (ci := 10) (C := RX10) (F := TX10) (N := 54) (v := .ref (hgm 13)) hx hb hts hiX10 hown hK hP 0 32 1 rfl rfl (by decide) rfl rfl rfl dX10_findDays_23 ?_
    refine lv_iload_n hx hb dX10_findDays_26 rfl (lv_at hl 1 rfl) ?_
    obtain ⟨hg, hf⟩ := zGd_ok hf
    refine zAldI hx hb hK hP 13 rfl hg dX10_findDays_27 (fun v5 ev5 => ?_)
    replace hf := zLt_at ev5 hf
    refine lv_aload_n hx hb dX10_findDays_28 rfl (lv_at hl 0 rfl) ?_
    obtain ⟨v6, hc29, hf⟩ := zB1_ok hf
    refine zCallVEI [] ⟨hx, hb, hml, hown, hts⟩ (pX10_all l D T X hgm H.size gm_3 gml v6 hc29) (cwV 0 hts gX10_findDays_X10_all rfl rfl rfl (by decide +kernel) ⟨Nat.le_of_ble_eq_true rfl, Nat.le_of_ble_eq_true rfl⟩) hK hP hD hS hA hX 0 rfl rfl rfl hl.1 rfl (Nat.le_of_ble_eq_true rfl) dX10_findDays_29 ⟨Nat.zero_le _, Nat.zero_le _⟩ (fun H locs hP hD hS => ?_)
    have hJ57 : ∀ (v7 : Int32) (v8 : Int32) (H : Heap) (locs : List Loc) (ls : Array Slot), fX10_findDays_L9J57 v2 gm_3 v7 v8 = some z → va_P D vwCl (wX10 T hgm gm_3 gml) H → va_D A (wX10 T hgm gm_3 gml) → va_S A s.heap H locs → lv_has ls 3 [(0, .ref (hgm 0)), (2, .int v2)] → W p l e rX10_findDays s m args below meth c H locs 0 0 Q (F0 m 57 ls [.int v7, .int v8, .ref (hgm 13)]) := by
      intro v7 v8 H locs ls hf hP hD hS hl
      unfold fX10_findDays_L9J57 at hf
      obtain ⟨hg, hf⟩ := zGd_ok hf
      refine zAstI (w := gm_3) hx hb hK hP hD hS (fun g => wX10 T hgm g gml) 13 13 rfl hg rfl dX10_findDays_57 (fun gm_9 egm_9 H locs hP hD hS => ?_)
      replace hP : va_P D vwCl (wX10 T hgm gm_9 gml) H := hP
      replace hD : va_D A (wX10 T hgm gm_9 gml) := hD
      replace hf := zLt_at egm_9 hf
      obtain ⟨v10, ev10⟩ : ∃ y : Int32, y = v2 + 1 := ⟨_, rfl⟩
      replace hf := zLt_at ev10 hf
      refine lv_iinc (v := v10) (lv' := [(2, .int v10), (0, .ref (hgm 0))]) hx hb dX10_findDays_58 hl (k := 1) rfl (by rw [ev10]; rfl) (by decide) rfl (fun ls hl => ?_)
      refine lv_goto (tgt := 9) hx hb dX10_findDays_61 (by decide) ?_
      cases hf
      exact hzz H locs ls hP hD hS (lv_sub hl [1, 0] rfl)
    refine lv_icmp_ne (tgt := 42) hx hb dX10_findDays_32 (by decide) (fun hc => ?_) (fun hc => ?_)
    · replace hf := zIf_f hc hf
      refine lv_aload_n hx hb dX10_findDays_42 rfl (lv_at hl 0 rfl) ?_
      refine lv_aload_n hx hb dX10_findDays_43 rfl (lv_at hl 0 rfl) ?_
      refine zGet (ci := 10) (C := RX10) (F := TX10) (N := 54) (v := .ref (hgm 13)) hx hb hts hiX10 hown hK hP 0 32 1 rfl rfl (by decide) rfl rfl rfl dX10_findDays_44 ?_
      refine lv_iload_n hx hb dX10_findDays_47 rfl (lv_at hl 1 rfl) ?_
      obtain ⟨hg, hf⟩ := zGd_ok hf
      refine zAldI hx hb hK hP 13 rfl hg dX10_findDays_48 (fun v11 ev11 => ?_)
      replace hf := zLt_at ev11 hf
      refine lv_aload_n hx hb dX10_findDays_49 rfl (lv_at hl 0 rfl) ?_
      refine lv_iload_n hx hb dX10_findDays_50 rfl (lv_at hl 1 rfl) ?_
      obtain ⟨v12, hc51, hf⟩ := zB1_ok hf
      refine zCallVEI [.int v2] ⟨hx, hb, hml, hown, hts⟩ (pX10_openOn l D T X hgm H.size gm_3 gml v2 v12 hc51) (cwV 1 hts gX10_findDays_X10_openOn rfl rfl rfl (by decide +kernel) ⟨Nat.le_of_ble_eq_true rfl, Nat.le_of_ble_eq_true rfl⟩) hK hP hD hS hA hX 0 rfl rfl rfl hl.1 rfl (Nat.le_of_ble_eq_true rfl) dX10_findDays_51 ⟨Nat.zero_le _, Nat.zero_le _⟩ (fun H locs hP hD hS => ?_)
      obtain ⟨v13, hc54, hf⟩ := zB1_ok hf
      refine zCallVEI [.int v11, .int v12] ⟨hx, hb, hml, hown, hts⟩ (pX10_around l D T X hgm H.size gm_3 gml v11 v12 v13 hc54) (cwV 2 hts gX10_findDays_X10_around rfl rfl rfl (by decide +kernel) ⟨Nat.le_of_ble_eq_true rfl, Nat.le_of_ble_eq_true rfl⟩) hK hP hD hS hA hX 0 rfl rfl rfl hl.1 rfl (Nat.le_of_ble_eq_true rfl) dX10_findDays_54 ⟨Nat.zero_le _, Nat.zero_le _⟩ (fun H locs hP hD hS => ?_)
      exact hJ57 v13 (v2 + 1) H locs ls hf hP hD hS hl
    · replace hf := zIf_t hc hf
      refine lv_aload_n hx hb dX10_findDays_35 rfl (lv_at hl 0 rfl) ?_
      obtain ⟨v14, hc36, hf⟩ := zB1_ok hf
      refine zCallVEI [] ⟨hx, hb, hml, hown, hts⟩ (pX10_all l D T X hgm H.size gm_3 gml v14 hc36) (cwV 0 hts gX10_findDays_X10_all rfl rfl rfl (by decide +kernel) ⟨Nat.le_of_ble_eq_true rfl, Nat.le_of_ble_eq_true rfl⟩) hK hP hD hS hA hX 0 rfl rfl rfl hl.1 rfl (Nat.le_of_ble_eq_true rfl) dX10_findDays_36 ⟨Nat.zero_le _, Nat.zero_le _⟩ (fun H locs hP hD hS => ?_)
      refine lv_goto (tgt := 57) hx hb dX10_findDays_39 (by decide) ?_
      exact hJ57 v14 (v2 + 1) H locs ls hf hP hD hS hl
set_option maxHeartbeats 4000000 in
set_option maxRecDepth 100000 in
theorem pX10_earlyOf (l : Launch) (D : va_G) (T : Nat → ClassId) (X : zFP) (hgm : Nat → Nat) (sz : Nat) (gm : zM) (gml : zL) (a1 : Int32) (r : Int32) (hf : fX10_earlyOf gm gml a1 = some r) : Met l yX10_earlyOf wsX10_earlyOf rX10_earlyOf (zPre D T X [.ref (hgm 0), .int a1] (wX10 T hgm gm gml) sz) (zQi D T r (wX10 T hgm gm gml) (wX10 T hgm gm gml) sz) 0 0 (va_A (wX10 T hgm gm gml) sz) := by
  unfold fX10_earlyOf at hf
  refine zStart [(0, .ref (hgm 0)), (1, .int a1)] (by decide) rfl (Nat.le_of_ble_eq_true rfl) rfl ?_
  intro p e s m args below meth c A Q ls hx hb hr hml hown hlocks hts hsz hA0 hQ hA hK hX hP hD hS hl
  replace hown : s.vm.findClass RX10 = some m.cls := hown
  have hH := hsz
  have hiX10 : ∀ w ∈ u_ws RX10 TX10 54, w ∈ wsX10_earlyOf := fun w h => List.mem_cons_of_mem _ (List.mem_append_right _ (h))
  obtain ⟨H, hHe⟩ : ∃ H : Heap, H = s.heap := ⟨_, rfl⟩
  obtain ⟨locs, hLe⟩ : ∃ L : List Loc, L = [] := ⟨_, rfl⟩
  replace hP : va_P D vwCl (wX10 T hgm gm gml) H := by rw [hHe]; exact hP
  replace hS : va_S A s.heap H locs := by rw [hHe, hLe]; exact hS
  suffices hgo : W p l e rX10_earlyOf s m args below meth c H locs 0 0 Q (F0 m 0 ls []) by rw [hHe, hLe] at hgo; exact hgo
  clear hHe hLe
  refine lv_iconst (v := 0) hx hb dX10_earlyOf_0 (by decide) ?_
  refine lv_istore_n (lv' := [(2, .int 0), (0, .ref (hgm 0)), (1, .int a1)]) hx hb dX10_earlyOf_1 rfl hl (by decide) rfl (fun ls hl => ?_)
  obtain ⟨ex, hlp, hf⟩ := zB1_ok hf
  have hE2_30 : ex = (.inl ()) → ∀ (H : Heap) (locs : List Loc) (ls : Array Slot), va_P D vwCl (wX10 T hgm gm gml) H → va_D A (wX10 T hgm gm gml) → va_S A s.heap H locs → lv_has ls 3 [] → W p l e rX10_earlyOf s m args below meth c H locs 0 0 Q (F0 m 30 ls []) := by
    intro hex H locs ls hP hD hS hl
    have hf := zExL0 hex hf
    refine lv_bipush (v := (-3)) hx hb dX10_earlyOf_30 (by decide) ?_
    obtain ⟨q1, -⟩ := zI1 hf
    subst q1
    exact zRetI hQ hx hb hr hlocks hA0 hK hP hD hS rfl dX10_earlyOf_32
  have hE2_22 : ∀ (v2 : Int32) , ex = (.inr v2) → ∀ (H : Heap) (locs : List Loc) (ls : Array Slot), va_P D vwCl (wX10 T hgm gm gml) H → va_D A (wX10 T hgm gm gml) → va_S A s.heap H locs → lv_has ls 3 [(2, .int v2)] → W p l e rX10_earlyOf s m args below meth c H locs 0 0 Q (F0 m 22 ls []) := by
    intro v2 hex H locs ls hP hD hS hl
    have hf := zSmR hex hf
    have hf := zEx1 rfl hf
    refine lv_iload_n hx hb dX10_earlyOf_22 rfl (lv_at hl 0 rfl) ?_
    obtain ⟨q1, -⟩ := zI1 hf
    subst q1
    exact zRetI hQ hx hb hr hlocks hA0 hK hP hD hS rfl dX10_earlyOf_23
  refine zLpS1 (body := (fX10_earlyOf_L2 a1 gm)) (b := ex) (fun (v1 : Int32) => ∀ (H : Heap) (locs : List Loc) (ls : Array Slot), va_P D vwCl (wX10 T hgm gm gml) H → va_D A (wX10 T hgm gm gml) → va_S A s.heap H locs → lv_has ls 3 [(0, .ref (hgm 0)), (1, .int a1), (2, .int v1)] → W p l e rX10_earlyOf s m args below meth c H locs 0 0 Q (F0 m 2 ls [])) ?_ zFU 0 hlp H locs ls hP hD hS (lv_sub hl [1, 2, 0] rfl)
  intro v1 z hf hzz H locs ls hP hD hS hl
  unfold fX10_earlyOf_L2 at hf
  replace hf := zUk1 hf
  refine lv_iload_n hx hb dX10_earlyOf_2 rfl (lv_at hl 2 rfl) ?_
  refine lv_bipush (v := 100) hx hb dX10_earlyOf_3 (by decide) ?_
  refine lv_icmp_gt (tgt := 30) hx hb dX10_earlyOf_5 (by decide) (fun hc => ?_) (fun hc => ?_)
  · replace hf := zIf_t hc hf
    cases hf
    exact hE2_30 hzz.symm H locs ls hP hD hS (lv_sub hl [] rfl)
  · replace hf := zIf_f hc hf
    refine lv_aload_n hx hb dX10_earlyOf_8 rfl (lv_at hl 0 rfl) ?_
    refine zGet (ci := 10) (C := RX10) (F := TX10) (N := 54) (v := .ref (hgm 13)) hx hb hts hiX10 hown hK hP 0 32 1 rfl rfl (by decide) rfl rfl rfl dX10_earlyOf_9 ?_
    refine lv_iload_n hx hb dX10_earlyOf_12 rfl (lv_at hl 2 rfl) ?_
    obtain ⟨hg, hf⟩ := zGd_ok hf
    refine zAldI hx hb hK hP 13 rfl hg dX10_earlyOf_13 (fun v3 ev3 => ?_)
    replace hf := zLt_at ev3 hf
    refine lv_iload_n hx hb dX10_earlyOf_14 rfl (lv_at hl 1 rfl) ?_
    refine lv_ishr hx hb dX10_earlyOf_15 ?_
    refine lv_iconst (v := 1) hx hb dX10_earlyOf_16 (by decide) ?_
    refine lv_iand hx hb dX10_earlyOf_17 ?_
    refine lv_iconst (v := 1) hx hb dX10_earlyOf_18 (by decide) ?_
    refine lv_icmp_ne (tgt := 24) hx hb dX10_earlyOf_19 (by decide) (fun hc => ?_) (fun hc => ?_)
    · replace hf := zIf_f hc hf
      obtain ⟨v4, ev4⟩ : ∃ y : Int32, y = v1 + 1 := ⟨_, rfl⟩
      replace hf := zLt_at ev4 hf
      refine lv_iinc (v := v4) (lv' := [(2, .int v4), (0, .ref (hgm 0)), (1, .int a1)]) hx hb dX10_earlyOf_24 hl (k := 2) rfl (by rw [ev4]; rfl) (by decide) rfl (fun ls hl => ?_)
      refine lv_goto (tgt := 2) hx hb dX10_earlyOf_27 (by decide) ?_
      cases hf
      exact hzz H locs ls hP hD hS (lv_sub hl [1, 2, 0] rfl)
    · replace hf := zIf_t hc hf
      cases hf
      exact hE2_22 v1 hzz.symm H locs ls hP hD hS (lv_sub hl [2] rfl)
set_option maxHeartbeats 4000000 in
set_option maxRecDepth 100000 in
theorem pX10_early (l : Launch) (D : va_G) (T : Nat → ClassId) (X : zFP) (hgm : Nat → Nat) (sz : Nat) (gm : zM) (gml : zL) (a1 : Int32) (a2 : Int32) (r : Int32) (ngm : zM) (hf : fX10_early gm gml a1 a2 = some (r, ngm)) : Met l yX10_early wsX10_early rX10_early (zPre D T X [.ref (hgm 0), .int a1, .int a2] (wX10 T hgm gm gml) sz) (zQi D T r (wX10 T hgm ngm gml) (wX10 T hgm gm gml) sz) 0 0 (va_A (wX10 T hgm gm gml) sz) := by
  unfold fX10_early at hf
  refine zStart [(0, .ref (hgm 0)), (1, .int a1), (2, .int a2)] (by decide) rfl (Nat.le_of_ble_eq_true rfl) rfl ?_
  intro p e s m args below meth c A Q ls hx hb hr hml hown hlocks hts hsz hA0 hQ hA hK hX hP hD hS hl
  replace hown : s.vm.findClass RX10 = some m.cls := hown
  have hH := hsz
  obtain ⟨H, hHe⟩ : ∃ H : Heap, H = s.heap := ⟨_, rfl⟩
  obtain ⟨locs, hLe⟩ : ∃ L : List Loc, L = [] := ⟨_, rfl⟩
  replace hP : va_P D vwCl (wX10 T hgm gm gml) H := by rw [hHe]; exact hP
  replace hS : va_S A s.heap H locs := by rw [hHe, hLe]; exact hS
  suffices hgo : W p l e rX10_early s m args below meth c H locs 0 0 Q (F0 m 0 ls []) by rw [hHe, hLe] at hgo; exact hgo
  clear hHe hLe
  refine lv_aload_n hx hb dX10_early_0 rfl (lv_at hl 0 rfl) ?_
  refine lv_iload_n hx hb dX10_early_1 rfl (lv_at hl 1 rfl) ?_
  obtain ⟨v1, hc2, hf⟩ := zB1_ok hf
  refine zCallVEI [.int a1] ⟨hx, hb, hml, hown, hts⟩ (pX10_isPerson l D T X hgm H.size gm gml a1 v1 hc2) (cwV 1 hts gX10_early_X10_isPerson rfl rfl rfl (by decide +kernel) ⟨Nat.le_of_ble_eq_true rfl, Nat.le_of_ble_eq_true rfl⟩) hK hP hD hS hA hX 0 rfl rfl rfl hl.1 rfl (Nat.le_of_ble_eq_true rfl) dX10_early_2 ⟨Nat.zero_le _, Nat.zero_le _⟩ (fun H locs hP hD hS => ?_)
  refine lv_if_eq (tgt := 16) hx hb dX10_early_5 (by decide) (fun hc => ?_) (fun hc => ?_)
  · replace hf := zIf_t hc hf
    refine lv_iconst (v := (-1)) hx hb dX10_early_16 (by decide) ?_
    obtain ⟨q1, q2⟩ := zI2 hf
    subst q1
    subst q2
    exact zRetI hQ hx hb hr hlocks hA0 hK hP hD hS rfl dX10_early_17
  · replace hf := zIf_f hc hf
    refine lv_aload_n hx hb dX10_early_8 rfl (lv_at hl 0 rfl) ?_
    refine lv_iload_n hx hb dX10_early_9 rfl (lv_at hl 2 rfl) ?_
    obtain ⟨v2, hc10, hf⟩ := zB1_ok hf
    refine zCallVEI [.int a2] ⟨hx, hb, hml, hown, hts⟩ (pX10_isPerson l D T X hgm H.size gm gml a2 v2 hc10) (cwV 1 hts gX10_early_X10_isPerson rfl rfl rfl (by decide +kernel) ⟨Nat.le_of_ble_eq_true rfl, Nat.le_of_ble_eq_true rfl⟩) hK hP hD hS hA hX 0 rfl rfl rfl hl.1 rfl (Nat.le_of_ble_eq_true rfl) dX10_early_10 ⟨Nat.zero_le _, Nat.zero_le _⟩ (fun H locs hP hD hS => ?_)
    refine lv_if_ne (tgt := 18) hx hb dX10_early_13 (by decide) (fun hc => ?_) (fun hc => ?_)
    · replace hf := zIf_f hc hf
      refine lv_aload_n hx hb dX10_early_18 rfl (lv_at hl 0 rfl) ?_
      refine lv_iconst (v := 1) hx hb dX10_early_19 (by decide) ?_
      refine lv_iload_n hx hb dX10_early_20 rfl (lv_at hl 1 rfl) ?_
      refine lv_ishl hx hb dX10_early_21 ?_
      obtain ⟨gm_3, hc22, hf⟩ := zB1_ok hf
      refine zCallVEV [.int ((1 : Int32) <<< (a1 &&& 31))] ⟨hx, hb, hml, hown, hts⟩ (pX10_findDays l D T X hgm H.size gm gml ((1 : Int32) <<< (a1 &&& 31)) gm_3 hc22) (cwV 1 hts gX10_early_X10_findDays rfl rfl rfl (by decide +kernel) ⟨Nat.le_of_ble_eq_true rfl, Nat.le_of_ble_eq_true rfl⟩) hK hP hD hS hA hX 0 rfl rfl rfl hl.1 rfl (Nat.le_of_ble_eq_true rfl) dX10_early_22 ⟨Nat.zero_le _, Nat.zero_le _⟩ (fun H locs hP hD hS => ?_)
      refine lv_aload_n hx hb dX10_early_25 rfl (lv_at hl 0 rfl) ?_
      refine lv_iload_n hx hb dX10_early_26 rfl (lv_at hl 2 rfl) ?_
      obtain ⟨v4, hc27, hf⟩ := zB1_ok hf
      refine zCallVEI [.int a2] ⟨hx, hb, hml, hown, hts⟩ (pX10_earlyOf l D T X hgm H.size gm_3 gml a2 v4 hc27) (cwV 1 hts gX10_early_X10_earlyOf rfl rfl rfl (by decide +kernel) ⟨Nat.le_of_ble_eq_true rfl, Nat.le_of_ble_eq_true rfl⟩) hK hP hD hS hA hX 0 rfl rfl rfl hl.1 rfl (Nat.le_of_ble_eq_true rfl) dX10_early_27 ⟨Nat.zero_le _, Nat.zero_le _⟩ (fun H locs hP hD hS => ?_)
      obtain ⟨q1, q2⟩ := zI2 hf
      subst q1
      subst q2
      exact zRetI hQ hx hb hr hlocks hA0 hK hP hD hS rfl dX10_early_30
    · replace hf := zIf_t hc hf
      refine lv_iconst (v := (-1)) hx hb dX10_early_16 (by decide) ?_
      obtain ⟨q1, q2⟩ := zI2 hf
      subst q1
      subst q2
      exact zRetI hQ hx hb hr hlocks hA0 hK hP hD hS rfl dX10_early_17
set_option maxHeartbeats 4000000 in
set_option maxRecDepth 100000 in
theorem pX10_could (l : Launch) (D : va_G) (T : Nat → ClassId) (X : zFP) (hgm : Nat → Nat) (sz : Nat) (gm : zM) (gml : zL) (a1 : Int32) (a2 : Int32) (r : Int32) (ngm : zM) (hf : fX10_could gm gml a1 a2 = some (r, ngm)) : Met l yX10_could wsX10_could rX10_could (zPre D T X [.ref (hgm 0), .int a1, .int a2] (wX10 T hgm gm gml) sz) (zQi D T r (wX10 T hgm ngm gml) (wX10 T hgm gm gml) sz) 0 0 (va_A (wX10 T hgm gm gml) sz) := by
  unfold fX10_could at hf
  refine zStart [(0, .ref (hgm 0)), (1, .int a1), (2, .int a2)] (by decide) rfl (Nat.le_of_ble_eq_true rfl) rfl ?_
  intro p e s m args below meth c A Q ls hx hb hr hml hown hlocks hts hsz hA0 hQ hA hK hX hP hD hS hl
  replace hown : s.vm.findClass RX10 = some m.cls := hown
  have hH := hsz
  have hiX10 : ∀ w ∈ u_ws RX10 TX10 54, w ∈ wsX10_could := fun w h => List.mem_cons_of_mem _ (List.mem_append_right _ (h))
  obtain ⟨H, hHe⟩ : ∃ H : Heap, H = s.heap := ⟨_, rfl⟩
  obtain ⟨locs, hLe⟩ : ∃ L : List Loc, L = [] := ⟨_, rfl⟩
  replace hP : va_P D vwCl (wX10 T hgm gm gml) H := by rw [hHe]; exact hP
  replace hS : va_S A s.heap H locs := by rw [hHe, hLe]; exact hS
  suffices hgo : W p l e rX10_could s m args below meth c H locs 0 0 Q (F0 m 0 ls []) by rw [hHe, hLe] at hgo; exact hgo
  clear hHe hLe
  refine lv_aload_n hx hb dX10_could_0 rfl (lv_at hl 0 rfl) ?_
  refine lv_iload_n hx hb dX10_could_1 rfl (lv_at hl 1 rfl) ?_
  obtain ⟨v1, hc2, hf⟩ := zB1_ok hf
  refine zCallVEI [.int a1] ⟨hx, hb, hml, hown, hts⟩ (pX10_isPerson l D T X hgm H.size gm gml a1 v1 hc2) (cwV 1 hts gX10_could_X10_isPerson rfl rfl rfl (by decide +kernel) ⟨Nat.le_of_ble_eq_true rfl, Nat.le_of_ble_eq_true rfl⟩) hK hP hD hS hA hX 0 rfl rfl rfl hl.1 rfl (Nat.le_of_ble_eq_true rfl) dX10_could_2 ⟨Nat.zero_le _, Nat.zero_le _⟩ (fun H locs hP hD hS => ?_)
  refine lv_if_eq (tgt := 18) hx hb dX10_could_5 (by decide) (fun hc => ?_) (fun hc => ?_)
  · replace hf := zIf_t hc hf
    refine lv_iconst (v := (-1)) hx hb dX10_could_18 (by decide) ?_
    obtain ⟨q1, q2⟩ := zI2 hf
    subst q1
    subst q2
    exact zRetI hQ hx hb hr hlocks hA0 hK hP hD hS rfl dX10_could_19
  · replace hf := zIf_f hc hf
    refine lv_iload_n hx hb dX10_could_8 rfl (lv_at hl 2 rfl) ?_
    refine lv_iconst (v := 0) hx hb dX10_could_9 (by decide) ?_
    refine lv_bipush (v := 100) hx hb dX10_could_10 (by decide) ?_
    obtain ⟨v2, hc12, hf⟩ := zB1_ok hf
    refine zCallS0I [.int a2, .int 0, .int 100] ⟨hx, hb, hml, hown, hts⟩ (pX10_in l D T X H.size a2 0 100 v2 hc12) (va_cwS 3 hts gX10_could_X10_in rfl rfl rfl (by decide +kernel) ⟨Nat.le_of_ble_eq_true rfl, Nat.le_of_ble_eq_true rfl⟩) hK hP hD hS hA hX rfl hl.1 rfl (Nat.le_of_ble_eq_true rfl) dX10_could_12 ⟨Nat.zero_le _, Nat.zero_le _⟩ (fun H locs hP hD hS => ?_)
    refine lv_if_ne (tgt := 20) hx hb dX10_could_15 (by decide) (fun hc => ?_) (fun hc => ?_)
    · replace hf := zIf_f hc hf
      refine lv_aload_n hx hb dX10_could_20 rfl (lv_at hl 0 rfl) ?_
      refine lv_iconst (v := 1) hx hb dX10_could_21 (by decide) ?_
      refine lv_iload_n hx hb dX10_could_22 rfl (lv_at hl 1 rfl) ?_
      refine lv_ishl hx hb dX10_could_23 ?_
      obtain ⟨gm_3, hc24, hf⟩ := zB1_ok hf
      refine zCallVEV [.int ((1 : Int32) <<< (a1 &&& 31))] ⟨hx, hb, hml, hown, hts⟩ (pX10_findDays l D T X hgm H.size gm gml ((1 : Int32) <<< (a1 &&& 31)) gm_3 hc24) (cwV 1 hts gX10_could_X10_findDays rfl rfl rfl (by decide +kernel) ⟨Nat.le_of_ble_eq_true rfl, Nat.le_of_ble_eq_true rfl⟩) hK hP hD hS hA hX 0 rfl rfl rfl hl.1 rfl (Nat.le_of_ble_eq_true rfl) dX10_could_24 ⟨Nat.zero_le _, Nat.zero_le _⟩ (fun H locs hP hD hS => ?_)
      refine lv_aload_n hx hb dX10_could_27 rfl (lv_at hl 0 rfl) ?_
      refine zGet (ci := 10) (C := RX10) (F := TX10) (N := 54) (v := .ref (hgm 13)) hx hb hts hiX10 hown hK hP 0 32 1 rfl rfl (by decide) rfl rfl rfl dX10_could_28 ?_
      refine lv_iload_n hx hb dX10_could_31 rfl (lv_at hl 2 rfl) ?_
      obtain ⟨hg, hf⟩ := zGd_ok hf
      refine zAldI hx hb hK hP 13 rfl hg dX10_could_32 (fun v4 ev4 => ?_)
      replace hf := zLt_at ev4 hf
      obtain ⟨q1, q2⟩ := zI2 hf
      subst q1
      subst q2
      exact zRetI hQ hx hb hr hlocks hA0 hK hP hD hS rfl dX10_could_33
    · replace hf := zIf_t hc hf
      refine lv_iconst (v := (-1)) hx hb dX10_could_18 (by decide) ?_
      obtain ⟨q1, q2⟩ := zI2 hf
      subst q1
      subst q2
      exact zRetI hQ hx hb hr hlocks hA0 hK hP hD hS rfl dX10_could_19
set_option maxHeartbeats 4000000 in
set_option maxRecDepth 100000 in
theorem pX10_seed (l : Launch) (D : va_G) (T : Nat → ClassId) (X : zFP) (hgm : Nat → Nat) (sz : Nat) (gm : zM) (gml : zL) (a1 : Int32) (r : Int32) (ngm : zM) (hf : fX10_seed gm gml a1 = some (r, ngm)) : Met l yX10_seed wsX10_seed rX10_seed (zPre D T X [.ref (hgm 0), .int a1] (wX10 T hgm gm gml) sz) (zQi D T r (wX10 T hgm ngm gml) (wX10 T hgm gm gml) sz) 0 0 (va_A (wX10 T hgm gm gml) sz) := by
  unfold fX10_seed at hf
  refine zStart [(0, .ref (hgm 0)), (1, .int a1)] (by decide) rfl (Nat.le_of_ble_eq_true rfl) rfl ?_
  intro p e s m args below meth c A Q ls hx hb hr hml hown hlocks hts hsz hA0 hQ hA hK hX hP hD hS hl
  replace hown : s.vm.findClass RX10 = some m.cls := hown
  have hH := hsz
  have hiX10 : ∀ w ∈ u_ws RX10 TX10 54, w ∈ wsX10_seed := fun w h => List.mem_cons_of_mem _ (List.mem_append_right _ (h))
  obtain ⟨H, hHe⟩ : ∃ H : Heap, H = s.heap := ⟨_, rfl⟩
  obtain ⟨locs, hLe⟩ : ∃ L : List Loc, L = [] := ⟨_, rfl⟩
  replace hP : va_P D vwCl (wX10 T hgm gm gml) H := by rw [hHe]; exact hP
  replace hS : va_S A s.heap H locs := by rw [hHe, hLe]; exact hS
  suffices hgo : W p l e rX10_seed s m args below meth c H locs 0 0 Q (F0 m 0 ls []) by rw [hHe, hLe] at hgo; exact hgo
  clear hHe hLe
  refine lv_aload_n hx hb dX10_seed_0 rfl (lv_at hl 0 rfl) ?_
  refine zGet (ci := 10) (C := RX10) (F := TX10) (N := 54) (v := .int (gm 0 7)) hx hb hts hiX10 hown hK hP 0 7 1 rfl rfl (by decide) rfl rfl rfl dX10_seed_1 ?_
  refine lv_topi (fun v1 ev1 => ?_)
  replace hf := zLt_at ev1 hf
  refine lv_istore_n (lv' := [(2, .int v1), (0, .ref (hgm 0)), (1, .int a1)]) hx hb dX10_seed_4 rfl hl (by decide) rfl (fun ls hl => ?_)
  refine lv_aload_n hx hb dX10_seed_5 rfl (lv_at hl 1 rfl) ?_
  refine lv_iload_n hx hb dX10_seed_6 rfl (lv_at hl 2 rfl) ?_
  refine zPut (ci := 10) (C := RX10) (F := TX10) (N := 54) (x := a1) (w := gm) hx hb hts hiX10 tyX10 tyX10_ok nmX10 hown hK hP hD hS (fun g => wX10 T hgm g gml) 0 7 1 rfl rfl (by decide) rfl rfl rfl ⟨rfl, rfl⟩ (Nat.le_of_ble_eq_true rfl) rfl dX10_seed_7 (fun gm_2 egm_2 H locs hP hD hS => ?_)
  replace hP : va_P D vwCl (wX10 T hgm gm_2 gml) H := hP
  replace hD : va_D A (wX10 T hgm gm_2 gml) := hD
  replace hf := zLt_at egm_2 hf
  refine lv_iload_n hx hb dX10_seed_10 rfl (lv_at hl 0 rfl) ?_
  obtain ⟨q1, q2⟩ := zI2 hf
  subst q1
  subst q2
  exact zRetI hQ hx hb hr hlocks hA0 hK hP hD hS rfl dX10_seed_11
set_option maxHeartbeats 4000000 in
set_option maxRecDepth 100000 in
theorem pX10_run (l : Launch) (D : va_G) (T : Nat → ClassId) (X : zFP) (hgm : Nat → Nat) (sz : Nat) (gm : zM) (gml : zL) (a1 : Int32) (a2 : Int32) (r : Int32) (ngm : zM) (hf : fX10_run gm gml a1 a2 = some (r, ngm)) : Met l yX10_run wsX10_run rX10_run (zPre D T X [.ref (hgm 0), .int a1, .int a2] (wX10 T hgm gm gml) sz) (zQi D T r (wX10 T hgm ngm gml) (wX10 T hgm gm gml) sz) 0 0 (va_A (wX10 T hgm gm gml) sz) := by
  unfold fX10_run at hf
  refine zStart [(0, .ref (hgm 0)), (1, .int a1), (2, .int a2)] (by decide) rfl (Nat.le_of_ble_eq_true rfl) rfl ?_
  intro p e s m args below meth c A Q ls hx hb hr hml hown hlocks hts hsz hA0 hQ hA hK hX hP hD hS hl
  replace hown : s.vm.findClass RX10 = some m.cls := hown
  have hH := hsz
  have hiX10 : ∀ w ∈ u_ws RX10 TX10 54, w ∈ wsX10_run := fun w h => List.mem_cons_of_mem _ (List.mem_append_right _ (h))
  obtain ⟨H, hHe⟩ : ∃ H : Heap, H = s.heap := ⟨_, rfl⟩
  obtain ⟨locs, hLe⟩ : ∃ L : List Loc, L = [] := ⟨_, rfl⟩
  replace hP : va_P D vwCl (wX10 T hgm gm gml) H := by rw [hHe]; exact hP
  replace hS : va_S A s.heap H locs := by rw [hHe, hLe]; exact hS
  suffices hgo : W p l e rX10_run s m args below meth c H locs 0 0 Q (F0 m 0 ls []) by rw [hHe, hLe] at hgo; exact hgo
  clear hHe hLe
  refine lv_aload_n hx hb dX10_run_0 rfl (lv_at hl 0 rfl) ?_
  refine lv_iload_n hx hb dX10_run_1 rfl (lv_at hl 1 rfl) ?_
  obtain ⟨v1, hc2, hf⟩ := zB1_ok hf
  refine zCallVEI [.int a1] ⟨hx, hb, hml, hown, hts⟩ (pX10_isPerson l D T X hgm H.size gm gml a1 v1 hc2) (cwV 1 hts gX10_run_X10_isPerson rfl rfl rfl (by decide +kernel) ⟨Nat.le_of_ble_eq_true rfl, Nat.le_of_ble_eq_true rfl⟩) hK hP hD hS hA hX 0 rfl rfl rfl hl.1 rfl (Nat.le_of_ble_eq_true rfl) dX10_run_2 ⟨Nat.zero_le _, Nat.zero_le _⟩ (fun H locs hP hD hS => ?_)
  refine lv_if_eq (tgt := 18) hx hb dX10_run_5 (by decide) (fun hc => ?_) (fun hc => ?_)
  · replace hf := zIf_t hc hf
    refine lv_iconst (v := (-1)) hx hb dX10_run_18 (by decide) ?_
    obtain ⟨q1, q2⟩ := zI2 hf
    subst q1
    subst q2
    exact zRetI hQ hx hb hr hlocks hA0 hK hP hD hS rfl dX10_run_19
  · replace hf := zIf_f hc hf
    refine lv_iload_n hx hb dX10_run_8 rfl (lv_at hl 2 rfl) ?_
    refine lv_iconst (v := 0) hx hb dX10_run_9 (by decide) ?_
    refine lv_bipush (v := 20) hx hb dX10_run_10 (by decide) ?_
    obtain ⟨v2, hc12, hf⟩ := zB1_ok hf
    refine zCallS0I [.int a2, .int 0, .int 20] ⟨hx, hb, hml, hown, hts⟩ (pX10_in l D T X H.size a2 0 20 v2 hc12) (va_cwS 3 hts gX10_run_X10_in rfl rfl rfl (by decide +kernel) ⟨Nat.le_of_ble_eq_true rfl, Nat.le_of_ble_eq_true rfl⟩) hK hP hD hS hA hX rfl hl.1 rfl (Nat.le_of_ble_eq_true rfl) dX10_run_12 ⟨Nat.zero_le _, Nat.zero_le _⟩ (fun H locs hP hD hS => ?_)
    refine lv_if_ne (tgt := 20) hx hb dX10_run_15 (by decide) (fun hc => ?_) (fun hc => ?_)
    · replace hf := zIf_f hc hf
      refine lv_iconst (v := 1) hx hb dX10_run_20 (by decide) ?_
      refine lv_iload_n hx hb dX10_run_21 rfl (lv_at hl 1 rfl) ?_
      refine lv_ishl hx hb dX10_run_22 ?_
      refine lv_topi (fun v3 ev3 => ?_)
      replace hf := zLt_at ev3 hf
      refine lv_istore_n (lv' := [(3, .int v3), (0, .ref (hgm 0)), (1, .int a1), (2, .int a2)]) hx hb dX10_run_23 rfl hl (by decide) rfl (fun ls hl => ?_)
      refine lv_iconst (v := 0) hx hb dX10_run_24 (by decide) ?_
      refine lv_istore (lv' := [(4, .int 0), (3, .int v3), (0, .ref (hgm 0)), (1, .int a1), (2, .int a2)]) hx hb dX10_run_25 hl (by decide) rfl (fun ls hl => ?_)
      obtain ⟨ex, hlp, hf⟩ := zB1_ok hf
      have hE27_135 : ∀ (v7 : Int32) (gm_8 : zM) , ex = (v7, gm_8) → ∀ (H : Heap) (locs : List Loc) (ls : Array Slot), va_P D vwCl (wX10 T hgm gm_8 gml) H → va_D A (wX10 T hgm gm_8 gml) → va_S A s.heap H locs → lv_has ls 7 [(3, .int v7)] → W p l e rX10_run s m args below meth c H locs 0 0 Q (F0 m 135 ls []) := by
        intro v7 gm_8 hex H locs ls hP hD hS hl
        have hf := zEx2 hex hf
        refine lv_iload_n hx hb dX10_run_135 rfl (lv_at hl 0 rfl) ?_
        obtain ⟨q1, q2⟩ := zI2 hf
        subst q1
        subst q2
        exact zRetI hQ hx hb hr hlocks hA0 hK hP hD hS rfl dX10_run_136
      refine zLpS3 (body := (fX10_run_L27 a2 gml)) (b := ex) (fun (v4 : Int32) (v5 : Int32) (gm_6 : zM) => ∀ (H : Heap) (locs : List Loc) (ls : Array Slot), va_P D vwCl (wX10 T hgm gm_6 gml) H → va_D A (wX10 T hgm gm_6 gml) → va_S A s.heap H locs → lv_has ls 7 [(0, .ref (hgm 0)), (2, .int a2), (3, .int v4), (4, .int v5)] → W p l e rX10_run s m args below meth c H locs 0 0 Q (F0 m 27 ls [])) ?_ zFU v3 0 gm hlp H locs ls hP hD hS (lv_sub hl [2, 4, 1, 0] rfl)
      intro v4 v5 gm_6 z hf hzz H locs ls hP hD hS hl
      unfold fX10_run_L27 at hf
      replace hf := zUk3 hf
      refine lv_iload hx hb dX10_run_27 (lv_at hl 3 rfl) ?_
      refine lv_iload_n hx hb dX10_run_29 rfl (lv_at hl 1 rfl) ?_
      refine lv_icmp_ge (tgt := 135) hx hb dX10_run_30 (by decide) (fun hc => ?_) (fun hc => ?_)
      · replace hf := zIf_t hc hf
        cases hf
        exact hE27_135 v4 gm_6 hzz.symm H locs ls hP hD hS (lv_sub hl [2] rfl)
      · replace hf := zIf_f hc hf
        refine lv_iload_n hx hb dX10_run_33 rfl (lv_at hl 2 rfl) ?_
        refine lv_istore (lv' := [(5, .int v4), (0, .ref (hgm 0)), (2, .int a2), (3, .int v4), (4, .int v5)]) hx hb dX10_run_34 hl (by decide) rfl (fun ls hl => ?_)
        refine lv_iconst (v := 0) hx hb dX10_run_36 (by decide) ?_
        refine lv_istore (lv' := [(6, .int 0), (5, .int v4), (0, .ref (hgm 0)), (2, .int a2), (3, .int v4), (4, .int v5)]) hx hb dX10_run_37 hl (by decide) rfl (fun ls hl => ?_)
        obtain ⟨ex, hlp, hf⟩ := zB1_ok hf
        have hE39_126 : ∀ (v12 : Int32) (gm_13 : zM) , ex = (v12, gm_13) → ∀ (H : Heap) (locs : List Loc) (ls : Array Slot), va_P D vwCl (wX10 T hgm gm_13 gml) H → va_D A (wX10 T hgm gm_13 gml) → va_S A s.heap H locs → lv_has ls 7 [(0, .ref (hgm 0)), (2, .int a2), (4, .int v5), (5, .int v12)] → W p l e rX10_run s m args below meth c H locs 0 0 Q (F0 m 126 ls []) := by
          intro v12 gm_13 hex H locs ls hP hD hS hl
          have hf := zEx2 hex hf
          refine lv_iload hx hb dX10_run_126 (lv_at hl 3 rfl) ?_
          refine lv_istore_n (lv' := [(3, .int v12), (0, .ref (hgm 0)), (2, .int a2), (4, .int v5), (5, .int v12)]) hx hb dX10_run_128 rfl hl (by decide) rfl (fun ls hl => ?_)
          obtain ⟨v26, ev26⟩ : ∃ y : Int32, y = v5 + 1 := ⟨_, rfl⟩
          replace hf := zLt_at ev26 hf
          refine lv_iinc (v := v26) (lv' := [(4, .int v26), (3, .int v12), (0, .ref (hgm 0)), (2, .int a2), (5, .int v12)]) hx hb dX10_run_129 hl (k := 3) rfl (by rw [ev26]; rfl) (by decide) rfl (fun ls hl => ?_)
          refine lv_goto (tgt := 27) hx hb dX10_run_132 (by decide) ?_
          cases hf
          exact hzz H locs ls hP hD hS (lv_sub hl [2, 3, 1, 0] rfl)
        refine zLpS3 (body := (fX10_run_L39 gml v4 v5)) (b := ex) (fun (v9 : Int32) (v10 : Int32) (gm_11 : zM) => ∀ (H : Heap) (locs : List Loc) (ls : Array Slot), va_P D vwCl (wX10 T hgm gm_11 gml) H → va_D A (wX10 T hgm gm_11 gml) → va_S A s.heap H locs → lv_has ls 7 [(0, .ref (hgm 0)), (2, .int a2), (3, .int v4), (4, .int v5), (5, .int v9), (6, .int v10)] → W p l e rX10_run s m args below meth c H locs 0 0 Q (F0 m 39 ls [])) ?_ zFU v4 0 gm_6 hlp H locs ls hP hD hS (lv_sub hl [2, 3, 4, 5, 1, 0] rfl)
        intro v9 v10 gm_11 z hf hzz H locs ls hP hD hS hl
        unfold fX10_run_L39 at hf
        replace hf := zUk3 hf
        refine lv_iload hx hb dX10_run_39 (lv_at hl 5 rfl) ?_
        refine lv_aload_n hx hb dX10_run_41 rfl (lv_at hl 0 rfl) ?_
        refine zGet (ci := 10) (C := RX10) (F := TX10) (N := 54) (v := .int (gm_11 0 2)) hx hb hts hiX10 hown hK hP 0 2 1 rfl rfl (by decide) rfl rfl rfl dX10_run_42 ?_
        refine lv_icmp_ge (tgt := 126) hx hb dX10_run_45 (by decide) (fun hc => ?_) (fun hc => ?_)
        · replace hf := zIf_t hc hf
          cases hf
          exact hE39_126 v9 gm_11 hzz.symm H locs ls hP hD hS (lv_sub hl [0, 1, 3, 4] rfl)
        · replace hf := zIf_f hc hf
          refine lv_aload_n hx hb dX10_run_48 rfl (lv_at hl 0 rfl) ?_
          refine lv_iload hx hb dX10_run_49 (lv_at hl 5 rfl) ?_
          refine lv_iload hx hb dX10_run_51 (lv_at hl 3 rfl) ?_
          obtain ⟨v14, hc53, hf⟩ := zB1_ok hf
          refine zCallVEI [.int v10, .int v5] ⟨hx, hb, hml, hown, hts⟩ (pX10_isOpen l D T X hgm H.size gm_11 gml v10 v5 v14 hc53) (cwV 2 hts gX10_run_X10_isOpen rfl rfl rfl (by decide +kernel) ⟨Nat.le_of_ble_eq_true rfl, Nat.le_of_ble_eq_true rfl⟩) hK hP hD hS hA hX 0 rfl rfl rfl hl.1 rfl (Nat.le_of_ble_eq_true rfl) dX10_run_53 ⟨Nat.zero_le _, Nat.zero_le _⟩ (fun H locs hP hD hS => ?_)
          have hJ120 : ∀ (v15 : Int32) (gm_16 : zM) (H : Heap) (locs : List Loc) (ls : Array Slot), fX10_run_L39J120 v10 v15 gm_16 = some z → va_P D vwCl (wX10 T hgm gm_16 gml) H → va_D A (wX10 T hgm gm_16 gml) → va_S A s.heap H locs → lv_has ls 7 [(0, .ref (hgm 0)), (2, .int a2), (3, .int v4), (4, .int v5), (5, .int v15), (6, .int v10)] → W p l e rX10_run s m args below meth c H locs 0 0 Q (F0 m 120 ls []) := by
            intro v15 gm_16 H locs ls hf hP hD hS hl
            unfold fX10_run_L39J120 at hf
            obtain ⟨v17, ev17⟩ : ∃ y : Int32, y = v10 + 1 := ⟨_, rfl⟩
            replace hf := zLt_at ev17 hf
            refine lv_iinc (v := v17) (lv' := [(6, .int v17), (0, .ref (hgm 0)), (2, .int a2), (3, .int v4), (4, .int v5), (5, .int v15)]) hx hb dX10_run_120 hl (k := 5) rfl (by rw [ev17]; rfl) (by decide) rfl (fun ls hl => ?_)
            refine lv_goto (tgt := 39) hx hb dX10_run_123 (by decide) ?_
            cases hf
            exact hzz H locs ls hP hD hS (lv_sub hl [1, 2, 3, 4, 5, 0] rfl)
          refine lv_if_eq (tgt := 120) hx hb dX10_run_56 (by decide) (fun hc => ?_) (fun hc => ?_)
          · replace hf := zIf_t hc hf
            exact hJ120 v9 gm_11 H locs ls hf hP hD hS hl
          · replace hf := zIf_f hc hf
            refine lv_aload_n hx hb dX10_run_59 rfl (lv_at hl 0 rfl) ?_
            refine lv_iload hx hb dX10_run_60 (lv_at hl 5 rfl) ?_
            refine lv_iload_n hx hb dX10_run_62 rfl (lv_at hl 2 rfl) ?_
            obtain ⟨v18, hc63, hf⟩ := zB1_ok hf
            refine zCallVEI [.int v10, .int v4] ⟨hx, hb, hml, hown, hts⟩ (pX10_inSet l D T X hgm H.size gm_11 gml v10 v4 v18 hc63) (cwV 2 hts gX10_run_X10_inSet rfl rfl rfl (by decide +kernel) ⟨Nat.le_of_ble_eq_true rfl, Nat.le_of_ble_eq_true rfl⟩) hK hP hD hS hA hX 0 rfl rfl rfl hl.1 rfl (Nat.le_of_ble_eq_true rfl) dX10_run_63 ⟨Nat.zero_le _, Nat.zero_le _⟩ (fun H locs hP hD hS => ?_)
            refine lv_iconst (v := 1) hx hb dX10_run_66 (by decide) ?_
            refine lv_icmp_ne (tgt := 120) hx hb dX10_run_67 (by decide) (fun hc => ?_) (fun hc => ?_)
            · replace hf := zIf_f hc hf
              exact hJ120 v9 gm_11 H locs ls hf hP hD hS hl
            · replace hf := zIf_t hc hf
              refine lv_aload_n hx hb dX10_run_70 rfl (lv_at hl 0 rfl) ?_
              refine lv_aload_n hx hb dX10_run_71 rfl (lv_at hl 0 rfl) ?_
              refine zGet (ci := 10) (C := RX10) (F := TX10) (N := 54) (v := .int (gm_11 0 7)) hx hb hts hiX10 hown hK hP 0 7 2 rfl rfl (by decide) rfl rfl rfl dX10_run_72 ?_
              refine lv_ldcw (v := 1103515245) hx hb hown (hts _ (List.mem_of_getElem? (i := 3) rfl)) dX10_run_75 ?_
              refine lv_imul hx hb dX10_run_78 ?_
              refine lv_sipush (v := 12345) hx hb dX10_run_79 (by decide) ?_
              refine lv_iadd hx hb dX10_run_82 ?_
              refine lv_topi (fun v19 ev19 => ?_)
              replace hf := zLt_at ev19 hf
              refine zPut (ci := 10) (C := RX10) (F := TX10) (N := 54) (x := v19) (w := gm_11) hx hb hts hiX10 tyX10 tyX10_ok nmX10 hown hK hP hD hS (fun g => wX10 T hgm g gml) 0 7 2 rfl rfl (by decide) rfl rfl rfl ⟨rfl, rfl⟩ (Nat.le_of_ble_eq_true rfl) rfl dX10_run_83 (fun gm_20 egm_20 H locs hP hD hS => ?_)
              replace hP : va_P D vwCl (wX10 T hgm gm_20 gml) H := hP
              replace hD : va_D A (wX10 T hgm gm_20 gml) := hD
              replace hf := zLt_at egm_20 hf
              refine lv_iload hx hb dX10_run_86 (lv_at hl 4 rfl) ?_
              refine lv_aload_n hx hb dX10_run_88 rfl (lv_at hl 0 rfl) ?_
              refine zGet (ci := 10) (C := RX10) (F := TX10) (N := 54) (v := .int (gm_20 0 7)) hx hb hts hiX10 hown hK hP 0 7 2 rfl rfl (by decide) rfl rfl rfl dX10_run_89 ?_
              refine lv_bipush (v := 16) hx hb dX10_run_92 (by decide) ?_
              refine lv_iushr hx hb dX10_run_94 rfl ?_
              refine lv_iconst (v := 4) hx hb dX10_run_95 (by decide) ?_
              refine lv_irem hx hb dX10_run_96 (by decide) ?_
              refine lv_aload_n hx hb dX10_run_97 rfl (lv_at hl 0 rfl) ?_
              refine lv_iload hx hb dX10_run_98 (lv_at hl 5 rfl) ?_
              refine lv_iconst (v := 3) hx hb dX10_run_100 (by decide) ?_
              obtain ⟨v21, hc101, hf⟩ := zB1_ok hf
              refine zCallVEI [.int v10, .int 3] ⟨hx, hb, hml, hown, hts⟩ (pX10_its l D T X hgm H.size gm_20 gml v10 3 v21 hc101) (cwV 2 hts gX10_run_X10_its rfl rfl rfl (by decide +kernel) ⟨Nat.le_of_ble_eq_true rfl, Nat.le_of_ble_eq_true rfl⟩) hK hP hD hS hA hX 0 rfl rfl rfl hl.1 rfl (Nat.le_of_ble_eq_true rfl) dX10_run_101 ⟨Nat.zero_le _, Nat.zero_le _⟩ (fun H locs hP hD hS => ?_)
              have hJ117 : ∀ (v22 : Int32) (v23 : Int32) (H : Heap) (locs : List Loc) (ls : Array Slot), fX10_run_L39J117 v10 gm_20 v22 v23 = some z → va_P D vwCl (wX10 T hgm gm_20 gml) H → va_D A (wX10 T hgm gm_20 gml) → va_S A s.heap H locs → lv_has ls 7 [(0, .ref (hgm 0)), (2, .int a2), (3, .int v4), (4, .int v5), (6, .int v10)] → W p l e rX10_run s m args below meth c H locs 0 0 Q (F0 m 117 ls [.int v22, .int v23]) := by
                intro v22 v23 H locs ls hf hP hD hS hl
                unfold fX10_run_L39J117 at hf
                refine lv_ior hx hb dX10_run_117 ?_
                refine lv_topi (fun v24 ev24 => ?_)
                replace hf := zLt_at ev24 hf
                refine lv_istore (lv' := [(5, .int v24), (0, .ref (hgm 0)), (2, .int a2), (3, .int v4), (4, .int v5), (6, .int v10)]) hx hb dX10_run_118 hl (by decide) rfl (fun ls hl => ?_)
                exact hJ120 v24 gm_20 H locs ls hf hP hD hS (lv_sub hl [1, 2, 3, 4, 0, 5] rfl)
              refine lv_icmp_ge (tgt := 116) hx hb dX10_run_104 (by decide) (fun hc => ?_) (fun hc => ?_)
              · replace hf := zIf_t hc hf
                refine lv_iconst (v := 0) hx hb dX10_run_116 (by decide) ?_
                exact hJ117 0 v9 H locs ls hf hP hD hS (lv_sub hl [0, 1, 2, 3, 5] rfl)
              · replace hf := zIf_f hc hf
                refine lv_aload_n hx hb dX10_run_107 rfl (lv_at hl 0 rfl) ?_
                refine lv_iload hx hb dX10_run_108 (lv_at hl 5 rfl) ?_
                obtain ⟨v25, hc110, hf⟩ := zB1_ok hf
                refine zCallVEI [.int v10] ⟨hx, hb, hml, hown, hts⟩ (pX10_ends l D T X hgm H.size gm_20 gml v10 v25 hc110) (cwV 1 hts gX10_run_X10_ends rfl rfl rfl (by decide +kernel) ⟨Nat.le_of_ble_eq_true rfl, Nat.le_of_ble_eq_true rfl⟩) hK hP hD hS hA hX 0 rfl rfl rfl hl.1 rfl (Nat.le_of_ble_eq_true rfl) dX10_run_110 ⟨Nat.zero_le _, Nat.zero_le _⟩ (fun H locs hP hD hS => ?_)
                refine lv_goto (tgt := 117) hx hb dX10_run_113 (by decide) ?_
                exact hJ117 v25 v9 H locs ls hf hP hD hS (lv_sub hl [0, 1, 2, 3, 5] rfl)
    · replace hf := zIf_t hc hf
      refine lv_iconst (v := (-1)) hx hb dX10_run_18 (by decide) ?_
      obtain ⟨q1, q2⟩ := zI2 hf
      subst q1
      subst q2
      exact zRetI hQ hx hb hr hlocks hA0 hK hP hD hS rfl dX10_run_19
set_option maxHeartbeats 4000000 in
set_option maxRecDepth 100000 in
theorem pX10_tells (l : Launch) (D : va_G) (T : Nat → ClassId) (X : zFP) (hgm : Nat → Nat) (sz : Nat) (gm : zM) (gml : zL) (a1 : Int32) (a2 : Int32) (r : Int32) (hf : fX10_tells gm gml a1 a2 = some r) : Met l yX10_tells wsX10_tells rX10_tells (zPre D T X [.ref (hgm 0), .int a1, .int a2] (wX10 T hgm gm gml) sz) (zQi D T r (wX10 T hgm gm gml) (wX10 T hgm gm gml) sz) 0 0 (va_A (wX10 T hgm gm gml) sz) := by
  unfold fX10_tells at hf
  refine zStart [(0, .ref (hgm 0)), (1, .int a1), (2, .int a2)] (by decide) rfl (Nat.le_of_ble_eq_true rfl) rfl ?_
  intro p e s m args below meth c A Q ls hx hb hr hml hown hlocks hts hsz hA0 hQ hA hK hX hP hD hS hl
  replace hown : s.vm.findClass RX10 = some m.cls := hown
  have hH := hsz
  have hiX10 : ∀ w ∈ u_ws RX10 TX10 54, w ∈ wsX10_tells := fun w h => List.mem_cons_of_mem _ (List.mem_append_right _ (h))
  obtain ⟨H, hHe⟩ : ∃ H : Heap, H = s.heap := ⟨_, rfl⟩
  obtain ⟨locs, hLe⟩ : ∃ L : List Loc, L = [] := ⟨_, rfl⟩
  replace hP : va_P D vwCl (wX10 T hgm gm gml) H := by rw [hHe]; exact hP
  replace hS : va_S A s.heap H locs := by rw [hHe, hLe]; exact hS
  suffices hgo : W p l e rX10_tells s m args below meth c H locs 0 0 Q (F0 m 0 ls []) by rw [hHe, hLe] at hgo; exact hgo
  clear hHe hLe
  refine lv_iload_n hx hb dX10_tells_0 rfl (lv_at hl 1 rfl) ?_
  refine lv_istore_n (lv' := [(3, .int a1), (0, .ref (hgm 0)), (1, .int a1), (2, .int a2)]) hx hb dX10_tells_1 rfl hl (by decide) rfl (fun ls hl => ?_)
  refine lv_iconst (v := 0) hx hb dX10_tells_2 (by decide) ?_
  refine lv_istore (lv' := [(4, .int 0), (3, .int a1), (0, .ref (hgm 0)), (1, .int a1), (2, .int a2)]) hx hb dX10_tells_3 hl (by decide) rfl (fun ls hl => ?_)
  obtain ⟨ex, hlp, hf⟩ := zB1_ok hf
  have hE5_44 : ∀ (v3 : Int32) , ex = v3 → ∀ (H : Heap) (locs : List Loc) (ls : Array Slot), va_P D vwCl (wX10 T hgm gm gml) H → va_D A (wX10 T hgm gm gml) → va_S A s.heap H locs → lv_has ls 5 [(2, .int a2), (3, .int v3)] → W p l e rX10_tells s m args below meth c H locs 0 0 Q (F0 m 44 ls []) := by
    intro v3 hex H locs ls hP hD hS hl
    have hf := zEx1 hex hf
    refine lv_iload_n hx hb dX10_tells_44 rfl (lv_at hl 1 rfl) ?_
    refine lv_iload_n hx hb dX10_tells_45 rfl (lv_at hl 0 rfl) ?_
    refine lv_iconst (v := (-1)) hx hb dX10_tells_46 (by decide) ?_
    refine lv_ixor hx hb dX10_tells_47 ?_
    refine lv_iand hx hb dX10_tells_48 ?_
    obtain ⟨q1, -⟩ := zI1 hf
    subst q1
    exact zRetI hQ hx hb hr hlocks hA0 hK hP hD hS rfl dX10_tells_49
  refine zLpS2 (body := (fX10_tells_L5 a1 gm)) (b := ex) (fun (v1 : Int32) (v2 : Int32) => ∀ (H : Heap) (locs : List Loc) (ls : Array Slot), va_P D vwCl (wX10 T hgm gm gml) H → va_D A (wX10 T hgm gm gml) → va_S A s.heap H locs → lv_has ls 5 [(0, .ref (hgm 0)), (1, .int a1), (2, .int a2), (3, .int v1), (4, .int v2)] → W p l e rX10_tells s m args below meth c H locs 0 0 Q (F0 m 5 ls [])) ?_ zFU a1 0 hlp H locs ls hP hD hS (lv_sub hl [2, 3, 4, 1, 0] rfl)
  intro v1 v2 z hf hzz H locs ls hP hD hS hl
  unfold fX10_tells_L5 at hf
  replace hf := zUk2 hf
  refine lv_iload hx hb dX10_tells_5 (lv_at hl 4 rfl) ?_
  refine lv_aload_n hx hb dX10_tells_7 rfl (lv_at hl 0 rfl) ?_
  refine zGet (ci := 10) (C := RX10) (F := TX10) (N := 54) (v := .int (gm 0 0)) hx hb hts hiX10 hown hK hP 0 0 1 rfl rfl (by decide) rfl rfl rfl dX10_tells_8 ?_
  refine lv_icmp_ge (tgt := 44) hx hb dX10_tells_11 (by decide) (fun hc => ?_) (fun hc => ?_)
  · replace hf := zIf_t hc hf
    cases hf
    exact hE5_44 v1 hzz.symm H locs ls hP hD hS (lv_sub hl [2, 3] rfl)
  · replace hf := zIf_f hc hf
    refine lv_iload_n hx hb dX10_tells_14 rfl (lv_at hl 3 rfl) ?_
    refine lv_iload_n hx hb dX10_tells_15 rfl (lv_at hl 1 rfl) ?_
    refine lv_iload hx hb dX10_tells_16 (lv_at hl 4 rfl) ?_
    refine lv_ishr hx hb dX10_tells_18 ?_
    refine lv_iconst (v := 1) hx hb dX10_tells_19 (by decide) ?_
    refine lv_iand hx hb dX10_tells_20 ?_
    refine lv_iconst (v := 1) hx hb dX10_tells_21 (by decide) ?_
    have hJ36 : ∀ (v4 : Int32) (v5 : Int32) (H : Heap) (locs : List Loc) (ls : Array Slot), fX10_tells_L5J36 v2 v4 v5 = some z → va_P D vwCl (wX10 T hgm gm gml) H → va_D A (wX10 T hgm gm gml) → va_S A s.heap H locs → lv_has ls 5 [(0, .ref (hgm 0)), (1, .int a1), (2, .int a2), (4, .int v2)] → W p l e rX10_tells s m args below meth c H locs 0 0 Q (F0 m 36 ls [.int v4, .int v5]) := by
      intro v4 v5 H locs ls hf hP hD hS hl
      unfold fX10_tells_L5J36 at hf
      refine lv_ior hx hb dX10_tells_36 ?_
      refine lv_topi (fun v6 ev6 => ?_)
      replace hf := zLt_at ev6 hf
      refine lv_istore_n (lv' := [(3, .int v6), (0, .ref (hgm 0)), (1, .int a1), (2, .int a2), (4, .int v2)]) hx hb dX10_tells_37 rfl hl (by decide) rfl (fun ls hl => ?_)
      obtain ⟨v7, ev7⟩ : ∃ y : Int32, y = v2 + 1 := ⟨_, rfl⟩
      replace hf := zLt_at ev7 hf
      refine lv_iinc (v := v7) (lv' := [(4, .int v7), (3, .int v6), (0, .ref (hgm 0)), (1, .int a1), (2, .int a2)]) hx hb dX10_tells_38 hl (k := 4) rfl (by rw [ev7]; rfl) (by decide) rfl (fun ls hl => ?_)
      refine lv_goto (tgt := 5) hx hb dX10_tells_41 (by decide) ?_
      cases hf
      exact hzz H locs ls hP hD hS (lv_sub hl [2, 3, 4, 1, 0] rfl)
    refine lv_icmp_ne (tgt := 35) hx hb dX10_tells_22 (by decide) (fun hc => ?_) (fun hc => ?_)
    · replace hf := zIf_f hc hf
      refine lv_iconst (v := 0) hx hb dX10_tells_35 (by decide) ?_
      exact hJ36 0 v1 H locs ls hf hP hD hS (lv_sub hl [0, 1, 2, 4] rfl)
    · replace hf := zIf_t hc hf
      refine lv_aload_n hx hb dX10_tells_25 rfl (lv_at hl 0 rfl) ?_
      refine zGet (ci := 10) (C := RX10) (F := TX10) (N := 54) (v := .ref (hgm 15)) hx hb hts hiX10 hown hK hP 0 34 2 rfl rfl (by decide) rfl rfl rfl dX10_tells_26 ?_
      refine lv_iload hx hb dX10_tells_29 (lv_at hl 4 rfl) ?_
      obtain ⟨hg, hf⟩ := zGd_ok hf
      refine zAldI hx hb hK hP 15 rfl hg dX10_tells_31 (fun v8 ev8 => ?_)
      replace hf := zLt_at ev8 hf
      refine lv_goto (tgt := 36) hx hb dX10_tells_32 (by decide) ?_
      exact hJ36 v8 v1 H locs ls hf hP hD hS (lv_sub hl [0, 1, 2, 4] rfl)
set_option maxHeartbeats 4000000 in
set_option maxRecDepth 100000 in
theorem pX10_guards (l : Launch) (D : va_G) (T : Nat → ClassId) (X : zFP) (hgm : Nat → Nat) (sz : Nat) (gm : zM) (gml : zL) (a1 : Int32) (a2 : Int32) (r : Int32) (ngm : zM) (hf : fX10_guards gm gml a1 a2 = some (r, ngm)) : Met l yX10_guards wsX10_guards rX10_guards (zPre D T X [.ref (hgm 0), .int a1, .int a2] (wX10 T hgm gm gml) sz) (zQi D T r (wX10 T hgm ngm gml) (wX10 T hgm gm gml) sz) 0 0 (va_A (wX10 T hgm gm gml) sz) := by
  unfold fX10_guards at hf
  refine zStart [(0, .ref (hgm 0)), (1, .int a1), (2, .int a2)] (by decide) rfl (Nat.le_of_ble_eq_true rfl) rfl ?_
  intro p e s m args below meth c A Q ls hx hb hr hml hown hlocks hts hsz hA0 hQ hA hK hX hP hD hS hl
  replace hown : s.vm.findClass RX10 = some m.cls := hown
  have hH := hsz
  have hiX10 : ∀ w ∈ u_ws RX10 TX10 54, w ∈ wsX10_guards := fun w h => List.mem_cons_of_mem _ (List.mem_append_right _ (h))
  obtain ⟨H, hHe⟩ : ∃ H : Heap, H = s.heap := ⟨_, rfl⟩
  obtain ⟨locs, hLe⟩ : ∃ L : List Loc, L = [] := ⟨_, rfl⟩
  replace hP : va_P D vwCl (wX10 T hgm gm gml) H := by rw [hHe]; exact hP
  replace hS : va_S A s.heap H locs := by rw [hHe, hLe]; exact hS
  suffices hgo : W p l e rX10_guards s m args below meth c H locs 0 0 Q (F0 m 0 ls []) by rw [hHe, hLe] at hgo; exact hgo
  clear hHe hLe
  refine lv_aload_n hx hb dX10_guards_0 rfl (lv_at hl 0 rfl) ?_
  refine lv_iload_n hx hb dX10_guards_1 rfl (lv_at hl 1 rfl) ?_
  obtain ⟨v1, hc2, hf⟩ := zB1_ok hf
  refine zCallVEI [.int a1] ⟨hx, hb, hml, hown, hts⟩ (pX10_isPerson l D T X hgm H.size gm gml a1 v1 hc2) (cwV 1 hts gX10_guards_X10_isPerson rfl rfl rfl (by decide +kernel) ⟨Nat.le_of_ble_eq_true rfl, Nat.le_of_ble_eq_true rfl⟩) hK hP hD hS hA hX 0 rfl rfl rfl hl.1 rfl (Nat.le_of_ble_eq_true rfl) dX10_guards_2 ⟨Nat.zero_le _, Nat.zero_le _⟩ (fun H locs hP hD hS => ?_)
  refine lv_if_eq (tgt := 15) hx hb dX10_guards_5 (by decide) (fun hc => ?_) (fun hc => ?_)
  · replace hf := zIf_t hc hf
    refine lv_iconst (v := (-1)) hx hb dX10_guards_15 (by decide) ?_
    obtain ⟨q1, q2⟩ := zI2 hf
    subst q1
    subst q2
    exact zRetI hQ hx hb hr hlocks hA0 hK hP hD hS rfl dX10_guards_16
  · replace hf := zIf_f hc hf
    refine lv_iload_n hx hb dX10_guards_8 rfl (lv_at hl 2 rfl) ?_
    obtain ⟨v2, hc9, hf⟩ := zB1_ok hf
    refine zCallS0I [.int a2] ⟨hx, hb, hml, hown, hts⟩ (pX10_isSide l D T X H.size a2 v2 hc9) (va_cwS 1 hts gX10_guards_X10_isSide rfl rfl rfl (by decide +kernel) ⟨Nat.le_of_ble_eq_true rfl, Nat.le_of_ble_eq_true rfl⟩) hK hP hD hS hA hX rfl hl.1 rfl (Nat.le_of_ble_eq_true rfl) dX10_guards_9 ⟨Nat.zero_le _, Nat.zero_le _⟩ (fun H locs hP hD hS => ?_)
    refine lv_if_ne (tgt := 17) hx hb dX10_guards_12 (by decide) (fun hc => ?_) (fun hc => ?_)
    · replace hf := zIf_f hc hf
      refine lv_aload_n hx hb dX10_guards_17 rfl (lv_at hl 0 rfl) ?_
      refine zGet (ci := 10) (C := RX10) (F := TX10) (N := 54) (v := .int (gm 0 0)) hx hb hts hiX10 hown hK hP 0 0 1 rfl rfl (by decide) rfl rfl rfl dX10_guards_18 ?_
      refine lv_bipush (v := 8) hx hb dX10_guards_21 (by decide) ?_
      refine lv_icmp_le (tgt := 29) hx hb dX10_guards_23 (by decide) (fun hc => ?_) (fun hc => ?_)
      · replace hf := zIf_t hc hf
        refine lv_aload_n hx hb dX10_guards_29 rfl (lv_at hl 0 rfl) ?_
        refine lv_iconst (v := 0) hx hb dX10_guards_30 (by decide) ?_
        obtain ⟨v3, hc31, hf⟩ := zB1_ok hf
        refine zCallVEI [.int 0] ⟨hx, hb, hml, hown, hts⟩ (pX10_openOn l D T X hgm H.size gm gml 0 v3 hc31) (cwV 1 hts gX10_guards_X10_openOn rfl rfl rfl (by decide +kernel) ⟨Nat.le_of_ble_eq_true rfl, Nat.le_of_ble_eq_true rfl⟩) hK hP hD hS hA hX 0 rfl rfl rfl hl.1 rfl (Nat.le_of_ble_eq_true rfl) dX10_guards_31 ⟨Nat.zero_le _, Nat.zero_le _⟩ (fun H locs hP hD hS => ?_)
        refine lv_istore_n (lv' := [(3, .int v3), (0, .ref (hgm 0)), (1, .int a1), (2, .int a2)]) hx hb dX10_guards_34 rfl hl (by decide) rfl (fun ls hl => ?_)
        refine lv_iconst (v := 0) hx hb dX10_guards_35 (by decide) ?_
        refine lv_istore (lv' := [(4, .int 0), (3, .int v3), (0, .ref (hgm 0)), (1, .int a1), (2, .int a2)]) hx hb dX10_guards_36 hl (by decide) rfl (fun ls hl => ?_)
        obtain ⟨ex, hlp, hf⟩ := zB1_ok hf
        have hE38_69 : ∀ (gm_6 : zM) , ex = gm_6 → ∀ (H : Heap) (locs : List Loc) (ls : Array Slot), va_P D vwCl (wX10 T hgm gm_6 gml) H → va_D A (wX10 T hgm gm_6 gml) → va_S A s.heap H locs → lv_has ls 12 [(0, .ref (hgm 0)), (1, .int a1), (2, .int a2)] → W p l e rX10_guards s m args below meth c H locs 0 0 Q (F0 m 69 ls []) := by
          intro gm_6 hex H locs ls hP hD hS hl
          have hf := zEx1 hex hf
          refine lv_bipush (v := (-9)) hx hb dX10_guards_69 (by decide) ?_
          refine lv_istore (lv' := [(4, .int (-9)), (0, .ref (hgm 0)), (1, .int a1), (2, .int a2)]) hx hb dX10_guards_71 hl (by decide) rfl (fun ls hl => ?_)
          refine lv_aload_n hx hb dX10_guards_73 rfl (lv_at hl 1 rfl) ?_
          obtain ⟨v10, hc74, hf⟩ := zB1_ok hf
          refine zCallVEI [] ⟨hx, hb, hml, hown, hts⟩ (pX10_all l D T X hgm H.size gm_6 gml v10 hc74) (cwV 0 hts gX10_guards_X10_all rfl rfl rfl (by decide +kernel) ⟨Nat.le_of_ble_eq_true rfl, Nat.le_of_ble_eq_true rfl⟩) hK hP hD hS hA hX 0 rfl rfl rfl hl.1 rfl (Nat.le_of_ble_eq_true rfl) dX10_guards_74 ⟨Nat.zero_le _, Nat.zero_le _⟩ (fun H locs hP hD hS => ?_)
          refine lv_istore (lv' := [(5, .int v10), (4, .int (-9)), (0, .ref (hgm 0)), (1, .int a1), (2, .int a2)]) hx hb dX10_guards_77 hl (by decide) rfl (fun ls hl => ?_)
          obtain ⟨ex, hlp, hf⟩ := zB1_ok hf
          have hE79_278 : ∀ (v14 : Int32) (gm_15 : zM) , ex = (v14, gm_15) → ∀ (H : Heap) (locs : List Loc) (ls : Array Slot), va_P D vwCl (wX10 T hgm gm_15 gml) H → va_D A (wX10 T hgm gm_15 gml) → va_S A s.heap H locs → lv_has ls 12 [(0, .ref (hgm 0)), (1, .int a1), (2, .int a2), (4, .int v14)] → W p l e rX10_guards s m args below meth c H locs 0 0 Q (F0 m 278 ls []) := by
            intro v14 gm_15 hex H locs ls hP hD hS hl
            have hf := zEx2 hex hf
            refine lv_iload_n hx hb dX10_guards_278 rfl (lv_at hl 2 rfl) ?_
            refine lv_if_ne (tgt := 293) hx hb dX10_guards_279 (by decide) (fun hc => ?_) (fun hc => ?_)
            · replace hf := zIf_f hc hf
              refine lv_iload hx hb dX10_guards_293 (lv_at hl 3 rfl) ?_
              obtain ⟨q1, q2⟩ := zI2 hf
              subst q1
              subst q2
              exact zRetI hQ hx hb hr hlocks hA0 hK hP hD hS rfl dX10_guards_295
            · replace hf := zIf_t hc hf
              refine lv_aload_n hx hb dX10_guards_282 rfl (lv_at hl 0 rfl) ?_
              refine zGet (ci := 10) (C := RX10) (F := TX10) (N := 54) (v := .ref (hgm 14)) hx hb hts hiX10 hown hK hP 0 33 3 rfl rfl (by decide) rfl rfl rfl dX10_guards_283 ?_
              refine lv_iconst (v := 1) hx hb dX10_guards_286 (by decide) ?_
              refine lv_iload_n hx hb dX10_guards_287 rfl (lv_at hl 1 rfl) ?_
              refine lv_ishl hx hb dX10_guards_288 ?_
              obtain ⟨hg, hf⟩ := zGd_ok hf
              refine zAldI hx hb hK hP 14 rfl hg dX10_guards_289 (fun v43 ev43 => ?_)
              replace hf := zLt_at ev43 hf
              refine lv_goto (tgt := 295) hx hb dX10_guards_290 (by decide) ?_
              obtain ⟨q1, q2⟩ := zI2 hf
              subst q1
              subst q2
              exact zRetI hQ hx hb hr hlocks hA0 hK hP hD hS rfl dX10_guards_295
          refine zLpS3 (body := (fX10_guards_L79 a1 gml)) (b := ex) (fun (v11 : Int32) (v12 : Int32) (gm_13 : zM) => ∀ (H : Heap) (locs : List Loc) (ls : Array Slot), va_P D vwCl (wX10 T hgm gm_13 gml) H → va_D A (wX10 T hgm gm_13 gml) → va_S A s.heap H locs → lv_has ls 12 [(0, .ref (hgm 0)), (1, .int a1), (2, .int a2), (4, .int v11), (5, .int v12)] → W p l e rX10_guards s m args below meth c H locs 0 0 Q (F0 m 79 ls [])) ?_ zFU (-9) v10 gm_6 hlp H locs ls hP hD hS (lv_sub hl [2, 3, 4, 1, 0] rfl)
          intro v11 v12 gm_13 z hf hzz H locs ls hP hD hS hl
          unfold fX10_guards_L79 at hf
          replace hf := zUk3 hf
          refine lv_iload hx hb dX10_guards_79 (lv_at hl 4 rfl) ?_
          refine lv_if_lt (tgt := 278) hx hb dX10_guards_81 (by decide) (fun hc => ?_) (fun hc => ?_)
          · replace hf := zIf_t hc hf
            cases hf
            exact hE79_278 v11 gm_13 hzz.symm H locs ls hP hD hS (lv_sub hl [0, 1, 2, 3] rfl)
          · replace hf := zIf_f hc hf
            refine lv_iconst (v := 0) hx hb dX10_guards_84 (by decide) ?_
            refine lv_istore (lv' := [(6, .int 0), (0, .ref (hgm 0)), (1, .int a1), (2, .int a2), (4, .int v11), (5, .int v12)]) hx hb dX10_guards_85 hl (by decide) rfl (fun ls hl => ?_)
            obtain ⟨ex, hlp, hf⟩ := zB1_ok hf
            have hE87_272 : ∀ (v19 : Int32) (gm_20 : zM) , ex = (v19, gm_20) → ∀ (H : Heap) (locs : List Loc) (ls : Array Slot), va_P D vwCl (wX10 T hgm gm_20 gml) H → va_D A (wX10 T hgm gm_20 gml) → va_S A s.heap H locs → lv_has ls 12 [(0, .ref (hgm 0)), (1, .int a1), (2, .int a2), (4, .int v19), (5, .int v12)] → W p l e rX10_guards s m args below meth c H locs 0 0 Q (F0 m 272 ls []) := by
              intro v19 gm_20 hex H locs ls hP hD hS hl
              have hf := zEx2 hex hf
              obtain ⟨v42, ev42⟩ : ∃ y : Int32, y = v12 + (-1) := ⟨_, rfl⟩
              replace hf := zLt_at ev42 hf
              refine lv_iinc (v := v42) (lv' := [(5, .int v42), (0, .ref (hgm 0)), (1, .int a1), (2, .int a2), (4, .int v19)]) hx hb dX10_guards_272 hl (k := 4) rfl (by rw [ev42]; rfl) (by decide) rfl (fun ls hl => ?_)
              refine lv_goto (tgt := 79) hx hb dX10_guards_275 (by decide) ?_
              cases hf
              exact hzz H locs ls hP hD hS (lv_sub hl [1, 2, 3, 4, 0] rfl)
            refine zLpS3 (body := (fX10_guards_L87 a1 gml v12)) (b := ex) (fun (v16 : Int32) (v17 : Int32) (gm_18 : zM) => ∀ (H : Heap) (locs : List Loc) (ls : Array Slot), va_P D vwCl (wX10 T hgm gm_18 gml) H → va_D A (wX10 T hgm gm_18 gml) → va_S A s.heap H locs → lv_has ls 12 [(0, .ref (hgm 0)), (1, .int a1), (2, .int a2), (4, .int v16), (5, .int v12), (6, .int v17)] → W p l e rX10_guards s m args below meth c H locs 0 0 Q (F0 m 87 ls [])) ?_ zFU v11 0 gm_13 hlp H locs ls hP hD hS (lv_sub hl [1, 2, 3, 4, 5, 0] rfl)
            intro v16 v17 gm_18 z hf hzz H locs ls hP hD hS hl
            unfold fX10_guards_L87 at hf
            replace hf := zUk3 hf
            refine lv_iload hx hb dX10_guards_87 (lv_at hl 5 rfl) ?_
            refine lv_aload_n hx hb dX10_guards_89 rfl (lv_at hl 0 rfl) ?_
            obtain ⟨v21, hc90, hf⟩ := zB1_ok hf
            refine zCallVEI [] ⟨hx, hb, hml, hown, hts⟩ (pX10_all l D T X hgm H.size gm_18 gml v21 hc90) (cwV 0 hts gX10_guards_X10_all rfl rfl rfl (by decide +kernel) ⟨Nat.le_of_ble_eq_true rfl, Nat.le_of_ble_eq_true rfl⟩) hK hP hD hS hA hX 0 rfl rfl rfl hl.1 rfl (Nat.le_of_ble_eq_true rfl) dX10_guards_90 ⟨Nat.zero_le _, Nat.zero_le _⟩ (fun H locs hP hD hS => ?_)
            refine lv_icmp_gt (tgt := 272) hx hb dX10_guards_93 (by decide) (fun hc => ?_) (fun hc => ?_)
            · replace hf := zIf_t hc hf
              cases hf
              exact hE87_272 v16 gm_18 hzz.symm H locs ls hP hD hS (lv_sub hl [0, 1, 2, 3, 4] rfl)
            · replace hf := zIf_f hc hf
              refine lv_iload hx hb dX10_guards_96 (lv_at hl 5 rfl) ?_
              refine lv_iload hx hb dX10_guards_98 (lv_at hl 4 rfl) ?_
              refine lv_iand hx hb dX10_guards_100 ?_
              have hJ266 : ∀ (v22 : Int32) (gm_23 : zM) (H : Heap) (locs : List Loc) (ls : Array Slot), fX10_guards_L87J266 v17 v22 gm_23 = some z → va_P D vwCl (wX10 T hgm gm_23 gml) H → va_D A (wX10 T hgm gm_23 gml) → va_S A s.heap H locs → lv_has ls 12 [(0, .ref (hgm 0)), (1, .int a1), (2, .int a2), (4, .int v22), (5, .int v12), (6, .int v17)] → W p l e rX10_guards s m args below meth c H locs 0 0 Q (F0 m 266 ls []) := by
                intro v22 gm_23 H locs ls hf hP hD hS hl
                unfold fX10_guards_L87J266 at hf
                obtain ⟨v24, ev24⟩ : ∃ y : Int32, y = v17 + 1 := ⟨_, rfl⟩
                replace hf := zLt_at ev24 hf
                refine lv_iinc (v := v24) (lv' := [(6, .int v24), (0, .ref (hgm 0)), (1, .int a1), (2, .int a2), (4, .int v22), (5, .int v12)]) hx hb dX10_guards_266 hl (k := 5) rfl (by rw [ev24]; rfl) (by decide) rfl (fun ls hl => ?_)
                refine lv_goto (tgt := 87) hx hb dX10_guards_269 (by decide) ?_
                cases hf
                exact hzz H locs ls hP hD hS (lv_sub hl [1, 2, 3, 4, 5, 0] rfl)
              refine lv_if_ne (tgt := 266) hx hb dX10_guards_101 (by decide) (fun hc => ?_) (fun hc => ?_)
              · replace hf := zIf_f hc hf
                exact hJ266 v16 gm_18 H locs ls hf hP hD hS hl
              · replace hf := zIf_t hc hf
                refine lv_iload hx hb dX10_guards_104 (lv_at hl 5 rfl) ?_
                refine lv_iload_n hx hb dX10_guards_106 rfl (lv_at hl 1 rfl) ?_
                refine lv_ishr hx hb dX10_guards_107 ?_
                refine lv_iconst (v := 1) hx hb dX10_guards_108 (by decide) ?_
                refine lv_iand hx hb dX10_guards_109 ?_
                refine lv_if_ne (tgt := 116) hx hb dX10_guards_110 (by decide) (fun hc => ?_) (fun hc => ?_)
                · replace hf := zIf_f hc hf
                  refine lv_iload hx hb dX10_guards_116 (lv_at hl 5 rfl) ?_
                  obtain ⟨v25, hc118, hf⟩ := zB1_ok hf
                  refine zCallS0I [.int v17] ⟨hx, hb, hml, hown, hts⟩ (pX10_ones l D T X H.size v17 v25 hc118) (va_cwS 1 hts gX10_guards_X10_ones rfl rfl rfl (by decide +kernel) ⟨Nat.le_of_ble_eq_true rfl, Nat.le_of_ble_eq_true rfl⟩) hK hP hD hS hA hX rfl hl.1 rfl (Nat.le_of_ble_eq_true rfl) dX10_guards_118 ⟨Nat.zero_le _, Nat.zero_le _⟩ (fun H locs hP hD hS => ?_)
                  refine lv_istore (lv' := [(7, .int v25), (0, .ref (hgm 0)), (1, .int a1), (2, .int a2), (4, .int v16), (5, .int v12), (6, .int v17)]) hx hb dX10_guards_121 hl (by decide) rfl (fun ls hl => ?_)
                  refine lv_bipush (v := (-9)) hx hb dX10_guards_123 (by decide) ?_
                  refine lv_istore (lv' := [(8, .int (-9)), (7, .int v25), (0, .ref (hgm 0)), (1, .int a1), (2, .int a2), (4, .int v16), (5, .int v12), (6, .int v17)]) hx hb dX10_guards_125 hl (by decide) rfl (fun ls hl => ?_)
                  refine lv_aload_n hx hb dX10_guards_127 rfl (lv_at hl 2 rfl) ?_
                  refine lv_iload hx hb dX10_guards_128 (lv_at hl 7 rfl) ?_
                  refine lv_iload hx hb dX10_guards_130 (lv_at hl 6 rfl) ?_
                  obtain ⟨v26, hc132, hf⟩ := zB1_ok hf
                  refine zCallVEI [.int v17, .int v12] ⟨hx, hb, hml, hown, hts⟩ (pX10_tells l D T X hgm H.size gm_18 gml v17 v12 v26 hc132) (cwV 2 hts gX10_guards_X10_tells rfl rfl rfl (by decide +kernel) ⟨Nat.le_of_ble_eq_true rfl, Nat.le_of_ble_eq_true rfl⟩) hK hP hD hS hA hX 0 rfl rfl rfl hl.1 rfl (Nat.le_of_ble_eq_true rfl) dX10_guards_132 ⟨Nat.zero_le _, Nat.zero_le _⟩ (fun H locs hP hD hS => ?_)
                  refine lv_iload hx hb dX10_guards_135 (lv_at hl 7 rfl) ?_
                  have hJ229 : ∀ (v27 : Int32) (v28 : Int32) (H : Heap) (locs : List Loc) (ls : Array Slot), fX10_guards_L87J229 a1 v12 v16 v17 gm_18 v27 v28 = some z → va_P D vwCl (wX10 T hgm gm_18 gml) H → va_D A (wX10 T hgm gm_18 gml) → va_S A s.heap H locs → lv_has ls 12 [(0, .ref (hgm 0)), (1, .int a1), (2, .int a2), (4, .int v16), (5, .int v12), (6, .int v17), (7, .int v27), (8, .int v28)] → W p l e rX10_guards s m args below meth c H locs 0 0 Q (F0 m 229 ls []) := by
                    intro v27 v28 H locs ls hf hP hD hS hl
                    unfold fX10_guards_L87J229 at hf
                    refine lv_aload_n hx hb dX10_guards_229 rfl (lv_at hl 0 rfl) ?_
                    refine zGet (ci := 10) (C := RX10) (F := TX10) (N := 54) (v := .ref (hgm 14)) hx hb hts hiX10 hown hK hP 0 33 3 rfl rfl (by decide) rfl rfl rfl dX10_guards_230 ?_
                    refine lv_iload hx hb dX10_guards_233 (lv_at hl 4 rfl) ?_
                    refine lv_bipush (v := 8) hx hb dX10_guards_235 (by decide) ?_
                    refine lv_ishl hx hb dX10_guards_237 ?_
                    refine lv_iload hx hb dX10_guards_238 (lv_at hl 5 rfl) ?_
                    refine lv_ior hx hb dX10_guards_240 ?_
                    refine lv_iload hx hb dX10_guards_241 (lv_at hl 6 rfl) ?_
                    obtain ⟨hg, hf⟩ := zGd_ok hf
                    refine zAstI (w := gm_18) hx hb hK hP hD hS (fun g => wX10 T hgm g gml) 14 14 rfl hg rfl dX10_guards_243 (fun gm_29 egm_29 H locs hP hD hS => ?_)
                    replace hP : va_P D vwCl (wX10 T hgm gm_29 gml) H := hP
                    replace hD : va_D A (wX10 T hgm gm_29 gml) := hD
                    replace hf := zLt_at egm_29 hf
                    refine lv_iload hx hb dX10_guards_244 (lv_at hl 4 rfl) ?_
                    have hJ264 : ∀ (v30 : Int32) (H : Heap) (locs : List Loc) (ls : Array Slot), fX10_guards_L87J264 v17 gm_29 v30 = some z → va_P D vwCl (wX10 T hgm gm_29 gml) H → va_D A (wX10 T hgm gm_29 gml) → va_S A s.heap H locs → lv_has ls 12 [(0, .ref (hgm 0)), (1, .int a1), (2, .int a2), (5, .int v12), (6, .int v17)] → W p l e rX10_guards s m args below meth c H locs 0 0 Q (F0 m 264 ls [.int v30]) := by
                      intro v30 H locs ls hf hP hD hS hl
                      unfold fX10_guards_L87J264 at hf
                      refine lv_istore (lv' := [(4, .int v30), (0, .ref (hgm 0)), (1, .int a1), (2, .int a2), (5, .int v12), (6, .int v17)]) hx hb dX10_guards_264 hl (by decide) rfl (fun ls hl => ?_)
                      exact hJ266 v30 gm_29 H locs ls hf hP hD hS (lv_sub hl [1, 2, 3, 0, 4, 5] rfl)
                    have hJ262 : ∀ (H : Heap) (locs : List Loc) (ls : Array Slot), fX10_guards_L87J262 v16 v17 gm_29 = some z → va_P D vwCl (wX10 T hgm gm_29 gml) H → va_D A (wX10 T hgm gm_29 gml) → va_S A s.heap H locs → lv_has ls 12 [(0, .ref (hgm 0)), (1, .int a1), (2, .int a2), (4, .int v16), (5, .int v12), (6, .int v17)] → W p l e rX10_guards s m args below meth c H locs 0 0 Q (F0 m 262 ls []) := by
                      intro H locs ls hf hP hD hS hl
                      unfold fX10_guards_L87J262 at hf
                      refine lv_iload hx hb dX10_guards_262 (lv_at hl 3 rfl) ?_
                      exact hJ264 v16 H locs ls hf hP hD hS (lv_sub hl [0, 1, 2, 4, 5] rfl)
                    refine lv_if_ne (tgt := 262) hx hb dX10_guards_246 (by decide) (fun hc => ?_) (fun hc => ?_)
                    · replace hf := zIf_f hc hf
                      exact hJ262 H locs ls hf hP hD hS (lv_sub hl [0, 1, 2, 3, 4, 5] rfl)
                    · replace hf := zIf_t hc hf
                      refine lv_iload hx hb dX10_guards_249 (lv_at hl 5 rfl) ?_
                      refine lv_iconst (v := 1) hx hb dX10_guards_251 (by decide) ?_
                      refine lv_iload_n hx hb dX10_guards_252 rfl (lv_at hl 1 rfl) ?_
                      refine lv_ishl hx hb dX10_guards_253 ?_
                      refine lv_icmp_ne (tgt := 262) hx hb dX10_guards_254 (by decide) (fun hc => ?_) (fun hc => ?_)
                      · replace hf := zIf_f hc hf
                        exact hJ262 H locs ls hf hP hD hS (lv_sub hl [0, 1, 2, 3, 4, 5] rfl)
                      · replace hf := zIf_t hc hf
                        refine lv_iload hx hb dX10_guards_257 (lv_at hl 7 rfl) ?_
                        refine lv_goto (tgt := 264) hx hb dX10_guards_259 (by decide) ?_
                        exact hJ264 v28 H locs ls hf hP hD hS (lv_sub hl [0, 1, 2, 4, 5] rfl)
                  refine lv_icmp_eq (tgt := 229) hx hb dX10_guards_137 (by decide) (fun hc => ?_) (fun hc => ?_)
                  · replace hf := zIf_t hc hf
                    exact hJ229 v25 (-9) H locs ls hf hP hD hS (lv_sub hl [2, 3, 4, 5, 6, 7, 1, 0] rfl)
                  · replace hf := zIf_f hc hf
                    refine lv_iconst (v := 0) hx hb dX10_guards_140 (by decide) ?_
                    refine lv_istore (lv' := [(9, .int 0), (8, .int (-9)), (7, .int v25), (0, .ref (hgm 0)), (1, .int a1), (2, .int a2), (4, .int v16), (5, .int v12), (6, .int v17)]) hx hb dX10_guards_141 hl (by decide) rfl (fun ls hl => ?_)
                    obtain ⟨ex, hlp, hf⟩ := zB1_ok hf
                    have hE143_229 : ∀ (v34 : Int32) (v35 : Int32) , ex = (v34, v35) → ∀ (H : Heap) (locs : List Loc) (ls : Array Slot), va_P D vwCl (wX10 T hgm gm_18 gml) H → va_D A (wX10 T hgm gm_18 gml) → va_S A s.heap H locs → lv_has ls 12 [(0, .ref (hgm 0)), (1, .int a1), (2, .int a2), (4, .int v16), (5, .int v12), (6, .int v17), (7, .int v34), (8, .int v35)] → W p l e rX10_guards s m args below meth c H locs 0 0 Q (F0 m 229 ls []) := by
                      intro v34 v35 hex H locs ls hP hD hS hl
                      have hf := zEx2 hex hf
                      exact hJ229 v34 v35 H locs ls hf hP hD hS hl
                    refine zLpS3 (body := (fX10_guards_L143 gml v12 v17 gm_18)) (b := ex) (fun (v31 : Int32) (v32 : Int32) (v33 : Int32) => ∀ (H : Heap) (locs : List Loc) (ls : Array Slot), va_P D vwCl (wX10 T hgm gm_18 gml) H → va_D A (wX10 T hgm gm_18 gml) → va_S A s.heap H locs → lv_has ls 12 [(0, .ref (hgm 0)), (1, .int a1), (2, .int a2), (4, .int v16), (5, .int v12), (6, .int v17), (7, .int v31), (8, .int v32), (9, .int v33)] → W p l e rX10_guards s m args below meth c H locs 0 0 Q (F0 m 143 ls [])) ?_ zFU v25 (-9) 0 hlp H locs ls hP hD hS (lv_sub hl [3, 4, 5, 6, 7, 8, 2, 1, 0] rfl)
                    intro v31 v32 v33 z hf hzz H locs ls hP hD hS hl
                    unfold fX10_guards_L143 at hf
                    replace hf := zUk3 hf
                    refine lv_iload hx hb dX10_guards_143 (lv_at hl 8 rfl) ?_
                    refine lv_aload_n hx hb dX10_guards_145 rfl (lv_at hl 0 rfl) ?_
                    refine zGet (ci := 10) (C := RX10) (F := TX10) (N := 54) (v := .int (gm_18 0 0)) hx hb hts hiX10 hown hK hP 0 0 1 rfl rfl (by decide) rfl rfl rfl dX10_guards_146 ?_
                    refine lv_icmp_ge (tgt := 229) hx hb dX10_guards_149 (by decide) (fun hc => ?_) (fun hc => ?_)
                    · replace hf := zIf_t hc hf
                      cases hf
                      exact hE143_229 v31 v32 hzz.symm H locs ls hP hD hS (lv_sub hl [0, 1, 2, 3, 4, 5, 6, 7] rfl)
                    · replace hf := zIf_f hc hf
                      refine lv_iload hx hb dX10_guards_152 (lv_at hl 4 rfl) ?_
                      refine lv_iconst (v := 1) hx hb dX10_guards_154 (by decide) ?_
                      refine lv_iload hx hb dX10_guards_155 (lv_at hl 8 rfl) ?_
                      refine lv_ishl hx hb dX10_guards_157 ?_
                      refine lv_ior hx hb dX10_guards_158 ?_
                      refine lv_topi (fun v36 ev36 => ?_)
                      replace hf := zLt_at ev36 hf
                      refine lv_istore (lv' := [(10, .int v36), (0, .ref (hgm 0)), (1, .int a1), (2, .int a2), (4, .int v16), (5, .int v12), (6, .int v17), (7, .int v31), (8, .int v32), (9, .int v33)]) hx hb dX10_guards_159 hl (by decide) rfl (fun ls hl => ?_)
                      refine lv_iload hx hb dX10_guards_161 (lv_at hl 0 rfl) ?_
                      refine lv_iload hx hb dX10_guards_163 (lv_at hl 5 rfl) ?_
                      have hJ223 : ∀ (v37 : Int32) (v38 : Int32) (H : Heap) (locs : List Loc) (ls : Array Slot), fX10_guards_L143J223 v33 v37 v38 = some z → va_P D vwCl (wX10 T hgm gm_18 gml) H → va_D A (wX10 T hgm gm_18 gml) → va_S A s.heap H locs → lv_has ls 12 [(0, .ref (hgm 0)), (1, .int a1), (2, .int a2), (4, .int v16), (5, .int v12), (6, .int v17), (7, .int v37), (8, .int v38), (9, .int v33)] → W p l e rX10_guards s m args below meth c H locs 0 0 Q (F0 m 223 ls []) := by
                        intro v37 v38 H locs ls hf hP hD hS hl
                        unfold fX10_guards_L143J223 at hf
                        obtain ⟨v39, ev39⟩ : ∃ y : Int32, y = v33 + 1 := ⟨_, rfl⟩
                        replace hf := zLt_at ev39 hf
                        refine lv_iinc (v := v39) (lv' := [(9, .int v39), (0, .ref (hgm 0)), (1, .int a1), (2, .int a2), (4, .int v16), (5, .int v12), (6, .int v17), (7, .int v37), (8, .int v38)]) hx hb dX10_guards_223 hl (k := 8) rfl (by rw [ev39]; rfl) (by decide) rfl (fun ls hl => ?_)
                        refine lv_goto (tgt := 143) hx hb dX10_guards_226 (by decide) ?_
                        cases hf
                        exact hzz H locs ls hP hD hS (lv_sub hl [1, 2, 3, 4, 5, 6, 7, 8, 0] rfl)
                      refine lv_icmp_eq (tgt := 223) hx hb dX10_guards_165 (by decide) (fun hc => ?_) (fun hc => ?_)
                      · replace hf := zIf_t hc hf
                        exact hJ223 v31 v32 H locs ls hf hP hD hS (lv_sub hl [1, 2, 3, 4, 5, 6, 7, 8, 9] rfl)
                      · replace hf := zIf_f hc hf
                        refine lv_iload hx hb dX10_guards_168 (lv_at hl 6 rfl) ?_
                        refine lv_iload hx hb dX10_guards_170 (lv_at hl 9 rfl) ?_
                        refine lv_ishr hx hb dX10_guards_172 ?_
                        refine lv_iconst (v := 1) hx hb dX10_guards_173 (by decide) ?_
                        refine lv_iand hx hb dX10_guards_174 ?_
                        refine lv_iconst (v := 1) hx hb dX10_guards_175 (by decide) ?_
                        refine lv_icmp_ne (tgt := 182) hx hb dX10_guards_176 (by decide) (fun hc => ?_) (fun hc => ?_)
                        · replace hf := zIf_f hc hf
                          refine lv_aload_n hx hb dX10_guards_182 rfl (lv_at hl 1 rfl) ?_
                          refine zGet (ci := 10) (C := RX10) (F := TX10) (N := 54) (v := .ref (hgm 14)) hx hb hts hiX10 hown hK hP 0 33 3 rfl rfl (by decide) rfl rfl rfl dX10_guards_183 ?_
                          refine lv_iload hx hb dX10_guards_186 (lv_at hl 0 rfl) ?_
                          refine lv_bipush (v := 8) hx hb dX10_guards_188 (by decide) ?_
                          refine lv_ishl hx hb dX10_guards_190 ?_
                          refine lv_aload_n hx hb dX10_guards_191 rfl (lv_at hl 1 rfl) ?_
                          refine lv_iload hx hb dX10_guards_192 (lv_at hl 6 rfl) ?_
                          refine lv_iload hx hb dX10_guards_194 (lv_at hl 0 rfl) ?_
                          obtain ⟨v40, hc196, hf⟩ := zB1_ok hf
                          refine zCallVEI [.int v17, .int v36] ⟨hx, hb, hml, hown, hts⟩ (pX10_tells l D T X hgm H.size gm_18 gml v17 v36 v40 hc196) (cwV 2 hts gX10_guards_X10_tells rfl rfl rfl (by decide +kernel) ⟨Nat.le_of_ble_eq_true rfl, Nat.le_of_ble_eq_true rfl⟩) hK hP hD hS hA hX 0 rfl rfl rfl hl.1 rfl (Nat.le_of_ble_eq_true rfl) dX10_guards_196 ⟨Nat.zero_le _, Nat.zero_le _⟩ (fun H locs hP hD hS => ?_)
                          refine lv_ior hx hb dX10_guards_199 ?_
                          obtain ⟨hg, hf⟩ := zGd_ok hf
                          refine zAldI hx hb hK hP 14 rfl hg dX10_guards_200 (fun v41 ev41 => ?_)
                          replace hf := zLt_at ev41 hf
                          refine lv_istore (lv' := [(11, .int v41), (10, .int v36), (0, .ref (hgm 0)), (1, .int a1), (2, .int a2), (4, .int v16), (5, .int v12), (6, .int v17), (7, .int v31), (8, .int v32), (9, .int v33)]) hx hb dX10_guards_201 hl (by decide) rfl (fun ls hl => ?_)
                          refine lv_iload hx hb dX10_guards_203 (lv_at hl 9 rfl) ?_
                          have hJ215 : ∀ (H : Heap) (locs : List Loc) (ls : Array Slot), fX10_guards_L143J215 v33 v41 = some z → va_P D vwCl (wX10 T hgm gm_18 gml) H → va_D A (wX10 T hgm gm_18 gml) → va_S A s.heap H locs → lv_has ls 12 [(0, .ref (hgm 0)), (1, .int a1), (2, .int a2), (4, .int v16), (5, .int v12), (6, .int v17), (9, .int v33), (11, .int v41)] → W p l e rX10_guards s m args below meth c H locs 0 0 Q (F0 m 215 ls []) := by
                            intro H locs ls hf hP hD hS hl
                            unfold fX10_guards_L143J215 at hf
                            refine lv_iload hx hb dX10_guards_215 (lv_at hl 7 rfl) ?_
                            refine lv_istore (lv' := [(7, .int v41), (0, .ref (hgm 0)), (1, .int a1), (2, .int a2), (4, .int v16), (5, .int v12), (6, .int v17), (9, .int v33), (11, .int v41)]) hx hb dX10_guards_217 hl (by decide) rfl (fun ls hl => ?_)
                            refine lv_iload hx hb dX10_guards_219 (lv_at hl 7 rfl) ?_
                            refine lv_istore (lv' := [(8, .int v33), (7, .int v41), (0, .ref (hgm 0)), (1, .int a1), (2, .int a2), (4, .int v16), (5, .int v12), (6, .int v17), (9, .int v33), (11, .int v41)]) hx hb dX10_guards_221 hl (by decide) rfl (fun ls hl => ?_)
                            exact hJ223 v41 v33 H locs ls hf hP hD hS (lv_sub hl [2, 3, 4, 5, 6, 7, 1, 0, 8] rfl)
                          refine lv_if_lt (tgt := 215) hx hb dX10_guards_205 (by decide) (fun hc => ?_) (fun hc => ?_)
                          · replace hf := zIf_t hc hf
                            exact hJ215 H locs ls hf hP hD hS (lv_sub hl [2, 3, 4, 5, 6, 7, 10, 0] rfl)
                          · replace hf := zIf_f hc hf
                            refine lv_iload hx hb dX10_guards_208 (lv_at hl 0 rfl) ?_
                            refine lv_iload hx hb dX10_guards_210 (lv_at hl 8 rfl) ?_
                            refine lv_icmp_ge (tgt := 223) hx hb dX10_guards_212 (by decide) (fun hc => ?_) (fun hc => ?_)
                            · replace hf := zIf_t hc hf
                              exact hJ223 v31 v32 H locs ls hf hP hD hS (lv_sub hl [2, 3, 4, 5, 6, 7, 8, 9, 10] rfl)
                            · replace hf := zIf_f hc hf
                              exact hJ215 H locs ls hf hP hD hS (lv_sub hl [2, 3, 4, 5, 6, 7, 10, 0] rfl)
                        · replace hf := zIf_t hc hf
                          refine lv_goto (tgt := 223) hx hb dX10_guards_179 (by decide) ?_
                          exact hJ223 v31 v32 H locs ls hf hP hD hS (lv_sub hl [1, 2, 3, 4, 5, 6, 7, 8, 9] rfl)
                · replace hf := zIf_t hc hf
                  refine lv_goto (tgt := 266) hx hb dX10_guards_113 (by decide) ?_
                  exact hJ266 v16 gm_18 H locs ls hf hP hD hS hl
        refine zLpS2 (body := (fX10_guards_L38 gml v3)) (b := ex) (fun (v4 : Int32) (gm_5 : zM) => ∀ (H : Heap) (locs : List Loc) (ls : Array Slot), va_P D vwCl (wX10 T hgm gm_5 gml) H → va_D A (wX10 T hgm gm_5 gml) → va_S A s.heap H locs → lv_has ls 12 [(0, .ref (hgm 0)), (1, .int a1), (2, .int a2), (3, .int v3), (4, .int v4)] → W p l e rX10_guards s m args below meth c H locs 0 0 Q (F0 m 38 ls [])) ?_ zFU 0 gm hlp H locs ls hP hD hS (lv_sub hl [2, 3, 4, 1, 0] rfl)
        intro v4 gm_5 z hf hzz H locs ls hP hD hS hl
        unfold fX10_guards_L38 at hf
        replace hf := zUk2 hf
        refine lv_iload hx hb dX10_guards_38 (lv_at hl 4 rfl) ?_
        refine lv_aload_n hx hb dX10_guards_40 rfl (lv_at hl 0 rfl) ?_
        refine zGet (ci := 10) (C := RX10) (F := TX10) (N := 54) (v := .int (gm_5 0 0)) hx hb hts hiX10 hown hK hP 0 0 1 rfl rfl (by decide) rfl rfl rfl dX10_guards_41 ?_
        refine lv_icmp_ge (tgt := 69) hx hb dX10_guards_44 (by decide) (fun hc => ?_) (fun hc => ?_)
        · replace hf := zIf_t hc hf
          cases hf
          exact hE38_69 gm_5 hzz.symm H locs ls hP hD hS (lv_sub hl [0, 1, 2] rfl)
        · replace hf := zIf_f hc hf
          refine lv_aload_n hx hb dX10_guards_47 rfl (lv_at hl 0 rfl) ?_
          refine zGet (ci := 10) (C := RX10) (F := TX10) (N := 54) (v := .ref (hgm 15)) hx hb hts hiX10 hown hK hP 0 34 2 rfl rfl (by decide) rfl rfl rfl dX10_guards_48 ?_
          refine lv_iload hx hb dX10_guards_51 (lv_at hl 4 rfl) ?_
          refine lv_aload_n hx hb dX10_guards_53 rfl (lv_at hl 0 rfl) ?_
          refine lv_iconst (v := 1) hx hb dX10_guards_54 (by decide) ?_
          refine lv_iload hx hb dX10_guards_55 (lv_at hl 4 rfl) ?_
          refine lv_ishl hx hb dX10_guards_57 ?_
          refine lv_iload_n hx hb dX10_guards_58 rfl (lv_at hl 3 rfl) ?_
          obtain ⟨v7, hc59, hf⟩ := zB1_ok hf
          refine zCallVEI [.int ((1 : Int32) <<< (v4 &&& 31)), .int v3] ⟨hx, hb, hml, hown, hts⟩ (pX10_around l D T X hgm H.size gm_5 gml ((1 : Int32) <<< (v4 &&& 31)) v3 v7 hc59) (cwV 2 hts gX10_guards_X10_around rfl rfl rfl (by decide +kernel) ⟨Nat.le_of_ble_eq_true rfl, Nat.le_of_ble_eq_true rfl⟩) hK hP hD hS hA hX 0 rfl rfl rfl hl.1 rfl (Nat.le_of_ble_eq_true rfl) dX10_guards_59 ⟨Nat.zero_le _, Nat.zero_le _⟩ (fun H locs hP hD hS => ?_)
          obtain ⟨hg, hf⟩ := zGd_ok hf
          refine zAstI (w := gm_5) hx hb hK hP hD hS (fun g => wX10 T hgm g gml) 15 15 rfl hg rfl dX10_guards_62 (fun gm_8 egm_8 H locs hP hD hS => ?_)
          replace hP : va_P D vwCl (wX10 T hgm gm_8 gml) H := hP
          replace hD : va_D A (wX10 T hgm gm_8 gml) := hD
          replace hf := zLt_at egm_8 hf
          obtain ⟨v9, ev9⟩ : ∃ y : Int32, y = v4 + 1 := ⟨_, rfl⟩
          replace hf := zLt_at ev9 hf
          refine lv_iinc (v := v9) (lv' := [(4, .int v9), (0, .ref (hgm 0)), (1, .int a1), (2, .int a2), (3, .int v3)]) hx hb dX10_guards_63 hl (k := 4) rfl (by rw [ev9]; rfl) (by decide) rfl (fun ls hl => ?_)
          refine lv_goto (tgt := 38) hx hb dX10_guards_66 (by decide) ?_
          cases hf
          exact hzz H locs ls hP hD hS (lv_sub hl [1, 2, 3, 4, 0] rfl)
      · replace hf := zIf_f hc hf
        refine lv_bipush (v := (-4)) hx hb dX10_guards_26 (by decide) ?_
        obtain ⟨q1, q2⟩ := zI2 hf
        subst q1
        subst q2
        exact zRetI hQ hx hb hr hlocks hA0 hK hP hD hS rfl dX10_guards_28
    · replace hf := zIf_t hc hf
      refine lv_iconst (v := (-1)) hx hb dX10_guards_15 (by decide) ?_
      obtain ⟨q1, q2⟩ := zI2 hf
      subst q1
      subst q2
      exact zRetI hQ hx hb hr hlocks hA0 hK hP hD hS rfl dX10_guards_16
set_option maxHeartbeats 4000000 in
set_option maxRecDepth 100000 in
theorem pX10_tieOfTwo (l : Launch) (D : va_G) (T : Nat → ClassId) (X : zFP) (hgm : Nat → Nat) (sz : Nat) (gm : zM) (gml : zL) (a1 : Int32) (a2 : Int32) (r : Int32) (hf : fX10_tieOfTwo gm gml a1 a2 = some r) : Met l yX10_tieOfTwo wsX10_tieOfTwo rX10_tieOfTwo (zPre D T X [.ref (hgm 0), .int a1, .int a2] (wX10 T hgm gm gml) sz) (zQi D T r (wX10 T hgm gm gml) (wX10 T hgm gm gml) sz) 0 0 (va_A (wX10 T hgm gm gml) sz) := by
  unfold fX10_tieOfTwo at hf
  refine zStart [(0, .ref (hgm 0)), (1, .int a1), (2, .int a2)] (by decide) rfl (Nat.le_of_ble_eq_true rfl) rfl ?_
  intro p e s m args below meth c A Q ls hx hb hr hml hown hlocks hts hsz hA0 hQ hA hK hX hP hD hS hl
  replace hown : s.vm.findClass RX10 = some m.cls := hown
  have hH := hsz
  have hiX10 : ∀ w ∈ u_ws RX10 TX10 54, w ∈ wsX10_tieOfTwo := fun w h => List.mem_cons_of_mem _ (List.mem_append_right _ (h))
  obtain ⟨H, hHe⟩ : ∃ H : Heap, H = s.heap := ⟨_, rfl⟩
  obtain ⟨locs, hLe⟩ : ∃ L : List Loc, L = [] := ⟨_, rfl⟩
  replace hP : va_P D vwCl (wX10 T hgm gm gml) H := by rw [hHe]; exact hP
  replace hS : va_S A s.heap H locs := by rw [hHe, hLe]; exact hS
  suffices hgo : W p l e rX10_tieOfTwo s m args below meth c H locs 0 0 Q (F0 m 0 ls []) by rw [hHe, hLe] at hgo; exact hgo
  clear hHe hLe
  refine lv_iconst (v := 0) hx hb dX10_tieOfTwo_0 (by decide) ?_
  refine lv_istore_n (lv' := [(3, .int 0), (0, .ref (hgm 0)), (1, .int a1), (2, .int a2)]) hx hb dX10_tieOfTwo_1 rfl hl (by decide) rfl (fun ls hl => ?_)
  obtain ⟨ex, hlp, hf⟩ := zB1_ok hf
  have hE2_38 : ex = (.inl ()) → ∀ (H : Heap) (locs : List Loc) (ls : Array Slot), va_P D vwCl (wX10 T hgm gm gml) H → va_D A (wX10 T hgm gm gml) → va_S A s.heap H locs → lv_has ls 4 [] → W p l e rX10_tieOfTwo s m args below meth c H locs 0 0 Q (F0 m 38 ls []) := by
    intro hex H locs ls hP hD hS hl
    have hf := zExL0 hex hf
    refine lv_iconst (v := (-1)) hx hb dX10_tieOfTwo_38 (by decide) ?_
    obtain ⟨q1, -⟩ := zI1 hf
    subst q1
    exact zRetI hQ hx hb hr hlocks hA0 hK hP hD hS rfl dX10_tieOfTwo_39
  have hE2_30 : ∀ (v2 : Int32) , ex = (.inr v2) → ∀ (H : Heap) (locs : List Loc) (ls : Array Slot), va_P D vwCl (wX10 T hgm gm gml) H → va_D A (wX10 T hgm gm gml) → va_S A s.heap H locs → lv_has ls 4 [(3, .int v2)] → W p l e rX10_tieOfTwo s m args below meth c H locs 0 0 Q (F0 m 30 ls []) := by
    intro v2 hex H locs ls hP hD hS hl
    have hf := zSmR hex hf
    have hf := zEx1 rfl hf
    refine lv_iload_n hx hb dX10_tieOfTwo_30 rfl (lv_at hl 0 rfl) ?_
    obtain ⟨q1, -⟩ := zI1 hf
    subst q1
    exact zRetI hQ hx hb hr hlocks hA0 hK hP hD hS rfl dX10_tieOfTwo_31
  refine zLpS1 (body := (fX10_tieOfTwo_L2 a1 a2 gm gml)) (b := ex) (fun (v1 : Int32) => ∀ (H : Heap) (locs : List Loc) (ls : Array Slot), va_P D vwCl (wX10 T hgm gm gml) H → va_D A (wX10 T hgm gm gml) → va_S A s.heap H locs → lv_has ls 4 [(0, .ref (hgm 0)), (1, .int a1), (2, .int a2), (3, .int v1)] → W p l e rX10_tieOfTwo s m args below meth c H locs 0 0 Q (F0 m 2 ls [])) ?_ zFU 0 hlp H locs ls hP hD hS (lv_sub hl [1, 2, 3, 0] rfl)
  intro v1 z hf hzz H locs ls hP hD hS hl
  unfold fX10_tieOfTwo_L2 at hf
  replace hf := zUk1 hf
  refine lv_iload_n hx hb dX10_tieOfTwo_2 rfl (lv_at hl 3 rfl) ?_
  refine lv_aload_n hx hb dX10_tieOfTwo_3 rfl (lv_at hl 0 rfl) ?_
  refine zGet (ci := 10) (C := RX10) (F := TX10) (N := 54) (v := .int (gm 0 2)) hx hb hts hiX10 hown hK hP 0 2 1 rfl rfl (by decide) rfl rfl rfl dX10_tieOfTwo_4 ?_
  refine lv_icmp_ge (tgt := 38) hx hb dX10_tieOfTwo_7 (by decide) (fun hc => ?_) (fun hc => ?_)
  · replace hf := zIf_t hc hf
    cases hf
    exact hE2_38 hzz.symm H locs ls hP hD hS (lv_sub hl [] rfl)
  · replace hf := zIf_f hc hf
    refine lv_iload_n hx hb dX10_tieOfTwo_10 rfl (lv_at hl 1 rfl) ?_
    refine lv_iload_n hx hb dX10_tieOfTwo_11 rfl (lv_at hl 2 rfl) ?_
    have hJ32 : ∀ (H : Heap) (locs : List Loc) (ls : Array Slot), fX10_tieOfTwo_L2J32 v1 = some z → va_P D vwCl (wX10 T hgm gm gml) H → va_D A (wX10 T hgm gm gml) → va_S A s.heap H locs → lv_has ls 4 [(0, .ref (hgm 0)), (1, .int a1), (2, .int a2), (3, .int v1)] → W p l e rX10_tieOfTwo s m args below meth c H locs 0 0 Q (F0 m 32 ls []) := by
      intro H locs ls hf hP hD hS hl
      unfold fX10_tieOfTwo_L2J32 at hf
      obtain ⟨v3, ev3⟩ : ∃ y : Int32, y = v1 + 1 := ⟨_, rfl⟩
      replace hf := zLt_at ev3 hf
      refine lv_iinc (v := v3) (lv' := [(3, .int v3), (0, .ref (hgm 0)), (1, .int a1), (2, .int a2)]) hx hb dX10_tieOfTwo_32 hl (k := 3) rfl (by rw [ev3]; rfl) (by decide) rfl (fun ls hl => ?_)
      refine lv_goto (tgt := 2) hx hb dX10_tieOfTwo_35 (by decide) ?_
      cases hf
      exact hzz H locs ls hP hD hS (lv_sub hl [1, 2, 3, 0] rfl)
    refine lv_icmp_eq (tgt := 32) hx hb dX10_tieOfTwo_12 (by decide) (fun hc => ?_) (fun hc => ?_)
    · replace hf := zIf_t hc hf
      exact hJ32 H locs ls hf hP hD hS hl
    · replace hf := zIf_f hc hf
      refine lv_aload_n hx hb dX10_tieOfTwo_15 rfl (lv_at hl 0 rfl) ?_
      refine lv_iload_n hx hb dX10_tieOfTwo_16 rfl (lv_at hl 3 rfl) ?_
      obtain ⟨v4, hc17, hf⟩ := zB1_ok hf
      refine zCallVEI [.int v1] ⟨hx, hb, hml, hown, hts⟩ (pX10_ends l D T X hgm H.size gm gml v1 v4 hc17) (cwV 1 hts gX10_tieOfTwo_X10_ends rfl rfl rfl (by decide +kernel) ⟨Nat.le_of_ble_eq_true rfl, Nat.le_of_ble_eq_true rfl⟩) hK hP hD hS hA hX 0 rfl rfl rfl hl.1 rfl (Nat.le_of_ble_eq_true rfl) dX10_tieOfTwo_17 ⟨Nat.zero_le _, Nat.zero_le _⟩ (fun H locs hP hD hS => ?_)
      refine lv_iconst (v := 1) hx hb dX10_tieOfTwo_20 (by decide) ?_
      refine lv_iload_n hx hb dX10_tieOfTwo_21 rfl (lv_at hl 1 rfl) ?_
      refine lv_ishl hx hb dX10_tieOfTwo_22 ?_
      refine lv_iconst (v := 1) hx hb dX10_tieOfTwo_23 (by decide) ?_
      refine lv_iload_n hx hb dX10_tieOfTwo_24 rfl (lv_at hl 2 rfl) ?_
      refine lv_ishl hx hb dX10_tieOfTwo_25 ?_
      refine lv_ior hx hb dX10_tieOfTwo_26 ?_
      refine lv_icmp_ne (tgt := 32) hx hb dX10_tieOfTwo_27 (by decide) (fun hc => ?_) (fun hc => ?_)
      · replace hf := zIf_f hc hf
        exact hJ32 H locs ls hf hP hD hS hl
      · replace hf := zIf_t hc hf
        cases hf
        exact hE2_30 v1 hzz.symm H locs ls hP hD hS (lv_sub hl [3] rfl)
set_option maxHeartbeats 4000000 in
set_option maxRecDepth 100000 in
theorem pX10_areOpen (l : Launch) (D : va_G) (T : Nat → ClassId) (X : zFP) (hgm : Nat → Nat) (sz : Nat) (gm : zM) (gml : zL) (a1 : Int32) (a2 : Int32) (a3 : Int32) (r : Int32) (hf : fX10_areOpen gm gml a1 a2 a3 = some r) : Met l yX10_areOpen wsX10_areOpen rX10_areOpen (zPre D T X [.ref (hgm 0), .int a1, .int a2, .int a3] (wX10 T hgm gm gml) sz) (zQi D T r (wX10 T hgm gm gml) (wX10 T hgm gm gml) sz) 0 0 (va_A (wX10 T hgm gm gml) sz) := by
  unfold fX10_areOpen at hf
  refine zStart [(0, .ref (hgm 0)), (1, .int a1), (2, .int a2), (3, .int a3)] (by decide) rfl (Nat.le_of_ble_eq_true rfl) rfl ?_
  intro p e s m args below meth c A Q ls hx hb hr hml hown hlocks hts hsz hA0 hQ hA hK hX hP hD hS hl
  replace hown : s.vm.findClass RX10 = some m.cls := hown
  have hH := hsz
  obtain ⟨H, hHe⟩ : ∃ H : Heap, H = s.heap := ⟨_, rfl⟩
  obtain ⟨locs, hLe⟩ : ∃ L : List Loc, L = [] := ⟨_, rfl⟩
  replace hP : va_P D vwCl (wX10 T hgm gm gml) H := by rw [hHe]; exact hP
  replace hS : va_S A s.heap H locs := by rw [hHe, hLe]; exact hS
  suffices hgo : W p l e rX10_areOpen s m args below meth c H locs 0 0 Q (F0 m 0 ls []) by rw [hHe, hLe] at hgo; exact hgo
  clear hHe hLe
  refine lv_aload_n hx hb dX10_areOpen_0 rfl (lv_at hl 0 rfl) ?_
  refine lv_iload_n hx hb dX10_areOpen_1 rfl (lv_at hl 1 rfl) ?_
  obtain ⟨v1, hc2, hf⟩ := zB1_ok hf
  refine zCallVEI [.int a1] ⟨hx, hb, hml, hown, hts⟩ (pX10_isPerson l D T X hgm H.size gm gml a1 v1 hc2) (cwV 1 hts gX10_areOpen_X10_isPerson rfl rfl rfl (by decide +kernel) ⟨Nat.le_of_ble_eq_true rfl, Nat.le_of_ble_eq_true rfl⟩) hK hP hD hS hA hX 0 rfl rfl rfl hl.1 rfl (Nat.le_of_ble_eq_true rfl) dX10_areOpen_2 ⟨Nat.zero_le _, Nat.zero_le _⟩ (fun H locs hP hD hS => ?_)
  have hJ36 : ∀ (v2 : Int32) (H : Heap) (locs : List Loc) (ls : Array Slot), fX10_areOpen_J36 a3 gm gml v2 = some r → va_P D vwCl (wX10 T hgm gm gml) H → va_D A (wX10 T hgm gm gml) → va_S A s.heap H locs → lv_has ls 5 [(0, .ref (hgm 0)), (3, .int a3)] → W p l e rX10_areOpen s m args below meth c H locs 0 0 Q (F0 m 36 ls [.int v2]) := by
    intro v2 H locs ls hf hP hD hS hl
    unfold fX10_areOpen_J36 at hf
    refine lv_istore (lv' := [(4, .int v2), (0, .ref (hgm 0)), (3, .int a3)]) hx hb dX10_areOpen_36 hl (by decide) rfl (fun ls hl => ?_)
    refine lv_iload hx hb dX10_areOpen_38 (lv_at hl 0 rfl) ?_
    refine lv_if_lt (tgt := 57) hx hb dX10_areOpen_40 (by decide) (fun hc => ?_) (fun hc => ?_)
    · replace hf := zIf_t hc hf
      refine lv_iconst (v := 0) hx hb dX10_areOpen_57 (by decide) ?_
      obtain ⟨q1, -⟩ := zI1 hf
      subst q1
      exact zRetZ hQ hx hb hr hlocks hA0 hK hP hD hS (by decide) rfl dX10_areOpen_58
    · replace hf := zIf_f hc hf
      refine lv_aload_n hx hb dX10_areOpen_43 rfl (lv_at hl 1 rfl) ?_
      refine lv_iload hx hb dX10_areOpen_44 (lv_at hl 0 rfl) ?_
      refine lv_iload_n hx hb dX10_areOpen_46 rfl (lv_at hl 2 rfl) ?_
      obtain ⟨v3, hc47, hf⟩ := zB1_ok hf
      refine zCallVEI [.int v2, .int a3] ⟨hx, hb, hml, hown, hts⟩ (pX10_isOpen l D T X hgm H.size gm gml v2 a3 v3 hc47) (cwV 2 hts gX10_areOpen_X10_isOpen rfl rfl rfl (by decide +kernel) ⟨Nat.le_of_ble_eq_true rfl, Nat.le_of_ble_eq_true rfl⟩) hK hP hD hS hA hX 0 rfl rfl rfl hl.1 rfl (Nat.le_of_ble_eq_true rfl) dX10_areOpen_47 ⟨Nat.zero_le _, Nat.zero_le _⟩ (fun H locs hP hD hS => ?_)
      refine lv_if_eq (tgt := 57) hx hb dX10_areOpen_50 (by decide) (fun hc => ?_) (fun hc => ?_)
      · replace hf := zIf_t hc hf
        refine lv_iconst (v := 0) hx hb dX10_areOpen_57 (by decide) ?_
        obtain ⟨q1, -⟩ := zI1 hf
        subst q1
        exact zRetZ hQ hx hb hr hlocks hA0 hK hP hD hS (by decide) rfl dX10_areOpen_58
      · replace hf := zIf_f hc hf
        refine lv_iconst (v := 1) hx hb dX10_areOpen_53 (by decide) ?_
        refine lv_goto (tgt := 58) hx hb dX10_areOpen_54 (by decide) ?_
        obtain ⟨q1, -⟩ := zI1 hf
        subst q1
        exact zRetZ hQ hx hb hr hlocks hA0 hK hP hD hS (by decide) rfl dX10_areOpen_58
  have hJ35 : ∀ (H : Heap) (locs : List Loc) (ls : Array Slot), fX10_areOpen_J35 a3 gm gml = some r → va_P D vwCl (wX10 T hgm gm gml) H → va_D A (wX10 T hgm gm gml) → va_S A s.heap H locs → lv_has ls 5 [(0, .ref (hgm 0)), (3, .int a3)] → W p l e rX10_areOpen s m args below meth c H locs 0 0 Q (F0 m 35 ls []) := by
    intro H locs ls hf hP hD hS hl
    unfold fX10_areOpen_J35 at hf
    refine lv_iconst (v := (-1)) hx hb dX10_areOpen_35 (by decide) ?_
    exact hJ36 (-1) H locs ls hf hP hD hS hl
  refine lv_if_eq (tgt := 35) hx hb dX10_areOpen_5 (by decide) (fun hc => ?_) (fun hc => ?_)
  · replace hf := zIf_t hc hf
    exact hJ35 H locs ls hf hP hD hS (lv_sub hl [0, 3] rfl)
  · replace hf := zIf_f hc hf
    refine lv_aload_n hx hb dX10_areOpen_8 rfl (lv_at hl 0 rfl) ?_
    refine lv_iload_n hx hb dX10_areOpen_9 rfl (lv_at hl 2 rfl) ?_
    obtain ⟨v4, hc10, hf⟩ := zB1_ok hf
    refine zCallVEI [.int a2] ⟨hx, hb, hml, hown, hts⟩ (pX10_isPerson l D T X hgm H.size gm gml a2 v4 hc10) (cwV 1 hts gX10_areOpen_X10_isPerson rfl rfl rfl (by decide +kernel) ⟨Nat.le_of_ble_eq_true rfl, Nat.le_of_ble_eq_true rfl⟩) hK hP hD hS hA hX 0 rfl rfl rfl hl.1 rfl (Nat.le_of_ble_eq_true rfl) dX10_areOpen_10 ⟨Nat.zero_le _, Nat.zero_le _⟩ (fun H locs hP hD hS => ?_)
    refine lv_if_eq (tgt := 35) hx hb dX10_areOpen_13 (by decide) (fun hc => ?_) (fun hc => ?_)
    · replace hf := zIf_t hc hf
      exact hJ35 H locs ls hf hP hD hS (lv_sub hl [0, 3] rfl)
    · replace hf := zIf_f hc hf
      refine lv_iload_n hx hb dX10_areOpen_16 rfl (lv_at hl 3 rfl) ?_
      refine lv_iconst (v := 0) hx hb dX10_areOpen_17 (by decide) ?_
      refine lv_bipush (v := 99) hx hb dX10_areOpen_18 (by decide) ?_
      obtain ⟨v5, hc20, hf⟩ := zB1_ok hf
      refine zCallS0I [.int a3, .int 0, .int 99] ⟨hx, hb, hml, hown, hts⟩ (pX10_in l D T X H.size a3 0 99 v5 hc20) (va_cwS 3 hts gX10_areOpen_X10_in rfl rfl rfl (by decide +kernel) ⟨Nat.le_of_ble_eq_true rfl, Nat.le_of_ble_eq_true rfl⟩) hK hP hD hS hA hX rfl hl.1 rfl (Nat.le_of_ble_eq_true rfl) dX10_areOpen_20 ⟨Nat.zero_le _, Nat.zero_le _⟩ (fun H locs hP hD hS => ?_)
      refine lv_if_eq (tgt := 35) hx hb dX10_areOpen_23 (by decide) (fun hc => ?_) (fun hc => ?_)
      · replace hf := zIf_t hc hf
        exact hJ35 H locs ls hf hP hD hS (lv_sub hl [0, 3] rfl)
      · replace hf := zIf_f hc hf
        refine lv_aload_n hx hb dX10_areOpen_26 rfl (lv_at hl 0 rfl) ?_
        refine lv_iload_n hx hb dX10_areOpen_27 rfl (lv_at hl 1 rfl) ?_
        refine lv_iload_n hx hb dX10_areOpen_28 rfl (lv_at hl 2 rfl) ?_
        obtain ⟨v6, hc29, hf⟩ := zB1_ok hf
        refine zCallVEI [.int a1, .int a2] ⟨hx, hb, hml, hown, hts⟩ (pX10_tieOfTwo l D T X hgm H.size gm gml a1 a2 v6 hc29) (cwV 2 hts gX10_areOpen_X10_tieOfTwo rfl rfl rfl (by decide +kernel) ⟨Nat.le_of_ble_eq_true rfl, Nat.le_of_ble_eq_true rfl⟩) hK hP hD hS hA hX 0 rfl rfl rfl hl.1 rfl (Nat.le_of_ble_eq_true rfl) dX10_areOpen_29 ⟨Nat.zero_le _, Nat.zero_le _⟩ (fun H locs hP hD hS => ?_)
        refine lv_goto (tgt := 36) hx hb dX10_areOpen_32 (by decide) ?_
        exact hJ36 v6 H locs ls hf hP hD hS (lv_sub hl [0, 3] rfl)
set_option maxHeartbeats 4000000 in
set_option maxRecDepth 100000 in
theorem pX10_prove (l : Launch) (D : va_G) (T : Nat → ClassId) (X : zFP) (hgm : Nat → Nat) (sz : Nat) (gm : zM) (gml : zL) (a1 : Int32) (a2 : Int32) (r : Int32) (ngm : zM) (hf : fX10_prove gm gml a1 a2 = some (r, ngm)) : Met l yX10_prove wsX10_prove rX10_prove (zPre D T X [.ref (hgm 0), .int a1, .int a2] (wX10 T hgm gm gml) sz) (zQi D T r (wX10 T hgm ngm gml) (wX10 T hgm gm gml) sz) 0 0 (va_A (wX10 T hgm gm gml) sz) := by
  unfold fX10_prove at hf
  refine zStart [(0, .ref (hgm 0)), (1, .int a1), (2, .int a2)] (by decide) rfl (Nat.le_of_ble_eq_true rfl) rfl ?_
  intro p e s m args below meth c A Q ls hx hb hr hml hown hlocks hts hsz hA0 hQ hA hK hX hP hD hS hl
  replace hown : s.vm.findClass RX10 = some m.cls := hown
  have hH := hsz
  have hiX10 : ∀ w ∈ u_ws RX10 TX10 54, w ∈ wsX10_prove := fun w h => List.mem_cons_of_mem _ (List.mem_append_right _ (h))
  obtain ⟨H, hHe⟩ : ∃ H : Heap, H = s.heap := ⟨_, rfl⟩
  obtain ⟨locs, hLe⟩ : ∃ L : List Loc, L = [] := ⟨_, rfl⟩
  replace hP : va_P D vwCl (wX10 T hgm gm gml) H := by rw [hHe]; exact hP
  replace hS : va_S A s.heap H locs := by rw [hHe, hLe]; exact hS
  suffices hgo : W p l e rX10_prove s m args below meth c H locs 0 0 Q (F0 m 0 ls []) by rw [hHe, hLe] at hgo; exact hgo
  clear hHe hLe
  refine lv_aload_n hx hb dX10_prove_0 rfl (lv_at hl 0 rfl) ?_
  refine lv_iload_n hx hb dX10_prove_1 rfl (lv_at hl 1 rfl) ?_
  obtain ⟨v1, hc2, hf⟩ := zB1_ok hf
  refine zCallVEI [.int a1] ⟨hx, hb, hml, hown, hts⟩ (pX10_isPerson l D T X hgm H.size gm gml a1 v1 hc2) (cwV 1 hts gX10_prove_X10_isPerson rfl rfl rfl (by decide +kernel) ⟨Nat.le_of_ble_eq_true rfl, Nat.le_of_ble_eq_true rfl⟩) hK hP hD hS hA hX 0 rfl rfl rfl hl.1 rfl (Nat.le_of_ble_eq_true rfl) dX10_prove_2 ⟨Nat.zero_le _, Nat.zero_le _⟩ (fun H locs hP hD hS => ?_)
  refine lv_if_eq (tgt := 16) hx hb dX10_prove_5 (by decide) (fun hc => ?_) (fun hc => ?_)
  · replace hf := zIf_t hc hf
    refine lv_iconst (v := (-1)) hx hb dX10_prove_16 (by decide) ?_
    obtain ⟨q1, q2⟩ := zI2 hf
    subst q1
    subst q2
    exact zRetI hQ hx hb hr hlocks hA0 hK hP hD hS rfl dX10_prove_17
  · replace hf := zIf_f hc hf
    refine lv_aload_n hx hb dX10_prove_8 rfl (lv_at hl 0 rfl) ?_
    refine lv_iload_n hx hb dX10_prove_9 rfl (lv_at hl 2 rfl) ?_
    obtain ⟨v2, hc10, hf⟩ := zB1_ok hf
    refine zCallVEI [.int a2] ⟨hx, hb, hml, hown, hts⟩ (pX10_isPerson l D T X hgm H.size gm gml a2 v2 hc10) (cwV 1 hts gX10_prove_X10_isPerson rfl rfl rfl (by decide +kernel) ⟨Nat.le_of_ble_eq_true rfl, Nat.le_of_ble_eq_true rfl⟩) hK hP hD hS hA hX 0 rfl rfl rfl hl.1 rfl (Nat.le_of_ble_eq_true rfl) dX10_prove_10 ⟨Nat.zero_le _, Nat.zero_le _⟩ (fun H locs hP hD hS => ?_)
    refine lv_if_ne (tgt := 18) hx hb dX10_prove_13 (by decide) (fun hc => ?_) (fun hc => ?_)
    · replace hf := zIf_f hc hf
      refine lv_aload_n hx hb dX10_prove_18 rfl (lv_at hl 0 rfl) ?_
      refine lv_iconst (v := 1) hx hb dX10_prove_19 (by decide) ?_
      refine lv_iload_n hx hb dX10_prove_20 rfl (lv_at hl 1 rfl) ?_
      refine lv_ishl hx hb dX10_prove_21 ?_
      obtain ⟨gm_3, hc22, hf⟩ := zB1_ok hf
      refine zCallVEV [.int ((1 : Int32) <<< (a1 &&& 31))] ⟨hx, hb, hml, hown, hts⟩ (pX10_findDays l D T X hgm H.size gm gml ((1 : Int32) <<< (a1 &&& 31)) gm_3 hc22) (cwV 1 hts gX10_prove_X10_findDays rfl rfl rfl (by decide +kernel) ⟨Nat.le_of_ble_eq_true rfl, Nat.le_of_ble_eq_true rfl⟩) hK hP hD hS hA hX 0 rfl rfl rfl hl.1 rfl (Nat.le_of_ble_eq_true rfl) dX10_prove_22 ⟨Nat.zero_le _, Nat.zero_le _⟩ (fun H locs hP hD hS => ?_)
      refine lv_aload_n hx hb dX10_prove_25 rfl (lv_at hl 0 rfl) ?_
      refine lv_iload_n hx hb dX10_prove_26 rfl (lv_at hl 2 rfl) ?_
      obtain ⟨v4, hc27, hf⟩ := zB1_ok hf
      refine zCallVEI [.int a2] ⟨hx, hb, hml, hown, hts⟩ (pX10_earlyOf l D T X hgm H.size gm_3 gml a2 v4 hc27) (cwV 1 hts gX10_prove_X10_earlyOf rfl rfl rfl (by decide +kernel) ⟨Nat.le_of_ble_eq_true rfl, Nat.le_of_ble_eq_true rfl⟩) hK hP hD hS hA hX 0 rfl rfl rfl hl.1 rfl (Nat.le_of_ble_eq_true rfl) dX10_prove_27 ⟨Nat.zero_le _, Nat.zero_le _⟩ (fun H locs hP hD hS => ?_)
      refine lv_if_ge (tgt := 36) hx hb dX10_prove_30 (by decide) (fun hc => ?_) (fun hc => ?_)
      · replace hf := zIf_t hc hf
        refine lv_iconst (v := 0) hx hb dX10_prove_36 (by decide) ?_
        refine lv_istore_n (lv' := [(3, .int 0), (0, .ref (hgm 0)), (1, .int a1), (2, .int a2)]) hx hb dX10_prove_37 rfl hl (by decide) rfl (fun ls hl => ?_)
        refine lv_iload_n hx hb dX10_prove_38 rfl (lv_at hl 3 rfl) ?_
        refine lv_istore (lv' := [(4, .int a2), (3, .int 0), (0, .ref (hgm 0)), (1, .int a1), (2, .int a2)]) hx hb dX10_prove_39 hl (by decide) rfl (fun ls hl => ?_)
        obtain ⟨ex, hlp, hf⟩ := zB1_ok hf
        have hE41_162 : ∀ (v8 : Int32) (gm_9 : zM) , ex = (v8, gm_9) → ∀ (H : Heap) (locs : List Loc) (ls : Array Slot), va_P D vwCl (wX10 T hgm gm_9 gml) H → va_D A (wX10 T hgm gm_9 gml) → va_S A s.heap H locs → lv_has ls 8 [(0, .ref (hgm 0)), (3, .int v8)] → W p l e rX10_prove s m args below meth c H locs 0 0 Q (F0 m 162 ls []) := by
          intro v8 gm_9 hex H locs ls hP hD hS hl
          have hf := zEx2 hex hf
          refine lv_aload_n hx hb dX10_prove_162 rfl (lv_at hl 0 rfl) ?_
          refine lv_iload_n hx hb dX10_prove_163 rfl (lv_at hl 1 rfl) ?_
          refine zPut (ci := 10) (C := RX10) (F := TX10) (N := 54) (x := v8) (w := gm_9) hx hb hts hiX10 tyX10 tyX10_ok nmX10 hown hK hP hD hS (fun g => wX10 T hgm g gml) 0 36 3 rfl rfl (by decide) rfl rfl rfl ⟨rfl, rfl⟩ (Nat.le_of_ble_eq_true rfl) rfl dX10_prove_164 (fun gm_28 egm_28 H locs hP hD hS => ?_)
          replace hP : va_P D vwCl (wX10 T hgm gm_28 gml) H := hP
          replace hD : va_D A (wX10 T hgm gm_28 gml) := hD
          replace hf := zLt_at egm_28 hf
          refine lv_aload_n hx hb dX10_prove_167 rfl (lv_at hl 0 rfl) ?_
          refine zGet (ci := 10) (C := RX10) (F := TX10) (N := 54) (v := .int (gm_28 0 36)) hx hb hts hiX10 hown hK hP 0 36 3 rfl rfl (by decide) rfl rfl rfl dX10_prove_168 ?_
          obtain ⟨q1, q2⟩ := zI2 hf
          subst q1
          subst q2
          exact zRetI hQ hx hb hr hlocks hA0 hK hP hD hS rfl dX10_prove_171
        refine zLpS3 (body := (fX10_prove_L41 a1 gml)) (b := ex) (fun (v5 : Int32) (v6 : Int32) (gm_7 : zM) => ∀ (H : Heap) (locs : List Loc) (ls : Array Slot), va_P D vwCl (wX10 T hgm gm_7 gml) H → va_D A (wX10 T hgm gm_7 gml) → va_S A s.heap H locs → lv_has ls 8 [(0, .ref (hgm 0)), (1, .int a1), (3, .int v5), (4, .int v6)] → W p l e rX10_prove s m args below meth c H locs 0 0 Q (F0 m 41 ls [])) ?_ zFU 0 a2 gm_3 hlp H locs ls hP hD hS (lv_sub hl [2, 3, 1, 0] rfl)
        intro v5 v6 gm_7 z hf hzz H locs ls hP hD hS hl
        unfold fX10_prove_L41 at hf
        replace hf := zUk3 hf
        refine lv_iload hx hb dX10_prove_41 (lv_at hl 3 rfl) ?_
        refine lv_iload_n hx hb dX10_prove_43 rfl (lv_at hl 1 rfl) ?_
        refine lv_icmp_eq (tgt := 162) hx hb dX10_prove_44 (by decide) (fun hc => ?_) (fun hc => ?_)
        · replace hf := zIf_t hc hf
          cases hf
          exact hE41_162 v5 gm_7 hzz.symm H locs ls hP hD hS (lv_sub hl [0, 2] rfl)
        · replace hf := zIf_f hc hf
          refine lv_aload_n hx hb dX10_prove_47 rfl (lv_at hl 0 rfl) ?_
          refine lv_iload hx hb dX10_prove_48 (lv_at hl 3 rfl) ?_
          obtain ⟨v10, hc50, hf⟩ := zB1_ok hf
          refine zCallVEI [.int v6] ⟨hx, hb, hml, hown, hts⟩ (pX10_earlyOf l D T X hgm H.size gm_7 gml v6 v10 hc50) (cwV 1 hts gX10_prove_X10_earlyOf rfl rfl rfl (by decide +kernel) ⟨Nat.le_of_ble_eq_true rfl, Nat.le_of_ble_eq_true rfl⟩) hK hP hD hS hA hX 0 rfl rfl rfl hl.1 rfl (Nat.le_of_ble_eq_true rfl) dX10_prove_50 ⟨Nat.zero_le _, Nat.zero_le _⟩ (fun H locs hP hD hS => ?_)
          refine lv_iconst (v := 1) hx hb dX10_prove_53 (by decide) ?_
          refine lv_isub hx hb dX10_prove_54 ?_
          refine lv_topi (fun v11 ev11 => ?_)
          replace hf := zLt_at ev11 hf
          refine lv_istore (lv' := [(5, .int v11), (0, .ref (hgm 0)), (1, .int a1), (3, .int v5), (4, .int v6)]) hx hb dX10_prove_55 hl (by decide) rfl (fun ls hl => ?_)
          refine lv_iconst (v := 0) hx hb dX10_prove_57 (by decide) ?_
          refine lv_istore (lv' := [(6, .int 0), (5, .int v11), (0, .ref (hgm 0)), (1, .int a1), (3, .int v5), (4, .int v6)]) hx hb dX10_prove_58 hl (by decide) rfl (fun ls hl => ?_)
          obtain ⟨ex, hlp, hf⟩ := zB1_ok hf
          have hE60_94 : ∀ (v13 : Int32) , ex = v13 → ∀ (H : Heap) (locs : List Loc) (ls : Array Slot), va_P D vwCl (wX10 T hgm gm_7 gml) H → va_D A (wX10 T hgm gm_7 gml) → va_S A s.heap H locs → lv_has ls 8 [(0, .ref (hgm 0)), (1, .int a1), (3, .int v5), (4, .int v6), (5, .int v11), (6, .int v13)] → W p l e rX10_prove s m args below meth c H locs 0 0 Q (F0 m 94 ls []) := by
            intro v13 hex H locs ls hP hD hS hl
            have hf := zEx1 hex hf
            refine lv_iconst (v := 3) hx hb dX10_prove_94 (by decide) ?_
            refine lv_iload_n hx hb dX10_prove_95 rfl (lv_at hl 2 rfl) ?_
            refine lv_imul hx hb dX10_prove_96 ?_
            refine lv_iconst (v := 1) hx hb dX10_prove_97 (by decide) ?_
            refine lv_isub hx hb dX10_prove_98 ?_
            refine lv_topi (fun v17 ev17 => ?_)
            replace hf := zLt_at ev17 hf
            refine lv_istore (lv' := [(7, .int v17), (0, .ref (hgm 0)), (1, .int a1), (3, .int v5), (4, .int v6), (5, .int v11), (6, .int v13)]) hx hb dX10_prove_99 hl (by decide) rfl (fun ls hl => ?_)
            obtain ⟨ex, hlp, hf⟩ := zB1_ok hf
            have hE101_128 : ∀ (gm_20 : zM) , ex = gm_20 → ∀ (H : Heap) (locs : List Loc) (ls : Array Slot), va_P D vwCl (wX10 T hgm gm_20 gml) H → va_D A (wX10 T hgm gm_20 gml) → va_S A s.heap H locs → lv_has ls 8 [(0, .ref (hgm 0)), (1, .int a1), (3, .int v5), (4, .int v6), (5, .int v11), (6, .int v13)] → W p l e rX10_prove s m args below meth c H locs 0 0 Q (F0 m 128 ls []) := by
              intro gm_20 hex H locs ls hP hD hS hl
              have hf := zEx1 hex hf
              refine lv_aload_n hx hb dX10_prove_128 rfl (lv_at hl 0 rfl) ?_
              refine zGet (ci := 10) (C := RX10) (F := TX10) (N := 54) (v := .ref (hgm 16)) hx hb hts hiX10 hown hK hP 0 35 2 rfl rfl (by decide) rfl rfl rfl dX10_prove_129 ?_
              refine lv_iconst (v := 0) hx hb dX10_prove_132 (by decide) ?_
              refine lv_iload hx hb dX10_prove_133 (lv_at hl 4 rfl) ?_
              obtain ⟨hg, hf⟩ := zGd_ok hf
              refine zAstI (w := gm_20) hx hb hK hP hD hS (fun g => wX10 T hgm g gml) 16 16 rfl hg rfl dX10_prove_135 (fun gm_24 egm_24 H locs hP hD hS => ?_)
              replace hP : va_P D vwCl (wX10 T hgm gm_24 gml) H := hP
              replace hD : va_D A (wX10 T hgm gm_24 gml) := hD
              replace hf := zLt_at egm_24 hf
              refine lv_aload_n hx hb dX10_prove_136 rfl (lv_at hl 0 rfl) ?_
              refine zGet (ci := 10) (C := RX10) (F := TX10) (N := 54) (v := .ref (hgm 16)) hx hb hts hiX10 hown hK hP 0 35 2 rfl rfl (by decide) rfl rfl rfl dX10_prove_137 ?_
              refine lv_iconst (v := 1) hx hb dX10_prove_140 (by decide) ?_
              refine lv_iload hx hb dX10_prove_141 (lv_at hl 5 rfl) ?_
              obtain ⟨hg, hf⟩ := zGd_ok hf
              refine zAstI (w := gm_24) hx hb hK hP hD hS (fun g => wX10 T hgm g gml) 16 16 rfl hg rfl dX10_prove_143 (fun gm_25 egm_25 H locs hP hD hS => ?_)
              replace hP : va_P D vwCl (wX10 T hgm gm_25 gml) H := hP
              replace hD : va_D A (wX10 T hgm gm_25 gml) := hD
              replace hf := zLt_at egm_25 hf
              refine lv_aload_n hx hb dX10_prove_144 rfl (lv_at hl 0 rfl) ?_
              refine zGet (ci := 10) (C := RX10) (F := TX10) (N := 54) (v := .ref (hgm 16)) hx hb hts hiX10 hown hK hP 0 35 2 rfl rfl (by decide) rfl rfl rfl dX10_prove_145 ?_
              refine lv_iconst (v := 2) hx hb dX10_prove_148 (by decide) ?_
              refine lv_iload hx hb dX10_prove_149 (lv_at hl 3 rfl) ?_
              obtain ⟨hg, hf⟩ := zGd_ok hf
              refine zAstI (w := gm_25) hx hb hK hP hD hS (fun g => wX10 T hgm g gml) 16 16 rfl hg rfl dX10_prove_151 (fun gm_26 egm_26 H locs hP hD hS => ?_)
              replace hP : va_P D vwCl (wX10 T hgm gm_26 gml) H := hP
              replace hD : va_D A (wX10 T hgm gm_26 gml) := hD
              replace hf := zLt_at egm_26 hf
              obtain ⟨v27, ev27⟩ : ∃ y : Int32, y = v5 + 1 := ⟨_, rfl⟩
              replace hf := zLt_at ev27 hf
              refine lv_iinc (v := v27) (lv' := [(3, .int v27), (0, .ref (hgm 0)), (1, .int a1), (4, .int v6), (5, .int v11), (6, .int v13)]) hx hb dX10_prove_152 hl (k := 2) rfl (by rw [ev27]; rfl) (by decide) rfl (fun ls hl => ?_)
              refine lv_iload hx hb dX10_prove_155 (lv_at hl 5 rfl) ?_
              refine lv_istore (lv' := [(4, .int v13), (3, .int v27), (0, .ref (hgm 0)), (1, .int a1), (5, .int v11), (6, .int v13)]) hx hb dX10_prove_157 hl (by decide) rfl (fun ls hl => ?_)
              refine lv_goto (tgt := 41) hx hb dX10_prove_159 (by decide) ?_
              cases hf
              exact hzz H locs ls hP hD hS (lv_sub hl [2, 3, 1, 0] rfl)
            refine zLpS2 (body := fX10_prove_L101) (b := ex) (fun (v18 : Int32) (gm_19 : zM) => ∀ (H : Heap) (locs : List Loc) (ls : Array Slot), va_P D vwCl (wX10 T hgm gm_19 gml) H → va_D A (wX10 T hgm gm_19 gml) → va_S A s.heap H locs → lv_has ls 8 [(0, .ref (hgm 0)), (1, .int a1), (3, .int v5), (4, .int v6), (5, .int v11), (6, .int v13), (7, .int v18)] → W p l e rX10_prove s m args below meth c H locs 0 0 Q (F0 m 101 ls [])) ?_ zFU v17 gm_7 hlp H locs ls hP hD hS (lv_sub hl [1, 2, 3, 4, 5, 6, 0] rfl)
            intro v18 gm_19 z hf hzz H locs ls hP hD hS hl
            unfold fX10_prove_L101 at hf
            replace hf := zUk2 hf
            refine lv_iload hx hb dX10_prove_101 (lv_at hl 6 rfl) ?_
            refine lv_if_lt (tgt := 128) hx hb dX10_prove_103 (by decide) (fun hc => ?_) (fun hc => ?_)
            · replace hf := zIf_t hc hf
              cases hf
              exact hE101_128 gm_19 hzz.symm H locs ls hP hD hS (lv_sub hl [0, 1, 2, 3, 4, 5] rfl)
            · replace hf := zIf_f hc hf
              refine lv_aload_n hx hb dX10_prove_106 rfl (lv_at hl 0 rfl) ?_
              refine zGet (ci := 10) (C := RX10) (F := TX10) (N := 54) (v := .ref (hgm 16)) hx hb hts hiX10 hown hK hP 0 35 2 rfl rfl (by decide) rfl rfl rfl dX10_prove_107 ?_
              refine lv_iload hx hb dX10_prove_110 (lv_at hl 6 rfl) ?_
              refine lv_iconst (v := 3) hx hb dX10_prove_112 (by decide) ?_
              refine lv_iadd hx hb dX10_prove_113 ?_
              refine lv_aload_n hx hb dX10_prove_114 rfl (lv_at hl 0 rfl) ?_
              refine zGet (ci := 10) (C := RX10) (F := TX10) (N := 54) (v := .ref (hgm 16)) hx hb hts hiX10 hown hK hP 0 35 2 rfl rfl (by decide) rfl rfl rfl dX10_prove_115 ?_
              refine lv_iload hx hb dX10_prove_118 (lv_at hl 6 rfl) ?_
              obtain ⟨hg, hf⟩ := zGd_ok hf
              refine zAldI hx hb hK hP 16 rfl hg dX10_prove_120 (fun v21 ev21 => ?_)
              replace hf := zLt_at ev21 hf
              obtain ⟨hg, hf⟩ := zGd_ok hf
              refine zAstI (w := gm_19) hx hb hK hP hD hS (fun g => wX10 T hgm g gml) 16 16 rfl hg rfl dX10_prove_121 (fun gm_22 egm_22 H locs hP hD hS => ?_)
              replace hP : va_P D vwCl (wX10 T hgm gm_22 gml) H := hP
              replace hD : va_D A (wX10 T hgm gm_22 gml) := hD
              replace hf := zLt_at egm_22 hf
              obtain ⟨v23, ev23⟩ : ∃ y : Int32, y = v18 + (-1) := ⟨_, rfl⟩
              replace hf := zLt_at ev23 hf
              refine lv_iinc (v := v23) (lv' := [(7, .int v23), (0, .ref (hgm 0)), (1, .int a1), (3, .int v5), (4, .int v6), (5, .int v11), (6, .int v13)]) hx hb dX10_prove_122 hl (k := 6) rfl (by rw [ev23]; rfl) (by decide) rfl (fun ls hl => ?_)
              refine lv_goto (tgt := 101) hx hb dX10_prove_125 (by decide) ?_
              cases hf
              exact hzz H locs ls hP hD hS (lv_sub hl [1, 2, 3, 4, 5, 6, 0] rfl)
          refine zLpS1 (body := (fX10_prove_L60 gml v6 gm_7 v11)) (b := ex) (fun (v12 : Int32) => ∀ (H : Heap) (locs : List Loc) (ls : Array Slot), va_P D vwCl (wX10 T hgm gm_7 gml) H → va_D A (wX10 T hgm gm_7 gml) → va_S A s.heap H locs → lv_has ls 8 [(0, .ref (hgm 0)), (1, .int a1), (3, .int v5), (4, .int v6), (5, .int v11), (6, .int v12)] → W p l e rX10_prove s m args below meth c H locs 0 0 Q (F0 m 60 ls [])) ?_ zFU 0 hlp H locs ls hP hD hS (lv_sub hl [2, 3, 4, 5, 1, 0] rfl)
          intro v12 z hf hzz H locs ls hP hD hS hl
          unfold fX10_prove_L60 at hf
          replace hf := zUk1 hf
          refine lv_aload_n hx hb dX10_prove_60 rfl (lv_at hl 0 rfl) ?_
          refine zGet (ci := 10) (C := RX10) (F := TX10) (N := 54) (v := .ref (hgm 13)) hx hb hts hiX10 hown hK hP 0 32 1 rfl rfl (by decide) rfl rfl rfl dX10_prove_61 ?_
          refine lv_iload hx hb dX10_prove_64 (lv_at hl 4 rfl) ?_
          obtain ⟨hg, hf⟩ := zGd_ok hf
          refine zAldI hx hb hK hP 13 rfl hg dX10_prove_66 (fun v14 ev14 => ?_)
          replace hf := zLt_at ev14 hf
          refine lv_iload hx hb dX10_prove_67 (lv_at hl 5 rfl) ?_
          refine lv_ishr hx hb dX10_prove_69 ?_
          refine lv_iconst (v := 1) hx hb dX10_prove_70 (by decide) ?_
          refine lv_iand hx hb dX10_prove_71 ?_
          have hJ88 : ∀ (H : Heap) (locs : List Loc) (ls : Array Slot), fX10_prove_L60J88 v12 = some z → va_P D vwCl (wX10 T hgm gm_7 gml) H → va_D A (wX10 T hgm gm_7 gml) → va_S A s.heap H locs → lv_has ls 8 [(0, .ref (hgm 0)), (1, .int a1), (3, .int v5), (4, .int v6), (5, .int v11), (6, .int v12)] → W p l e rX10_prove s m args below meth c H locs 0 0 Q (F0 m 88 ls []) := by
            intro H locs ls hf hP hD hS hl
            unfold fX10_prove_L60J88 at hf
            obtain ⟨v15, ev15⟩ : ∃ y : Int32, y = v12 + 1 := ⟨_, rfl⟩
            replace hf := zLt_at ev15 hf
            refine lv_iinc (v := v15) (lv' := [(6, .int v15), (0, .ref (hgm 0)), (1, .int a1), (3, .int v5), (4, .int v6), (5, .int v11)]) hx hb dX10_prove_88 hl (k := 5) rfl (by rw [ev15]; rfl) (by decide) rfl (fun ls hl => ?_)
            refine lv_goto (tgt := 60) hx hb dX10_prove_91 (by decide) ?_
            cases hf
            exact hzz H locs ls hP hD hS (lv_sub hl [1, 2, 3, 4, 5, 0] rfl)
          refine lv_if_eq (tgt := 88) hx hb dX10_prove_72 (by decide) (fun hc => ?_) (fun hc => ?_)
          · replace hf := zIf_t hc hf
            exact hJ88 H locs ls hf hP hD hS hl
          · replace hf := zIf_f hc hf
            refine lv_aload_n hx hb dX10_prove_75 rfl (lv_at hl 0 rfl) ?_
            refine lv_iload hx hb dX10_prove_76 (lv_at hl 5 rfl) ?_
            refine lv_iload hx hb dX10_prove_78 (lv_at hl 3 rfl) ?_
            refine lv_iload hx hb dX10_prove_80 (lv_at hl 4 rfl) ?_
            obtain ⟨v16, hc82, hf⟩ := zB1_ok hf
            refine zCallVEI [.int v12, .int v6, .int v11] ⟨hx, hb, hml, hown, hts⟩ (pX10_areOpen l D T X hgm H.size gm_7 gml v12 v6 v11 v16 hc82) (cwV 3 hts gX10_prove_X10_areOpen rfl rfl rfl (by decide +kernel) ⟨Nat.le_of_ble_eq_true rfl, Nat.le_of_ble_eq_true rfl⟩) hK hP hD hS hA hX 0 rfl rfl rfl hl.1 rfl (Nat.le_of_ble_eq_true rfl) dX10_prove_82 ⟨Nat.zero_le _, Nat.zero_le _⟩ (fun H locs hP hD hS => ?_)
            refine lv_if_ne (tgt := 94) hx hb dX10_prove_85 (by decide) (fun hc => ?_) (fun hc => ?_)
            · replace hf := zIf_f hc hf
              cases hf
              exact hE60_94 v12 hzz.symm H locs ls hP hD hS hl
            · replace hf := zIf_t hc hf
              exact hJ88 H locs ls hf hP hD hS hl
      · replace hf := zIf_f hc hf
        refine lv_bipush (v := (-3)) hx hb dX10_prove_33 (by decide) ?_
        obtain ⟨q1, q2⟩ := zI2 hf
        subst q1
        subst q2
        exact zRetI hQ hx hb hr hlocks hA0 hK hP hD hS rfl dX10_prove_35
    · replace hf := zIf_t hc hf
      refine lv_iconst (v := (-1)) hx hb dX10_prove_16 (by decide) ?_
      obtain ⟨q1, q2⟩ := zI2 hf
      subst q1
      subst q2
      exact zRetI hQ hx hb hr hlocks hA0 hK hP hD hS rfl dX10_prove_17
set_option maxHeartbeats 4000000 in
set_option maxRecDepth 100000 in
theorem pX10_isRow (l : Launch) (D : va_G) (T : Nat → ClassId) (X : zFP) (hgm : Nat → Nat) (sz : Nat) (gm : zM) (gml : zL) (a1 : Int32) (a2 : Int32) (r : Int32) (hf : fX10_isRow gm gml a1 a2 = some r) : Met l yX10_isRow wsX10_isRow rX10_isRow (zPre D T X [.ref (hgm 0), .int a1, .int a2] (wX10 T hgm gm gml) sz) (zQi D T r (wX10 T hgm gm gml) (wX10 T hgm gm gml) sz) 0 0 (va_A (wX10 T hgm gm gml) sz) := by
  unfold fX10_isRow at hf
  refine zStart [(0, .ref (hgm 0)), (1, .int a1), (2, .int a2)] (by decide) rfl (Nat.le_of_ble_eq_true rfl) rfl ?_
  intro p e s m args below meth c A Q ls hx hb hr hml hown hlocks hts hsz hA0 hQ hA hK hX hP hD hS hl
  replace hown : s.vm.findClass RX10 = some m.cls := hown
  have hH := hsz
  have hiX10 : ∀ w ∈ u_ws RX10 TX10 54, w ∈ wsX10_isRow := fun w h => List.mem_cons_of_mem _ (List.mem_append_right _ (h))
  obtain ⟨H, hHe⟩ : ∃ H : Heap, H = s.heap := ⟨_, rfl⟩
  obtain ⟨locs, hLe⟩ : ∃ L : List Loc, L = [] := ⟨_, rfl⟩
  replace hP : va_P D vwCl (wX10 T hgm gm gml) H := by rw [hHe]; exact hP
  replace hS : va_S A s.heap H locs := by rw [hHe, hLe]; exact hS
  suffices hgo : W p l e rX10_isRow s m args below meth c H locs 0 0 Q (F0 m 0 ls []) by rw [hHe, hLe] at hgo; exact hgo
  clear hHe hLe
  refine lv_iload_n hx hb dX10_isRow_0 rfl (lv_at hl 1 rfl) ?_
  refine lv_iconst (v := 0) hx hb dX10_isRow_1 (by decide) ?_
  refine lv_aload_n hx hb dX10_isRow_2 rfl (lv_at hl 0 rfl) ?_
  refine zGet (ci := 10) (C := RX10) (F := TX10) (N := 54) (v := .int (gm 0 36)) hx hb hts hiX10 hown hK hP 0 36 1 rfl rfl (by decide) rfl rfl rfl dX10_isRow_3 ?_
  refine lv_iconst (v := 1) hx hb dX10_isRow_6 (by decide) ?_
  refine lv_isub hx hb dX10_isRow_7 ?_
  obtain ⟨v1, hc8, hf⟩ := zB1_ok hf
  refine zCallS0I [.int a1, .int 0, .int ((gm 0 36) - 1)] ⟨hx, hb, hml, hown, hts⟩ (pX10_in l D T X H.size a1 0 ((gm 0 36) - 1) v1 hc8) (va_cwS 3 hts gX10_isRow_X10_in rfl rfl rfl (by decide +kernel) ⟨Nat.le_of_ble_eq_true rfl, Nat.le_of_ble_eq_true rfl⟩) hK hP hD hS hA hX rfl hl.1 rfl (Nat.le_of_ble_eq_true rfl) dX10_isRow_8 ⟨Nat.zero_le _, Nat.zero_le _⟩ (fun H locs hP hD hS => ?_)
  refine lv_if_eq (tgt := 27) hx hb dX10_isRow_11 (by decide) (fun hc => ?_) (fun hc => ?_)
  · replace hf := zIf_t hc hf
    refine lv_iconst (v := 0) hx hb dX10_isRow_27 (by decide) ?_
    obtain ⟨q1, -⟩ := zI1 hf
    subst q1
    exact zRetZ hQ hx hb hr hlocks hA0 hK hP hD hS (by decide) rfl dX10_isRow_28
  · replace hf := zIf_f hc hf
    refine lv_iload_n hx hb dX10_isRow_14 rfl (lv_at hl 2 rfl) ?_
    refine lv_iconst (v := 0) hx hb dX10_isRow_15 (by decide) ?_
    refine lv_iconst (v := 2) hx hb dX10_isRow_16 (by decide) ?_
    obtain ⟨v2, hc17, hf⟩ := zB1_ok hf
    refine zCallS0I [.int a2, .int 0, .int 2] ⟨hx, hb, hml, hown, hts⟩ (pX10_in l D T X H.size a2 0 2 v2 hc17) (va_cwS 3 hts gX10_isRow_X10_in rfl rfl rfl (by decide +kernel) ⟨Nat.le_of_ble_eq_true rfl, Nat.le_of_ble_eq_true rfl⟩) hK hP hD hS hA hX rfl hl.1 rfl (Nat.le_of_ble_eq_true rfl) dX10_isRow_17 ⟨Nat.zero_le _, Nat.zero_le _⟩ (fun H locs hP hD hS => ?_)
    refine lv_if_eq (tgt := 27) hx hb dX10_isRow_20 (by decide) (fun hc => ?_) (fun hc => ?_)
    · replace hf := zIf_t hc hf
      refine lv_iconst (v := 0) hx hb dX10_isRow_27 (by decide) ?_
      obtain ⟨q1, -⟩ := zI1 hf
      subst q1
      exact zRetZ hQ hx hb hr hlocks hA0 hK hP hD hS (by decide) rfl dX10_isRow_28
    · replace hf := zIf_f hc hf
      refine lv_iconst (v := 1) hx hb dX10_isRow_23 (by decide) ?_
      refine lv_goto (tgt := 28) hx hb dX10_isRow_24 (by decide) ?_
      obtain ⟨q1, -⟩ := zI1 hf
      subst q1
      exact zRetZ hQ hx hb hr hlocks hA0 hK hP hD hS (by decide) rfl dX10_isRow_28
set_option maxHeartbeats 4000000 in
set_option maxRecDepth 100000 in
theorem pX10_row (l : Launch) (D : va_G) (T : Nat → ClassId) (X : zFP) (hgm : Nat → Nat) (sz : Nat) (gm : zM) (gml : zL) (a1 : Int32) (a2 : Int32) (r : Int32) (hf : fX10_row gm gml a1 a2 = some r) : Met l yX10_row wsX10_row rX10_row (zPre D T X [.ref (hgm 0), .int a1, .int a2] (wX10 T hgm gm gml) sz) (zQi D T r (wX10 T hgm gm gml) (wX10 T hgm gm gml) sz) 0 0 (va_A (wX10 T hgm gm gml) sz) := by
  unfold fX10_row at hf
  refine zStart [(0, .ref (hgm 0)), (1, .int a1), (2, .int a2)] (by decide) rfl (Nat.le_of_ble_eq_true rfl) rfl ?_
  intro p e s m args below meth c A Q ls hx hb hr hml hown hlocks hts hsz hA0 hQ hA hK hX hP hD hS hl
  replace hown : s.vm.findClass RX10 = some m.cls := hown
  have hH := hsz
  have hiX10 : ∀ w ∈ u_ws RX10 TX10 54, w ∈ wsX10_row := fun w h => List.mem_cons_of_mem _ (List.mem_append_right _ (h))
  obtain ⟨H, hHe⟩ : ∃ H : Heap, H = s.heap := ⟨_, rfl⟩
  obtain ⟨locs, hLe⟩ : ∃ L : List Loc, L = [] := ⟨_, rfl⟩
  replace hP : va_P D vwCl (wX10 T hgm gm gml) H := by rw [hHe]; exact hP
  replace hS : va_S A s.heap H locs := by rw [hHe, hLe]; exact hS
  suffices hgo : W p l e rX10_row s m args below meth c H locs 0 0 Q (F0 m 0 ls []) by rw [hHe, hLe] at hgo; exact hgo
  clear hHe hLe
  refine lv_aload_n hx hb dX10_row_0 rfl (lv_at hl 0 rfl) ?_
  refine lv_iload_n hx hb dX10_row_1 rfl (lv_at hl 1 rfl) ?_
  refine lv_iload_n hx hb dX10_row_2 rfl (lv_at hl 2 rfl) ?_
  obtain ⟨v1, hc3, hf⟩ := zB1_ok hf
  refine zCallVEI [.int a1, .int a2] ⟨hx, hb, hml, hown, hts⟩ (pX10_isRow l D T X hgm H.size gm gml a1 a2 v1 hc3) (cwV 2 hts gX10_row_X10_isRow rfl rfl rfl (by decide +kernel) ⟨Nat.le_of_ble_eq_true rfl, Nat.le_of_ble_eq_true rfl⟩) hK hP hD hS hA hX 0 rfl rfl rfl hl.1 rfl (Nat.le_of_ble_eq_true rfl) dX10_row_3 ⟨Nat.zero_le _, Nat.zero_le _⟩ (fun H locs hP hD hS => ?_)
  refine lv_if_eq (tgt := 22) hx hb dX10_row_6 (by decide) (fun hc => ?_) (fun hc => ?_)
  · replace hf := zIf_t hc hf
    refine lv_bipush (v := (-9)) hx hb dX10_row_22 (by decide) ?_
    obtain ⟨q1, -⟩ := zI1 hf
    subst q1
    exact zRetI hQ hx hb hr hlocks hA0 hK hP hD hS rfl dX10_row_24
  · replace hf := zIf_f hc hf
    refine lv_aload_n hx hb dX10_row_9 rfl (lv_at hl 0 rfl) ?_
    refine zGet (ci := 10) (C := RX10) (F := TX10) (N := 54) (v := .ref (hgm 16)) hx hb hts hiX10 hown hK hP 0 35 1 rfl rfl (by decide) rfl rfl rfl dX10_row_10 ?_
    refine lv_iconst (v := 3) hx hb dX10_row_13 (by decide) ?_
    refine lv_iload_n hx hb dX10_row_14 rfl (lv_at hl 1 rfl) ?_
    refine lv_imul hx hb dX10_row_15 ?_
    refine lv_iload_n hx hb dX10_row_16 rfl (lv_at hl 2 rfl) ?_
    refine lv_iadd hx hb dX10_row_17 ?_
    obtain ⟨hg, hf⟩ := zGd_ok hf
    refine zAldI hx hb hK hP 16 rfl hg dX10_row_18 (fun v2 ev2 => ?_)
    replace hf := zLt_at ev2 hf
    refine lv_goto (tgt := 24) hx hb dX10_row_19 (by decide) ?_
    obtain ⟨q1, -⟩ := zI1 hf
    subst q1
    exact zRetI hQ hx hb hr hlocks hA0 hK hP hD hS rfl dX10_row_24
set_option maxHeartbeats 4000000 in
set_option maxRecDepth 100000 in
theorem pX10_alterRow (l : Launch) (D : va_G) (T : Nat → ClassId) (X : zFP) (hgm : Nat → Nat) (sz : Nat) (gm : zM) (gml : zL) (a1 : Int32) (a2 : Int32) (a3 : Int32) (r : Int32) (ngm : zM) (hf : fX10_alterRow gm gml a1 a2 a3 = some (r, ngm)) : Met l yX10_alterRow wsX10_alterRow rX10_alterRow (zPre D T X [.ref (hgm 0), .int a1, .int a2, .int a3] (wX10 T hgm gm gml) sz) (zQi D T r (wX10 T hgm ngm gml) (wX10 T hgm gm gml) sz) 0 0 (va_A (wX10 T hgm gm gml) sz) := by
  unfold fX10_alterRow at hf
  refine zStart [(0, .ref (hgm 0)), (1, .int a1), (2, .int a2), (3, .int a3)] (by decide) rfl (Nat.le_of_ble_eq_true rfl) rfl ?_
  intro p e s m args below meth c A Q ls hx hb hr hml hown hlocks hts hsz hA0 hQ hA hK hX hP hD hS hl
  replace hown : s.vm.findClass RX10 = some m.cls := hown
  have hH := hsz
  have hiX10 : ∀ w ∈ u_ws RX10 TX10 54, w ∈ wsX10_alterRow := fun w h => List.mem_cons_of_mem _ (List.mem_append_right _ (h))
  obtain ⟨H, hHe⟩ : ∃ H : Heap, H = s.heap := ⟨_, rfl⟩
  obtain ⟨locs, hLe⟩ : ∃ L : List Loc, L = [] := ⟨_, rfl⟩
  replace hP : va_P D vwCl (wX10 T hgm gm gml) H := by rw [hHe]; exact hP
  replace hS : va_S A s.heap H locs := by rw [hHe, hLe]; exact hS
  suffices hgo : W p l e rX10_alterRow s m args below meth c H locs 0 0 Q (F0 m 0 ls []) by rw [hHe, hLe] at hgo; exact hgo
  clear hHe hLe
  refine lv_aload_n hx hb dX10_alterRow_0 rfl (lv_at hl 0 rfl) ?_
  refine lv_iload_n hx hb dX10_alterRow_1 rfl (lv_at hl 1 rfl) ?_
  refine lv_iload_n hx hb dX10_alterRow_2 rfl (lv_at hl 2 rfl) ?_
  obtain ⟨v1, hc3, hf⟩ := zB1_ok hf
  refine zCallVEI [.int a1, .int a2] ⟨hx, hb, hml, hown, hts⟩ (pX10_isRow l D T X hgm H.size gm gml a1 a2 v1 hc3) (cwV 2 hts gX10_alterRow_X10_isRow rfl rfl rfl (by decide +kernel) ⟨Nat.le_of_ble_eq_true rfl, Nat.le_of_ble_eq_true rfl⟩) hK hP hD hS hA hX 0 rfl rfl rfl hl.1 rfl (Nat.le_of_ble_eq_true rfl) dX10_alterRow_3 ⟨Nat.zero_le _, Nat.zero_le _⟩ (fun H locs hP hD hS => ?_)
  refine lv_if_ne (tgt := 12) hx hb dX10_alterRow_6 (by decide) (fun hc => ?_) (fun hc => ?_)
  · replace hf := zIf_f hc hf
    refine lv_aload_n hx hb dX10_alterRow_12 rfl (lv_at hl 0 rfl) ?_
    refine zGet (ci := 10) (C := RX10) (F := TX10) (N := 54) (v := .ref (hgm 16)) hx hb hts hiX10 hown hK hP 0 35 1 rfl rfl (by decide) rfl rfl rfl dX10_alterRow_13 ?_
    refine lv_iconst (v := 3) hx hb dX10_alterRow_16 (by decide) ?_
    refine lv_iload_n hx hb dX10_alterRow_17 rfl (lv_at hl 1 rfl) ?_
    refine lv_imul hx hb dX10_alterRow_18 ?_
    refine lv_iload_n hx hb dX10_alterRow_19 rfl (lv_at hl 2 rfl) ?_
    refine lv_iadd hx hb dX10_alterRow_20 ?_
    obtain ⟨hg, hf⟩ := zGd_ok hf
    refine zAldI hx hb hK hP 16 rfl hg dX10_alterRow_21 (fun v2 ev2 => ?_)
    replace hf := zLt_at ev2 hf
    refine lv_istore (lv' := [(4, .int v2), (0, .ref (hgm 0)), (1, .int a1), (2, .int a2), (3, .int a3)]) hx hb dX10_alterRow_22 hl (by decide) rfl (fun ls hl => ?_)
    refine lv_aload_n hx hb dX10_alterRow_24 rfl (lv_at hl 1 rfl) ?_
    refine zGet (ci := 10) (C := RX10) (F := TX10) (N := 54) (v := .ref (hgm 16)) hx hb hts hiX10 hown hK hP 0 35 1 rfl rfl (by decide) rfl rfl rfl dX10_alterRow_25 ?_
    refine lv_iconst (v := 3) hx hb dX10_alterRow_28 (by decide) ?_
    refine lv_iload_n hx hb dX10_alterRow_29 rfl (lv_at hl 2 rfl) ?_
    refine lv_imul hx hb dX10_alterRow_30 ?_
    refine lv_iload_n hx hb dX10_alterRow_31 rfl (lv_at hl 3 rfl) ?_
    refine lv_iadd hx hb dX10_alterRow_32 ?_
    refine lv_iload_n hx hb dX10_alterRow_33 rfl (lv_at hl 4 rfl) ?_
    obtain ⟨hg, hf⟩ := zGd_ok hf
    refine zAstI (w := gm) hx hb hK hP hD hS (fun g => wX10 T hgm g gml) 16 16 rfl hg rfl dX10_alterRow_34 (fun gm_3 egm_3 H locs hP hD hS => ?_)
    replace hP : va_P D vwCl (wX10 T hgm gm_3 gml) H := hP
    replace hD : va_D A (wX10 T hgm gm_3 gml) := hD
    replace hf := zLt_at egm_3 hf
    refine lv_iload hx hb dX10_alterRow_35 (lv_at hl 0 rfl) ?_
    obtain ⟨q1, q2⟩ := zI2 hf
    subst q1
    subst q2
    exact zRetI hQ hx hb hr hlocks hA0 hK hP hD hS rfl dX10_alterRow_37
  · replace hf := zIf_t hc hf
    refine lv_bipush (v := (-9)) hx hb dX10_alterRow_9 (by decide) ?_
    obtain ⟨q1, q2⟩ := zI2 hf
    subst q1
    subst q2
    exact zRetI hQ hx hb hr hlocks hA0 hK hP hD hS rfl dX10_alterRow_11
set_option maxHeartbeats 4000000 in
set_option maxRecDepth 100000 in
theorem pX10_judge (l : Launch) (D : va_G) (T : Nat → ClassId) (X : zFP) (hgm : Nat → Nat) (sz : Nat) (gm : zM) (gml : zL) (a1 : Int32) (a2 : Int32) (r : Int32) (hf : fX10_judge gm gml a1 a2 = some r) : Met l yX10_judge wsX10_judge rX10_judge (zPre D T X [.ref (hgm 0), .int a1, .int a2] (wX10 T hgm gm gml) sz) (zQi D T r (wX10 T hgm gm gml) (wX10 T hgm gm gml) sz) 0 0 (va_A (wX10 T hgm gm gml) sz) := by
  unfold fX10_judge at hf
  refine zStart [(0, .ref (hgm 0)), (1, .int a1), (2, .int a2)] (by decide) rfl (Nat.le_of_ble_eq_true rfl) rfl ?_
  intro p e s m args below meth c A Q ls hx hb hr hml hown hlocks hts hsz hA0 hQ hA hK hX hP hD hS hl
  replace hown : s.vm.findClass RX10 = some m.cls := hown
  have hH := hsz
  have hiX10 : ∀ w ∈ u_ws RX10 TX10 54, w ∈ wsX10_judge := fun w h => List.mem_cons_of_mem _ (List.mem_append_right _ (h))
  obtain ⟨H, hHe⟩ : ∃ H : Heap, H = s.heap := ⟨_, rfl⟩
  obtain ⟨locs, hLe⟩ : ∃ L : List Loc, L = [] := ⟨_, rfl⟩
  replace hP : va_P D vwCl (wX10 T hgm gm gml) H := by rw [hHe]; exact hP
  replace hS : va_S A s.heap H locs := by rw [hHe, hLe]; exact hS
  suffices hgo : W p l e rX10_judge s m args below meth c H locs 0 0 Q (F0 m 0 ls []) by rw [hHe, hLe] at hgo; exact hgo
  clear hHe hLe
  refine lv_aload_n hx hb dX10_judge_0 rfl (lv_at hl 0 rfl) ?_
  refine lv_iload_n hx hb dX10_judge_1 rfl (lv_at hl 1 rfl) ?_
  obtain ⟨v1, hc2, hf⟩ := zB1_ok hf
  refine zCallVEI [.int a1] ⟨hx, hb, hml, hown, hts⟩ (pX10_isPerson l D T X hgm H.size gm gml a1 v1 hc2) (cwV 1 hts gX10_judge_X10_isPerson rfl rfl rfl (by decide +kernel) ⟨Nat.le_of_ble_eq_true rfl, Nat.le_of_ble_eq_true rfl⟩) hK hP hD hS hA hX 0 rfl rfl rfl hl.1 rfl (Nat.le_of_ble_eq_true rfl) dX10_judge_2 ⟨Nat.zero_le _, Nat.zero_le _⟩ (fun H locs hP hD hS => ?_)
  refine lv_if_eq (tgt := 16) hx hb dX10_judge_5 (by decide) (fun hc => ?_) (fun hc => ?_)
  · replace hf := zIf_t hc hf
    refine lv_iconst (v := (-1)) hx hb dX10_judge_16 (by decide) ?_
    obtain ⟨q1, -⟩ := zI1 hf
    subst q1
    exact zRetI hQ hx hb hr hlocks hA0 hK hP hD hS rfl dX10_judge_17
  · replace hf := zIf_f hc hf
    refine lv_aload_n hx hb dX10_judge_8 rfl (lv_at hl 0 rfl) ?_
    refine lv_iload_n hx hb dX10_judge_9 rfl (lv_at hl 2 rfl) ?_
    obtain ⟨v2, hc10, hf⟩ := zB1_ok hf
    refine zCallVEI [.int a2] ⟨hx, hb, hml, hown, hts⟩ (pX10_isPerson l D T X hgm H.size gm gml a2 v2 hc10) (cwV 1 hts gX10_judge_X10_isPerson rfl rfl rfl (by decide +kernel) ⟨Nat.le_of_ble_eq_true rfl, Nat.le_of_ble_eq_true rfl⟩) hK hP hD hS hA hX 0 rfl rfl rfl hl.1 rfl (Nat.le_of_ble_eq_true rfl) dX10_judge_10 ⟨Nat.zero_le _, Nat.zero_le _⟩ (fun H locs hP hD hS => ?_)
    refine lv_if_ne (tgt := 18) hx hb dX10_judge_13 (by decide) (fun hc => ?_) (fun hc => ?_)
    · replace hf := zIf_f hc hf
      refine lv_iload_n hx hb dX10_judge_18 rfl (lv_at hl 1 rfl) ?_
      refine lv_istore_n (lv' := [(3, .int a1), (0, .ref (hgm 0)), (1, .int a1), (2, .int a2)]) hx hb dX10_judge_19 rfl hl (by decide) rfl (fun ls hl => ?_)
      refine lv_iconst (v := (-1)) hx hb dX10_judge_20 (by decide) ?_
      refine lv_istore (lv' := [(4, .int (-1)), (3, .int a1), (0, .ref (hgm 0)), (1, .int a1), (2, .int a2)]) hx hb dX10_judge_21 hl (by decide) rfl (fun ls hl => ?_)
      refine lv_iconst (v := 0) hx hb dX10_judge_23 (by decide) ?_
      refine lv_istore (lv' := [(5, .int 0), (4, .int (-1)), (3, .int a1), (0, .ref (hgm 0)), (1, .int a1), (2, .int a2)]) hx hb dX10_judge_24 hl (by decide) rfl (fun ls hl => ?_)
      obtain ⟨ex, hlp, hf⟩ := zB1_ok hf
      have hE26_116 : ∀ (v6 : Int32) , ex = (.inl v6) → ∀ (H : Heap) (locs : List Loc) (ls : Array Slot), va_P D vwCl (wX10 T hgm gm gml) H → va_D A (wX10 T hgm gm gml) → va_S A s.heap H locs → lv_has ls 7 [(2, .int a2), (3, .int v6)] → W p l e rX10_judge s m args below meth c H locs 0 0 Q (F0 m 116 ls []) := by
        intro v6 hex H locs ls hP hD hS hl
        have hf := zExL1 hex hf
        refine lv_iload_n hx hb dX10_judge_116 rfl (lv_at hl 1 rfl) ?_
        refine lv_iload_n hx hb dX10_judge_117 rfl (lv_at hl 0 rfl) ?_
        refine lv_icmp_ne (tgt := 125) hx hb dX10_judge_118 (by decide) (fun hc => ?_) (fun hc => ?_)
        · replace hf := zIf_f hc hf
          refine lv_sipush (v := 222) hx hb dX10_judge_125 (by decide) ?_
          obtain ⟨q1, -⟩ := zI1 hf
          subst q1
          exact zRetI hQ hx hb hr hlocks hA0 hK hP hD hS rfl dX10_judge_128
        · replace hf := zIf_t hc hf
          refine lv_iconst (v := 0) hx hb dX10_judge_121 (by decide) ?_
          refine lv_goto (tgt := 128) hx hb dX10_judge_122 (by decide) ?_
          obtain ⟨q1, -⟩ := zI1 hf
          subst q1
          exact zRetI hQ hx hb hr hlocks hA0 hK hP hD hS rfl dX10_judge_128
      have hE26_89 : ∀ (v7 : Int32) , ex = (.inr v7) → ∀ (H : Heap) (locs : List Loc) (ls : Array Slot), va_P D vwCl (wX10 T hgm gm gml) H → va_D A (wX10 T hgm gm gml) → va_S A s.heap H locs → lv_has ls 7 [(5, .int v7)] → W p l e rX10_judge s m args below meth c H locs 0 0 Q (F0 m 89 ls []) := by
        intro v7 hex H locs ls hP hD hS hl
        have hf := zSmR hex hf
        have hf := zEx1 rfl hf
        refine lv_iload hx hb dX10_judge_89 (lv_at hl 0 rfl) ?_
        refine lv_iconst (v := 1) hx hb dX10_judge_91 (by decide) ?_
        refine lv_iadd hx hb dX10_judge_92 ?_
        obtain ⟨q1, -⟩ := zI1 hf
        subst q1
        exact zRetI hQ hx hb hr hlocks hA0 hK hP hD hS rfl dX10_judge_93
      refine zLpS3 (body := (fX10_judge_L26 gm gml)) (b := ex) (fun (v3 : Int32) (v4 : Int32) (v5 : Int32) => ∀ (H : Heap) (locs : List Loc) (ls : Array Slot), va_P D vwCl (wX10 T hgm gm gml) H → va_D A (wX10 T hgm gm gml) → va_S A s.heap H locs → lv_has ls 7 [(0, .ref (hgm 0)), (2, .int a2), (3, .int v3), (4, .int v4), (5, .int v5)] → W p l e rX10_judge s m args below meth c H locs 0 0 Q (F0 m 26 ls [])) ?_ zFU a1 (-1) 0 hlp H locs ls hP hD hS (lv_sub hl [3, 5, 2, 1, 0] rfl)
      intro v3 v4 v5 z hf hzz H locs ls hP hD hS hl
      unfold fX10_judge_L26 at hf
      replace hf := zUk3 hf
      refine lv_iload hx hb dX10_judge_26 (lv_at hl 4 rfl) ?_
      refine lv_aload_n hx hb dX10_judge_28 rfl (lv_at hl 0 rfl) ?_
      refine zGet (ci := 10) (C := RX10) (F := TX10) (N := 54) (v := .int (gm 0 36)) hx hb hts hiX10 hown hK hP 0 36 1 rfl rfl (by decide) rfl rfl rfl dX10_judge_29 ?_
      refine lv_icmp_ge (tgt := 116) hx hb dX10_judge_32 (by decide) (fun hc => ?_) (fun hc => ?_)
      · replace hf := zIf_t hc hf
        cases hf
        exact hE26_116 v3 hzz.symm H locs ls hP hD hS (lv_sub hl [1, 2] rfl)
      · replace hf := zIf_f hc hf
        refine lv_aload_n hx hb dX10_judge_35 rfl (lv_at hl 0 rfl) ?_
        refine zGet (ci := 10) (C := RX10) (F := TX10) (N := 54) (v := .ref (hgm 16)) hx hb hts hiX10 hown hK hP 0 35 2 rfl rfl (by decide) rfl rfl rfl dX10_judge_36 ?_
        refine lv_iconst (v := 3) hx hb dX10_judge_39 (by decide) ?_
        refine lv_iload hx hb dX10_judge_40 (lv_at hl 4 rfl) ?_
        refine lv_imul hx hb dX10_judge_42 ?_
        obtain ⟨hg, hf⟩ := zGd_ok hf
        refine zAldI hx hb hK hP 16 rfl hg dX10_judge_43 (fun v8 ev8 => ?_)
        replace hf := zLt_at ev8 hf
        refine lv_istore (lv' := [(6, .int v8), (0, .ref (hgm 0)), (2, .int a2), (3, .int v3), (4, .int v4), (5, .int v5)]) hx hb dX10_judge_44 hl (by decide) rfl (fun ls hl => ?_)
        refine lv_iload hx hb dX10_judge_46 (lv_at hl 0 rfl) ?_
        refine lv_iload hx hb dX10_judge_48 (lv_at hl 4 rfl) ?_
        refine lv_icmp_le (tgt := 89) hx hb dX10_judge_50 (by decide) (fun hc => ?_) (fun hc => ?_)
        · replace hf := zIf_t hc hf
          cases hf
          exact hE26_89 v5 hzz.symm H locs ls hP hD hS (lv_sub hl [5] rfl)
        · replace hf := zIf_f hc hf
          refine lv_aload_n hx hb dX10_judge_53 rfl (lv_at hl 1 rfl) ?_
          refine zGet (ci := 10) (C := RX10) (F := TX10) (N := 54) (v := .ref (hgm 16)) hx hb hts hiX10 hown hK hP 0 35 2 rfl rfl (by decide) rfl rfl rfl dX10_judge_54 ?_
          refine lv_iconst (v := 3) hx hb dX10_judge_57 (by decide) ?_
          refine lv_iload hx hb dX10_judge_58 (lv_at hl 5 rfl) ?_
          refine lv_imul hx hb dX10_judge_60 ?_
          refine lv_iconst (v := 1) hx hb dX10_judge_61 (by decide) ?_
          refine lv_iadd hx hb dX10_judge_62 ?_
          obtain ⟨hg, hf⟩ := zGd_ok hf
          refine zAldI hx hb hK hP 16 rfl hg dX10_judge_63 (fun v9 ev9 => ?_)
          replace hf := zLt_at ev9 hf
          refine lv_iload_n hx hb dX10_judge_64 rfl (lv_at hl 3 rfl) ?_
          refine lv_icmp_ne (tgt := 89) hx hb dX10_judge_65 (by decide) (fun hc => ?_) (fun hc => ?_)
          · replace hf := zIf_f hc hf
            cases hf
            exact hE26_89 v5 hzz.symm H locs ls hP hD hS (lv_sub hl [5] rfl)
          · replace hf := zIf_t hc hf
            refine lv_aload_n hx hb dX10_judge_68 rfl (lv_at hl 1 rfl) ?_
            refine lv_iload_n hx hb dX10_judge_69 rfl (lv_at hl 3 rfl) ?_
            refine lv_aload_n hx hb dX10_judge_70 rfl (lv_at hl 1 rfl) ?_
            refine zGet (ci := 10) (C := RX10) (F := TX10) (N := 54) (v := .ref (hgm 16)) hx hb hts hiX10 hown hK hP 0 35 2 rfl rfl (by decide) rfl rfl rfl dX10_judge_71 ?_
            refine lv_iconst (v := 3) hx hb dX10_judge_74 (by decide) ?_
            refine lv_iload hx hb dX10_judge_75 (lv_at hl 5 rfl) ?_
            refine lv_imul hx hb dX10_judge_77 ?_
            refine lv_iconst (v := 2) hx hb dX10_judge_78 (by decide) ?_
            refine lv_iadd hx hb dX10_judge_79 ?_
            obtain ⟨hg, hf⟩ := zGd_ok hf
            refine zAldI hx hb hK hP 16 rfl hg dX10_judge_80 (fun v10 ev10 => ?_)
            replace hf := zLt_at ev10 hf
            refine lv_iload hx hb dX10_judge_81 (lv_at hl 0 rfl) ?_
            obtain ⟨v11, hc83, hf⟩ := zB1_ok hf
            refine zCallVEI [.int v3, .int v10, .int v8] ⟨hx, hb, hml, hown, hts⟩ (pX10_areOpen l D T X hgm H.size gm gml v3 v10 v8 v11 hc83) (cwV 3 hts gX10_judge_X10_areOpen rfl rfl rfl (by decide +kernel) ⟨Nat.le_of_ble_eq_true rfl, Nat.le_of_ble_eq_true rfl⟩) hK hP hD hS hA hX 0 rfl rfl rfl hl.1 rfl (Nat.le_of_ble_eq_true rfl) dX10_judge_83 ⟨Nat.zero_le _, Nat.zero_le _⟩ (fun H locs hP hD hS => ?_)
            refine lv_if_ne (tgt := 94) hx hb dX10_judge_86 (by decide) (fun hc => ?_) (fun hc => ?_)
            · replace hf := zIf_f hc hf
              refine lv_iload hx hb dX10_judge_94 (lv_at hl 0 rfl) ?_
              refine lv_istore (lv' := [(4, .int v8), (6, .int v8), (0, .ref (hgm 0)), (2, .int a2), (3, .int v3), (5, .int v5)]) hx hb dX10_judge_96 hl (by decide) rfl (fun ls hl => ?_)
              refine lv_aload_n hx hb dX10_judge_98 rfl (lv_at hl 2 rfl) ?_
              refine zGet (ci := 10) (C := RX10) (F := TX10) (N := 54) (v := .ref (hgm 16)) hx hb hts hiX10 hown hK hP 0 35 2 rfl rfl (by decide) rfl rfl rfl dX10_judge_99 ?_
              refine lv_iconst (v := 3) hx hb dX10_judge_102 (by decide) ?_
              refine lv_iload hx hb dX10_judge_103 (lv_at hl 5 rfl) ?_
              refine lv_imul hx hb dX10_judge_105 ?_
              refine lv_iconst (v := 2) hx hb dX10_judge_106 (by decide) ?_
              refine lv_iadd hx hb dX10_judge_107 ?_
              obtain ⟨hg, hf⟩ := zGd_ok hf
              refine zAldI hx hb hK hP 16 rfl hg dX10_judge_108 (fun v12 ev12 => ?_)
              replace hf := zLt_at ev12 hf
              refine lv_istore_n (lv' := [(3, .int v12), (4, .int v8), (6, .int v8), (0, .ref (hgm 0)), (2, .int a2), (5, .int v5)]) hx hb dX10_judge_109 rfl hl (by decide) rfl (fun ls hl => ?_)
              obtain ⟨v13, ev13⟩ : ∃ y : Int32, y = v5 + 1 := ⟨_, rfl⟩
              replace hf := zLt_at ev13 hf
              refine lv_iinc (v := v13) (lv' := [(5, .int v13), (3, .int v12), (4, .int v8), (6, .int v8), (0, .ref (hgm 0)), (2, .int a2)]) hx hb dX10_judge_110 hl (k := 5) rfl (by rw [ev13]; rfl) (by decide) rfl (fun ls hl => ?_)
              refine lv_goto (tgt := 26) hx hb dX10_judge_113 (by decide) ?_
              cases hf
              exact hzz H locs ls hP hD hS (lv_sub hl [4, 5, 1, 2, 0] rfl)
            · replace hf := zIf_t hc hf
              cases hf
              exact hE26_89 v5 hzz.symm H locs ls hP hD hS (lv_sub hl [5] rfl)
    · replace hf := zIf_t hc hf
      refine lv_iconst (v := (-1)) hx hb dX10_judge_16 (by decide) ?_
      obtain ⟨q1, -⟩ := zI1 hf
      subst q1
      exact zRetI hQ hx hb hr hlocks hA0 hK hP hD hS rfl dX10_judge_17
set_option maxHeartbeats 4000000 in
set_option maxRecDepth 100000 in
theorem pX10_chair (l : Launch) (D : va_G) (T : Nat → ClassId) (X : zFP) (hgm : Nat → Nat) (sz : Nat) (gm : zM) (gml : zL) (a1 : Int32) (r : Int32) (ngm : zM) (hf : fX10_chair gm gml a1 = some (r, ngm)) : Met l yX10_chair wsX10_chair rX10_chair (zPre D T X [.ref (hgm 0), .int a1] (wX10 T hgm gm gml) sz) (zQi D T r (wX10 T hgm ngm gml) (wX10 T hgm gm gml) sz) 0 0 (va_A (wX10 T hgm gm gml) sz) := by
  unfold fX10_chair at hf
  refine zStart [(0, .ref (hgm 0)), (1, .int a1)] (by decide) rfl (Nat.le_of_ble_eq_true rfl) rfl ?_
  intro p e s m args below meth c A Q ls hx hb hr hml hown hlocks hts hsz hA0 hQ hA hK hX hP hD hS hl
  replace hown : s.vm.findClass RX10 = some m.cls := hown
  have hH := hsz
  have hiX10 : ∀ w ∈ u_ws RX10 TX10 54, w ∈ wsX10_chair := fun w h => List.mem_cons_of_mem _ (List.mem_append_right _ (h))
  obtain ⟨H, hHe⟩ : ∃ H : Heap, H = s.heap := ⟨_, rfl⟩
  obtain ⟨locs, hLe⟩ : ∃ L : List Loc, L = [] := ⟨_, rfl⟩
  replace hP : va_P D vwCl (wX10 T hgm gm gml) H := by rw [hHe]; exact hP
  replace hS : va_S A s.heap H locs := by rw [hHe, hLe]; exact hS
  suffices hgo : W p l e rX10_chair s m args below meth c H locs 0 0 Q (F0 m 0 ls []) by rw [hHe, hLe] at hgo; exact hgo
  clear hHe hLe
  refine lv_iload_n hx hb dX10_chair_0 rfl (lv_at hl 1 rfl) ?_
  obtain ⟨v1, hc1, hf⟩ := zB1_ok hf
  refine zCallS0I [.int a1] ⟨hx, hb, hml, hown, hts⟩ (pX10_isSide l D T X H.size a1 v1 hc1) (va_cwS 1 hts gX10_chair_X10_isSide rfl rfl rfl (by decide +kernel) ⟨Nat.le_of_ble_eq_true rfl, Nat.le_of_ble_eq_true rfl⟩) hK hP hD hS hA hX rfl hl.1 rfl (Nat.le_of_ble_eq_true rfl) dX10_chair_1 ⟨Nat.zero_le _, Nat.zero_le _⟩ (fun H locs hP hD hS => ?_)
  refine lv_if_ne (tgt := 9) hx hb dX10_chair_4 (by decide) (fun hc => ?_) (fun hc => ?_)
  · replace hf := zIf_f hc hf
    refine lv_aload_n hx hb dX10_chair_9 rfl (lv_at hl 0 rfl) ?_
    refine lv_iconst (v := 0) hx hb dX10_chair_10 (by decide) ?_
    obtain ⟨v2, hc11, hf⟩ := zB1_ok hf
    refine zCallVEI [.int 0] ⟨hx, hb, hml, hown, hts⟩ (pX10_openOn l D T X hgm H.size gm gml 0 v2 hc11) (cwV 1 hts gX10_chair_X10_openOn rfl rfl rfl (by decide +kernel) ⟨Nat.le_of_ble_eq_true rfl, Nat.le_of_ble_eq_true rfl⟩) hK hP hD hS hA hX 0 rfl rfl rfl hl.1 rfl (Nat.le_of_ble_eq_true rfl) dX10_chair_11 ⟨Nat.zero_le _, Nat.zero_le _⟩ (fun H locs hP hD hS => ?_)
    refine lv_istore_n (lv' := [(2, .int v2), (0, .ref (hgm 0)), (1, .int a1)]) hx hb dX10_chair_14 rfl hl (by decide) rfl (fun ls hl => ?_)
    refine lv_iconst (v := (-1)) hx hb dX10_chair_15 (by decide) ?_
    refine lv_istore_n (lv' := [(3, .int (-1)), (2, .int v2), (0, .ref (hgm 0)), (1, .int a1)]) hx hb dX10_chair_16 rfl hl (by decide) rfl (fun ls hl => ?_)
    refine lv_iconst (v := 0) hx hb dX10_chair_17 (by decide) ?_
    refine lv_istore (lv' := [(4, .int 0), (3, .int (-1)), (2, .int v2), (0, .ref (hgm 0)), (1, .int a1)]) hx hb dX10_chair_18 hl (by decide) rfl (fun ls hl => ?_)
    refine lv_iconst (v := 0) hx hb dX10_chair_20 (by decide) ?_
    refine lv_istore (lv' := [(5, .int 0), (4, .int 0), (3, .int (-1)), (2, .int v2), (0, .ref (hgm 0)), (1, .int a1)]) hx hb dX10_chair_21 hl (by decide) rfl (fun ls hl => ?_)
    obtain ⟨ex, hlp, hf⟩ := zB1_ok hf
    have hE23_74 : ∀ (v7 : Int32) (v8 : Int32) (gm_9 : zM) , ex = (v7, v8, gm_9) → ∀ (H : Heap) (locs : List Loc) (ls : Array Slot), va_P D vwCl (wX10 T hgm gm_9 gml) H → va_D A (wX10 T hgm gm_9 gml) → va_S A s.heap H locs → lv_has ls 7 [(1, .int a1), (3, .int v7), (4, .int v8)] → W p l e rX10_chair s m args below meth c H locs 0 0 Q (F0 m 74 ls []) := by
      intro v7 v8 gm_9 hex H locs ls hP hD hS hl
      have hf := zEx3 hex hf
      refine lv_iload_n hx hb dX10_chair_74 rfl (lv_at hl 0 rfl) ?_
      refine lv_if_ne (tgt := 82) hx hb dX10_chair_75 (by decide) (fun hc => ?_) (fun hc => ?_)
      · replace hf := zIf_f hc hf
        refine lv_iload hx hb dX10_chair_82 (lv_at hl 2 rfl) ?_
        obtain ⟨q1, q2⟩ := zI2 hf
        subst q1
        subst q2
        exact zRetI hQ hx hb hr hlocks hA0 hK hP hD hS rfl dX10_chair_84
      · replace hf := zIf_t hc hf
        refine lv_iload_n hx hb dX10_chair_78 rfl (lv_at hl 1 rfl) ?_
        refine lv_goto (tgt := 84) hx hb dX10_chair_79 (by decide) ?_
        obtain ⟨q1, q2⟩ := zI2 hf
        subst q1
        subst q2
        exact zRetI hQ hx hb hr hlocks hA0 hK hP hD hS rfl dX10_chair_84
    refine zLpS4 (body := (fX10_chair_L23 gml v2)) (b := ex) (fun (v3 : Int32) (v4 : Int32) (v5 : Int32) (gm_6 : zM) => ∀ (H : Heap) (locs : List Loc) (ls : Array Slot), va_P D vwCl (wX10 T hgm gm_6 gml) H → va_D A (wX10 T hgm gm_6 gml) → va_S A s.heap H locs → lv_has ls 7 [(0, .ref (hgm 0)), (1, .int a1), (2, .int v2), (3, .int v3), (4, .int v4), (5, .int v5)] → W p l e rX10_chair s m args below meth c H locs 0 0 Q (F0 m 23 ls [])) ?_ zFU (-1) 0 0 gm hlp H locs ls hP hD hS (lv_sub hl [4, 5, 3, 2, 1, 0] rfl)
    intro v3 v4 v5 gm_6 z hf hzz H locs ls hP hD hS hl
    unfold fX10_chair_L23 at hf
    replace hf := zUk4 hf
    refine lv_iload hx hb dX10_chair_23 (lv_at hl 5 rfl) ?_
    refine lv_aload_n hx hb dX10_chair_25 rfl (lv_at hl 0 rfl) ?_
    refine zGet (ci := 10) (C := RX10) (F := TX10) (N := 54) (v := .int (gm_6 0 0)) hx hb hts hiX10 hown hK hP 0 0 1 rfl rfl (by decide) rfl rfl rfl dX10_chair_26 ?_
    refine lv_icmp_ge (tgt := 74) hx hb dX10_chair_29 (by decide) (fun hc => ?_) (fun hc => ?_)
    · replace hf := zIf_t hc hf
      cases hf
      exact hE23_74 v3 v4 gm_6 hzz.symm H locs ls hP hD hS (lv_sub hl [1, 3, 4] rfl)
    · replace hf := zIf_f hc hf
      refine lv_aload_n hx hb dX10_chair_32 rfl (lv_at hl 0 rfl) ?_
      refine lv_iload_n hx hb dX10_chair_33 rfl (lv_at hl 2 rfl) ?_
      refine lv_aload_n hx hb dX10_chair_34 rfl (lv_at hl 0 rfl) ?_
      obtain ⟨v10, hc35, hf⟩ := zB1_ok hf
      refine zCallVEI [] ⟨hx, hb, hml, hown, hts⟩ (pX10_all l D T X hgm H.size gm_6 gml v10 hc35) (cwV 0 hts gX10_chair_X10_all rfl rfl rfl (by decide +kernel) ⟨Nat.le_of_ble_eq_true rfl, Nat.le_of_ble_eq_true rfl⟩) hK hP hD hS hA hX 0 rfl rfl rfl hl.1 rfl (Nat.le_of_ble_eq_true rfl) dX10_chair_35 ⟨Nat.zero_le _, Nat.zero_le _⟩ (fun H locs hP hD hS => ?_)
      refine lv_iconst (v := 1) hx hb dX10_chair_38 (by decide) ?_
      refine lv_iload hx hb dX10_chair_39 (lv_at hl 5 rfl) ?_
      refine lv_ishl hx hb dX10_chair_41 ?_
      refine lv_iconst (v := (-1)) hx hb dX10_chair_42 (by decide) ?_
      refine lv_ixor hx hb dX10_chair_43 ?_
      refine lv_iand hx hb dX10_chair_44 ?_
      obtain ⟨v11, gm_12, hc45, hf⟩ := zB2_ok hf
      refine zCallVEI [.int v2, .int (v10 &&& (((1 : Int32) <<< (v5 &&& 31)) ^^^ (-1)))] ⟨hx, hb, hml, hown, hts⟩ (pX10_greatest l D T X hgm H.size gm_6 gml v2 (v10 &&& (((1 : Int32) <<< (v5 &&& 31)) ^^^ (-1))) v11 gm_12 hc45) (cwV 2 hts gX10_chair_X10_greatest rfl rfl rfl (by decide +kernel) ⟨Nat.le_of_ble_eq_true rfl, Nat.le_of_ble_eq_true rfl⟩) hK hP hD hS hA hX 0 rfl rfl rfl hl.1 rfl (Nat.le_of_ble_eq_true rfl) dX10_chair_45 ⟨Nat.zero_le _, Nat.zero_le _⟩ (fun H locs hP hD hS => ?_)
      refine lv_istore (lv' := [(6, .int v11), (0, .ref (hgm 0)), (1, .int a1), (2, .int v2), (3, .int v3), (4, .int v4), (5, .int v5)]) hx hb dX10_chair_48 hl (by decide) rfl (fun ls hl => ?_)
      refine lv_iload_n hx hb dX10_chair_50 rfl (lv_at hl 4 rfl) ?_
      have hJ68 : ∀ (v13 : Int32) (v14 : Int32) (H : Heap) (locs : List Loc) (ls : Array Slot), fX10_chair_L23J68 v5 gm_12 v13 v14 = some z → va_P D vwCl (wX10 T hgm gm_12 gml) H → va_D A (wX10 T hgm gm_12 gml) → va_S A s.heap H locs → lv_has ls 7 [(0, .ref (hgm 0)), (1, .int a1), (2, .int v2), (3, .int v13), (4, .int v14), (5, .int v5)] → W p l e rX10_chair s m args below meth c H locs 0 0 Q (F0 m 68 ls []) := by
        intro v13 v14 H locs ls hf hP hD hS hl
        unfold fX10_chair_L23J68 at hf
        obtain ⟨v15, ev15⟩ : ∃ y : Int32, y = v5 + 1 := ⟨_, rfl⟩
        replace hf := zLt_at ev15 hf
        refine lv_iinc (v := v15) (lv' := [(5, .int v15), (0, .ref (hgm 0)), (1, .int a1), (2, .int v2), (3, .int v13), (4, .int v14)]) hx hb dX10_chair_68 hl (k := 5) rfl (by rw [ev15]; rfl) (by decide) rfl (fun ls hl => ?_)
        refine lv_goto (tgt := 23) hx hb dX10_chair_71 (by decide) ?_
        cases hf
        exact hzz H locs ls hP hD hS (lv_sub hl [1, 2, 3, 4, 5, 0] rfl)
      have hJ61 : ∀ (H : Heap) (locs : List Loc) (ls : Array Slot), fX10_chair_L23J61 v5 v11 gm_12 = some z → va_P D vwCl (wX10 T hgm gm_12 gml) H → va_D A (wX10 T hgm gm_12 gml) → va_S A s.heap H locs → lv_has ls 7 [(0, .ref (hgm 0)), (1, .int a1), (2, .int v2), (5, .int v5), (6, .int v11)] → W p l e rX10_chair s m args below meth c H locs 0 0 Q (F0 m 61 ls []) := by
        intro H locs ls hf hP hD hS hl
        unfold fX10_chair_L23J61 at hf
        refine lv_iload hx hb dX10_chair_61 (lv_at hl 3 rfl) ?_
        refine lv_istore_n (lv' := [(3, .int v5), (0, .ref (hgm 0)), (1, .int a1), (2, .int v2), (5, .int v5), (6, .int v11)]) hx hb dX10_chair_63 rfl hl (by decide) rfl (fun ls hl => ?_)
        refine lv_iload hx hb dX10_chair_64 (lv_at hl 5 rfl) ?_
        refine lv_istore (lv' := [(4, .int v11), (3, .int v5), (0, .ref (hgm 0)), (1, .int a1), (2, .int v2), (5, .int v5), (6, .int v11)]) hx hb dX10_chair_66 hl (by decide) rfl (fun ls hl => ?_)
        exact hJ68 v5 v11 H locs ls hf hP hD hS (lv_sub hl [2, 3, 4, 1, 0, 5] rfl)
      refine lv_if_lt (tgt := 61) hx hb dX10_chair_51 (by decide) (fun hc => ?_) (fun hc => ?_)
      · replace hf := zIf_t hc hf
        exact hJ61 H locs ls hf hP hD hS (lv_sub hl [1, 2, 3, 6, 0] rfl)
      · replace hf := zIf_f hc hf
        refine lv_iload hx hb dX10_chair_54 (lv_at hl 0 rfl) ?_
        refine lv_iload hx hb dX10_chair_56 (lv_at hl 5 rfl) ?_
        refine lv_icmp_ge (tgt := 68) hx hb dX10_chair_58 (by decide) (fun hc => ?_) (fun hc => ?_)
        · replace hf := zIf_t hc hf
          exact hJ68 v3 v4 H locs ls hf hP hD hS (lv_sub hl [1, 2, 3, 4, 5, 6] rfl)
        · replace hf := zIf_f hc hf
          exact hJ61 H locs ls hf hP hD hS (lv_sub hl [1, 2, 3, 6, 0] rfl)
  · replace hf := zIf_t hc hf
    refine lv_iconst (v := (-1)) hx hb dX10_chair_7 (by decide) ?_
    obtain ⟨q1, q2⟩ := zI2 hf
    subst q1
    subst q2
    exact zRetI hQ hx hb hr hlocks hA0 hK hP hD hS rfl dX10_chair_8
