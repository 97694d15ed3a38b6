-- X10_advance X10_isWord X10_wantWord X10_wantNumber X10_wantEnd X10_isFreshTie X10_wantTie X10_wantFirst X10_addCut X10_wantSeat X10_wantLate X10_wantWorks X10_begin X10_works X10_people X10_tie X10_tieOf X10_first X10_isWhat X10_cut X10_isCut
set_option maxHeartbeats 4000000 in
set_option maxRecDepth 100000 in
theorem pX10_advance (l : Launch) (D : va_G) (T : Nat → ClassId) (X : zFP) (hgm : Nat → Nat) (sz : Nat) (gm : zM) (gml : zL) (ngm : zM) (ngml : zL) (hf : fX10_advance gm gml = some (ngm, ngml)) : Met l yX10_advance wsX10_advance rX10_advance (zPre D T X [.ref (hgm 0)] (wX10 T hgm gm gml) sz) (zQv D T (wX10 T hgm ngm ngml) (wX10 T hgm gm gml) sz) 0 0 (va_A (wX10 T hgm gm gml) sz) := by
  unfold fX10_advance at hf
  refine zStart [(0, .ref (hgm 0))] (by decide) rfl (Nat.le_of_ble_eq_true rfl) rfl ?_
  intro p e s m args below meth c A Q ls hx hb hr hml hown hlocks hts hsz hA0 hQ hA hK hX hP hD hS hl
  replace hown : s.vm.findClass RX10 = some m.cls := hown
  have hH := hsz
  have hiX10 : ∀ w ∈ u_ws RX10 TX10 54, w ∈ wsX10_advance := fun w h => List.mem_cons_of_mem _ (List.mem_append_right _ (h))
  obtain ⟨H, hHe⟩ : ∃ H : Heap, H = s.heap := ⟨_, rfl⟩
  obtain ⟨locs, hLe⟩ : ∃ L : List Loc, L = [] := ⟨_, rfl⟩
  replace hP : va_P D vwCl (wX10 T hgm gm gml) H := by rw [hHe]; exact hP
  replace hS : va_S A s.heap H locs := by rw [hHe, hLe]; exact hS
  suffices hgo : W p l e rX10_advance s m args below meth c H locs 0 0 Q (F0 m 0 ls []) by rw [hHe, hLe] at hgo; exact hgo
  clear hHe hLe
  refine lv_aload_n hx hb dX10_advance_0 rfl (lv_at hl 0 rfl) ?_
  refine lv_aload_n hx hb dX10_advance_1 rfl (lv_at hl 0 rfl) ?_
  refine zGet (ci := 10) (C := RX10) (F := TX10) (N := 54) (v := .int (gm 0 12)) hx hb hts hiX10 hown hK hP 0 12 1 rfl rfl (by decide) rfl rfl rfl dX10_advance_2 ?_
  refine lv_topi (fun v1 ev1 => ?_)
  replace hf := zLt_at ev1 hf
  refine zPut (ci := 10) (C := RX10) (F := TX10) (N := 54) (x := v1) (w := gm) hx hb hts hiX10 tyX10 tyX10_ok nmX10 hown hK hP hD hS (fun g => wX10 T hgm g gml) 0 11 2 rfl rfl (by decide) rfl rfl rfl ⟨rfl, rfl⟩ (Nat.le_of_ble_eq_true rfl) rfl dX10_advance_5 (fun gm_2 egm_2 H locs hP hD hS => ?_)
  replace hP : va_P D vwCl (wX10 T hgm gm_2 gml) H := hP
  replace hD : va_D A (wX10 T hgm gm_2 gml) := hD
  replace hf := zLt_at egm_2 hf
  obtain ⟨ex, hlp, hf⟩ := zB1_ok hf
  have hE8_34 : ∀ (gm_4 : zM) , ex = gm_4 → ∀ (H : Heap) (locs : List Loc) (ls : Array Slot), va_P D vwCl (wX10 T hgm gm_4 gml) H → va_D A (wX10 T hgm gm_4 gml) → va_S A s.heap H locs → lv_has ls 2 [(0, .ref (hgm 0))] → W p l e rX10_advance s m args below meth c H locs 0 0 Q (F0 m 34 ls []) := by
    intro gm_4 hex H locs ls hP hD hS hl
    have hf := zEx1 hex hf
    refine lv_aload_n hx hb dX10_advance_34 rfl (lv_at hl 0 rfl) ?_
    refine lv_aload_n hx hb dX10_advance_35 rfl (lv_at hl 0 rfl) ?_
    refine zGet (ci := 10) (C := RX10) (F := TX10) (N := 54) (v := .int (gm_4 0 11)) hx hb hts hiX10 hown hK hP 0 11 2 rfl rfl (by decide) rfl rfl rfl dX10_advance_36 ?_
    refine lv_topi (fun v8 ev8 => ?_)
    replace hf := zLt_at ev8 hf
    refine zPut (ci := 10) (C := RX10) (F := TX10) (N := 54) (x := v8) (w := gm_4) hx hb hts hiX10 tyX10 tyX10_ok nmX10 hown hK hP hD hS (fun g => wX10 T hgm g gml) 0 12 1 rfl rfl (by decide) rfl rfl rfl ⟨rfl, rfl⟩ (Nat.le_of_ble_eq_true rfl) rfl dX10_advance_39 (fun gm_9 egm_9 H locs hP hD hS => ?_)
    replace hP : va_P D vwCl (wX10 T hgm gm_9 gml) H := hP
    replace hD : va_D A (wX10 T hgm gm_9 gml) := hD
    replace hf := zLt_at egm_9 hf
    refine lv_aload_n hx hb dX10_advance_42 rfl (lv_at hl 0 rfl) ?_
    refine lv_aload_n hx hb dX10_advance_43 rfl (lv_at hl 0 rfl) ?_
    refine zGet (ci := 10) (C := RX10) (F := TX10) (N := 54) (v := .int (gm_9 0 11)) hx hb hts hiX10 hown hK hP 0 11 2 rfl rfl (by decide) rfl rfl rfl dX10_advance_44 ?_
    obtain ⟨v10, hc47, hf⟩ := zB1_ok hf
    refine zCallVEI [.int (gm_9 0 11)] ⟨hx, hb, hml, hown, hts⟩ (pX10_byteAt l D T X hgm H.size gm_9 gml (gm_9 0 11) v10 hc47) (cwV 1 hts gX10_advance_X10_byteAt rfl rfl rfl (by decide +kernel) ⟨Nat.le_of_ble_eq_true rfl, Nat.le_of_ble_eq_true rfl⟩) hK hP hD hS hA hX 0 rfl rfl rfl hl.1 rfl (Nat.le_of_ble_eq_true rfl) dX10_advance_47 ⟨Nat.zero_le _, Nat.zero_le _⟩ (fun H locs hP hD hS => ?_)
    refine lv_istore_n (lv' := [(1, .int v10), (0, .ref (hgm 0))]) hx hb dX10_advance_50 rfl hl (by decide) rfl (fun ls hl => ?_)
    refine lv_aload_n hx hb dX10_advance_51 rfl (lv_at hl 1 rfl) ?_
    refine lv_iload_n hx hb dX10_advance_52 rfl (lv_at hl 0 rfl) ?_
    have hJ83 : ∀ (v11 : Int32) (H : Heap) (locs : List Loc) (ls : Array Slot), fX10_advance_J83 gml gm_9 v10 v11 = some (ngm, ngml) → va_P D vwCl (wX10 T hgm gm_9 gml) H → va_D A (wX10 T hgm gm_9 gml) → va_S A s.heap H locs → lv_has ls 2 [(0, .ref (hgm 0)), (1, .int v10)] → W p l e rX10_advance s m args below meth c H locs 0 0 Q (F0 m 83 ls [.int v11, .ref (hgm 0)]) := by
      intro v11 H locs ls hf hP hD hS hl
      unfold fX10_advance_J83 at hf
      refine zPut (ci := 10) (C := RX10) (F := TX10) (N := 54) (x := v11) (w := gm_9) hx hb hts hiX10 tyX10 tyX10_ok nmX10 hown hK hP hD hS (fun g => wX10 T hgm g gml) 0 10 3 rfl rfl (by decide) rfl rfl rfl ⟨rfl, rfl⟩ (Nat.le_of_ble_eq_true rfl) rfl dX10_advance_83 (fun gm_12 egm_12 H locs hP hD hS => ?_)
      replace hP : va_P D vwCl (wX10 T hgm gm_12 gml) H := hP
      replace hD : va_D A (wX10 T hgm gm_12 gml) := hD
      replace hf := zLt_at egm_12 hf
      refine lv_aload_n hx hb dX10_advance_86 rfl (lv_at hl 0 rfl) ?_
      refine lv_lconst (v := 0) hx hb dX10_advance_87 (by decide) ?_
      refine zPutL (ci := 10) (C := RX10) (F := TX10) (N := 54) (x := 0) (w := gml) hx hb hts hiX10 tyX10 tyX10_ok nmX10 hown hK hP hD hS (fun g => wX10 T hgm gm_12 g) 0 13 4 rfl rfl (by decide) rfl rfl rfl ⟨rfl, rfl⟩ (Nat.le_of_ble_eq_true rfl) rfl dX10_advance_88 (fun gmL_13 egmL_13 H locs hP hD hS => ?_)
      replace hP : va_P D vwCl (wX10 T hgm gm_12 gmL_13) H := hP
      replace hD : va_D A (wX10 T hgm gm_12 gmL_13) := hD
      replace hf := zLt_at egmL_13 hf
      refine lv_aload_n hx hb dX10_advance_91 rfl (lv_at hl 0 rfl) ?_
      refine lv_aload_n hx hb dX10_advance_92 rfl (lv_at hl 0 rfl) ?_
      refine zGet (ci := 10) (C := RX10) (F := TX10) (N := 54) (v := .int (gm_12 0 10)) hx hb hts hiX10 hown hK hP 0 10 3 rfl rfl (by decide) rfl rfl rfl dX10_advance_93 ?_
      refine lv_iconst (v := 2) hx hb dX10_advance_96 (by decide) ?_
      have hJ105 : ∀ (v14 : Int32) (H : Heap) (locs : List Loc) (ls : Array Slot), fX10_advance_J105 gm_12 gmL_13 v14 = some (ngm, ngml) → va_P D vwCl (wX10 T hgm gm_12 gmL_13) H → va_D A (wX10 T hgm gm_12 gmL_13) → va_S A s.heap H locs → lv_has ls 2 [(0, .ref (hgm 0))] → W p l e rX10_advance s m args below meth c H locs 0 0 Q (F0 m 105 ls [.int v14, .ref (hgm 0)]) := by
        intro v14 H locs ls hf hP hD hS hl
        unfold fX10_advance_J105 at hf
        refine zPut (ci := 10) (C := RX10) (F := TX10) (N := 54) (x := v14) (w := gm_12) hx hb hts hiX10 tyX10 tyX10_ok nmX10 hown hK hP hD hS (fun g => wX10 T hgm g gmL_13) 0 14 5 rfl rfl (by decide) rfl rfl rfl ⟨rfl, rfl⟩ (Nat.le_of_ble_eq_true rfl) rfl dX10_advance_105 (fun gm_15 egm_15 H locs hP hD hS => ?_)
        replace hP : va_P D vwCl (wX10 T hgm gm_15 gmL_13) H := hP
        replace hD : va_D A (wX10 T hgm gm_15 gmL_13) := hD
        replace hf := zLt_at egm_15 hf
        refine lv_aload_n hx hb dX10_advance_108 rfl (lv_at hl 0 rfl) ?_
        refine zGet (ci := 10) (C := RX10) (F := TX10) (N := 54) (v := .int (gm_15 0 10)) hx hb hts hiX10 hown hK hP 0 10 3 rfl rfl (by decide) rfl rfl rfl dX10_advance_109 ?_
        refine lv_iconst (v := 3) hx hb dX10_advance_112 (by decide) ?_
        have hJ126 : ∀ (gm_16 : zM) (H : Heap) (locs : List Loc) (ls : Array Slot), fX10_advance_J126 gmL_13 gm_16 = some (ngm, ngml) → va_P D vwCl (wX10 T hgm gm_16 gmL_13) H → va_D A (wX10 T hgm gm_16 gmL_13) → va_S A s.heap H locs → lv_has ls 2 [(0, .ref (hgm 0))] → W p l e rX10_advance s m args below meth c H locs 0 0 Q (F0 m 126 ls []) := by
          intro gm_16 H locs ls hf hP hD hS hl
          unfold fX10_advance_J126 at hf
          obtain ⟨ex, hlp, hf⟩ := zB1_ok hf
          have hE126_207 : ∀ (gm_19 : zM) (gmL_20 : zL) , ex = (gm_19, gmL_20) → ∀ (H : Heap) (locs : List Loc) (ls : Array Slot), va_P D vwCl (wX10 T hgm gm_19 gmL_20) H → va_D A (wX10 T hgm gm_19 gmL_20) → va_S A s.heap H locs → lv_has ls 2 [(0, .ref (hgm 0))] → W p l e rX10_advance s m args below meth c H locs 0 0 Q (F0 m 207 ls []) := by
            intro gm_19 gmL_20 hex H locs ls hP hD hS hl
            have hf := zEx2 hex hf
            obtain ⟨ex, hlp, hf⟩ := zB1_ok hf
            have hE207_282 : ∀ (gm_29 : zM) , ex = gm_29 → ∀ (H : Heap) (locs : List Loc) (ls : Array Slot), va_P D vwCl (wX10 T hgm gm_29 gmL_20) H → va_D A (wX10 T hgm gm_29 gmL_20) → va_S A s.heap H locs → lv_has ls 2 [] → W p l e rX10_advance s m args below meth c H locs 0 0 Q (F0 m 282 ls []) := by
              intro gm_29 hex H locs ls hP hD hS hl
              have hf := zEx1 hex hf
              obtain ⟨q1, q2⟩ := zI2 hf
              subst q1
              subst q2
              exact zRetV hQ hx hb hr hlocks hA0 hK hP hD hS dX10_advance_282
            refine zLpS1 (body := (fX10_advance_L207 gmL_20)) (b := ex) (fun (gm_28 : zM) => ∀ (H : Heap) (locs : List Loc) (ls : Array Slot), va_P D vwCl (wX10 T hgm gm_28 gmL_20) H → va_D A (wX10 T hgm gm_28 gmL_20) → va_S A s.heap H locs → lv_has ls 2 [(0, .ref (hgm 0))] → W p l e rX10_advance s m args below meth c H locs 0 0 Q (F0 m 207 ls [])) ?_ zFU gm_19 hlp H locs ls hP hD hS hl
            intro gm_28 z hf hzz H locs ls hP hD hS hl
            unfold fX10_advance_L207 at hf
            replace hf := zUk1 hf
            refine lv_aload_n hx hb dX10_advance_207 rfl (lv_at hl 0 rfl) ?_
            refine zGet (ci := 10) (C := RX10) (F := TX10) (N := 54) (v := .int (gm_28 0 10)) hx hb hts hiX10 hown hK hP 0 10 3 rfl rfl (by decide) rfl rfl rfl dX10_advance_208 ?_
            refine lv_iconst (v := 2) hx hb dX10_advance_211 (by decide) ?_
            refine lv_icmp_ne (tgt := 282) hx hb dX10_advance_212 (by decide) (fun hc => ?_) (fun hc => ?_)
            · replace hf := zIf_f hc hf
              cases hf
              exact hE207_282 gm_28 hzz.symm H locs ls hP hD hS (lv_sub hl [] rfl)
            · replace hf := zIf_t hc hf
              refine lv_aload_n hx hb dX10_advance_215 rfl (lv_at hl 0 rfl) ?_
              refine lv_aload_n hx hb dX10_advance_216 rfl (lv_at hl 0 rfl) ?_
              refine zGet (ci := 10) (C := RX10) (F := TX10) (N := 54) (v := .int (gm_28 0 12)) hx hb hts hiX10 hown hK hP 0 12 1 rfl rfl (by decide) rfl rfl rfl dX10_advance_217 ?_
              obtain ⟨v30, hc220, hf⟩ := zB1_ok hf
              refine zCallVEI [.int (gm_28 0 12)] ⟨hx, hb, hml, hown, hts⟩ (pX10_byteAt l D T X hgm H.size gm_28 gmL_20 (gm_28 0 12) v30 hc220) (cwV 1 hts gX10_advance_X10_byteAt rfl rfl rfl (by decide +kernel) ⟨Nat.le_of_ble_eq_true rfl, Nat.le_of_ble_eq_true rfl⟩) hK hP hD hS hA hX 0 rfl rfl rfl hl.1 rfl (Nat.le_of_ble_eq_true rfl) dX10_advance_220 ⟨Nat.zero_le _, Nat.zero_le _⟩ (fun H locs hP hD hS => ?_)
              obtain ⟨v31, hc223, hf⟩ := zB1_ok hf
              refine zCallS0I [.int v30] ⟨hx, hb, hml, hown, hts⟩ (pX10_isDigit l D T X H.size v30 v31 hc223) (va_cwS 1 hts gX10_advance_X10_isDigit rfl rfl rfl (by decide +kernel) ⟨Nat.le_of_ble_eq_true rfl, Nat.le_of_ble_eq_true rfl⟩) hK hP hD hS hA hX rfl hl.1 rfl (Nat.le_of_ble_eq_true rfl) dX10_advance_223 ⟨Nat.zero_le _, Nat.zero_le _⟩ (fun H locs hP hD hS => ?_)
              refine lv_if_eq (tgt := 282) hx hb dX10_advance_226 (by decide) (fun hc => ?_) (fun hc => ?_)
              · replace hf := zIf_t hc hf
                cases hf
                exact hE207_282 gm_28 hzz.symm H locs ls hP hD hS (lv_sub hl [] rfl)
              · replace hf := zIf_f hc hf
                refine lv_aload_n hx hb dX10_advance_229 rfl (lv_at hl 0 rfl) ?_
                refine lv_aload_n hx hb dX10_advance_230 rfl (lv_at hl 0 rfl) ?_
                refine zGet (ci := 10) (C := RX10) (F := TX10) (N := 54) (v := .int (gm_28 0 12)) hx hb hts hiX10 hown hK hP 0 12 1 rfl rfl (by decide) rfl rfl rfl dX10_advance_231 ?_
                refine lv_aload_n hx hb dX10_advance_234 rfl (lv_at hl 0 rfl) ?_
                refine zGet (ci := 10) (C := RX10) (F := TX10) (N := 54) (v := .int (gm_28 0 11)) hx hb hts hiX10 hown hK hP 0 11 2 rfl rfl (by decide) rfl rfl rfl dX10_advance_235 ?_
                refine lv_isub hx hb dX10_advance_238 ?_
                refine lv_iconst (v := 2) hx hb dX10_advance_239 (by decide) ?_
                have hJ266 : ∀ (v32 : Int32) (H : Heap) (locs : List Loc) (ls : Array Slot), fX10_advance_L207J266 gm_28 v32 = some z → va_P D vwCl (wX10 T hgm gm_28 gmL_20) H → va_D A (wX10 T hgm gm_28 gmL_20) → va_S A s.heap H locs → lv_has ls 2 [(0, .ref (hgm 0))] → W p l e rX10_advance s m args below meth c H locs 0 0 Q (F0 m 266 ls [.int v32, .ref (hgm 0)]) := by
                  intro v32 H locs ls hf hP hD hS hl
                  unfold fX10_advance_L207J266 at hf
                  refine zPut (ci := 10) (C := RX10) (F := TX10) (N := 54) (x := v32) (w := gm_28) hx hb hts hiX10 tyX10 tyX10_ok nmX10 hown hK hP hD hS (fun g => wX10 T hgm g gmL_20) 0 14 5 rfl rfl (by decide) rfl rfl rfl ⟨rfl, rfl⟩ (Nat.le_of_ble_eq_true rfl) rfl dX10_advance_266 (fun gm_33 egm_33 H locs hP hD hS => ?_)
                  replace hP : va_P D vwCl (wX10 T hgm gm_33 gmL_20) H := hP
                  replace hD : va_D A (wX10 T hgm gm_33 gmL_20) := hD
                  replace hf := zLt_at egm_33 hf
                  refine lv_aload_n hx hb dX10_advance_269 rfl (lv_at hl 0 rfl) ?_
                  refine lv_dup hx hb dX10_advance_270 rfl ?_
                  refine zGet (ci := 10) (C := RX10) (F := TX10) (N := 54) (v := .int (gm_33 0 12)) hx hb hts hiX10 hown hK hP 0 12 1 rfl rfl (by decide) rfl rfl rfl dX10_advance_271 ?_
                  refine lv_iconst (v := 1) hx hb dX10_advance_274 (by decide) ?_
                  refine lv_iadd hx hb dX10_advance_275 ?_
                  refine lv_topi (fun v34 ev34 => ?_)
                  replace hf := zLt_at ev34 hf
                  refine zPut (ci := 10) (C := RX10) (F := TX10) (N := 54) (x := v34) (w := gm_33) hx hb hts hiX10 tyX10 tyX10_ok nmX10 hown hK hP hD hS (fun g => wX10 T hgm g gmL_20) 0 12 1 rfl rfl (by decide) rfl rfl rfl ⟨rfl, rfl⟩ (Nat.le_of_ble_eq_true rfl) rfl dX10_advance_276 (fun gm_35 egm_35 H locs hP hD hS => ?_)
                  replace hP : va_P D vwCl (wX10 T hgm gm_35 gmL_20) H := hP
                  replace hD : va_D A (wX10 T hgm gm_35 gmL_20) := hD
                  replace hf := zLt_at egm_35 hf
                  refine lv_goto (tgt := 207) hx hb dX10_advance_279 (by decide) ?_
                  cases hf
                  exact hzz H locs ls hP hD hS hl
                refine lv_icmp_ge (tgt := 265) hx hb dX10_advance_240 (by decide) (fun hc => ?_) (fun hc => ?_)
                · replace hf := zIf_t hc hf
                  refine lv_iconst (v := (-1)) hx hb dX10_advance_265 (by decide) ?_
                  exact hJ266 (-1) H locs ls hf hP hD hS hl
                · replace hf := zIf_f hc hf
                  refine lv_bipush (v := 10) hx hb dX10_advance_243 (by decide) ?_
                  refine lv_aload_n hx hb dX10_advance_245 rfl (lv_at hl 0 rfl) ?_
                  refine zGet (ci := 10) (C := RX10) (F := TX10) (N := 54) (v := .int (gm_28 0 14)) hx hb hts hiX10 hown hK hP 0 14 5 rfl rfl (by decide) rfl rfl rfl dX10_advance_246 ?_
                  refine lv_imul hx hb dX10_advance_249 ?_
                  refine lv_aload_n hx hb dX10_advance_250 rfl (lv_at hl 0 rfl) ?_
                  refine lv_aload_n hx hb dX10_advance_251 rfl (lv_at hl 0 rfl) ?_
                  refine zGet (ci := 10) (C := RX10) (F := TX10) (N := 54) (v := .int (gm_28 0 12)) hx hb hts hiX10 hown hK hP 0 12 1 rfl rfl (by decide) rfl rfl rfl dX10_advance_252 ?_
                  obtain ⟨v36, hc255, hf⟩ := zB1_ok hf
                  refine zCallVEI [.int (gm_28 0 12)] ⟨hx, hb, hml, hown, hts⟩ (pX10_byteAt l D T X hgm H.size gm_28 gmL_20 (gm_28 0 12) v36 hc255) (cwV 1 hts gX10_advance_X10_byteAt rfl rfl rfl (by decide +kernel) ⟨Nat.le_of_ble_eq_true rfl, Nat.le_of_ble_eq_true rfl⟩) hK hP hD hS hA hX 0 rfl rfl rfl hl.1 rfl (Nat.le_of_ble_eq_true rfl) dX10_advance_255 ⟨Nat.zero_le _, Nat.zero_le _⟩ (fun H locs hP hD hS => ?_)
                  refine lv_iadd hx hb dX10_advance_258 ?_
                  refine lv_bipush (v := 48) hx hb dX10_advance_259 (by decide) ?_
                  refine lv_isub hx hb dX10_advance_261 ?_
                  refine lv_goto (tgt := 266) hx hb dX10_advance_262 (by decide) ?_
                  exact hJ266 (((10 * (gm_28 0 14)) + v36) - 48) H locs ls hf hP hD hS hl
          refine zLpS2 (body := fX10_advance_L126) (b := ex) (fun (gm_17 : zM) (gmL_18 : zL) => ∀ (H : Heap) (locs : List Loc) (ls : Array Slot), va_P D vwCl (wX10 T hgm gm_17 gmL_18) H → va_D A (wX10 T hgm gm_17 gmL_18) → va_S A s.heap H locs → lv_has ls 2 [(0, .ref (hgm 0))] → W p l e rX10_advance s m args below meth c H locs 0 0 Q (F0 m 126 ls [])) ?_ zFU gm_16 gmL_13 hlp H locs ls hP hD hS hl
          intro gm_17 gmL_18 z hf hzz H locs ls hP hD hS hl
          unfold fX10_advance_L126 at hf
          replace hf := zUk2 hf
          refine lv_aload_n hx hb dX10_advance_126 rfl (lv_at hl 0 rfl) ?_
          refine zGet (ci := 10) (C := RX10) (F := TX10) (N := 54) (v := .int (gm_17 0 10)) hx hb hts hiX10 hown hK hP 0 10 3 rfl rfl (by decide) rfl rfl rfl dX10_advance_127 ?_
          refine lv_iconst (v := 1) hx hb dX10_advance_130 (by decide) ?_
          refine lv_icmp_ne (tgt := 207) hx hb dX10_advance_131 (by decide) (fun hc => ?_) (fun hc => ?_)
          · replace hf := zIf_f hc hf
            cases hf
            exact hE126_207 gm_17 gmL_18 hzz.symm H locs ls hP hD hS hl
          · replace hf := zIf_t hc hf
            refine lv_aload_n hx hb dX10_advance_134 rfl (lv_at hl 0 rfl) ?_
            refine lv_aload_n hx hb dX10_advance_135 rfl (lv_at hl 0 rfl) ?_
            refine zGet (ci := 10) (C := RX10) (F := TX10) (N := 54) (v := .int (gm_17 0 12)) hx hb hts hiX10 hown hK hP 0 12 1 rfl rfl (by decide) rfl rfl rfl dX10_advance_136 ?_
            obtain ⟨v21, hc139, hf⟩ := zB1_ok hf
            refine zCallVEI [.int (gm_17 0 12)] ⟨hx, hb, hml, hown, hts⟩ (pX10_byteAt l D T X hgm H.size gm_17 gmL_18 (gm_17 0 12) v21 hc139) (cwV 1 hts gX10_advance_X10_byteAt rfl rfl rfl (by decide +kernel) ⟨Nat.le_of_ble_eq_true rfl, Nat.le_of_ble_eq_true rfl⟩) hK hP hD hS hA hX 0 rfl rfl rfl hl.1 rfl (Nat.le_of_ble_eq_true rfl) dX10_advance_139 ⟨Nat.zero_le _, Nat.zero_le _⟩ (fun H locs hP hD hS => ?_)
            obtain ⟨v22, hc142, hf⟩ := zB1_ok hf
            refine zCallS0I [.int v21] ⟨hx, hb, hml, hown, hts⟩ (pX10_isLetter l D T X H.size v21 v22 hc142) (va_cwS 1 hts gX10_advance_X10_isLetter rfl rfl rfl (by decide +kernel) ⟨Nat.le_of_ble_eq_true rfl, Nat.le_of_ble_eq_true rfl⟩) hK hP hD hS hA hX rfl hl.1 rfl (Nat.le_of_ble_eq_true rfl) dX10_advance_142 ⟨Nat.zero_le _, Nat.zero_le _⟩ (fun H locs hP hD hS => ?_)
            refine lv_if_eq (tgt := 207) hx hb dX10_advance_145 (by decide) (fun hc => ?_) (fun hc => ?_)
            · replace hf := zIf_t hc hf
              cases hf
              exact hE126_207 gm_17 gmL_18 hzz.symm H locs ls hP hD hS hl
            · replace hf := zIf_f hc hf
              refine lv_aload_n hx hb dX10_advance_148 rfl (lv_at hl 0 rfl) ?_
              refine lv_aload_n hx hb dX10_advance_149 rfl (lv_at hl 0 rfl) ?_
              refine zGet (ci := 10) (C := RX10) (F := TX10) (N := 54) (v := .int (gm_17 0 12)) hx hb hts hiX10 hown hK hP 0 12 1 rfl rfl (by decide) rfl rfl rfl dX10_advance_150 ?_
              refine lv_aload_n hx hb dX10_advance_153 rfl (lv_at hl 0 rfl) ?_
              refine zGet (ci := 10) (C := RX10) (F := TX10) (N := 54) (v := .int (gm_17 0 11)) hx hb hts hiX10 hown hK hP 0 11 2 rfl rfl (by decide) rfl rfl rfl dX10_advance_154 ?_
              refine lv_isub hx hb dX10_advance_157 ?_
              refine lv_bipush (v := 8) hx hb dX10_advance_158 (by decide) ?_
              have hJ191 : ∀ (v23 : Int64) (H : Heap) (locs : List Loc) (ls : Array Slot), fX10_advance_L126J191 gm_17 gmL_18 v23 = some z → va_P D vwCl (wX10 T hgm gm_17 gmL_18) H → va_D A (wX10 T hgm gm_17 gmL_18) → va_S A s.heap H locs → lv_has ls 2 [(0, .ref (hgm 0))] → W p l e rX10_advance s m args below meth c H locs 0 0 Q (F0 m 191 ls [.long v23, .ref (hgm 0)]) := by
                intro v23 H locs ls hf hP hD hS hl
                unfold fX10_advance_L126J191 at hf
                refine zPutL (ci := 10) (C := RX10) (F := TX10) (N := 54) (x := v23) (w := gmL_18) hx hb hts hiX10 tyX10 tyX10_ok nmX10 hown hK hP hD hS (fun g => wX10 T hgm gm_17 g) 0 13 4 rfl rfl (by decide) rfl rfl rfl ⟨rfl, rfl⟩ (Nat.le_of_ble_eq_true rfl) rfl dX10_advance_191 (fun gmL_24 egmL_24 H locs hP hD hS => ?_)
                replace hP : va_P D vwCl (wX10 T hgm gm_17 gmL_24) H := hP
                replace hD : va_D A (wX10 T hgm gm_17 gmL_24) := hD
                replace hf := zLt_at egmL_24 hf
                refine lv_aload_n hx hb dX10_advance_194 rfl (lv_at hl 0 rfl) ?_
                refine lv_dup hx hb dX10_advance_195 rfl ?_
                refine zGet (ci := 10) (C := RX10) (F := TX10) (N := 54) (v := .int (gm_17 0 12)) hx hb hts hiX10 hown hK hP 0 12 1 rfl rfl (by decide) rfl rfl rfl dX10_advance_196 ?_
                refine lv_iconst (v := 1) hx hb dX10_advance_199 (by decide) ?_
                refine lv_iadd hx hb dX10_advance_200 ?_
                refine lv_topi (fun v25 ev25 => ?_)
                replace hf := zLt_at ev25 hf
                refine zPut (ci := 10) (C := RX10) (F := TX10) (N := 54) (x := v25) (w := gm_17) hx hb hts hiX10 tyX10 tyX10_ok nmX10 hown hK hP hD hS (fun g => wX10 T hgm g gmL_24) 0 12 1 rfl rfl (by decide) rfl rfl rfl ⟨rfl, rfl⟩ (Nat.le_of_ble_eq_true rfl) rfl dX10_advance_201 (fun gm_26 egm_26 H locs hP hD hS => ?_)
                replace hP : va_P D vwCl (wX10 T hgm gm_26 gmL_24) H := hP
                replace hD : va_D A (wX10 T hgm gm_26 gmL_24) := hD
                replace hf := zLt_at egm_26 hf
                refine lv_goto (tgt := 126) hx hb dX10_advance_204 (by decide) ?_
                cases hf
                exact hzz H locs ls hP hD hS hl
              refine lv_icmp_ge (tgt := 188) hx hb dX10_advance_160 (by decide) (fun hc => ?_) (fun hc => ?_)
              · replace hf := zIf_t hc hf
                refine lv_ldc2 (v := (-1)) hx hb hown (hts _ (List.mem_of_getElem? (i := 8) rfl)) dX10_advance_188 ?_
                exact hJ191 (-1) H locs ls hf hP hD hS hl
              · replace hf := zIf_f hc hf
                refine lv_ldc2 (v := 27) hx hb hown (hts _ (List.mem_of_getElem? (i := 6) rfl)) dX10_advance_163 ?_
                refine lv_aload_n hx hb dX10_advance_166 rfl (lv_at hl 0 rfl) ?_
                refine zGet (ci := 10) (C := RX10) (F := TX10) (N := 54) (v := .long (gmL_18 0 13)) hx hb hts hiX10 hown hK hP 0 13 4 rfl rfl (by decide) rfl rfl rfl dX10_advance_167 ?_
                refine lv_lmul hx hb dX10_advance_170 ?_
                refine lv_aload_n hx hb dX10_advance_171 rfl (lv_at hl 0 rfl) ?_
                refine lv_aload_n hx hb dX10_advance_172 rfl (lv_at hl 0 rfl) ?_
                refine zGet (ci := 10) (C := RX10) (F := TX10) (N := 54) (v := .int (gm_17 0 12)) hx hb hts hiX10 hown hK hP 0 12 1 rfl rfl (by decide) rfl rfl rfl dX10_advance_173 ?_
                obtain ⟨v27, hc176, hf⟩ := zB1_ok hf
                refine zCallVEI [.int (gm_17 0 12)] ⟨hx, hb, hml, hown, hts⟩ (pX10_byteAt l D T X hgm H.size gm_17 gmL_18 (gm_17 0 12) v27 hc176) (cwV 1 hts gX10_advance_X10_byteAt rfl rfl rfl (by decide +kernel) ⟨Nat.le_of_ble_eq_true rfl, Nat.le_of_ble_eq_true rfl⟩) hK hP hD hS hA hX 0 rfl rfl rfl hl.1 rfl (Nat.le_of_ble_eq_true rfl) dX10_advance_176 ⟨Nat.zero_le _, Nat.zero_le _⟩ (fun H locs hP hD hS => ?_)
                refine lv_i2l hx hb dX10_advance_179 rfl ?_
                refine lv_ladd hx hb dX10_advance_180 ?_
                refine lv_ldc2 (v := 96) hx hb hown (hts _ (List.mem_of_getElem? (i := 7) rfl)) dX10_advance_181 ?_
                refine lv_lsub hx hb dX10_advance_184 ?_
                refine lv_goto (tgt := 191) hx hb dX10_advance_185 (by decide) ?_
                exact hJ191 (((27 * (gmL_18 0 13)) + (v27.toInt64)) - 96) H locs ls hf hP hD hS hl
        refine lv_icmp_ne (tgt := 126) hx hb dX10_advance_113 (by decide) (fun hc => ?_) (fun hc => ?_)
        · replace hf := zIf_f hc hf
          exact hJ126 gm_15 H locs ls hf hP hD hS hl
        · replace hf := zIf_t hc hf
          refine lv_aload_n hx hb dX10_advance_116 rfl (lv_at hl 0 rfl) ?_
          refine lv_dup hx hb dX10_advance_117 rfl ?_
          refine zGet (ci := 10) (C := RX10) (F := TX10) (N := 54) (v := .int (gm_15 0 12)) hx hb hts hiX10 hown hK hP 0 12 1 rfl rfl (by decide) rfl rfl rfl dX10_advance_118 ?_
          refine lv_iconst (v := 1) hx hb dX10_advance_121 (by decide) ?_
          refine lv_iadd hx hb dX10_advance_122 ?_
          refine lv_topi (fun v37 ev37 => ?_)
          replace hf := zLt_at ev37 hf
          refine zPut (ci := 10) (C := RX10) (F := TX10) (N := 54) (x := v37) (w := gm_15) hx hb hts hiX10 tyX10 tyX10_ok nmX10 hown hK hP hD hS (fun g => wX10 T hgm g gmL_13) 0 12 1 rfl rfl (by decide) rfl rfl rfl ⟨rfl, rfl⟩ (Nat.le_of_ble_eq_true rfl) rfl dX10_advance_123 (fun gm_38 egm_38 H locs hP hD hS => ?_)
          replace hP : va_P D vwCl (wX10 T hgm gm_38 gmL_13) H := hP
          replace hD : va_D A (wX10 T hgm gm_38 gmL_13) := hD
          replace hf := zLt_at egm_38 hf
          exact hJ126 gm_38 H locs ls hf hP hD hS hl
      refine lv_icmp_ne (tgt := 104) hx hb dX10_advance_97 (by decide) (fun hc => ?_) (fun hc => ?_)
      · replace hf := zIf_f hc hf
        refine lv_iload_n hx hb dX10_advance_104 rfl (lv_at hl 1 rfl) ?_
        exact hJ105 v10 H locs ls hf hP hD hS (lv_sub hl [0] rfl)
      · replace hf := zIf_t hc hf
        refine lv_iconst (v := 0) hx hb dX10_advance_100 (by decide) ?_
        refine lv_goto (tgt := 105) hx hb dX10_advance_101 (by decide) ?_
        exact hJ105 0 H locs ls hf hP hD hS (lv_sub hl [0] rfl)
    refine lv_if_ge (tgt := 60) hx hb dX10_advance_53 (by decide) (fun hc => ?_) (fun hc => ?_)
    · replace hf := zIf_t hc hf
      refine lv_iload_n hx hb dX10_advance_60 rfl (lv_at hl 0 rfl) ?_
      obtain ⟨v39, hc61, hf⟩ := zB1_ok hf
      refine zCallS0I [.int v10] ⟨hx, hb, hml, hown, hts⟩ (pX10_isLetter l D T X H.size v10 v39 hc61) (va_cwS 1 hts gX10_advance_X10_isLetter rfl rfl rfl (by decide +kernel) ⟨Nat.le_of_ble_eq_true rfl, Nat.le_of_ble_eq_true rfl⟩) hK hP hD hS hA hX rfl hl.1 rfl (Nat.le_of_ble_eq_true rfl) dX10_advance_61 ⟨Nat.zero_le _, Nat.zero_le _⟩ (fun H locs hP hD hS => ?_)
      refine lv_if_eq (tgt := 71) hx hb dX10_advance_64 (by decide) (fun hc => ?_) (fun hc => ?_)
      · replace hf := zIf_t hc hf
        refine lv_iload_n hx hb dX10_advance_71 rfl (lv_at hl 0 rfl) ?_
        obtain ⟨v40, hc72, hf⟩ := zB1_ok hf
        refine zCallS0I [.int v10] ⟨hx, hb, hml, hown, hts⟩ (pX10_isDigit l D T X H.size v10 v40 hc72) (va_cwS 1 hts gX10_advance_X10_isDigit rfl rfl rfl (by decide +kernel) ⟨Nat.le_of_ble_eq_true rfl, Nat.le_of_ble_eq_true rfl⟩) hK hP hD hS hA hX rfl hl.1 rfl (Nat.le_of_ble_eq_true rfl) dX10_advance_72 ⟨Nat.zero_le _, Nat.zero_le _⟩ (fun H locs hP hD hS => ?_)
        refine lv_if_eq (tgt := 82) hx hb dX10_advance_75 (by decide) (fun hc => ?_) (fun hc => ?_)
        · replace hf := zIf_t hc hf
          refine lv_iconst (v := 3) hx hb dX10_advance_82 (by decide) ?_
          exact hJ83 3 H locs ls hf hP hD hS (lv_sub hl [1, 0] rfl)
        · replace hf := zIf_f hc hf
          refine lv_iconst (v := 2) hx hb dX10_advance_78 (by decide) ?_
          refine lv_goto (tgt := 83) hx hb dX10_advance_79 (by decide) ?_
          exact hJ83 2 H locs ls hf hP hD hS (lv_sub hl [1, 0] rfl)
      · replace hf := zIf_f hc hf
        refine lv_iconst (v := 1) hx hb dX10_advance_67 (by decide) ?_
        refine lv_goto (tgt := 83) hx hb dX10_advance_68 (by decide) ?_
        exact hJ83 1 H locs ls hf hP hD hS (lv_sub hl [1, 0] rfl)
    · replace hf := zIf_f hc hf
      refine lv_iconst (v := 0) hx hb dX10_advance_56 (by decide) ?_
      refine lv_goto (tgt := 83) hx hb dX10_advance_57 (by decide) ?_
      exact hJ83 0 H locs ls hf hP hD hS (lv_sub hl [1, 0] rfl)
  refine zLpS1 (body := (fX10_advance_L8 gml)) (b := ex) (fun (gm_3 : zM) => ∀ (H : Heap) (locs : List Loc) (ls : Array Slot), va_P D vwCl (wX10 T hgm gm_3 gml) H → va_D A (wX10 T hgm gm_3 gml) → va_S A s.heap H locs → lv_has ls 2 [(0, .ref (hgm 0))] → W p l e rX10_advance s m args below meth c H locs 0 0 Q (F0 m 8 ls [])) ?_ zFU gm_2 hlp H locs ls hP hD hS hl
  intro gm_3 z hf hzz H locs ls hP hD hS hl
  unfold fX10_advance_L8 at hf
  replace hf := zUk1 hf
  refine lv_aload_n hx hb dX10_advance_8 rfl (lv_at hl 0 rfl) ?_
  refine lv_aload_n hx hb dX10_advance_9 rfl (lv_at hl 0 rfl) ?_
  refine zGet (ci := 10) (C := RX10) (F := TX10) (N := 54) (v := .int (gm_3 0 11)) hx hb hts hiX10 hown hK hP 0 11 2 rfl rfl (by decide) rfl rfl rfl dX10_advance_10 ?_
  obtain ⟨v5, hc13, hf⟩ := zB1_ok hf
  refine zCallVEI [.int (gm_3 0 11)] ⟨hx, hb, hml, hown, hts⟩ (pX10_byteAt l D T X hgm H.size gm_3 gml (gm_3 0 11) v5 hc13) (cwV 1 hts gX10_advance_X10_byteAt rfl rfl rfl (by decide +kernel) ⟨Nat.le_of_ble_eq_true rfl, Nat.le_of_ble_eq_true rfl⟩) hK hP hD hS hA hX 0 rfl rfl rfl hl.1 rfl (Nat.le_of_ble_eq_true rfl) dX10_advance_13 ⟨Nat.zero_le _, Nat.zero_le _⟩ (fun H locs hP hD hS => ?_)
  refine lv_bipush (v := 32) hx hb dX10_advance_16 (by decide) ?_
  refine lv_icmp_ne (tgt := 34) hx hb dX10_advance_18 (by decide) (fun hc => ?_) (fun hc => ?_)
  · replace hf := zIf_f hc hf
    cases hf
    exact hE8_34 gm_3 hzz.symm H locs ls hP hD hS hl
  · replace hf := zIf_t hc hf
    refine lv_aload_n hx hb dX10_advance_21 rfl (lv_at hl 0 rfl) ?_
    refine lv_dup hx hb dX10_advance_22 rfl ?_
    refine zGet (ci := 10) (C := RX10) (F := TX10) (N := 54) (v := .int (gm_3 0 11)) hx hb hts hiX10 hown hK hP 0 11 2 rfl rfl (by decide) rfl rfl rfl dX10_advance_23 ?_
    refine lv_iconst (v := 1) hx hb dX10_advance_26 (by decide) ?_
    refine lv_iadd hx hb dX10_advance_27 ?_
    refine lv_topi (fun v6 ev6 => ?_)
    replace hf := zLt_at ev6 hf
    refine zPut (ci := 10) (C := RX10) (F := TX10) (N := 54) (x := v6) (w := gm_3) hx hb hts hiX10 tyX10 tyX10_ok nmX10 hown hK hP hD hS (fun g => wX10 T hgm g gml) 0 11 2 rfl rfl (by decide) rfl rfl rfl ⟨rfl, rfl⟩ (Nat.le_of_ble_eq_true rfl) rfl dX10_advance_28 (fun gm_7 egm_7 H locs hP hD hS => ?_)
    replace hP : va_P D vwCl (wX10 T hgm gm_7 gml) H := hP
    replace hD : va_D A (wX10 T hgm gm_7 gml) := hD
    replace hf := zLt_at egm_7 hf
    refine lv_goto (tgt := 8) hx hb dX10_advance_31 (by decide) ?_
    cases hf
    exact hzz H locs ls hP hD hS hl
set_option maxHeartbeats 4000000 in
set_option maxRecDepth 100000 in
theorem pX10_isWord (l : Launch) (D : va_G) (T : Nat → ClassId) (X : zFP) (hgm : Nat → Nat) (sz : Nat) (gm : zM) (gml : zL) (a1 : Int64) (r : Int32) (hf : fX10_isWord gm gml a1 = some r) : Met l yX10_isWord wsX10_isWord rX10_isWord (zPre D T X [.ref (hgm 0), .long a1] (wX10 T hgm gm gml) sz) (zQi D T r (wX10 T hgm gm gml) (wX10 T hgm gm gml) sz) 0 0 (va_A (wX10 T hgm gm gml) sz) := by
  unfold fX10_isWord at hf
  refine zStart [(0, .ref (hgm 0)), (1, .long a1)] (by decide) rfl (Nat.le_of_ble_eq_true rfl) rfl ?_
  intro p e s m args below meth c A Q ls hx hb hr hml hown hlocks hts hsz hA0 hQ hA hK hX hP hD hS hl
  replace hown : s.vm.findClass RX10 = some m.cls := hown
  have hH := hsz
  have hiX10 : ∀ w ∈ u_ws RX10 TX10 54, w ∈ wsX10_isWord := fun w h => List.mem_cons_of_mem _ (List.mem_append_right _ (h))
  obtain ⟨H, hHe⟩ : ∃ H : Heap, H = s.heap := ⟨_, rfl⟩
  obtain ⟨locs, hLe⟩ : ∃ L : List Loc, L = [] := ⟨_, rfl⟩
  replace hP : va_P D vwCl (wX10 T hgm gm gml) H := by rw [hHe]; exact hP
  replace hS : va_S A s.heap H locs := by rw [hHe, hLe]; exact hS
  suffices hgo : W p l e rX10_isWord s m args below meth c H locs 0 0 Q (F0 m 0 ls []) by rw [hHe, hLe] at hgo; exact hgo
  clear hHe hLe
  refine lv_aload_n hx hb dX10_isWord_0 rfl (lv_at hl 0 rfl) ?_
  refine zGet (ci := 10) (C := RX10) (F := TX10) (N := 54) (v := .int (gm 0 10)) hx hb hts hiX10 hown hK hP 0 10 1 rfl rfl (by decide) rfl rfl rfl dX10_isWord_1 ?_
  refine lv_iconst (v := 1) hx hb dX10_isWord_4 (by decide) ?_
  refine lv_icmp_ne (tgt := 21) hx hb dX10_isWord_5 (by decide) (fun hc => ?_) (fun hc => ?_)
  · replace hf := zIf_f hc hf
    refine lv_iconst (v := 0) hx hb dX10_isWord_21 (by decide) ?_
    obtain ⟨q1, -⟩ := zI1 hf
    subst q1
    exact zRetZ hQ hx hb hr hlocks hA0 hK hP hD hS (by decide) rfl dX10_isWord_22
  · replace hf := zIf_t hc hf
    refine lv_aload_n hx hb dX10_isWord_8 rfl (lv_at hl 0 rfl) ?_
    refine zGet (ci := 10) (C := RX10) (F := TX10) (N := 54) (v := .long (gml 0 13)) hx hb hts hiX10 hown hK hP 0 13 2 rfl rfl (by decide) rfl rfl rfl dX10_isWord_9 ?_
    refine lv_lload_n hx hb dX10_isWord_12 rfl (lv_at hl 1 rfl) ?_
    refine W.lcmp hx hb dX10_isWord_13 ?_
    refine lv_if_ne (tgt := 21) hx hb dX10_isWord_14 (by decide) (fun hc => ?_) (fun hc => ?_)
    · replace hf := zIf_f hc hf
      refine lv_iconst (v := 0) hx hb dX10_isWord_21 (by decide) ?_
      obtain ⟨q1, -⟩ := zI1 hf
      subst q1
      exact zRetZ hQ hx hb hr hlocks hA0 hK hP hD hS (by decide) rfl dX10_isWord_22
    · replace hf := zIf_t hc hf
      refine lv_iconst (v := 1) hx hb dX10_isWord_17 (by decide) ?_
      refine lv_goto (tgt := 22) hx hb dX10_isWord_18 (by decide) ?_
      obtain ⟨q1, -⟩ := zI1 hf
      subst q1
      exact zRetZ hQ hx hb hr hlocks hA0 hK hP hD hS (by decide) rfl dX10_isWord_22
set_option maxHeartbeats 4000000 in
set_option maxRecDepth 100000 in
theorem pX10_wantWord (l : Launch) (D : va_G) (T : Nat → ClassId) (X : zFP) (hgm : Nat → Nat) (sz : Nat) (gm : zM) (gml : zL) (a1 : Int64) (ngm : zM) (ngml : zL) (hf : fX10_wantWord gm gml a1 = some (ngm, ngml)) : Met l yX10_wantWord wsX10_wantWord rX10_wantWord (zPre D T X [.ref (hgm 0), .long a1] (wX10 T hgm gm gml) sz) (zQv D T (wX10 T hgm ngm ngml) (wX10 T hgm gm gml) sz) 0 0 (va_A (wX10 T hgm gm gml) sz) := by
  unfold fX10_wantWord at hf
  refine zStart [(0, .ref (hgm 0)), (1, .long a1)] (by decide) rfl (Nat.le_of_ble_eq_true rfl) rfl ?_
  intro p e s m args below meth c A Q ls hx hb hr hml hown hlocks hts hsz hA0 hQ hA hK hX hP hD hS hl
  replace hown : s.vm.findClass RX10 = some m.cls := hown
  have hH := hsz
  have hiX10 : ∀ w ∈ u_ws RX10 TX10 54, w ∈ wsX10_wantWord := fun w h => List.mem_cons_of_mem _ (List.mem_append_right _ (h))
  obtain ⟨H, hHe⟩ : ∃ H : Heap, H = s.heap := ⟨_, rfl⟩
  obtain ⟨locs, hLe⟩ : ∃ L : List Loc, L = [] := ⟨_, rfl⟩
  replace hP : va_P D vwCl (wX10 T hgm gm gml) H := by rw [hHe]; exact hP
  replace hS : va_S A s.heap H locs := by rw [hHe, hLe]; exact hS
  suffices hgo : W p l e rX10_wantWord s m args below meth c H locs 0 0 Q (F0 m 0 ls []) by rw [hHe, hLe] at hgo; exact hgo
  clear hHe hLe
  refine lv_aload_n hx hb dX10_wantWord_0 rfl (lv_at hl 0 rfl) ?_
  refine lv_aload_n hx hb dX10_wantWord_1 rfl (lv_at hl 0 rfl) ?_
  refine zGet (ci := 10) (C := RX10) (F := TX10) (N := 54) (v := .int (gm 0 15)) hx hb hts hiX10 hown hK hP 0 15 1 rfl rfl (by decide) rfl rfl rfl dX10_wantWord_2 ?_
  have hJ21 : ∀ (v1 : Int32) (H : Heap) (locs : List Loc) (ls : Array Slot), fX10_wantWord_J21 gm gml v1 = some (ngm, ngml) → va_P D vwCl (wX10 T hgm gm gml) H → va_D A (wX10 T hgm gm gml) → va_S A s.heap H locs → lv_has ls 3 [(0, .ref (hgm 0))] → W p l e rX10_wantWord s m args below meth c H locs 0 0 Q (F0 m 21 ls [.int v1, .ref (hgm 0)]) := by
    intro v1 H locs ls hf hP hD hS hl
    unfold fX10_wantWord_J21 at hf
    obtain ⟨hg, hf⟩ := zGd_ok hf
    refine zPut (ci := 10) (C := RX10) (F := TX10) (N := 54) (x := v1) (w := gm) hx hb hts hiX10 tyX10 tyX10_ok nmX10 hown hK hP hD hS (fun g => wX10 T hgm g gml) 0 15 1 rfl rfl (by decide) rfl rfl rfl (zBo_ok hg) (Nat.le_of_ble_eq_true rfl) rfl dX10_wantWord_21 (fun gm_2 egm_2 H locs hP hD hS => ?_)
    replace hP : va_P D vwCl (wX10 T hgm gm_2 gml) H := hP
    replace hD : va_D A (wX10 T hgm gm_2 gml) := hD
    replace hf := zLt_at egm_2 hf
    refine lv_aload_n hx hb dX10_wantWord_24 rfl (lv_at hl 0 rfl) ?_
    refine zGet (ci := 10) (C := RX10) (F := TX10) (N := 54) (v := .int (gm_2 0 15)) hx hb hts hiX10 hown hK hP 0 15 1 rfl rfl (by decide) rfl rfl rfl dX10_wantWord_25 ?_
    refine lv_if_eq (tgt := 35) hx hb dX10_wantWord_28 (by decide) (fun hc => ?_) (fun hc => ?_)
    · replace hf := zIf_t hc hf
      obtain ⟨q1, q2⟩ := zI2 hf
      subst q1
      subst q2
      exact zRetV hQ hx hb hr hlocks hA0 hK hP hD hS dX10_wantWord_35
    · replace hf := zIf_f hc hf
      refine lv_aload_n hx hb dX10_wantWord_31 rfl (lv_at hl 0 rfl) ?_
      obtain ⟨gm_3, gmL_4, hc32, hf⟩ := zB2_ok hf
      refine zCallVEV [] ⟨hx, hb, hml, hown, hts⟩ (pX10_advance l D T X hgm H.size gm_2 gml gm_3 gmL_4 hc32) (cwV 0 hts gX10_wantWord_X10_advance rfl rfl rfl (by decide +kernel) ⟨Nat.le_of_ble_eq_true rfl, Nat.le_of_ble_eq_true rfl⟩) hK hP hD hS hA hX 0 rfl rfl rfl hl.1 rfl (Nat.le_of_ble_eq_true rfl) dX10_wantWord_32 ⟨Nat.zero_le _, Nat.zero_le _⟩ (fun H locs hP hD hS => ?_)
      obtain ⟨q1, q2⟩ := zI2 hf
      subst q1
      subst q2
      exact zRetV hQ hx hb hr hlocks hA0 hK hP hD hS dX10_wantWord_35
  have hJ20 : ∀ (H : Heap) (locs : List Loc) (ls : Array Slot), fX10_wantWord_J20 gm gml = some (ngm, ngml) → va_P D vwCl (wX10 T hgm gm gml) H → va_D A (wX10 T hgm gm gml) → va_S A s.heap H locs → lv_has ls 3 [(0, .ref (hgm 0))] → W p l e rX10_wantWord s m args below meth c H locs 0 0 Q (F0 m 20 ls [.ref (hgm 0)]) := by
    intro H locs ls hf hP hD hS hl
    unfold fX10_wantWord_J20 at hf
    refine lv_iconst (v := 0) hx hb dX10_wantWord_20 (by decide) ?_
    exact hJ21 0 H locs ls hf hP hD hS hl
  refine lv_if_eq (tgt := 20) hx hb dX10_wantWord_5 (by decide) (fun hc => ?_) (fun hc => ?_)
  · replace hf := zIf_t hc hf
    exact hJ20 H locs ls hf hP hD hS (lv_sub hl [0] rfl)
  · replace hf := zIf_f hc hf
    refine lv_aload_n hx hb dX10_wantWord_8 rfl (lv_at hl 0 rfl) ?_
    refine lv_lload_n hx hb dX10_wantWord_9 rfl (lv_at hl 1 rfl) ?_
    obtain ⟨v5, hc10, hf⟩ := zB1_ok hf
    refine zCallVEI [.long a1] ⟨hx, hb, hml, hown, hts⟩ (pX10_isWord l D T X hgm H.size gm gml a1 v5 hc10) (cwV 1 hts gX10_wantWord_X10_isWord rfl rfl rfl (by decide +kernel) ⟨Nat.le_of_ble_eq_true rfl, Nat.le_of_ble_eq_true rfl⟩) hK hP hD hS hA hX 0 rfl rfl rfl hl.1 rfl (Nat.le_of_ble_eq_true rfl) dX10_wantWord_10 ⟨Nat.zero_le _, Nat.zero_le _⟩ (fun H locs hP hD hS => ?_)
    refine lv_if_eq (tgt := 20) hx hb dX10_wantWord_13 (by decide) (fun hc => ?_) (fun hc => ?_)
    · replace hf := zIf_t hc hf
      exact hJ20 H locs ls hf hP hD hS (lv_sub hl [0] rfl)
    · replace hf := zIf_f hc hf
      refine lv_iconst (v := 1) hx hb dX10_wantWord_16 (by decide) ?_
      refine lv_goto (tgt := 21) hx hb dX10_wantWord_17 (by decide) ?_
      exact hJ21 1 H locs ls hf hP hD hS (lv_sub hl [0] rfl)
set_option maxHeartbeats 4000000 in
set_option maxRecDepth 100000 in
theorem pX10_wantNumber (l : Launch) (D : va_G) (T : Nat → ClassId) (X : zFP) (hgm : Nat → Nat) (sz : Nat) (gm : zM) (gml : zL) (a1 : Int32) (a2 : Int32) (r : Int32) (ngm : zM) (ngml : zL) (hf : fX10_wantNumber gm gml a1 a2 = some (r, ngm, ngml)) : Met l yX10_wantNumber wsX10_wantNumber rX10_wantNumber (zPre D T X [.ref (hgm 0), .int a1, .int a2] (wX10 T hgm gm gml) sz) (zQi D T r (wX10 T hgm ngm ngml) (wX10 T hgm gm gml) sz) 0 0 (va_A (wX10 T hgm gm gml) sz) := by
  unfold fX10_wantNumber at hf
  refine zStart [(0, .ref (hgm 0)), (1, .int a1), (2, .int a2)] (by decide) rfl (Nat.le_of_ble_eq_true rfl) rfl ?_
  intro p e s m args below meth c A Q ls hx hb hr hml hown hlocks hts hsz hA0 hQ hA hK hX hP hD hS hl
  replace hown : s.vm.findClass RX10 = some m.cls := hown
  have hH := hsz
  have hiX10 : ∀ w ∈ u_ws RX10 TX10 54, w ∈ wsX10_wantNumber := fun w h => List.mem_cons_of_mem _ (List.mem_append_right _ (h))
  obtain ⟨H, hHe⟩ : ∃ H : Heap, H = s.heap := ⟨_, rfl⟩
  obtain ⟨locs, hLe⟩ : ∃ L : List Loc, L = [] := ⟨_, rfl⟩
  replace hP : va_P D vwCl (wX10 T hgm gm gml) H := by rw [hHe]; exact hP
  replace hS : va_S A s.heap H locs := by rw [hHe, hLe]; exact hS
  suffices hgo : W p l e rX10_wantNumber s m args below meth c H locs 0 0 Q (F0 m 0 ls []) by rw [hHe, hLe] at hgo; exact hgo
  clear hHe hLe
  refine lv_aload_n hx hb dX10_wantNumber_0 rfl (lv_at hl 0 rfl) ?_
  refine zGet (ci := 10) (C := RX10) (F := TX10) (N := 54) (v := .int (gm 0 14)) hx hb hts hiX10 hown hK hP 0 14 1 rfl rfl (by decide) rfl rfl rfl dX10_wantNumber_1 ?_
  refine lv_topi (fun v1 ev1 => ?_)
  replace hf := zLt_at ev1 hf
  refine lv_istore_n (lv' := [(3, .int v1), (0, .ref (hgm 0)), (1, .int a1), (2, .int a2)]) hx hb dX10_wantNumber_4 rfl hl (by decide) rfl (fun ls hl => ?_)
  refine lv_aload_n hx hb dX10_wantNumber_5 rfl (lv_at hl 1 rfl) ?_
  refine lv_aload_n hx hb dX10_wantNumber_6 rfl (lv_at hl 1 rfl) ?_
  refine zGet (ci := 10) (C := RX10) (F := TX10) (N := 54) (v := .int (gm 0 15)) hx hb hts hiX10 hown hK hP 0 15 2 rfl rfl (by decide) rfl rfl rfl dX10_wantNumber_7 ?_
  have hJ35 : ∀ (v2 : Int32) (H : Heap) (locs : List Loc) (ls : Array Slot), fX10_wantNumber_J35 gm gml v1 v2 = some (r, ngm, ngml) → va_P D vwCl (wX10 T hgm gm gml) H → va_D A (wX10 T hgm gm gml) → va_S A s.heap H locs → lv_has ls 4 [(0, .ref (hgm 0)), (3, .int v1)] → W p l e rX10_wantNumber s m args below meth c H locs 0 0 Q (F0 m 35 ls [.int v2, .ref (hgm 0)]) := by
    intro v2 H locs ls hf hP hD hS hl
    unfold fX10_wantNumber_J35 at hf
    obtain ⟨hg, hf⟩ := zGd_ok hf
    refine zPut (ci := 10) (C := RX10) (F := TX10) (N := 54) (x := v2) (w := gm) hx hb hts hiX10 tyX10 tyX10_ok nmX10 hown hK hP hD hS (fun g => wX10 T hgm g gml) 0 15 2 rfl rfl (by decide) rfl rfl rfl (zBo_ok hg) (Nat.le_of_ble_eq_true rfl) rfl dX10_wantNumber_35 (fun gm_3 egm_3 H locs hP hD hS => ?_)
    replace hP : va_P D vwCl (wX10 T hgm gm_3 gml) H := hP
    replace hD : va_D A (wX10 T hgm gm_3 gml) := hD
    replace hf := zLt_at egm_3 hf
    refine lv_aload_n hx hb dX10_wantNumber_38 rfl (lv_at hl 0 rfl) ?_
    refine zGet (ci := 10) (C := RX10) (F := TX10) (N := 54) (v := .int (gm_3 0 15)) hx hb hts hiX10 hown hK hP 0 15 2 rfl rfl (by decide) rfl rfl rfl dX10_wantNumber_39 ?_
    refine lv_if_eq (tgt := 49) hx hb dX10_wantNumber_42 (by decide) (fun hc => ?_) (fun hc => ?_)
    · replace hf := zIf_t hc hf
      refine lv_iload_n hx hb dX10_wantNumber_49 rfl (lv_at hl 1 rfl) ?_
      obtain ⟨q1, q2, q3⟩ := zI3 hf
      subst q1
      subst q2
      subst q3
      exact zRetI hQ hx hb hr hlocks hA0 hK hP hD hS rfl dX10_wantNumber_50
    · replace hf := zIf_f hc hf
      refine lv_aload_n hx hb dX10_wantNumber_45 rfl (lv_at hl 0 rfl) ?_
      obtain ⟨gm_4, gmL_5, hc46, hf⟩ := zB2_ok hf
      refine zCallVEV [] ⟨hx, hb, hml, hown, hts⟩ (pX10_advance l D T X hgm H.size gm_3 gml gm_4 gmL_5 hc46) (cwV 0 hts gX10_wantNumber_X10_advance rfl rfl rfl (by decide +kernel) ⟨Nat.le_of_ble_eq_true rfl, Nat.le_of_ble_eq_true rfl⟩) hK hP hD hS hA hX 0 rfl rfl rfl hl.1 rfl (Nat.le_of_ble_eq_true rfl) dX10_wantNumber_46 ⟨Nat.zero_le _, Nat.zero_le _⟩ (fun H locs hP hD hS => ?_)
      refine lv_iload_n hx hb dX10_wantNumber_49 rfl (lv_at hl 1 rfl) ?_
      obtain ⟨q1, q2, q3⟩ := zI3 hf
      subst q1
      subst q2
      subst q3
      exact zRetI hQ hx hb hr hlocks hA0 hK hP hD hS rfl dX10_wantNumber_50
  have hJ34 : ∀ (H : Heap) (locs : List Loc) (ls : Array Slot), fX10_wantNumber_J34 gm gml v1 = some (r, ngm, ngml) → va_P D vwCl (wX10 T hgm gm gml) H → va_D A (wX10 T hgm gm gml) → va_S A s.heap H locs → lv_has ls 4 [(0, .ref (hgm 0)), (3, .int v1)] → W p l e rX10_wantNumber s m args below meth c H locs 0 0 Q (F0 m 34 ls [.ref (hgm 0)]) := by
    intro H locs ls hf hP hD hS hl
    unfold fX10_wantNumber_J34 at hf
    refine lv_iconst (v := 0) hx hb dX10_wantNumber_34 (by decide) ?_
    exact hJ35 0 H locs ls hf hP hD hS hl
  refine lv_if_eq (tgt := 34) hx hb dX10_wantNumber_10 (by decide) (fun hc => ?_) (fun hc => ?_)
  · replace hf := zIf_t hc hf
    exact hJ34 H locs ls hf hP hD hS (lv_sub hl [1, 0] rfl)
  · replace hf := zIf_f hc hf
    refine lv_aload_n hx hb dX10_wantNumber_13 rfl (lv_at hl 1 rfl) ?_
    refine zGet (ci := 10) (C := RX10) (F := TX10) (N := 54) (v := .int (gm 0 10)) hx hb hts hiX10 hown hK hP 0 10 3 rfl rfl (by decide) rfl rfl rfl dX10_wantNumber_14 ?_
    refine lv_iconst (v := 2) hx hb dX10_wantNumber_17 (by decide) ?_
    refine lv_icmp_ne (tgt := 34) hx hb dX10_wantNumber_18 (by decide) (fun hc => ?_) (fun hc => ?_)
    · replace hf := zIf_f hc hf
      exact hJ34 H locs ls hf hP hD hS (lv_sub hl [1, 0] rfl)
    · replace hf := zIf_t hc hf
      refine lv_iload_n hx hb dX10_wantNumber_21 rfl (lv_at hl 0 rfl) ?_
      refine lv_iload_n hx hb dX10_wantNumber_22 rfl (lv_at hl 2 rfl) ?_
      refine lv_iload_n hx hb dX10_wantNumber_23 rfl (lv_at hl 3 rfl) ?_
      obtain ⟨v6, hc24, hf⟩ := zB1_ok hf
      refine zCallS0I [.int v1, .int a1, .int a2] ⟨hx, hb, hml, hown, hts⟩ (pX10_in l D T X H.size v1 a1 a2 v6 hc24) (va_cwS 3 hts gX10_wantNumber_X10_in rfl rfl rfl (by decide +kernel) ⟨Nat.le_of_ble_eq_true rfl, Nat.le_of_ble_eq_true rfl⟩) hK hP hD hS hA hX rfl hl.1 rfl (Nat.le_of_ble_eq_true rfl) dX10_wantNumber_24 ⟨Nat.zero_le _, Nat.zero_le _⟩ (fun H locs hP hD hS => ?_)
      refine lv_if_eq (tgt := 34) hx hb dX10_wantNumber_27 (by decide) (fun hc => ?_) (fun hc => ?_)
      · replace hf := zIf_t hc hf
        exact hJ34 H locs ls hf hP hD hS (lv_sub hl [1, 0] rfl)
      · replace hf := zIf_f hc hf
        refine lv_iconst (v := 1) hx hb dX10_wantNumber_30 (by decide) ?_
        refine lv_goto (tgt := 35) hx hb dX10_wantNumber_31 (by decide) ?_
        exact hJ35 1 H locs ls hf hP hD hS (lv_sub hl [1, 0] rfl)
set_option maxHeartbeats 4000000 in
set_option maxRecDepth 100000 in
theorem pX10_wantEnd (l : Launch) (D : va_G) (T : Nat → ClassId) (X : zFP) (hgm : Nat → Nat) (sz : Nat) (gm : zM) (gml : zL) (ngm : zM) (ngml : zL) (hf : fX10_wantEnd gm gml = some (ngm, ngml)) : Met l yX10_wantEnd wsX10_wantEnd rX10_wantEnd (zPre D T X [.ref (hgm 0)] (wX10 T hgm gm gml) sz) (zQv D T (wX10 T hgm ngm ngml) (wX10 T hgm gm gml) sz) 0 0 (va_A (wX10 T hgm gm gml) sz) := by
  unfold fX10_wantEnd at hf
  refine zStart [(0, .ref (hgm 0))] (by decide) rfl (Nat.le_of_ble_eq_true rfl) rfl ?_
  intro p e s m args below meth c A Q ls hx hb hr hml hown hlocks hts hsz hA0 hQ hA hK hX hP hD hS hl
  replace hown : s.vm.findClass RX10 = some m.cls := hown
  have hH := hsz
  have hiX10 : ∀ w ∈ u_ws RX10 TX10 54, w ∈ wsX10_wantEnd := fun w h => List.mem_cons_of_mem _ (List.mem_append_right _ (h))
  obtain ⟨H, hHe⟩ : ∃ H : Heap, H = s.heap := ⟨_, rfl⟩
  obtain ⟨locs, hLe⟩ : ∃ L : List Loc, L = [] := ⟨_, rfl⟩
  replace hP : va_P D vwCl (wX10 T hgm gm gml) H := by rw [hHe]; exact hP
  replace hS : va_S A s.heap H locs := by rw [hHe, hLe]; exact hS
  suffices hgo : W p l e rX10_wantEnd s m args below meth c H locs 0 0 Q (F0 m 0 ls []) by rw [hHe, hLe] at hgo; exact hgo
  clear hHe hLe
  refine lv_aload_n hx hb dX10_wantEnd_0 rfl (lv_at hl 0 rfl) ?_
  refine lv_aload_n hx hb dX10_wantEnd_1 rfl (lv_at hl 0 rfl) ?_
  refine zGet (ci := 10) (C := RX10) (F := TX10) (N := 54) (v := .int (gm 0 15)) hx hb hts hiX10 hown hK hP 0 15 1 rfl rfl (by decide) rfl rfl rfl dX10_wantEnd_2 ?_
  have hJ30 : ∀ (v1 : Int32) (H : Heap) (locs : List Loc) (ls : Array Slot), fX10_wantEnd_J30 gm gml v1 = some (ngm, ngml) → va_P D vwCl (wX10 T hgm gm gml) H → va_D A (wX10 T hgm gm gml) → va_S A s.heap H locs → lv_has ls 1 [(0, .ref (hgm 0))] → W p l e rX10_wantEnd s m args below meth c H locs 0 0 Q (F0 m 30 ls [.int v1, .ref (hgm 0)]) := by
    intro v1 H locs ls hf hP hD hS hl
    unfold fX10_wantEnd_J30 at hf
    obtain ⟨hg, hf⟩ := zGd_ok hf
    refine zPut (ci := 10) (C := RX10) (F := TX10) (N := 54) (x := v1) (w := gm) hx hb hts hiX10 tyX10 tyX10_ok nmX10 hown hK hP hD hS (fun g => wX10 T hgm g gml) 0 15 1 rfl rfl (by decide) rfl rfl rfl (zBo_ok hg) (Nat.le_of_ble_eq_true rfl) rfl dX10_wantEnd_30 (fun gm_2 egm_2 H locs hP hD hS => ?_)
    replace hP : va_P D vwCl (wX10 T hgm gm_2 gml) H := hP
    replace hD : va_D A (wX10 T hgm gm_2 gml) := hD
    replace hf := zLt_at egm_2 hf
    refine lv_aload_n hx hb dX10_wantEnd_33 rfl (lv_at hl 0 rfl) ?_
    refine zGet (ci := 10) (C := RX10) (F := TX10) (N := 54) (v := .int (gm_2 0 15)) hx hb hts hiX10 hown hK hP 0 15 1 rfl rfl (by decide) rfl rfl rfl dX10_wantEnd_34 ?_
    refine lv_if_eq (tgt := 44) hx hb dX10_wantEnd_37 (by decide) (fun hc => ?_) (fun hc => ?_)
    · replace hf := zIf_t hc hf
      obtain ⟨q1, q2⟩ := zI2 hf
      subst q1
      subst q2
      exact zRetV hQ hx hb hr hlocks hA0 hK hP hD hS dX10_wantEnd_44
    · replace hf := zIf_f hc hf
      refine lv_aload_n hx hb dX10_wantEnd_40 rfl (lv_at hl 0 rfl) ?_
      obtain ⟨gm_3, gmL_4, hc41, hf⟩ := zB2_ok hf
      refine zCallVEV [] ⟨hx, hb, hml, hown, hts⟩ (pX10_advance l D T X hgm H.size gm_2 gml gm_3 gmL_4 hc41) (cwV 0 hts gX10_wantEnd_X10_advance rfl rfl rfl (by decide +kernel) ⟨Nat.le_of_ble_eq_true rfl, Nat.le_of_ble_eq_true rfl⟩) hK hP hD hS hA hX 0 rfl rfl rfl hl.1 rfl (Nat.le_of_ble_eq_true rfl) dX10_wantEnd_41 ⟨Nat.zero_le _, Nat.zero_le _⟩ (fun H locs hP hD hS => ?_)
      obtain ⟨q1, q2⟩ := zI2 hf
      subst q1
      subst q2
      exact zRetV hQ hx hb hr hlocks hA0 hK hP hD hS dX10_wantEnd_44
  have hJ29 : ∀ (H : Heap) (locs : List Loc) (ls : Array Slot), fX10_wantEnd_J29 gm gml = some (ngm, ngml) → va_P D vwCl (wX10 T hgm gm gml) H → va_D A (wX10 T hgm gm gml) → va_S A s.heap H locs → lv_has ls 1 [(0, .ref (hgm 0))] → W p l e rX10_wantEnd s m args below meth c H locs 0 0 Q (F0 m 29 ls [.ref (hgm 0)]) := by
    intro H locs ls hf hP hD hS hl
    unfold fX10_wantEnd_J29 at hf
    refine lv_iconst (v := 0) hx hb dX10_wantEnd_29 (by decide) ?_
    exact hJ30 0 H locs ls hf hP hD hS hl
  refine lv_if_eq (tgt := 29) hx hb dX10_wantEnd_5 (by decide) (fun hc => ?_) (fun hc => ?_)
  · replace hf := zIf_t hc hf
    exact hJ29 H locs ls hf hP hD hS hl
  · replace hf := zIf_f hc hf
    refine lv_aload_n hx hb dX10_wantEnd_8 rfl (lv_at hl 0 rfl) ?_
    refine zGet (ci := 10) (C := RX10) (F := TX10) (N := 54) (v := .int (gm 0 10)) hx hb hts hiX10 hown hK hP 0 10 2 rfl rfl (by decide) rfl rfl rfl dX10_wantEnd_9 ?_
    refine lv_iconst (v := 3) hx hb dX10_wantEnd_12 (by decide) ?_
    refine lv_icmp_ne (tgt := 29) hx hb dX10_wantEnd_13 (by decide) (fun hc => ?_) (fun hc => ?_)
    · replace hf := zIf_f hc hf
      exact hJ29 H locs ls hf hP hD hS hl
    · replace hf := zIf_t hc hf
      refine lv_aload_n hx hb dX10_wantEnd_16 rfl (lv_at hl 0 rfl) ?_
      refine zGet (ci := 10) (C := RX10) (F := TX10) (N := 54) (v := .int (gm 0 14)) hx hb hts hiX10 hown hK hP 0 14 3 rfl rfl (by decide) rfl rfl rfl dX10_wantEnd_17 ?_
      refine lv_bipush (v := 59) hx hb dX10_wantEnd_20 (by decide) ?_
      refine lv_icmp_ne (tgt := 29) hx hb dX10_wantEnd_22 (by decide) (fun hc => ?_) (fun hc => ?_)
      · replace hf := zIf_f hc hf
        exact hJ29 H locs ls hf hP hD hS hl
      · replace hf := zIf_t hc hf
        refine lv_iconst (v := 1) hx hb dX10_wantEnd_25 (by decide) ?_
        refine lv_goto (tgt := 30) hx hb dX10_wantEnd_26 (by decide) ?_
        exact hJ30 1 H locs ls hf hP hD hS hl
set_option maxHeartbeats 4000000 in
set_option maxRecDepth 100000 in
theorem pX10_isFreshTie (l : Launch) (D : va_G) (T : Nat → ClassId) (X : zFP) (hgm : Nat → Nat) (sz : Nat) (gm : zM) (gml : zL) (a1 : Int32) (a2 : Int32) (r : Int32) (hf : fX10_isFreshTie gm gml a1 a2 = some r) : Met l yX10_isFreshTie wsX10_isFreshTie rX10_isFreshTie (zPre D T X [.ref (hgm 0), .int a1, .int a2] (wX10 T hgm gm gml) sz) (zQi D T r (wX10 T hgm gm gml) (wX10 T hgm gm gml) sz) 0 0 (va_A (wX10 T hgm gm gml) sz) := by
  unfold fX10_isFreshTie at hf
  refine zStart [(0, .ref (hgm 0)), (1, .int a1), (2, .int a2)] (by decide) rfl (Nat.le_of_ble_eq_true rfl) rfl ?_
  intro p e s m args below meth c A Q ls hx hb hr hml hown hlocks hts hsz hA0 hQ hA hK hX hP hD hS hl
  replace hown : s.vm.findClass RX10 = some m.cls := hown
  have hH := hsz
  have hiX10 : ∀ w ∈ u_ws RX10 TX10 54, w ∈ wsX10_isFreshTie := fun w h => List.mem_cons_of_mem _ (List.mem_append_right _ (h))
  obtain ⟨H, hHe⟩ : ∃ H : Heap, H = s.heap := ⟨_, rfl⟩
  obtain ⟨locs, hLe⟩ : ∃ L : List Loc, L = [] := ⟨_, rfl⟩
  replace hP : va_P D vwCl (wX10 T hgm gm gml) H := by rw [hHe]; exact hP
  replace hS : va_S A s.heap H locs := by rw [hHe, hLe]; exact hS
  suffices hgo : W p l e rX10_isFreshTie s m args below meth c H locs 0 0 Q (F0 m 0 ls []) by rw [hHe, hLe] at hgo; exact hgo
  clear hHe hLe
  refine lv_iconst (v := 0) hx hb dX10_isFreshTie_0 (by decide) ?_
  refine lv_istore_n (lv' := [(3, .int 0), (0, .ref (hgm 0)), (1, .int a1), (2, .int a2)]) hx hb dX10_isFreshTie_1 rfl hl (by decide) rfl (fun ls hl => ?_)
  obtain ⟨ex, hlp, hf⟩ := zB1_ok hf
  have hE2_62 : ex = (.inl ()) → ∀ (H : Heap) (locs : List Loc) (ls : Array Slot), va_P D vwCl (wX10 T hgm gm gml) H → va_D A (wX10 T hgm gm gml) → va_S A s.heap H locs → lv_has ls 4 [] → W p l e rX10_isFreshTie s m args below meth c H locs 0 0 Q (F0 m 62 ls []) := by
    intro hex H locs ls hP hD hS hl
    have hf := zExL0 hex hf
    refine lv_iconst (v := 0) hx hb dX10_isFreshTie_62 (by decide) ?_
    obtain ⟨q1, -⟩ := zI1 hf
    subst q1
    exact zRetZ hQ hx hb hr hlocks hA0 hK hP hD hS (by decide) rfl dX10_isFreshTie_63
  have hE2_54 : ex = (.inr ()) → ∀ (H : Heap) (locs : List Loc) (ls : Array Slot), va_P D vwCl (wX10 T hgm gm gml) H → va_D A (wX10 T hgm gm gml) → va_S A s.heap H locs → lv_has ls 4 [] → W p l e rX10_isFreshTie s m args below meth c H locs 0 0 Q (F0 m 54 ls []) := by
    intro hex H locs ls hP hD hS hl
    have hf := zSmR hex hf
    have hf := zEx0 rfl hf
    refine lv_iconst (v := 1) hx hb dX10_isFreshTie_54 (by decide) ?_
    obtain ⟨q1, -⟩ := zI1 hf
    subst q1
    exact zRetZ hQ hx hb hr hlocks hA0 hK hP hD hS (by decide) rfl dX10_isFreshTie_55
  refine zLpS1 (body := (fX10_isFreshTie_L2 a1 a2 gm)) (b := ex) (fun (v1 : Int32) => ∀ (H : Heap) (locs : List Loc) (ls : Array Slot), va_P D vwCl (wX10 T hgm gm gml) H → va_D A (wX10 T hgm gm gml) → va_S A s.heap H locs → lv_has ls 4 [(0, .ref (hgm 0)), (1, .int a1), (2, .int a2), (3, .int v1)] → W p l e rX10_isFreshTie s m args below meth c H locs 0 0 Q (F0 m 2 ls [])) ?_ zFU 0 hlp H locs ls hP hD hS (lv_sub hl [1, 2, 3, 0] rfl)
  intro v1 z hf hzz H locs ls hP hD hS hl
  unfold fX10_isFreshTie_L2 at hf
  replace hf := zUk1 hf
  refine lv_iload_n hx hb dX10_isFreshTie_2 rfl (lv_at hl 3 rfl) ?_
  refine lv_aload_n hx hb dX10_isFreshTie_3 rfl (lv_at hl 0 rfl) ?_
  refine zGet (ci := 10) (C := RX10) (F := TX10) (N := 54) (v := .int (gm 0 17)) hx hb hts hiX10 hown hK hP 0 17 1 rfl rfl (by decide) rfl rfl rfl dX10_isFreshTie_4 ?_
  refine lv_icmp_ge (tgt := 62) hx hb dX10_isFreshTie_7 (by decide) (fun hc => ?_) (fun hc => ?_)
  · replace hf := zIf_t hc hf
    cases hf
    exact hE2_62 hzz.symm H locs ls hP hD hS (lv_sub hl [] rfl)
  · replace hf := zIf_f hc hf
    refine lv_aload_n hx hb dX10_isFreshTie_10 rfl (lv_at hl 0 rfl) ?_
    refine zGet (ci := 10) (C := RX10) (F := TX10) (N := 54) (v := .ref (hgm 7)) hx hb hts hiX10 hown hK hP 0 20 2 rfl rfl (by decide) rfl rfl rfl dX10_isFreshTie_11 ?_
    refine lv_iconst (v := 5) hx hb dX10_isFreshTie_14 (by decide) ?_
    refine lv_iload_n hx hb dX10_isFreshTie_15 rfl (lv_at hl 3 rfl) ?_
    refine lv_imul hx hb dX10_isFreshTie_16 ?_
    obtain ⟨hg, hf⟩ := zGd_ok hf
    refine zAldI hx hb hK hP 7 rfl hg dX10_isFreshTie_17 (fun v2 ev2 => ?_)
    replace hf := zLt_at ev2 hf
    refine lv_iload_n hx hb dX10_isFreshTie_18 rfl (lv_at hl 1 rfl) ?_
    refine lv_iload_n hx hb dX10_isFreshTie_19 rfl (lv_at hl 2 rfl) ?_
    have hJ28 : ∀ (v3 : Int32) (v4 : Int32) (H : Heap) (locs : List Loc) (ls : Array Slot), fX10_isFreshTie_L2J28 a1 a2 gm v1 v3 v4 = some z → va_P D vwCl (wX10 T hgm gm gml) H → va_D A (wX10 T hgm gm gml) → va_S A s.heap H locs → lv_has ls 4 [(0, .ref (hgm 0)), (1, .int a1), (2, .int a2), (3, .int v1)] → W p l e rX10_isFreshTie s m args below meth c H locs 0 0 Q (F0 m 28 ls [.int v3, .int v4]) := by
      intro v3 v4 H locs ls hf hP hD hS hl
      unfold fX10_isFreshTie_L2J28 at hf
      have hJ56 : ∀ (H : Heap) (locs : List Loc) (ls : Array Slot), fX10_isFreshTie_L2J56 v1 = some z → va_P D vwCl (wX10 T hgm gm gml) H → va_D A (wX10 T hgm gm gml) → va_S A s.heap H locs → lv_has ls 4 [(0, .ref (hgm 0)), (1, .int a1), (2, .int a2), (3, .int v1)] → W p l e rX10_isFreshTie s m args below meth c H locs 0 0 Q (F0 m 56 ls []) := by
        intro H locs ls hf hP hD hS hl
        unfold fX10_isFreshTie_L2J56 at hf
        obtain ⟨v5, ev5⟩ : ∃ y : Int32, y = v1 + 1 := ⟨_, rfl⟩
        replace hf := zLt_at ev5 hf
        refine lv_iinc (v := v5) (lv' := [(3, .int v5), (0, .ref (hgm 0)), (1, .int a1), (2, .int a2)]) hx hb dX10_isFreshTie_56 hl (k := 3) rfl (by rw [ev5]; rfl) (by decide) rfl (fun ls hl => ?_)
        refine lv_goto (tgt := 2) hx hb dX10_isFreshTie_59 (by decide) ?_
        cases hf
        exact hzz H locs ls hP hD hS (lv_sub hl [1, 2, 3, 0] rfl)
      refine lv_icmp_ne (tgt := 56) hx hb dX10_isFreshTie_28 (by decide) (fun hc => ?_) (fun hc => ?_)
      · replace hf := zIf_f hc hf
        exact hJ56 H locs ls hf hP hD hS hl
      · replace hf := zIf_t hc hf
        refine lv_aload_n hx hb dX10_isFreshTie_31 rfl (lv_at hl 0 rfl) ?_
        refine zGet (ci := 10) (C := RX10) (F := TX10) (N := 54) (v := .ref (hgm 7)) hx hb hts hiX10 hown hK hP 0 20 2 rfl rfl (by decide) rfl rfl rfl dX10_isFreshTie_32 ?_
        refine lv_iconst (v := 5) hx hb dX10_isFreshTie_35 (by decide) ?_
        refine lv_iload_n hx hb dX10_isFreshTie_36 rfl (lv_at hl 3 rfl) ?_
        refine lv_imul hx hb dX10_isFreshTie_37 ?_
        refine lv_iconst (v := 1) hx hb dX10_isFreshTie_38 (by decide) ?_
        refine lv_iadd hx hb dX10_isFreshTie_39 ?_
        obtain ⟨hg, hf⟩ := zGd_ok hf
        refine zAldI hx hb hK hP 7 rfl hg dX10_isFreshTie_40 (fun v6 ev6 => ?_)
        replace hf := zLt_at ev6 hf
        refine lv_iload_n hx hb dX10_isFreshTie_41 rfl (lv_at hl 1 rfl) ?_
        refine lv_iload_n hx hb dX10_isFreshTie_42 rfl (lv_at hl 2 rfl) ?_
        have hJ51 : ∀ (v7 : Int32) (v8 : Int32) (H : Heap) (locs : List Loc) (ls : Array Slot), fX10_isFreshTie_L2J51 v1 v7 v8 = some z → va_P D vwCl (wX10 T hgm gm gml) H → va_D A (wX10 T hgm gm gml) → va_S A s.heap H locs → lv_has ls 4 [(0, .ref (hgm 0)), (1, .int a1), (2, .int a2), (3, .int v1)] → W p l e rX10_isFreshTie s m args below meth c H locs 0 0 Q (F0 m 51 ls [.int v7, .int v8]) := by
          intro v7 v8 H locs ls hf hP hD hS hl
          unfold fX10_isFreshTie_L2J51 at hf
          refine lv_icmp_ne (tgt := 56) hx hb dX10_isFreshTie_51 (by decide) (fun hc => ?_) (fun hc => ?_)
          · replace hf := zIf_f hc hf
            exact hJ56 H locs ls hf hP hD hS hl
          · replace hf := zIf_t hc hf
            cases hf
            exact hE2_54 hzz.symm H locs ls hP hD hS (lv_sub hl [] rfl)
        refine lv_icmp_ge (tgt := 50) hx hb dX10_isFreshTie_43 (by decide) (fun hc => ?_) (fun hc => ?_)
        · replace hf := zIf_t hc hf
          refine lv_iload_n hx hb dX10_isFreshTie_50 rfl (lv_at hl 1 rfl) ?_
          exact hJ51 a1 v6 H locs ls hf hP hD hS hl
        · replace hf := zIf_f hc hf
          refine lv_iload_n hx hb dX10_isFreshTie_46 rfl (lv_at hl 2 rfl) ?_
          refine lv_goto (tgt := 51) hx hb dX10_isFreshTie_47 (by decide) ?_
          exact hJ51 a2 v6 H locs ls hf hP hD hS hl
    refine lv_icmp_ge (tgt := 27) hx hb dX10_isFreshTie_20 (by decide) (fun hc => ?_) (fun hc => ?_)
    · replace hf := zIf_t hc hf
      refine lv_iload_n hx hb dX10_isFreshTie_27 rfl (lv_at hl 2 rfl) ?_
      exact hJ28 a2 v2 H locs ls hf hP hD hS hl
    · replace hf := zIf_f hc hf
      refine lv_iload_n hx hb dX10_isFreshTie_23 rfl (lv_at hl 1 rfl) ?_
      refine lv_goto (tgt := 28) hx hb dX10_isFreshTie_24 (by decide) ?_
      exact hJ28 a1 v2 H locs ls hf hP hD hS hl
set_option maxHeartbeats 4000000 in
set_option maxRecDepth 100000 in
theorem pX10_wantTie (l : Launch) (D : va_G) (T : Nat → ClassId) (X : zFP) (hgm : Nat → Nat) (sz : Nat) (gm : zM) (gml : zL) (ngm : zM) (ngml : zL) (hf : fX10_wantTie gm gml = some (ngm, ngml)) : Met l yX10_wantTie wsX10_wantTie rX10_wantTie (zPre D T X [.ref (hgm 0)] (wX10 T hgm gm gml) sz) (zQv D T (wX10 T hgm ngm ngml) (wX10 T hgm gm gml) sz) 0 0 (va_A (wX10 T hgm gm gml) sz) := by
  unfold fX10_wantTie at hf
  refine zStart [(0, .ref (hgm 0))] (by decide) rfl (Nat.le_of_ble_eq_true rfl) rfl ?_
  intro p e s m args below meth c A Q ls hx hb hr hml hown hlocks hts hsz hA0 hQ hA hK hX hP hD hS hl
  replace hown : s.vm.findClass RX10 = some m.cls := hown
  have hH := hsz
  have hiX10 : ∀ w ∈ u_ws RX10 TX10 54, w ∈ wsX10_wantTie := fun w h => List.mem_cons_of_mem _ (List.mem_append_right _ (h))
  obtain ⟨H, hHe⟩ : ∃ H : Heap, H = s.heap := ⟨_, rfl⟩
  obtain ⟨locs, hLe⟩ : ∃ L : List Loc, L = [] := ⟨_, rfl⟩
  replace hP : va_P D vwCl (wX10 T hgm gm gml) H := by rw [hHe]; exact hP
  replace hS : va_S A s.heap H locs := by rw [hHe, hLe]; exact hS
  suffices hgo : W p l e rX10_wantTie s m args below meth c H locs 0 0 Q (F0 m 0 ls []) by rw [hHe, hLe] at hgo; exact hgo
  clear hHe hLe
  refine lv_aload_n hx hb dX10_wantTie_0 rfl (lv_at hl 0 rfl) ?_
  refine lv_aload_n hx hb dX10_wantTie_1 rfl (lv_at hl 0 rfl) ?_
  refine zGet (ci := 10) (C := RX10) (F := TX10) (N := 54) (v := .int (gm 0 15)) hx hb hts hiX10 hown hK hP 0 15 1 rfl rfl (by decide) rfl rfl rfl dX10_wantTie_2 ?_
  have hJ22 : ∀ (v1 : Int32) (H : Heap) (locs : List Loc) (ls : Array Slot), fX10_wantTie_J22 gm gml v1 = some (ngm, ngml) → va_P D vwCl (wX10 T hgm gm gml) H → va_D A (wX10 T hgm gm gml) → va_S A s.heap H locs → lv_has ls 9 [(0, .ref (hgm 0))] → W p l e rX10_wantTie s m args below meth c H locs 0 0 Q (F0 m 22 ls [.int v1, .ref (hgm 0)]) := by
    intro v1 H locs ls hf hP hD hS hl
    unfold fX10_wantTie_J22 at hf
    obtain ⟨hg, hf⟩ := zGd_ok hf
    refine zPut (ci := 10) (C := RX10) (F := TX10) (N := 54) (x := v1) (w := gm) hx hb hts hiX10 tyX10 tyX10_ok nmX10 hown hK hP hD hS (fun g => wX10 T hgm g gml) 0 15 1 rfl rfl (by decide) rfl rfl rfl (zBo_ok hg) (Nat.le_of_ble_eq_true rfl) rfl dX10_wantTie_22 (fun gm_2 egm_2 H locs hP hD hS => ?_)
    replace hP : va_P D vwCl (wX10 T hgm gm_2 gml) H := hP
    replace hD : va_D A (wX10 T hgm gm_2 gml) := hD
    replace hf := zLt_at egm_2 hf
    refine lv_aload_n hx hb dX10_wantTie_25 rfl (lv_at hl 0 rfl) ?_
    refine lv_ldc2 (v := 14828) hx hb hown (hts _ (List.mem_of_getElem? (i := 3) rfl)) dX10_wantTie_26 ?_
    obtain ⟨gm_3, gmL_4, hc29, hf⟩ := zB2_ok hf
    refine zCallVEV [.long 14828] ⟨hx, hb, hml, hown, hts⟩ (pX10_wantWord l D T X hgm H.size gm_2 gml 14828 gm_3 gmL_4 hc29) (cwV 1 hts gX10_wantTie_X10_wantWord rfl rfl rfl (by decide +kernel) ⟨Nat.le_of_ble_eq_true rfl, Nat.le_of_ble_eq_true rfl⟩) hK hP hD hS hA hX 0 rfl rfl rfl hl.1 rfl (Nat.le_of_ble_eq_true rfl) dX10_wantTie_29 ⟨Nat.zero_le _, Nat.zero_le _⟩ (fun H locs hP hD hS => ?_)
    refine lv_aload_n hx hb dX10_wantTie_32 rfl (lv_at hl 0 rfl) ?_
    refine lv_iconst (v := 0) hx hb dX10_wantTie_33 (by decide) ?_
    refine lv_aload_n hx hb dX10_wantTie_34 rfl (lv_at hl 0 rfl) ?_
    refine zGet (ci := 10) (C := RX10) (F := TX10) (N := 54) (v := .int (gm_3 0 16)) hx hb hts hiX10 hown hK hP 0 16 4 rfl rfl (by decide) rfl rfl rfl dX10_wantTie_35 ?_
    refine lv_iconst (v := 1) hx hb dX10_wantTie_38 (by decide) ?_
    refine lv_isub hx hb dX10_wantTie_39 ?_
    obtain ⟨v5, gm_6, gmL_7, hc40, hf⟩ := zB3_ok hf
    refine zCallVEI [.int 0, .int ((gm_3 0 16) - 1)] ⟨hx, hb, hml, hown, hts⟩ (pX10_wantNumber l D T X hgm H.size gm_3 gmL_4 0 ((gm_3 0 16) - 1) v5 gm_6 gmL_7 hc40) (cwV 2 hts gX10_wantTie_X10_wantNumber rfl rfl rfl (by decide +kernel) ⟨Nat.le_of_ble_eq_true rfl, Nat.le_of_ble_eq_true rfl⟩) hK hP hD hS hA hX 0 rfl rfl rfl hl.1 rfl (Nat.le_of_ble_eq_true rfl) dX10_wantTie_40 ⟨Nat.zero_le _, Nat.zero_le _⟩ (fun H locs hP hD hS => ?_)
    refine lv_istore_n (lv' := [(1, .int v5), (0, .ref (hgm 0))]) hx hb dX10_wantTie_43 rfl hl (by decide) rfl (fun ls hl => ?_)
    refine lv_aload_n hx hb dX10_wantTie_44 rfl (lv_at hl 1 rfl) ?_
    refine lv_aload_n hx hb dX10_wantTie_45 rfl (lv_at hl 1 rfl) ?_
    refine zGet (ci := 10) (C := RX10) (F := TX10) (N := 54) (v := .int (gm_6 0 15)) hx hb hts hiX10 hown hK hP 0 15 1 rfl rfl (by decide) rfl rfl rfl dX10_wantTie_46 ?_
    have hJ85 : ∀ (v8 : Int32) (H : Heap) (locs : List Loc) (ls : Array Slot), fX10_wantTie_J85 v5 gm_6 gmL_7 v8 = some (ngm, ngml) → va_P D vwCl (wX10 T hgm gm_6 gmL_7) H → va_D A (wX10 T hgm gm_6 gmL_7) → va_S A s.heap H locs → lv_has ls 9 [(0, .ref (hgm 0)), (1, .int v5)] → W p l e rX10_wantTie s m args below meth c H locs 0 0 Q (F0 m 85 ls [.int v8, .ref (hgm 0)]) := by
      intro v8 H locs ls hf hP hD hS hl
      unfold fX10_wantTie_J85 at hf
      obtain ⟨hg, hf⟩ := zGd_ok hf
      refine zPut (ci := 10) (C := RX10) (F := TX10) (N := 54) (x := v8) (w := gm_6) hx hb hts hiX10 tyX10 tyX10_ok nmX10 hown hK hP hD hS (fun g => wX10 T hgm g gmL_7) 0 15 1 rfl rfl (by decide) rfl rfl rfl (zBo_ok hg) (Nat.le_of_ble_eq_true rfl) rfl dX10_wantTie_85 (fun gm_9 egm_9 H locs hP hD hS => ?_)
      replace hP : va_P D vwCl (wX10 T hgm gm_9 gmL_7) H := hP
      replace hD : va_D A (wX10 T hgm gm_9 gmL_7) := hD
      replace hf := zLt_at egm_9 hf
      refine lv_aload_n hx hb dX10_wantTie_88 rfl (lv_at hl 0 rfl) ?_
      refine lv_iconst (v := 0) hx hb dX10_wantTie_89 (by decide) ?_
      refine lv_aload_n hx hb dX10_wantTie_90 rfl (lv_at hl 0 rfl) ?_
      refine zGet (ci := 10) (C := RX10) (F := TX10) (N := 54) (v := .int (gm_9 0 16)) hx hb hts hiX10 hown hK hP 0 16 4 rfl rfl (by decide) rfl rfl rfl dX10_wantTie_91 ?_
      refine lv_iconst (v := 1) hx hb dX10_wantTie_94 (by decide) ?_
      refine lv_isub hx hb dX10_wantTie_95 ?_
      obtain ⟨v10, gm_11, gmL_12, hc96, hf⟩ := zB3_ok hf
      refine zCallVEI [.int 0, .int ((gm_9 0 16) - 1)] ⟨hx, hb, hml, hown, hts⟩ (pX10_wantNumber l D T X hgm H.size gm_9 gmL_7 0 ((gm_9 0 16) - 1) v10 gm_11 gmL_12 hc96) (cwV 2 hts gX10_wantTie_X10_wantNumber rfl rfl rfl (by decide +kernel) ⟨Nat.le_of_ble_eq_true rfl, Nat.le_of_ble_eq_true rfl⟩) hK hP hD hS hA hX 0 rfl rfl rfl hl.1 rfl (Nat.le_of_ble_eq_true rfl) dX10_wantTie_96 ⟨Nat.zero_le _, Nat.zero_le _⟩ (fun H locs hP hD hS => ?_)
      refine lv_istore_n (lv' := [(2, .int v10), (0, .ref (hgm 0)), (1, .int v5)]) hx hb dX10_wantTie_99 rfl hl (by decide) rfl (fun ls hl => ?_)
      refine lv_iconst (v := 1) hx hb dX10_wantTie_100 (by decide) ?_
      refine lv_istore_n (lv' := [(3, .int 1), (2, .int v10), (0, .ref (hgm 0)), (1, .int v5)]) hx hb dX10_wantTie_101 rfl hl (by decide) rfl (fun ls hl => ?_)
      refine lv_iconst (v := 4) hx hb dX10_wantTie_102 (by decide) ?_
      refine lv_istore (lv' := [(4, .int 4), (3, .int 1), (2, .int v10), (0, .ref (hgm 0)), (1, .int v5)]) hx hb dX10_wantTie_103 hl (by decide) rfl (fun ls hl => ?_)
      refine lv_iconst (v := 0) hx hb dX10_wantTie_105 (by decide) ?_
      refine lv_istore (lv' := [(5, .int 0), (4, .int 4), (3, .int 1), (2, .int v10), (0, .ref (hgm 0)), (1, .int v5)]) hx hb dX10_wantTie_106 hl (by decide) rfl (fun ls hl => ?_)
      refine lv_iconst (v := 0) hx hb dX10_wantTie_108 (by decide) ?_
      refine lv_istore (lv' := [(6, .int 0), (5, .int 0), (4, .int 4), (3, .int 1), (2, .int v10), (0, .ref (hgm 0)), (1, .int v5)]) hx hb dX10_wantTie_109 hl (by decide) rfl (fun ls hl => ?_)
      refine lv_aload_n hx hb dX10_wantTie_111 rfl (lv_at hl 5 rfl) ?_
      refine zGet (ci := 10) (C := RX10) (F := TX10) (N := 54) (v := .int (gm_11 0 15)) hx hb hts hiX10 hown hK hP 0 15 1 rfl rfl (by decide) rfl rfl rfl dX10_wantTie_112 ?_
      refine lv_topi (fun v13 ev13 => ?_)
      replace hf := zLt_at ev13 hf
      refine lv_istore (lv' := [(7, .int v13), (6, .int 0), (5, .int 0), (4, .int 4), (3, .int 1), (2, .int v10), (0, .ref (hgm 0)), (1, .int v5)]) hx hb dX10_wantTie_115 hl (by decide) rfl (fun ls hl => ?_)
      obtain ⟨ex, hlp, hf⟩ := zB1_ok hf
      have hE117_284 : ∀ (v21 : Int32) (v22 : Int32) (v23 : Int32) (gm_24 : zM) (gmL_25 : zL) , ex = (v21, v22, v23, gm_24, gmL_25) → ∀ (H : Heap) (locs : List Loc) (ls : Array Slot), va_P D vwCl (wX10 T hgm gm_24 gmL_25) H → va_D A (wX10 T hgm gm_24 gmL_25) → va_S A s.heap H locs → lv_has ls 9 [(0, .ref (hgm 0)), (1, .int v5), (2, .int v10), (3, .int v21), (4, .int v22), (5, .int v23)] → W p l e rX10_wantTie s m args below meth c H locs 0 0 Q (F0 m 284 ls []) := by
        intro v21 v22 v23 gm_24 gmL_25 hex H locs ls hP hD hS hl
        have hf := zEx5 hex hf
        refine lv_aload_n hx hb dX10_wantTie_284 rfl (lv_at hl 0 rfl) ?_
        obtain ⟨gm_55, gmL_56, hc285, hf⟩ := zB2_ok hf
        refine zCallVEV [] ⟨hx, hb, hml, hown, hts⟩ (pX10_wantEnd l D T X hgm H.size gm_24 gmL_25 gm_55 gmL_56 hc285) (cwV 0 hts gX10_wantTie_X10_wantEnd rfl rfl rfl (by decide +kernel) ⟨Nat.le_of_ble_eq_true rfl, Nat.le_of_ble_eq_true rfl⟩) hK hP hD hS hA hX 0 rfl rfl rfl hl.1 rfl (Nat.le_of_ble_eq_true rfl) dX10_wantTie_285 ⟨Nat.zero_le _, Nat.zero_le _⟩ (fun H locs hP hD hS => ?_)
        refine lv_aload_n hx hb dX10_wantTie_288 rfl (lv_at hl 0 rfl) ?_
        refine zGet (ci := 10) (C := RX10) (F := TX10) (N := 54) (v := .int (gm_55 0 15)) hx hb hts hiX10 hown hK hP 0 15 1 rfl rfl (by decide) rfl rfl rfl dX10_wantTie_289 ?_
        refine lv_if_eq (tgt := 381) hx hb dX10_wantTie_292 (by decide) (fun hc => ?_) (fun hc => ?_)
        · replace hf := zIf_t hc hf
          obtain ⟨q1, q2⟩ := zI2 hf
          subst q1
          subst q2
          exact zRetV hQ hx hb hr hlocks hA0 hK hP hD hS dX10_wantTie_381
        · replace hf := zIf_f hc hf
          refine lv_iconst (v := 5) hx hb dX10_wantTie_295 (by decide) ?_
          refine lv_aload_n hx hb dX10_wantTie_296 rfl (lv_at hl 0 rfl) ?_
          refine zGet (ci := 10) (C := RX10) (F := TX10) (N := 54) (v := .int (gm_55 0 17)) hx hb hts hiX10 hown hK hP 0 17 2 rfl rfl (by decide) rfl rfl rfl dX10_wantTie_297 ?_
          refine lv_imul hx hb dX10_wantTie_300 ?_
          refine lv_topi (fun v57 ev57 => ?_)
          replace hf := zLt_at ev57 hf
          refine lv_istore (lv' := [(8, .int v57), (0, .ref (hgm 0)), (1, .int v5), (2, .int v10), (3, .int v21), (4, .int v22), (5, .int v23)]) hx hb dX10_wantTie_301 hl (by decide) rfl (fun ls hl => ?_)
          refine lv_aload_n hx hb dX10_wantTie_303 rfl (lv_at hl 1 rfl) ?_
          refine zGet (ci := 10) (C := RX10) (F := TX10) (N := 54) (v := .ref (hgm 7)) hx hb hts hiX10 hown hK hP 0 20 10 rfl rfl (by decide) rfl rfl rfl dX10_wantTie_304 ?_
          refine lv_iload hx hb dX10_wantTie_307 (lv_at hl 0 rfl) ?_
          refine lv_iload_n hx hb dX10_wantTie_309 rfl (lv_at hl 2 rfl) ?_
          refine lv_iload_n hx hb dX10_wantTie_310 rfl (lv_at hl 3 rfl) ?_
          have hJ319 : ∀ (v58 : Int32) (v59 : Int32) (H : Heap) (locs : List Loc) (ls : Array Slot), fX10_wantTie_J319 v5 v10 v21 v22 v23 gm_55 gmL_56 v57 v58 v59 = some (ngm, ngml) → va_P D vwCl (wX10 T hgm gm_55 gmL_56) H → va_D A (wX10 T hgm gm_55 gmL_56) → va_S A s.heap H locs → lv_has ls 9 [(0, .ref (hgm 0)), (1, .int v5), (2, .int v10), (3, .int v21), (4, .int v22), (5, .int v23), (8, .int v57)] → W p l e rX10_wantTie s m args below meth c H locs 0 0 Q (F0 m 319 ls [.int v58, .int v59, .ref (hgm 7)]) := by
            intro v58 v59 H locs ls hf hP hD hS hl
            unfold fX10_wantTie_J319 at hf
            obtain ⟨hg, hf⟩ := zGd_ok hf
            refine zAstI (w := gm_55) hx hb hK hP hD hS (fun g => wX10 T hgm g gmL_56) 7 7 rfl hg rfl dX10_wantTie_319 (fun gm_60 egm_60 H locs hP hD hS => ?_)
            replace hP : va_P D vwCl (wX10 T hgm gm_60 gmL_56) H := hP
            replace hD : va_D A (wX10 T hgm gm_60 gmL_56) := hD
            replace hf := zLt_at egm_60 hf
            refine lv_aload_n hx hb dX10_wantTie_320 rfl (lv_at hl 0 rfl) ?_
            refine zGet (ci := 10) (C := RX10) (F := TX10) (N := 54) (v := .ref (hgm 7)) hx hb hts hiX10 hown hK hP 0 20 10 rfl rfl (by decide) rfl rfl rfl dX10_wantTie_321 ?_
            refine lv_iload hx hb dX10_wantTie_324 (lv_at hl 6 rfl) ?_
            refine lv_iconst (v := 1) hx hb dX10_wantTie_326 (by decide) ?_
            refine lv_iadd hx hb dX10_wantTie_327 ?_
            refine lv_iload_n hx hb dX10_wantTie_328 rfl (lv_at hl 1 rfl) ?_
            refine lv_iload_n hx hb dX10_wantTie_329 rfl (lv_at hl 2 rfl) ?_
            have hJ338 : ∀ (v61 : Int32) (v62 : Int32) (H : Heap) (locs : List Loc) (ls : Array Slot), fX10_wantTie_J338 v21 v22 v23 gmL_56 v57 gm_60 v61 v62 = some (ngm, ngml) → va_P D vwCl (wX10 T hgm gm_60 gmL_56) H → va_D A (wX10 T hgm gm_60 gmL_56) → va_S A s.heap H locs → lv_has ls 9 [(0, .ref (hgm 0)), (3, .int v21), (4, .int v22), (5, .int v23), (8, .int v57)] → W p l e rX10_wantTie s m args below meth c H locs 0 0 Q (F0 m 338 ls [.int v61, .int v62, .ref (hgm 7)]) := by
              intro v61 v62 H locs ls hf hP hD hS hl
              unfold fX10_wantTie_J338 at hf
              obtain ⟨hg, hf⟩ := zGd_ok hf
              refine zAstI (w := gm_60) hx hb hK hP hD hS (fun g => wX10 T hgm g gmL_56) 7 7 rfl hg rfl dX10_wantTie_338 (fun gm_63 egm_63 H locs hP hD hS => ?_)
              replace hP : va_P D vwCl (wX10 T hgm gm_63 gmL_56) H := hP
              replace hD : va_D A (wX10 T hgm gm_63 gmL_56) := hD
              replace hf := zLt_at egm_63 hf
              refine lv_aload_n hx hb dX10_wantTie_339 rfl (lv_at hl 0 rfl) ?_
              refine zGet (ci := 10) (C := RX10) (F := TX10) (N := 54) (v := .ref (hgm 7)) hx hb hts hiX10 hown hK hP 0 20 10 rfl rfl (by decide) rfl rfl rfl dX10_wantTie_340 ?_
              refine lv_iload hx hb dX10_wantTie_343 (lv_at hl 4 rfl) ?_
              refine lv_iconst (v := 2) hx hb dX10_wantTie_345 (by decide) ?_
              refine lv_iadd hx hb dX10_wantTie_346 ?_
              refine lv_iload_n hx hb dX10_wantTie_347 rfl (lv_at hl 1 rfl) ?_
              obtain ⟨hg, hf⟩ := zGd_ok hf
              refine zAstI (w := gm_63) hx hb hK hP hD hS (fun g => wX10 T hgm g gmL_56) 7 7 rfl hg rfl dX10_wantTie_348 (fun gm_64 egm_64 H locs hP hD hS => ?_)
              replace hP : va_P D vwCl (wX10 T hgm gm_64 gmL_56) H := hP
              replace hD : va_D A (wX10 T hgm gm_64 gmL_56) := hD
              replace hf := zLt_at egm_64 hf
              refine lv_aload_n hx hb dX10_wantTie_349 rfl (lv_at hl 0 rfl) ?_
              refine zGet (ci := 10) (C := RX10) (F := TX10) (N := 54) (v := .ref (hgm 7)) hx hb hts hiX10 hown hK hP 0 20 10 rfl rfl (by decide) rfl rfl rfl dX10_wantTie_350 ?_
              refine lv_iload hx hb dX10_wantTie_353 (lv_at hl 4 rfl) ?_
              refine lv_iconst (v := 3) hx hb dX10_wantTie_355 (by decide) ?_
              refine lv_iadd hx hb dX10_wantTie_356 ?_
              refine lv_iload hx hb dX10_wantTie_357 (lv_at hl 2 rfl) ?_
              obtain ⟨hg, hf⟩ := zGd_ok hf
              refine zAstI (w := gm_64) hx hb hK hP hD hS (fun g => wX10 T hgm g gmL_56) 7 7 rfl hg rfl dX10_wantTie_359 (fun gm_65 egm_65 H locs hP hD hS => ?_)
              replace hP : va_P D vwCl (wX10 T hgm gm_65 gmL_56) H := hP
              replace hD : va_D A (wX10 T hgm gm_65 gmL_56) := hD
              replace hf := zLt_at egm_65 hf
              refine lv_aload_n hx hb dX10_wantTie_360 rfl (lv_at hl 0 rfl) ?_
              refine zGet (ci := 10) (C := RX10) (F := TX10) (N := 54) (v := .ref (hgm 7)) hx hb hts hiX10 hown hK hP 0 20 10 rfl rfl (by decide) rfl rfl rfl dX10_wantTie_361 ?_
              refine lv_iload hx hb dX10_wantTie_364 (lv_at hl 4 rfl) ?_
              refine lv_iconst (v := 4) hx hb dX10_wantTie_366 (by decide) ?_
              refine lv_iadd hx hb dX10_wantTie_367 ?_
              refine lv_iload hx hb dX10_wantTie_368 (lv_at hl 3 rfl) ?_
              obtain ⟨hg, hf⟩ := zGd_ok hf
              refine zAstI (w := gm_65) hx hb hK hP hD hS (fun g => wX10 T hgm g gmL_56) 7 7 rfl hg rfl dX10_wantTie_370 (fun gm_66 egm_66 H locs hP hD hS => ?_)
              replace hP : va_P D vwCl (wX10 T hgm gm_66 gmL_56) H := hP
              replace hD : va_D A (wX10 T hgm gm_66 gmL_56) := hD
              replace hf := zLt_at egm_66 hf
              refine lv_aload_n hx hb dX10_wantTie_371 rfl (lv_at hl 0 rfl) ?_
              refine lv_dup hx hb dX10_wantTie_372 rfl ?_
              refine zGet (ci := 10) (C := RX10) (F := TX10) (N := 54) (v := .int (gm_66 0 17)) hx hb hts hiX10 hown hK hP 0 17 2 rfl rfl (by decide) rfl rfl rfl dX10_wantTie_373 ?_
              refine lv_iconst (v := 1) hx hb dX10_wantTie_376 (by decide) ?_
              refine lv_iadd hx hb dX10_wantTie_377 ?_
              refine lv_topi (fun v67 ev67 => ?_)
              replace hf := zLt_at ev67 hf
              refine zPut (ci := 10) (C := RX10) (F := TX10) (N := 54) (x := v67) (w := gm_66) hx hb hts hiX10 tyX10 tyX10_ok nmX10 hown hK hP hD hS (fun g => wX10 T hgm g gmL_56) 0 17 2 rfl rfl (by decide) rfl rfl rfl ⟨rfl, rfl⟩ (Nat.le_of_ble_eq_true rfl) rfl dX10_wantTie_378 (fun gm_68 egm_68 H locs hP hD hS => ?_)
              replace hP : va_P D vwCl (wX10 T hgm gm_68 gmL_56) H := hP
              replace hD : va_D A (wX10 T hgm gm_68 gmL_56) := hD
              replace hf := zLt_at egm_68 hf
              obtain ⟨q1, q2⟩ := zI2 hf
              subst q1
              subst q2
              exact zRetV hQ hx hb hr hlocks hA0 hK hP hD hS dX10_wantTie_381
            refine lv_icmp_ge (tgt := 337) hx hb dX10_wantTie_330 (by decide) (fun hc => ?_) (fun hc => ?_)
            · replace hf := zIf_t hc hf
              refine lv_iload_n hx hb dX10_wantTie_337 rfl (lv_at hl 1 rfl) ?_
              exact hJ338 v5 (v57 + 1) H locs ls hf hP hD hS (lv_sub hl [0, 3, 4, 5, 6] rfl)
            · replace hf := zIf_f hc hf
              refine lv_iload_n hx hb dX10_wantTie_333 rfl (lv_at hl 2 rfl) ?_
              refine lv_goto (tgt := 338) hx hb dX10_wantTie_334 (by decide) ?_
              exact hJ338 v10 (v57 + 1) H locs ls hf hP hD hS (lv_sub hl [0, 3, 4, 5, 6] rfl)
          refine lv_icmp_ge (tgt := 318) hx hb dX10_wantTie_311 (by decide) (fun hc => ?_) (fun hc => ?_)
          · replace hf := zIf_t hc hf
            refine lv_iload_n hx hb dX10_wantTie_318 rfl (lv_at hl 3 rfl) ?_
            exact hJ319 v10 v57 H locs ls hf hP hD hS (lv_sub hl [1, 2, 3, 4, 5, 6, 0] rfl)
          · replace hf := zIf_f hc hf
            refine lv_iload_n hx hb dX10_wantTie_314 rfl (lv_at hl 2 rfl) ?_
            refine lv_goto (tgt := 319) hx hb dX10_wantTie_315 (by decide) ?_
            exact hJ319 v5 v57 H locs ls hf hP hD hS (lv_sub hl [1, 2, 3, 4, 5, 6, 0] rfl)
      refine zLpS7 (body := fX10_wantTie_L117) (b := ex) (fun (v14 : Int32) (v15 : Int32) (v16 : Int32) (v17 : Int32) (v18 : Int32) (gm_19 : zM) (gmL_20 : zL) => ∀ (H : Heap) (locs : List Loc) (ls : Array Slot), va_P D vwCl (wX10 T hgm gm_19 gmL_20) H → va_D A (wX10 T hgm gm_19 gmL_20) → va_S A s.heap H locs → lv_has ls 9 [(0, .ref (hgm 0)), (1, .int v5), (2, .int v10), (3, .int v14), (4, .int v15), (5, .int v16), (6, .int v17), (7, .int v18)] → W p l e rX10_wantTie s m args below meth c H locs 0 0 Q (F0 m 117 ls [])) ?_ zFU 1 4 0 0 v13 gm_11 gmL_12 hlp H locs ls hP hD hS (lv_sub hl [6, 7, 5, 4, 3, 2, 1, 0] rfl)
      intro v14 v15 v16 v17 v18 gm_19 gmL_20 z hf hzz H locs ls hP hD hS hl
      unfold fX10_wantTie_L117 at hf
      replace hf := zUk7 hf
      refine lv_aload_n hx hb dX10_wantTie_117 rfl (lv_at hl 0 rfl) ?_
      refine zGet (ci := 10) (C := RX10) (F := TX10) (N := 54) (v := .int (gm_19 0 15)) hx hb hts hiX10 hown hK hP 0 15 1 rfl rfl (by decide) rfl rfl rfl dX10_wantTie_118 ?_
      refine lv_if_eq (tgt := 284) hx hb dX10_wantTie_121 (by decide) (fun hc => ?_) (fun hc => ?_)
      · replace hf := zIf_t hc hf
        cases hf
        exact hE117_284 v14 v15 v16 gm_19 gmL_20 hzz.symm H locs ls hP hD hS (lv_sub hl [0, 1, 2, 3, 4, 5] rfl)
      · replace hf := zIf_f hc hf
        refine lv_iload hx hb dX10_wantTie_124 (lv_at hl 7 rfl) ?_
        refine lv_if_eq (tgt := 284) hx hb dX10_wantTie_126 (by decide) (fun hc => ?_) (fun hc => ?_)
        · replace hf := zIf_t hc hf
          cases hf
          exact hE117_284 v14 v15 v16 gm_19 gmL_20 hzz.symm H locs ls hP hD hS (lv_sub hl [0, 1, 2, 3, 4, 5] rfl)
        · replace hf := zIf_f hc hf
          refine lv_aload_n hx hb dX10_wantTie_129 rfl (lv_at hl 0 rfl) ?_
          refine lv_ldc2 (v := 12532058) hx hb hown (hts _ (List.mem_of_getElem? (i := 7) rfl)) dX10_wantTie_130 ?_
          obtain ⟨v26, hc133, hf⟩ := zB1_ok hf
          refine zCallVEI [.long 12532058] ⟨hx, hb, hml, hown, hts⟩ (pX10_isWord l D T X hgm H.size gm_19 gmL_20 12532058 v26 hc133) (cwV 1 hts gX10_wantTie_X10_isWord rfl rfl rfl (by decide +kernel) ⟨Nat.le_of_ble_eq_true rfl, Nat.le_of_ble_eq_true rfl⟩) hK hP hD hS hA hX 0 rfl rfl rfl hl.1 rfl (Nat.le_of_ble_eq_true rfl) dX10_wantTie_133 ⟨Nat.zero_le _, Nat.zero_le _⟩ (fun H locs hP hD hS => ?_)
          have hJ172 : ∀ (v27 : Int32) (H : Heap) (locs : List Loc) (ls : Array Slot), fX10_wantTie_L117J172 v14 v15 v16 v17 gm_19 gmL_20 v27 = some z → va_P D vwCl (wX10 T hgm gm_19 gmL_20) H → va_D A (wX10 T hgm gm_19 gmL_20) → va_S A s.heap H locs → lv_has ls 9 [(0, .ref (hgm 0)), (1, .int v5), (2, .int v10), (3, .int v14), (4, .int v15), (5, .int v16), (6, .int v17)] → W p l e rX10_wantTie s m args below meth c H locs 0 0 Q (F0 m 172 ls [.int v27]) := by
            intro v27 H locs ls hf hP hD hS hl
            unfold fX10_wantTie_L117J172 at hf
            refine lv_istore (lv' := [(8, .int v27), (0, .ref (hgm 0)), (1, .int v5), (2, .int v10), (3, .int v14), (4, .int v15), (5, .int v16), (6, .int v17)]) hx hb dX10_wantTie_172 hl (by decide) rfl (fun ls hl => ?_)
            refine lv_iload hx hb dX10_wantTie_174 (lv_at hl 0 rfl) ?_
            have hJ184 : ∀ (v28 : Int32) (H : Heap) (locs : List Loc) (ls : Array Slot), fX10_wantTie_L117J184 v14 v15 v16 v17 gm_19 gmL_20 v27 v28 = some z → va_P D vwCl (wX10 T hgm gm_19 gmL_20) H → va_D A (wX10 T hgm gm_19 gmL_20) → va_S A s.heap H locs → lv_has ls 9 [(0, .ref (hgm 0)), (1, .int v5), (2, .int v10), (3, .int v14), (4, .int v15), (5, .int v16), (6, .int v17), (8, .int v27)] → W p l e rX10_wantTie s m args below meth c H locs 0 0 Q (F0 m 184 ls [.int v28]) := by
              intro v28 H locs ls hf hP hD hS hl
              unfold fX10_wantTie_L117J184 at hf
              refine lv_istore (lv' := [(7, .int v28), (0, .ref (hgm 0)), (1, .int v5), (2, .int v10), (3, .int v14), (4, .int v15), (5, .int v16), (6, .int v17), (8, .int v27)]) hx hb dX10_wantTie_184 hl (by decide) rfl (fun ls hl => ?_)
              refine lv_iload hx hb dX10_wantTie_186 (lv_at hl 0 rfl) ?_
              have hJ281 : ∀ (v29 : Int32) (v30 : Int32) (v31 : Int32) (v32 : Int32) (gm_33 : zM) (gmL_34 : zL) (H : Heap) (locs : List Loc) (ls : Array Slot), fX10_wantTie_L117J281 v28 v29 v30 v31 v32 gm_33 gmL_34 = some z → va_P D vwCl (wX10 T hgm gm_33 gmL_34) H → va_D A (wX10 T hgm gm_33 gmL_34) → va_S A s.heap H locs → lv_has ls 9 [(0, .ref (hgm 0)), (1, .int v5), (2, .int v10), (3, .int v29), (4, .int v30), (5, .int v31), (6, .int v32), (7, .int v28)] → W p l e rX10_wantTie s m args below meth c H locs 0 0 Q (F0 m 281 ls []) := by
                intro v29 v30 v31 v32 gm_33 gmL_34 H locs ls hf hP hD hS hl
                unfold fX10_wantTie_L117J281 at hf
                refine lv_goto (tgt := 117) hx hb dX10_wantTie_281 (by decide) ?_
                cases hf
                exact hzz H locs ls hP hD hS hl
              refine lv_if_eq (tgt := 281) hx hb dX10_wantTie_188 (by decide) (fun hc => ?_) (fun hc => ?_)
              · replace hf := zIf_t hc hf
                exact hJ281 v14 v15 v16 v17 gm_19 gmL_20 H locs ls hf hP hD hS (lv_sub hl [1, 2, 3, 4, 5, 6, 7, 0] rfl)
              · replace hf := zIf_f hc hf
                refine lv_aload_n hx hb dX10_wantTie_191 rfl (lv_at hl 1 rfl) ?_
                refine lv_iload hx hb dX10_wantTie_192 (lv_at hl 7 rfl) ?_
                refine lv_iload hx hb dX10_wantTie_194 (lv_at hl 8 rfl) ?_
                refine lv_ishr hx hb dX10_wantTie_196 ?_
                refine lv_iconst (v := 1) hx hb dX10_wantTie_197 (by decide) ?_
                refine lv_iand hx hb dX10_wantTie_198 ?_
                have hJ207 : ∀ (v35 : Int32) (H : Heap) (locs : List Loc) (ls : Array Slot), fX10_wantTie_L117J207 v14 v15 v16 v17 gm_19 gmL_20 v27 v28 v35 = some z → va_P D vwCl (wX10 T hgm gm_19 gmL_20) H → va_D A (wX10 T hgm gm_19 gmL_20) → va_S A s.heap H locs → lv_has ls 9 [(0, .ref (hgm 0)), (1, .int v5), (2, .int v10), (3, .int v14), (4, .int v15), (5, .int v16), (6, .int v17), (7, .int v28), (8, .int v27)] → W p l e rX10_wantTie s m args below meth c H locs 0 0 Q (F0 m 207 ls [.int v35, .ref (hgm 0)]) := by
                  intro v35 H locs ls hf hP hD hS hl
                  unfold fX10_wantTie_L117J207 at hf
                  obtain ⟨hg, hf⟩ := zGd_ok hf
                  refine zPut (ci := 10) (C := RX10) (F := TX10) (N := 54) (x := v35) (w := gm_19) hx hb hts hiX10 tyX10 tyX10_ok nmX10 hown hK hP hD hS (fun g => wX10 T hgm g gmL_20) 0 15 1 rfl rfl (by decide) rfl rfl rfl (zBo_ok hg) (Nat.le_of_ble_eq_true rfl) rfl dX10_wantTie_207 (fun gm_36 egm_36 H locs hP hD hS => ?_)
                  replace hP : va_P D vwCl (wX10 T hgm gm_36 gmL_20) H := hP
                  replace hD : va_D A (wX10 T hgm gm_36 gmL_20) := hD
                  replace hf := zLt_at egm_36 hf
                  refine lv_iload hx hb dX10_wantTie_210 (lv_at hl 6 rfl) ?_
                  refine lv_iconst (v := 1) hx hb dX10_wantTie_212 (by decide) ?_
                  refine lv_iload hx hb dX10_wantTie_213 (lv_at hl 8 rfl) ?_
                  refine lv_ishl hx hb dX10_wantTie_215 ?_
                  refine lv_ior hx hb dX10_wantTie_216 ?_
                  refine lv_topi (fun v37 ev37 => ?_)
                  replace hf := zLt_at ev37 hf
                  refine lv_istore (lv' := [(6, .int v37), (0, .ref (hgm 0)), (1, .int v5), (2, .int v10), (3, .int v14), (4, .int v15), (5, .int v16), (7, .int v28), (8, .int v27)]) hx hb dX10_wantTie_217 hl (by decide) rfl (fun ls hl => ?_)
                  refine lv_aload_n hx hb dX10_wantTie_219 rfl (lv_at hl 1 rfl) ?_
                  refine zGet (ci := 10) (C := RX10) (F := TX10) (N := 54) (v := .int (gm_36 0 15)) hx hb hts hiX10 hown hK hP 0 15 1 rfl rfl (by decide) rfl rfl rfl dX10_wantTie_220 ?_
                  refine lv_if_eq (tgt := 281) hx hb dX10_wantTie_223 (by decide) (fun hc => ?_) (fun hc => ?_)
                  · replace hf := zIf_t hc hf
                    exact hJ281 v14 v15 v16 v37 gm_36 gmL_20 H locs ls hf hP hD hS (lv_sub hl [1, 2, 3, 4, 5, 6, 0, 7] rfl)
                  · replace hf := zIf_f hc hf
                    refine lv_aload_n hx hb dX10_wantTie_226 rfl (lv_at hl 1 rfl) ?_
                    obtain ⟨gm_38, gmL_39, hc227, hf⟩ := zB2_ok hf
                    refine zCallVEV [] ⟨hx, hb, hml, hown, hts⟩ (pX10_advance l D T X hgm H.size gm_36 gmL_20 gm_38 gmL_39 hc227) (cwV 0 hts gX10_wantTie_X10_advance rfl rfl rfl (by decide +kernel) ⟨Nat.le_of_ble_eq_true rfl, Nat.le_of_ble_eq_true rfl⟩) hK hP hD hS hA hX 0 rfl rfl rfl hl.1 rfl (Nat.le_of_ble_eq_true rfl) dX10_wantTie_227 ⟨Nat.zero_le _, Nat.zero_le _⟩ (fun H locs hP hD hS => ?_)
                    refine lv_iload hx hb dX10_wantTie_230 (lv_at hl 8 rfl) ?_
                    refine lv_iconst (v := 2) hx hb dX10_wantTie_232 (by decide) ?_
                    have hJ247 : ∀ (v40 : Int32) (gm_41 : zM) (gmL_42 : zL) (H : Heap) (locs : List Loc) (ls : Array Slot), fX10_wantTie_L117J247 v15 v16 v27 v28 v37 v40 gm_41 gmL_42 = some z → va_P D vwCl (wX10 T hgm gm_41 gmL_42) H → va_D A (wX10 T hgm gm_41 gmL_42) → va_S A s.heap H locs → lv_has ls 9 [(0, .ref (hgm 0)), (1, .int v5), (2, .int v10), (4, .int v15), (5, .int v16), (6, .int v37), (7, .int v28), (8, .int v27)] → W p l e rX10_wantTie s m args below meth c H locs 0 0 Q (F0 m 247 ls [.int v40]) := by
                      intro v40 gm_41 gmL_42 H locs ls hf hP hD hS hl
                      unfold fX10_wantTie_L117J247 at hf
                      refine lv_istore_n (lv' := [(3, .int v40), (0, .ref (hgm 0)), (1, .int v5), (2, .int v10), (4, .int v15), (5, .int v16), (6, .int v37), (7, .int v28), (8, .int v27)]) hx hb dX10_wantTie_247 rfl hl (by decide) rfl (fun ls hl => ?_)
                      refine lv_iload hx hb dX10_wantTie_248 (lv_at hl 8 rfl) ?_
                      refine lv_iconst (v := 3) hx hb dX10_wantTie_250 (by decide) ?_
                      have hJ265 : ∀ (v43 : Int32) (gm_44 : zM) (gmL_45 : zL) (H : Heap) (locs : List Loc) (ls : Array Slot), fX10_wantTie_L117J265 v16 v27 v28 v37 v40 v43 gm_44 gmL_45 = some z → va_P D vwCl (wX10 T hgm gm_44 gmL_45) H → va_D A (wX10 T hgm gm_44 gmL_45) → va_S A s.heap H locs → lv_has ls 9 [(0, .ref (hgm 0)), (1, .int v5), (2, .int v10), (3, .int v40), (5, .int v16), (6, .int v37), (7, .int v28), (8, .int v27)] → W p l e rX10_wantTie s m args below meth c H locs 0 0 Q (F0 m 265 ls [.int v43]) := by
                        intro v43 gm_44 gmL_45 H locs ls hf hP hD hS hl
                        unfold fX10_wantTie_L117J265 at hf
                        refine lv_istore (lv' := [(4, .int v43), (0, .ref (hgm 0)), (1, .int v5), (2, .int v10), (3, .int v40), (5, .int v16), (6, .int v37), (7, .int v28), (8, .int v27)]) hx hb dX10_wantTie_265 hl (by decide) rfl (fun ls hl => ?_)
                        refine lv_iload hx hb dX10_wantTie_267 (lv_at hl 8 rfl) ?_
                        refine lv_iconst (v := 4) hx hb dX10_wantTie_269 (by decide) ?_
                        have hJ279 : ∀ (v46 : Int32) (H : Heap) (locs : List Loc) (ls : Array Slot), fX10_wantTie_L117J279 v28 v37 v40 v43 gm_44 gmL_45 v46 = some z → va_P D vwCl (wX10 T hgm gm_44 gmL_45) H → va_D A (wX10 T hgm gm_44 gmL_45) → va_S A s.heap H locs → lv_has ls 9 [(0, .ref (hgm 0)), (1, .int v5), (2, .int v10), (3, .int v40), (4, .int v43), (6, .int v37), (7, .int v28)] → W p l e rX10_wantTie s m args below meth c H locs 0 0 Q (F0 m 279 ls [.int v46]) := by
                          intro v46 H locs ls hf hP hD hS hl
                          unfold fX10_wantTie_L117J279 at hf
                          refine lv_istore (lv' := [(5, .int v46), (0, .ref (hgm 0)), (1, .int v5), (2, .int v10), (3, .int v40), (4, .int v43), (6, .int v37), (7, .int v28)]) hx hb dX10_wantTie_279 hl (by decide) rfl (fun ls hl => ?_)
                          exact hJ281 v40 v43 v46 v37 gm_44 gmL_45 H locs ls hf hP hD hS (lv_sub hl [1, 2, 3, 4, 5, 0, 6, 7] rfl)
                        refine lv_icmp_ne (tgt := 277) hx hb dX10_wantTie_270 (by decide) (fun hc => ?_) (fun hc => ?_)
                        · replace hf := zIf_f hc hf
                          refine lv_iload hx hb dX10_wantTie_277 (lv_at hl 5 rfl) ?_
                          exact hJ279 v16 H locs ls hf hP hD hS (lv_sub hl [1, 2, 3, 4, 0, 6, 7] rfl)
                        · replace hf := zIf_t hc hf
                          refine lv_iconst (v := 1) hx hb dX10_wantTie_273 (by decide) ?_
                          refine lv_goto (tgt := 279) hx hb dX10_wantTie_274 (by decide) ?_
                          exact hJ279 1 H locs ls hf hP hD hS (lv_sub hl [1, 2, 3, 4, 0, 6, 7] rfl)
                      refine lv_icmp_ne (tgt := 263) hx hb dX10_wantTie_251 (by decide) (fun hc => ?_) (fun hc => ?_)
                      · replace hf := zIf_f hc hf
                        refine lv_iload hx hb dX10_wantTie_263 (lv_at hl 4 rfl) ?_
                        exact hJ265 v15 gm_41 gmL_42 H locs ls hf hP hD hS (lv_sub hl [1, 2, 3, 0, 5, 6, 7, 8] rfl)
                      · replace hf := zIf_t hc hf
                        refine lv_aload_n hx hb dX10_wantTie_254 rfl (lv_at hl 1 rfl) ?_
                        refine lv_iconst (v := 1) hx hb dX10_wantTie_255 (by decide) ?_
                        refine lv_iconst (v := 4) hx hb dX10_wantTie_256 (by decide) ?_
                        obtain ⟨v47, gm_48, gmL_49, hc257, hf⟩ := zB3_ok hf
                        refine zCallVEI [.int 1, .int 4] ⟨hx, hb, hml, hown, hts⟩ (pX10_wantNumber l D T X hgm H.size gm_41 gmL_42 1 4 v47 gm_48 gmL_49 hc257) (cwV 2 hts gX10_wantTie_X10_wantNumber rfl rfl rfl (by decide +kernel) ⟨Nat.le_of_ble_eq_true rfl, Nat.le_of_ble_eq_true rfl⟩) hK hP hD hS hA hX 0 rfl rfl rfl hl.1 rfl (Nat.le_of_ble_eq_true rfl) dX10_wantTie_257 ⟨Nat.zero_le _, Nat.zero_le _⟩ (fun H locs hP hD hS => ?_)
                        refine lv_goto (tgt := 265) hx hb dX10_wantTie_260 (by decide) ?_
                        exact hJ265 v47 gm_48 gmL_49 H locs ls hf hP hD hS (lv_sub hl [1, 2, 3, 0, 5, 6, 7, 8] rfl)
                    refine lv_icmp_ne (tgt := 246) hx hb dX10_wantTie_233 (by decide) (fun hc => ?_) (fun hc => ?_)
                    · replace hf := zIf_f hc hf
                      refine lv_iload_n hx hb dX10_wantTie_246 rfl (lv_at hl 4 rfl) ?_
                      exact hJ247 v14 gm_38 gmL_39 H locs ls hf hP hD hS (lv_sub hl [1, 2, 3, 5, 6, 0, 7, 8] rfl)
                    · replace hf := zIf_t hc hf
                      refine lv_aload_n hx hb dX10_wantTie_236 rfl (lv_at hl 1 rfl) ?_
                      refine lv_iconst (v := 0) hx hb dX10_wantTie_237 (by decide) ?_
                      refine lv_bipush (v := 99) hx hb dX10_wantTie_238 (by decide) ?_
                      obtain ⟨v50, gm_51, gmL_52, hc240, hf⟩ := zB3_ok hf
                      refine zCallVEI [.int 0, .int 99] ⟨hx, hb, hml, hown, hts⟩ (pX10_wantNumber l D T X hgm H.size gm_38 gmL_39 0 99 v50 gm_51 gmL_52 hc240) (cwV 2 hts gX10_wantTie_X10_wantNumber rfl rfl rfl (by decide +kernel) ⟨Nat.le_of_ble_eq_true rfl, Nat.le_of_ble_eq_true rfl⟩) hK hP hD hS hA hX 0 rfl rfl rfl hl.1 rfl (Nat.le_of_ble_eq_true rfl) dX10_wantTie_240 ⟨Nat.zero_le _, Nat.zero_le _⟩ (fun H locs hP hD hS => ?_)
                      refine lv_goto (tgt := 247) hx hb dX10_wantTie_243 (by decide) ?_
                      exact hJ247 v50 gm_51 gmL_52 H locs ls hf hP hD hS (lv_sub hl [1, 2, 3, 5, 6, 0, 7, 8] rfl)
                refine lv_if_ne (tgt := 206) hx hb dX10_wantTie_199 (by decide) (fun hc => ?_) (fun hc => ?_)
                · replace hf := zIf_f hc hf
                  refine lv_iconst (v := 0) hx hb dX10_wantTie_206 (by decide) ?_
                  exact hJ207 0 H locs ls hf hP hD hS (lv_sub hl [1, 2, 3, 4, 5, 6, 7, 0, 8] rfl)
                · replace hf := zIf_t hc hf
                  refine lv_iconst (v := 1) hx hb dX10_wantTie_202 (by decide) ?_
                  refine lv_goto (tgt := 207) hx hb dX10_wantTie_203 (by decide) ?_
                  exact hJ207 1 H locs ls hf hP hD hS (lv_sub hl [1, 2, 3, 4, 5, 6, 7, 0, 8] rfl)
            refine lv_if_le (tgt := 183) hx hb dX10_wantTie_176 (by decide) (fun hc => ?_) (fun hc => ?_)
            · replace hf := zIf_t hc hf
              refine lv_iconst (v := 0) hx hb dX10_wantTie_183 (by decide) ?_
              exact hJ184 0 H locs ls hf hP hD hS (lv_sub hl [1, 2, 3, 4, 5, 6, 7, 0] rfl)
            · replace hf := zIf_f hc hf
              refine lv_iconst (v := 1) hx hb dX10_wantTie_179 (by decide) ?_
              refine lv_goto (tgt := 184) hx hb dX10_wantTie_180 (by decide) ?_
              exact hJ184 1 H locs ls hf hP hD hS (lv_sub hl [1, 2, 3, 4, 5, 6, 7, 0] rfl)
          refine lv_if_eq (tgt := 143) hx hb dX10_wantTie_136 (by decide) (fun hc => ?_) (fun hc => ?_)
          · replace hf := zIf_t hc hf
            refine lv_aload_n hx hb dX10_wantTie_143 rfl (lv_at hl 0 rfl) ?_
            refine lv_ldc2 (v := 298288) hx hb hown (hts _ (List.mem_of_getElem? (i := 8) rfl)) dX10_wantTie_144 ?_
            obtain ⟨v53, hc147, hf⟩ := zB1_ok hf
            refine zCallVEI [.long 298288] ⟨hx, hb, hml, hown, hts⟩ (pX10_isWord l D T X hgm H.size gm_19 gmL_20 298288 v53 hc147) (cwV 1 hts gX10_wantTie_X10_isWord rfl rfl rfl (by decide +kernel) ⟨Nat.le_of_ble_eq_true rfl, Nat.le_of_ble_eq_true rfl⟩) hK hP hD hS hA hX 0 rfl rfl rfl hl.1 rfl (Nat.le_of_ble_eq_true rfl) dX10_wantTie_147 ⟨Nat.zero_le _, Nat.zero_le _⟩ (fun H locs hP hD hS => ?_)
            refine lv_if_eq (tgt := 157) hx hb dX10_wantTie_150 (by decide) (fun hc => ?_) (fun hc => ?_)
            · replace hf := zIf_t hc hf
              refine lv_aload_n hx hb dX10_wantTie_157 rfl (lv_at hl 0 rfl) ?_
              refine lv_ldc2 (v := 271721) hx hb hown (hts _ (List.mem_of_getElem? (i := 9) rfl)) dX10_wantTie_158 ?_
              obtain ⟨v54, hc161, hf⟩ := zB1_ok hf
              refine zCallVEI [.long 271721] ⟨hx, hb, hml, hown, hts⟩ (pX10_isWord l D T X hgm H.size gm_19 gmL_20 271721 v54 hc161) (cwV 1 hts gX10_wantTie_X10_isWord rfl rfl rfl (by decide +kernel) ⟨Nat.le_of_ble_eq_true rfl, Nat.le_of_ble_eq_true rfl⟩) hK hP hD hS hA hX 0 rfl rfl rfl hl.1 rfl (Nat.le_of_ble_eq_true rfl) dX10_wantTie_161 ⟨Nat.zero_le _, Nat.zero_le _⟩ (fun H locs hP hD hS => ?_)
              refine lv_if_eq (tgt := 171) hx hb dX10_wantTie_164 (by decide) (fun hc => ?_) (fun hc => ?_)
              · replace hf := zIf_t hc hf
                refine lv_iconst (v := 0) hx hb dX10_wantTie_171 (by decide) ?_
                exact hJ172 0 H locs ls hf hP hD hS (lv_sub hl [0, 1, 2, 3, 4, 5, 6] rfl)
              · replace hf := zIf_f hc hf
                refine lv_iconst (v := 4) hx hb dX10_wantTie_167 (by decide) ?_
                refine lv_goto (tgt := 172) hx hb dX10_wantTie_168 (by decide) ?_
                exact hJ172 4 H locs ls hf hP hD hS (lv_sub hl [0, 1, 2, 3, 4, 5, 6] rfl)
            · replace hf := zIf_f hc hf
              refine lv_iconst (v := 3) hx hb dX10_wantTie_153 (by decide) ?_
              refine lv_goto (tgt := 172) hx hb dX10_wantTie_154 (by decide) ?_
              exact hJ172 3 H locs ls hf hP hD hS (lv_sub hl [0, 1, 2, 3, 4, 5, 6] rfl)
          · replace hf := zIf_f hc hf
            refine lv_iconst (v := 2) hx hb dX10_wantTie_139 (by decide) ?_
            refine lv_goto (tgt := 172) hx hb dX10_wantTie_140 (by decide) ?_
            exact hJ172 2 H locs ls hf hP hD hS (lv_sub hl [0, 1, 2, 3, 4, 5, 6] rfl)
    have hJ84 : ∀ (H : Heap) (locs : List Loc) (ls : Array Slot), fX10_wantTie_J84 v5 gm_6 gmL_7 = some (ngm, ngml) → va_P D vwCl (wX10 T hgm gm_6 gmL_7) H → va_D A (wX10 T hgm gm_6 gmL_7) → va_S A s.heap H locs → lv_has ls 9 [(0, .ref (hgm 0)), (1, .int v5)] → W p l e rX10_wantTie s m args below meth c H locs 0 0 Q (F0 m 84 ls [.ref (hgm 0)]) := by
      intro H locs ls hf hP hD hS hl
      unfold fX10_wantTie_J84 at hf
      refine lv_iconst (v := 0) hx hb dX10_wantTie_84 (by decide) ?_
      exact hJ85 0 H locs ls hf hP hD hS hl
    refine lv_if_eq (tgt := 84) hx hb dX10_wantTie_49 (by decide) (fun hc => ?_) (fun hc => ?_)
    · replace hf := zIf_t hc hf
      exact hJ84 H locs ls hf hP hD hS (lv_sub hl [1, 0] rfl)
    · replace hf := zIf_f hc hf
      refine lv_aload_n hx hb dX10_wantTie_52 rfl (lv_at hl 1 rfl) ?_
      refine zGet (ci := 10) (C := RX10) (F := TX10) (N := 54) (v := .int (gm_6 0 10)) hx hb hts hiX10 hown hK hP 0 10 5 rfl rfl (by decide) rfl rfl rfl dX10_wantTie_53 ?_
      refine lv_iconst (v := 2) hx hb dX10_wantTie_56 (by decide) ?_
      have hJ80 : ∀ (H : Heap) (locs : List Loc) (ls : Array Slot), fX10_wantTie_J80 v5 gm_6 gmL_7 = some (ngm, ngml) → va_P D vwCl (wX10 T hgm gm_6 gmL_7) H → va_D A (wX10 T hgm gm_6 gmL_7) → va_S A s.heap H locs → lv_has ls 9 [(0, .ref (hgm 0)), (1, .int v5)] → W p l e rX10_wantTie s m args below meth c H locs 0 0 Q (F0 m 80 ls [.ref (hgm 0)]) := by
        intro H locs ls hf hP hD hS hl
        unfold fX10_wantTie_J80 at hf
        refine lv_iconst (v := 1) hx hb dX10_wantTie_80 (by decide) ?_
        refine lv_goto (tgt := 85) hx hb dX10_wantTie_81 (by decide) ?_
        exact hJ85 1 H locs ls hf hP hD hS hl
      refine lv_icmp_ne (tgt := 80) hx hb dX10_wantTie_57 (by decide) (fun hc => ?_) (fun hc => ?_)
      · replace hf := zIf_f hc hf
        exact hJ80 H locs ls hf hP hD hS (lv_sub hl [1, 0] rfl)
      · replace hf := zIf_t hc hf
        refine lv_aload_n hx hb dX10_wantTie_60 rfl (lv_at hl 1 rfl) ?_
        refine zGet (ci := 10) (C := RX10) (F := TX10) (N := 54) (v := .int (gm_6 0 14)) hx hb hts hiX10 hown hK hP 0 14 6 rfl rfl (by decide) rfl rfl rfl dX10_wantTie_61 ?_
        refine lv_iload_n hx hb dX10_wantTie_64 rfl (lv_at hl 0 rfl) ?_
        refine lv_icmp_eq (tgt := 84) hx hb dX10_wantTie_65 (by decide) (fun hc => ?_) (fun hc => ?_)
        · replace hf := zIf_t hc hf
          exact hJ84 H locs ls hf hP hD hS (lv_sub hl [1, 0] rfl)
        · replace hf := zIf_f hc hf
          refine lv_aload_n hx hb dX10_wantTie_68 rfl (lv_at hl 1 rfl) ?_
          refine lv_iload_n hx hb dX10_wantTie_69 rfl (lv_at hl 0 rfl) ?_
          refine lv_aload_n hx hb dX10_wantTie_70 rfl (lv_at hl 1 rfl) ?_
          refine zGet (ci := 10) (C := RX10) (F := TX10) (N := 54) (v := .int (gm_6 0 14)) hx hb hts hiX10 hown hK hP 0 14 6 rfl rfl (by decide) rfl rfl rfl dX10_wantTie_71 ?_
          obtain ⟨v69, hc74, hf⟩ := zB1_ok hf
          refine zCallVEI [.int v5, .int (gm_6 0 14)] ⟨hx, hb, hml, hown, hts⟩ (pX10_isFreshTie l D T X hgm H.size gm_6 gmL_7 v5 (gm_6 0 14) v69 hc74) (cwV 2 hts gX10_wantTie_X10_isFreshTie rfl rfl rfl (by decide +kernel) ⟨Nat.le_of_ble_eq_true rfl, Nat.le_of_ble_eq_true rfl⟩) hK hP hD hS hA hX 0 rfl rfl rfl hl.1 rfl (Nat.le_of_ble_eq_true rfl) dX10_wantTie_74 ⟨Nat.zero_le _, Nat.zero_le _⟩ (fun H locs hP hD hS => ?_)
          refine lv_if_ne (tgt := 84) hx hb dX10_wantTie_77 (by decide) (fun hc => ?_) (fun hc => ?_)
          · replace hf := zIf_f hc hf
            exact hJ84 H locs ls hf hP hD hS (lv_sub hl [1, 0] rfl)
          · replace hf := zIf_t hc hf
            exact hJ80 H locs ls hf hP hD hS (lv_sub hl [1, 0] rfl)
  have hJ21 : ∀ (H : Heap) (locs : List Loc) (ls : Array Slot), fX10_wantTie_J21 gm gml = some (ngm, ngml) → va_P D vwCl (wX10 T hgm gm gml) H → va_D A (wX10 T hgm gm gml) → va_S A s.heap H locs → lv_has ls 9 [(0, .ref (hgm 0))] → W p l e rX10_wantTie s m args below meth c H locs 0 0 Q (F0 m 21 ls [.ref (hgm 0)]) := by
    intro H locs ls hf hP hD hS hl
    unfold fX10_wantTie_J21 at hf
    refine lv_iconst (v := 0) hx hb dX10_wantTie_21 (by decide) ?_
    exact hJ22 0 H locs ls hf hP hD hS hl
  refine lv_if_eq (tgt := 21) hx hb dX10_wantTie_5 (by decide) (fun hc => ?_) (fun hc => ?_)
  · replace hf := zIf_t hc hf
    exact hJ21 H locs ls hf hP hD hS hl
  · replace hf := zIf_f hc hf
    refine lv_aload_n hx hb dX10_wantTie_8 rfl (lv_at hl 0 rfl) ?_
    refine zGet (ci := 10) (C := RX10) (F := TX10) (N := 54) (v := .int (gm 0 17)) hx hb hts hiX10 hown hK hP 0 17 2 rfl rfl (by decide) rfl rfl rfl dX10_wantTie_9 ?_
    refine lv_bipush (v := 14) hx hb dX10_wantTie_12 (by decide) ?_
    refine lv_icmp_ge (tgt := 21) hx hb dX10_wantTie_14 (by decide) (fun hc => ?_) (fun hc => ?_)
    · replace hf := zIf_t hc hf
      exact hJ21 H locs ls hf hP hD hS hl
    · replace hf := zIf_f hc hf
      refine lv_iconst (v := 1) hx hb dX10_wantTie_17 (by decide) ?_
      refine lv_goto (tgt := 22) hx hb dX10_wantTie_18 (by decide) ?_
      exact hJ22 1 H locs ls hf hP hD hS hl
set_option maxHeartbeats 4000000 in
set_option maxRecDepth 100000 in
theorem pX10_wantFirst (l : Launch) (D : va_G) (T : Nat → ClassId) (X : zFP) (hgm : Nat → Nat) (sz : Nat) (gm : zM) (gml : zL) (ngm : zM) (ngml : zL) (hf : fX10_wantFirst gm gml = some (ngm, ngml)) : Met l yX10_wantFirst wsX10_wantFirst rX10_wantFirst (zPre D T X [.ref (hgm 0)] (wX10 T hgm gm gml) sz) (zQv D T (wX10 T hgm ngm ngml) (wX10 T hgm gm gml) sz) 0 0 (va_A (wX10 T hgm gm gml) sz) := by
  unfold fX10_wantFirst at hf
  refine zStart [(0, .ref (hgm 0))] (by decide) rfl (Nat.le_of_ble_eq_true rfl) rfl ?_
  intro p e s m args below meth c A Q ls hx hb hr hml hown hlocks hts hsz hA0 hQ hA hK hX hP hD hS hl
  replace hown : s.vm.findClass RX10 = some m.cls := hown
  have hH := hsz
  have hiX10 : ∀ w ∈ u_ws RX10 TX10 54, w ∈ wsX10_wantFirst := fun w h => List.mem_cons_of_mem _ (List.mem_append_right _ (h))
  obtain ⟨H, hHe⟩ : ∃ H : Heap, H = s.heap := ⟨_, rfl⟩
  obtain ⟨locs, hLe⟩ : ∃ L : List Loc, L = [] := ⟨_, rfl⟩
  replace hP : va_P D vwCl (wX10 T hgm gm gml) H := by rw [hHe]; exact hP
  replace hS : va_S A s.heap H locs := by rw [hHe, hLe]; exact hS
  suffices hgo : W p l e rX10_wantFirst s m args below meth c H locs 0 0 Q (F0 m 0 ls []) by rw [hHe, hLe] at hgo; exact hgo
  clear hHe hLe
  refine lv_aload_n hx hb dX10_wantFirst_0 rfl (lv_at hl 0 rfl) ?_
  refine lv_ldc2 (v := 3379448) hx hb hown (hts _ (List.mem_of_getElem? (i := 1) rfl)) dX10_wantFirst_1 ?_
  obtain ⟨gm_1, gmL_2, hc4, hf⟩ := zB2_ok hf
  refine zCallVEV [.long 3379448] ⟨hx, hb, hml, hown, hts⟩ (pX10_wantWord l D T X hgm H.size gm gml 3379448 gm_1 gmL_2 hc4) (cwV 1 hts gX10_wantFirst_X10_wantWord rfl rfl rfl (by decide +kernel) ⟨Nat.le_of_ble_eq_true rfl, Nat.le_of_ble_eq_true rfl⟩) hK hP hD hS hA hX 0 rfl rfl rfl hl.1 rfl (Nat.le_of_ble_eq_true rfl) dX10_wantFirst_4 ⟨Nat.zero_le _, Nat.zero_le _⟩ (fun H locs hP hD hS => ?_)
  refine lv_aload_n hx hb dX10_wantFirst_7 rfl (lv_at hl 0 rfl) ?_
  refine lv_iconst (v := 0) hx hb dX10_wantFirst_8 (by decide) ?_
  refine lv_aload_n hx hb dX10_wantFirst_9 rfl (lv_at hl 0 rfl) ?_
  refine zGet (ci := 10) (C := RX10) (F := TX10) (N := 54) (v := .int (gm_1 0 16)) hx hb hts hiX10 hown hK hP 0 16 2 rfl rfl (by decide) rfl rfl rfl dX10_wantFirst_10 ?_
  refine lv_iconst (v := 1) hx hb dX10_wantFirst_13 (by decide) ?_
  refine lv_isub hx hb dX10_wantFirst_14 ?_
  obtain ⟨v3, gm_4, gmL_5, hc15, hf⟩ := zB3_ok hf
  refine zCallVEI [.int 0, .int ((gm_1 0 16) - 1)] ⟨hx, hb, hml, hown, hts⟩ (pX10_wantNumber l D T X hgm H.size gm_1 gmL_2 0 ((gm_1 0 16) - 1) v3 gm_4 gmL_5 hc15) (cwV 2 hts gX10_wantFirst_X10_wantNumber rfl rfl rfl (by decide +kernel) ⟨Nat.le_of_ble_eq_true rfl, Nat.le_of_ble_eq_true rfl⟩) hK hP hD hS hA hX 0 rfl rfl rfl hl.1 rfl (Nat.le_of_ble_eq_true rfl) dX10_wantFirst_15 ⟨Nat.zero_le _, Nat.zero_le _⟩ (fun H locs hP hD hS => ?_)
  refine lv_istore_n (lv' := [(1, .int v3), (0, .ref (hgm 0))]) hx hb dX10_wantFirst_18 rfl hl (by decide) rfl (fun ls hl => ?_)
  refine lv_aload_n hx hb dX10_wantFirst_19 rfl (lv_at hl 1 rfl) ?_
  refine lv_ldc2 (v := 332864552) hx hb hown (hts _ (List.mem_of_getElem? (i := 3) rfl)) dX10_wantFirst_20 ?_
  obtain ⟨gm_6, gmL_7, hc23, hf⟩ := zB2_ok hf
  refine zCallVEV [.long 332864552] ⟨hx, hb, hml, hown, hts⟩ (pX10_wantWord l D T X hgm H.size gm_4 gmL_5 332864552 gm_6 gmL_7 hc23) (cwV 1 hts gX10_wantFirst_X10_wantWord rfl rfl rfl (by decide +kernel) ⟨Nat.le_of_ble_eq_true rfl, Nat.le_of_ble_eq_true rfl⟩) hK hP hD hS hA hX 0 rfl rfl rfl hl.1 rfl (Nat.le_of_ble_eq_true rfl) dX10_wantFirst_23 ⟨Nat.zero_le _, Nat.zero_le _⟩ (fun H locs hP hD hS => ?_)
  refine lv_aload_n hx hb dX10_wantFirst_26 rfl (lv_at hl 1 rfl) ?_
  refine lv_iconst (v := 0) hx hb dX10_wantFirst_27 (by decide) ?_
  refine lv_bipush (v := 9) hx hb dX10_wantFirst_28 (by decide) ?_
  obtain ⟨v8, gm_9, gmL_10, hc30, hf⟩ := zB3_ok hf
  refine zCallVEI [.int 0, .int 9] ⟨hx, hb, hml, hown, hts⟩ (pX10_wantNumber l D T X hgm H.size gm_6 gmL_7 0 9 v8 gm_9 gmL_10 hc30) (cwV 2 hts gX10_wantFirst_X10_wantNumber rfl rfl rfl (by decide +kernel) ⟨Nat.le_of_ble_eq_true rfl, Nat.le_of_ble_eq_true rfl⟩) hK hP hD hS hA hX 0 rfl rfl rfl hl.1 rfl (Nat.le_of_ble_eq_true rfl) dX10_wantFirst_30 ⟨Nat.zero_le _, Nat.zero_le _⟩ (fun H locs hP hD hS => ?_)
  refine lv_istore_n (lv' := [(2, .int v8), (1, .int v3), (0, .ref (hgm 0))]) hx hb dX10_wantFirst_33 rfl hl (by decide) rfl (fun ls hl => ?_)
  refine lv_aload_n hx hb dX10_wantFirst_34 rfl (lv_at hl 2 rfl) ?_
  obtain ⟨gm_11, gmL_12, hc35, hf⟩ := zB2_ok hf
  refine zCallVEV [] ⟨hx, hb, hml, hown, hts⟩ (pX10_wantEnd l D T X hgm H.size gm_9 gmL_10 gm_11 gmL_12 hc35) (cwV 0 hts gX10_wantFirst_X10_wantEnd rfl rfl rfl (by decide +kernel) ⟨Nat.le_of_ble_eq_true rfl, Nat.le_of_ble_eq_true rfl⟩) hK hP hD hS hA hX 0 rfl rfl rfl hl.1 rfl (Nat.le_of_ble_eq_true rfl) dX10_wantFirst_35 ⟨Nat.zero_le _, Nat.zero_le _⟩ (fun H locs hP hD hS => ?_)
  refine lv_aload_n hx hb dX10_wantFirst_38 rfl (lv_at hl 2 rfl) ?_
  refine zGet (ci := 10) (C := RX10) (F := TX10) (N := 54) (v := .int (gm_11 0 15)) hx hb hts hiX10 hown hK hP 0 15 4 rfl rfl (by decide) rfl rfl rfl dX10_wantFirst_39 ?_
  refine lv_if_eq (tgt := 52) hx hb dX10_wantFirst_42 (by decide) (fun hc => ?_) (fun hc => ?_)
  · replace hf := zIf_t hc hf
    obtain ⟨q1, q2⟩ := zI2 hf
    subst q1
    subst q2
    exact zRetV hQ hx hb hr hlocks hA0 hK hP hD hS dX10_wantFirst_52
  · replace hf := zIf_f hc hf
    refine lv_aload_n hx hb dX10_wantFirst_45 rfl (lv_at hl 2 rfl) ?_
    refine zGet (ci := 10) (C := RX10) (F := TX10) (N := 54) (v := .ref (hgm 6)) hx hb hts hiX10 hown hK hP 0 19 5 rfl rfl (by decide) rfl rfl rfl dX10_wantFirst_46 ?_
    refine lv_iload_n hx hb dX10_wantFirst_49 rfl (lv_at hl 1 rfl) ?_
    refine lv_iload_n hx hb dX10_wantFirst_50 rfl (lv_at hl 0 rfl) ?_
    obtain ⟨hg, hf⟩ := zGd_ok hf
    refine zAstI (w := gm_11) hx hb hK hP hD hS (fun g => wX10 T hgm g gmL_12) 6 6 rfl hg rfl dX10_wantFirst_51 (fun gm_13 egm_13 H locs hP hD hS => ?_)
    replace hP : va_P D vwCl (wX10 T hgm gm_13 gmL_12) H := hP
    replace hD : va_D A (wX10 T hgm gm_13 gmL_12) := hD
    replace hf := zLt_at egm_13 hf
    obtain ⟨q1, q2⟩ := zI2 hf
    subst q1
    subst q2
    exact zRetV hQ hx hb hr hlocks hA0 hK hP hD hS dX10_wantFirst_52
set_option maxHeartbeats 4000000 in
set_option maxRecDepth 100000 in
theorem pX10_addCut (l : Launch) (D : va_G) (T : Nat → ClassId) (X : zFP) (hgm : Nat → Nat) (sz : Nat) (gm : zM) (gml : zL) (a1 : Int32) (a2 : Int32) (a3 : Int32) (ngm : zM) (hf : fX10_addCut gm gml a1 a2 a3 = some ngm) : Met l yX10_addCut wsX10_addCut rX10_addCut (zPre D T X [.ref (hgm 0), .int a1, .int a2, .int a3] (wX10 T hgm gm gml) sz) (zQv D T (wX10 T hgm ngm gml) (wX10 T hgm gm gml) sz) 0 0 (va_A (wX10 T hgm gm gml) sz) := by
  unfold fX10_addCut at hf
  refine zStart [(0, .ref (hgm 0)), (1, .int a1), (2, .int a2), (3, .int a3)] (by decide) rfl (Nat.le_of_ble_eq_true rfl) rfl ?_
  intro p e s m args below meth c A Q ls hx hb hr hml hown hlocks hts hsz hA0 hQ hA hK hX hP hD hS hl
  replace hown : s.vm.findClass RX10 = some m.cls := hown
  have hH := hsz
  have hiX10 : ∀ w ∈ u_ws RX10 TX10 54, w ∈ wsX10_addCut := fun w h => List.mem_cons_of_mem _ (List.mem_append_right _ (h))
  obtain ⟨H, hHe⟩ : ∃ H : Heap, H = s.heap := ⟨_, rfl⟩
  obtain ⟨locs, hLe⟩ : ∃ L : List Loc, L = [] := ⟨_, rfl⟩
  replace hP : va_P D vwCl (wX10 T hgm gm gml) H := by rw [hHe]; exact hP
  replace hS : va_S A s.heap H locs := by rw [hHe, hLe]; exact hS
  suffices hgo : W p l e rX10_addCut s m args below meth c H locs 0 0 Q (F0 m 0 ls []) by rw [hHe, hLe] at hgo; exact hgo
  clear hHe hLe
  refine lv_aload_n hx hb dX10_addCut_0 rfl (lv_at hl 0 rfl) ?_
  refine zGet (ci := 10) (C := RX10) (F := TX10) (N := 54) (v := .ref (hgm 8)) hx hb hts hiX10 hown hK hP 0 21 1 rfl rfl (by decide) rfl rfl rfl dX10_addCut_1 ?_
  refine lv_iconst (v := 3) hx hb dX10_addCut_4 (by decide) ?_
  refine lv_aload_n hx hb dX10_addCut_5 rfl (lv_at hl 0 rfl) ?_
  refine zGet (ci := 10) (C := RX10) (F := TX10) (N := 54) (v := .int (gm 0 18)) hx hb hts hiX10 hown hK hP 0 18 2 rfl rfl (by decide) rfl rfl rfl dX10_addCut_6 ?_
  refine lv_imul hx hb dX10_addCut_9 ?_
  refine lv_iload_n hx hb dX10_addCut_10 rfl (lv_at hl 1 rfl) ?_
  obtain ⟨hg, hf⟩ := zGd_ok hf
  refine zAstI (w := gm) hx hb hK hP hD hS (fun g => wX10 T hgm g gml) 8 8 rfl hg rfl dX10_addCut_11 (fun gm_1 egm_1 H locs hP hD hS => ?_)
  replace hP : va_P D vwCl (wX10 T hgm gm_1 gml) H := hP
  replace hD : va_D A (wX10 T hgm gm_1 gml) := hD
  replace hf := zLt_at egm_1 hf
  refine lv_aload_n hx hb dX10_addCut_12 rfl (lv_at hl 0 rfl) ?_
  refine zGet (ci := 10) (C := RX10) (F := TX10) (N := 54) (v := .ref (hgm 8)) hx hb hts hiX10 hown hK hP 0 21 1 rfl rfl (by decide) rfl rfl rfl dX10_addCut_13 ?_
  refine lv_iconst (v := 3) hx hb dX10_addCut_16 (by decide) ?_
  refine lv_aload_n hx hb dX10_addCut_17 rfl (lv_at hl 0 rfl) ?_
  refine zGet (ci := 10) (C := RX10) (F := TX10) (N := 54) (v := .int (gm_1 0 18)) hx hb hts hiX10 hown hK hP 0 18 2 rfl rfl (by decide) rfl rfl rfl dX10_addCut_18 ?_
  refine lv_imul hx hb dX10_addCut_21 ?_
  refine lv_iconst (v := 1) hx hb dX10_addCut_22 (by decide) ?_
  refine lv_iadd hx hb dX10_addCut_23 ?_
  refine lv_iload_n hx hb dX10_addCut_24 rfl (lv_at hl 2 rfl) ?_
  obtain ⟨hg, hf⟩ := zGd_ok hf
  refine zAstI (w := gm_1) hx hb hK hP hD hS (fun g => wX10 T hgm g gml) 8 8 rfl hg rfl dX10_addCut_25 (fun gm_2 egm_2 H locs hP hD hS => ?_)
  replace hP : va_P D vwCl (wX10 T hgm gm_2 gml) H := hP
  replace hD : va_D A (wX10 T hgm gm_2 gml) := hD
  replace hf := zLt_at egm_2 hf
  refine lv_aload_n hx hb dX10_addCut_26 rfl (lv_at hl 0 rfl) ?_
  refine zGet (ci := 10) (C := RX10) (F := TX10) (N := 54) (v := .ref (hgm 8)) hx hb hts hiX10 hown hK hP 0 21 1 rfl rfl (by decide) rfl rfl rfl dX10_addCut_27 ?_
  refine lv_iconst (v := 3) hx hb dX10_addCut_30 (by decide) ?_
  refine lv_aload_n hx hb dX10_addCut_31 rfl (lv_at hl 0 rfl) ?_
  refine zGet (ci := 10) (C := RX10) (F := TX10) (N := 54) (v := .int (gm_2 0 18)) hx hb hts hiX10 hown hK hP 0 18 2 rfl rfl (by decide) rfl rfl rfl dX10_addCut_32 ?_
  refine lv_imul hx hb dX10_addCut_35 ?_
  refine lv_iconst (v := 2) hx hb dX10_addCut_36 (by decide) ?_
  refine lv_iadd hx hb dX10_addCut_37 ?_
  refine lv_iload_n hx hb dX10_addCut_38 rfl (lv_at hl 3 rfl) ?_
  obtain ⟨hg, hf⟩ := zGd_ok hf
  refine zAstI (w := gm_2) hx hb hK hP hD hS (fun g => wX10 T hgm g gml) 8 8 rfl hg rfl dX10_addCut_39 (fun gm_3 egm_3 H locs hP hD hS => ?_)
  replace hP : va_P D vwCl (wX10 T hgm gm_3 gml) H := hP
  replace hD : va_D A (wX10 T hgm gm_3 gml) := hD
  replace hf := zLt_at egm_3 hf
  refine lv_aload_n hx hb dX10_addCut_40 rfl (lv_at hl 0 rfl) ?_
  refine lv_dup hx hb dX10_addCut_41 rfl ?_
  refine zGet (ci := 10) (C := RX10) (F := TX10) (N := 54) (v := .int (gm_3 0 18)) hx hb hts hiX10 hown hK hP 0 18 2 rfl rfl (by decide) rfl rfl rfl dX10_addCut_42 ?_
  refine lv_iconst (v := 1) hx hb dX10_addCut_45 (by decide) ?_
  refine lv_iadd hx hb dX10_addCut_46 ?_
  refine lv_topi (fun v4 ev4 => ?_)
  replace hf := zLt_at ev4 hf
  refine zPut (ci := 10) (C := RX10) (F := TX10) (N := 54) (x := v4) (w := gm_3) hx hb hts hiX10 tyX10 tyX10_ok nmX10 hown hK hP hD hS (fun g => wX10 T hgm g gml) 0 18 2 rfl rfl (by decide) rfl rfl rfl ⟨rfl, rfl⟩ (Nat.le_of_ble_eq_true rfl) rfl dX10_addCut_47 (fun gm_5 egm_5 H locs hP hD hS => ?_)
  replace hP : va_P D vwCl (wX10 T hgm gm_5 gml) H := hP
  replace hD : va_D A (wX10 T hgm gm_5 gml) := hD
  replace hf := zLt_at egm_5 hf
  obtain ⟨q1, -⟩ := zI1 hf
  subst q1
  exact zRetV hQ hx hb hr hlocks hA0 hK hP hD hS dX10_addCut_50
set_option maxHeartbeats 4000000 in
set_option maxRecDepth 100000 in
theorem pX10_wantSeat (l : Launch) (D : va_G) (T : Nat → ClassId) (X : zFP) (hgm : Nat → Nat) (sz : Nat) (gm : zM) (gml : zL) (ngm : zM) (ngml : zL) (hf : fX10_wantSeat gm gml = some (ngm, ngml)) : Met l yX10_wantSeat wsX10_wantSeat rX10_wantSeat (zPre D T X [.ref (hgm 0)] (wX10 T hgm gm gml) sz) (zQv D T (wX10 T hgm ngm ngml) (wX10 T hgm gm gml) sz) 0 0 (va_A (wX10 T hgm gm gml) sz) := by
  unfold fX10_wantSeat at hf
  refine zStart [(0, .ref (hgm 0))] (by decide) rfl (Nat.le_of_ble_eq_true rfl) rfl ?_
  intro p e s m args below meth c A Q ls hx hb hr hml hown hlocks hts hsz hA0 hQ hA hK hX hP hD hS hl
  replace hown : s.vm.findClass RX10 = some m.cls := hown
  have hH := hsz
  have hiX10 : ∀ w ∈ u_ws RX10 TX10 54, w ∈ wsX10_wantSeat := fun w h => List.mem_cons_of_mem _ (List.mem_append_right _ (h))
  obtain ⟨H, hHe⟩ : ∃ H : Heap, H = s.heap := ⟨_, rfl⟩
  obtain ⟨locs, hLe⟩ : ∃ L : List Loc, L = [] := ⟨_, rfl⟩
  replace hP : va_P D vwCl (wX10 T hgm gm gml) H := by rw [hHe]; exact hP
  replace hS : va_S A s.heap H locs := by rw [hHe, hLe]; exact hS
  suffices hgo : W p l e rX10_wantSeat s m args below meth c H locs 0 0 Q (F0 m 0 ls []) by rw [hHe, hLe] at hgo; exact hgo
  clear hHe hLe
  refine lv_aload_n hx hb dX10_wantSeat_0 rfl (lv_at hl 0 rfl) ?_
  refine lv_aload_n hx hb dX10_wantSeat_1 rfl (lv_at hl 0 rfl) ?_
  refine zGet (ci := 10) (C := RX10) (F := TX10) (N := 54) (v := .int (gm 0 15)) hx hb hts hiX10 hown hK hP 0 15 1 rfl rfl (by decide) rfl rfl rfl dX10_wantSeat_2 ?_
  have hJ22 : ∀ (v1 : Int32) (H : Heap) (locs : List Loc) (ls : Array Slot), fX10_wantSeat_J22 gm gml v1 = some (ngm, ngml) → va_P D vwCl (wX10 T hgm gm gml) H → va_D A (wX10 T hgm gm gml) → va_S A s.heap H locs → lv_has ls 3 [(0, .ref (hgm 0))] → W p l e rX10_wantSeat s m args below meth c H locs 0 0 Q (F0 m 22 ls [.int v1, .ref (hgm 0)]) := by
    intro v1 H locs ls hf hP hD hS hl
    unfold fX10_wantSeat_J22 at hf
    obtain ⟨hg, hf⟩ := zGd_ok hf
    refine zPut (ci := 10) (C := RX10) (F := TX10) (N := 54) (x := v1) (w := gm) hx hb hts hiX10 tyX10 tyX10_ok nmX10 hown hK hP hD hS (fun g => wX10 T hgm g gml) 0 15 1 rfl rfl (by decide) rfl rfl rfl (zBo_ok hg) (Nat.le_of_ble_eq_true rfl) rfl dX10_wantSeat_22 (fun gm_2 egm_2 H locs hP hD hS => ?_)
    replace hP : va_P D vwCl (wX10 T hgm gm_2 gml) H := hP
    replace hD : va_D A (wX10 T hgm gm_2 gml) := hD
    replace hf := zLt_at egm_2 hf
    refine lv_aload_n hx hb dX10_wantSeat_25 rfl (lv_at hl 0 rfl) ?_
    refine lv_ldc2 (v := 377669) hx hb hown (hts _ (List.mem_of_getElem? (i := 3) rfl)) dX10_wantSeat_26 ?_
    obtain ⟨gm_3, gmL_4, hc29, hf⟩ := zB2_ok hf
    refine zCallVEV [.long 377669] ⟨hx, hb, hml, hown, hts⟩ (pX10_wantWord l D T X hgm H.size gm_2 gml 377669 gm_3 gmL_4 hc29) (cwV 1 hts gX10_wantSeat_X10_wantWord rfl rfl rfl (by decide +kernel) ⟨Nat.le_of_ble_eq_true rfl, Nat.le_of_ble_eq_true rfl⟩) hK hP hD hS hA hX 0 rfl rfl rfl hl.1 rfl (Nat.le_of_ble_eq_true rfl) dX10_wantSeat_29 ⟨Nat.zero_le _, Nat.zero_le _⟩ (fun H locs hP hD hS => ?_)
    refine lv_aload_n hx hb dX10_wantSeat_32 rfl (lv_at hl 0 rfl) ?_
    refine lv_iconst (v := 0) hx hb dX10_wantSeat_33 (by decide) ?_
    refine lv_aload_n hx hb dX10_wantSeat_34 rfl (lv_at hl 0 rfl) ?_
    refine zGet (ci := 10) (C := RX10) (F := TX10) (N := 54) (v := .int (gm_3 0 16)) hx hb hts hiX10 hown hK hP 0 16 4 rfl rfl (by decide) rfl rfl rfl dX10_wantSeat_35 ?_
    refine lv_iconst (v := 1) hx hb dX10_wantSeat_38 (by decide) ?_
    refine lv_isub hx hb dX10_wantSeat_39 ?_
    obtain ⟨v5, gm_6, gmL_7, hc40, hf⟩ := zB3_ok hf
    refine zCallVEI [.int 0, .int ((gm_3 0 16) - 1)] ⟨hx, hb, hml, hown, hts⟩ (pX10_wantNumber l D T X hgm H.size gm_3 gmL_4 0 ((gm_3 0 16) - 1) v5 gm_6 gmL_7 hc40) (cwV 2 hts gX10_wantSeat_X10_wantNumber rfl rfl rfl (by decide +kernel) ⟨Nat.le_of_ble_eq_true rfl, Nat.le_of_ble_eq_true rfl⟩) hK hP hD hS hA hX 0 rfl rfl rfl hl.1 rfl (Nat.le_of_ble_eq_true rfl) dX10_wantSeat_40 ⟨Nat.zero_le _, Nat.zero_le _⟩ (fun H locs hP hD hS => ?_)
    refine lv_istore_n (lv' := [(1, .int v5), (0, .ref (hgm 0))]) hx hb dX10_wantSeat_43 rfl hl (by decide) rfl (fun ls hl => ?_)
    refine lv_aload_n hx hb dX10_wantSeat_44 rfl (lv_at hl 1 rfl) ?_
    refine zGet (ci := 10) (C := RX10) (F := TX10) (N := 54) (v := .int (gm_6 0 15)) hx hb hts hiX10 hown hK hP 0 15 1 rfl rfl (by decide) rfl rfl rfl dX10_wantSeat_45 ?_
    have hJ58 : ∀ (v8 : Int32) (H : Heap) (locs : List Loc) (ls : Array Slot), fX10_wantSeat_J58 gm_6 gmL_7 v8 = some (ngm, ngml) → va_P D vwCl (wX10 T hgm gm_6 gmL_7) H → va_D A (wX10 T hgm gm_6 gmL_7) → va_S A s.heap H locs → lv_has ls 3 [(0, .ref (hgm 0))] → W p l e rX10_wantSeat s m args below meth c H locs 0 0 Q (F0 m 58 ls [.int v8]) := by
      intro v8 H locs ls hf hP hD hS hl
      unfold fX10_wantSeat_J58 at hf
      refine lv_istore_n (lv' := [(2, .int v8), (0, .ref (hgm 0))]) hx hb dX10_wantSeat_58 rfl hl (by decide) rfl (fun ls hl => ?_)
      obtain ⟨ex, hlp, hf⟩ := zB1_ok hf
      have hE59_112 : ∀ (v12 : Int32) (gm_13 : zM) (gmL_14 : zL) , ex = (v12, gm_13, gmL_14) → ∀ (H : Heap) (locs : List Loc) (ls : Array Slot), va_P D vwCl (wX10 T hgm gm_13 gmL_14) H → va_D A (wX10 T hgm gm_13 gmL_14) → va_S A s.heap H locs → lv_has ls 3 [(0, .ref (hgm 0)), (2, .int v12)] → W p l e rX10_wantSeat s m args below meth c H locs 0 0 Q (F0 m 112 ls []) := by
        intro v12 gm_13 gmL_14 hex H locs ls hP hD hS hl
        have hf := zEx3 hex hf
        refine lv_aload_n hx hb dX10_wantSeat_112 rfl (lv_at hl 0 rfl) ?_
        obtain ⟨gm_24, gmL_25, hc113, hf⟩ := zB2_ok hf
        refine zCallVEV [] ⟨hx, hb, hml, hown, hts⟩ (pX10_wantEnd l D T X hgm H.size gm_13 gmL_14 gm_24 gmL_25 hc113) (cwV 0 hts gX10_wantSeat_X10_wantEnd rfl rfl rfl (by decide +kernel) ⟨Nat.le_of_ble_eq_true rfl, Nat.le_of_ble_eq_true rfl⟩) hK hP hD hS hA hX 0 rfl rfl rfl hl.1 rfl (Nat.le_of_ble_eq_true rfl) dX10_wantSeat_113 ⟨Nat.zero_le _, Nat.zero_le _⟩ (fun H locs hP hD hS => ?_)
        refine lv_aload_n hx hb dX10_wantSeat_116 rfl (lv_at hl 0 rfl) ?_
        refine zGet (ci := 10) (C := RX10) (F := TX10) (N := 54) (v := .int (gm_24 0 15)) hx hb hts hiX10 hown hK hP 0 15 1 rfl rfl (by decide) rfl rfl rfl dX10_wantSeat_117 ?_
        refine lv_if_eq (tgt := 130) hx hb dX10_wantSeat_120 (by decide) (fun hc => ?_) (fun hc => ?_)
        · replace hf := zIf_t hc hf
          obtain ⟨q1, q2⟩ := zI2 hf
          subst q1
          subst q2
          exact zRetV hQ hx hb hr hlocks hA0 hK hP hD hS dX10_wantSeat_130
        · replace hf := zIf_f hc hf
          refine lv_aload_n hx hb dX10_wantSeat_123 rfl (lv_at hl 0 rfl) ?_
          refine lv_iconst (v := 5) hx hb dX10_wantSeat_124 (by decide) ?_
          refine lv_iload_n hx hb dX10_wantSeat_125 rfl (lv_at hl 1 rfl) ?_
          refine lv_iconst (v := 0) hx hb dX10_wantSeat_126 (by decide) ?_
          obtain ⟨gm_26, hc127, hf⟩ := zB1_ok hf
          refine zCallVEV [.int 5, .int v12, .int 0] ⟨hx, hb, hml, hown, hts⟩ (pX10_addCut l D T X hgm H.size gm_24 gmL_25 5 v12 0 gm_26 hc127) (cwV 3 hts gX10_wantSeat_X10_addCut rfl rfl rfl (by decide +kernel) ⟨Nat.le_of_ble_eq_true rfl, Nat.le_of_ble_eq_true rfl⟩) hK hP hD hS hA hX 0 rfl rfl rfl hl.1 rfl (Nat.le_of_ble_eq_true rfl) dX10_wantSeat_127 ⟨Nat.zero_le _, Nat.zero_le _⟩ (fun H locs hP hD hS => ?_)
          obtain ⟨q1, q2⟩ := zI2 hf
          subst q1
          subst q2
          exact zRetV hQ hx hb hr hlocks hA0 hK hP hD hS dX10_wantSeat_130
      refine zLpS3 (body := fX10_wantSeat_L59) (b := ex) (fun (v9 : Int32) (gm_10 : zM) (gmL_11 : zL) => ∀ (H : Heap) (locs : List Loc) (ls : Array Slot), va_P D vwCl (wX10 T hgm gm_10 gmL_11) H → va_D A (wX10 T hgm gm_10 gmL_11) → va_S A s.heap H locs → lv_has ls 3 [(0, .ref (hgm 0)), (2, .int v9)] → W p l e rX10_wantSeat s m args below meth c H locs 0 0 Q (F0 m 59 ls [])) ?_ zFU v8 gm_6 gmL_7 hlp H locs ls hP hD hS (lv_sub hl [1, 0] rfl)
      intro v9 gm_10 gmL_11 z hf hzz H locs ls hP hD hS hl
      unfold fX10_wantSeat_L59 at hf
      replace hf := zUk3 hf
      refine lv_aload_n hx hb dX10_wantSeat_59 rfl (lv_at hl 0 rfl) ?_
      refine zGet (ci := 10) (C := RX10) (F := TX10) (N := 54) (v := .int (gm_10 0 15)) hx hb hts hiX10 hown hK hP 0 15 1 rfl rfl (by decide) rfl rfl rfl dX10_wantSeat_60 ?_
      refine lv_if_eq (tgt := 112) hx hb dX10_wantSeat_63 (by decide) (fun hc => ?_) (fun hc => ?_)
      · replace hf := zIf_t hc hf
        cases hf
        exact hE59_112 v9 gm_10 gmL_11 hzz.symm H locs ls hP hD hS hl
      · replace hf := zIf_f hc hf
        refine lv_aload_n hx hb dX10_wantSeat_66 rfl (lv_at hl 0 rfl) ?_
        refine lv_ldc2 (v := 1111) hx hb hown (hts _ (List.mem_of_getElem? (i := 5) rfl)) dX10_wantSeat_67 ?_
        obtain ⟨v15, hc70, hf⟩ := zB1_ok hf
        refine zCallVEI [.long 1111] ⟨hx, hb, hml, hown, hts⟩ (pX10_isWord l D T X hgm H.size gm_10 gmL_11 1111 v15 hc70) (cwV 1 hts gX10_wantSeat_X10_isWord rfl rfl rfl (by decide +kernel) ⟨Nat.le_of_ble_eq_true rfl, Nat.le_of_ble_eq_true rfl⟩) hK hP hD hS hA hX 0 rfl rfl rfl hl.1 rfl (Nat.le_of_ble_eq_true rfl) dX10_wantSeat_70 ⟨Nat.zero_le _, Nat.zero_le _⟩ (fun H locs hP hD hS => ?_)
        refine lv_if_eq (tgt := 112) hx hb dX10_wantSeat_73 (by decide) (fun hc => ?_) (fun hc => ?_)
        · replace hf := zIf_t hc hf
          cases hf
          exact hE59_112 v9 gm_10 gmL_11 hzz.symm H locs ls hP hD hS hl
        · replace hf := zIf_f hc hf
          refine lv_aload_n hx hb dX10_wantSeat_76 rfl (lv_at hl 0 rfl) ?_
          obtain ⟨gm_16, gmL_17, hc77, hf⟩ := zB2_ok hf
          refine zCallVEV [] ⟨hx, hb, hml, hown, hts⟩ (pX10_advance l D T X hgm H.size gm_10 gmL_11 gm_16 gmL_17 hc77) (cwV 0 hts gX10_wantSeat_X10_advance rfl rfl rfl (by decide +kernel) ⟨Nat.le_of_ble_eq_true rfl, Nat.le_of_ble_eq_true rfl⟩) hK hP hD hS hA hX 0 rfl rfl rfl hl.1 rfl (Nat.le_of_ble_eq_true rfl) dX10_wantSeat_77 ⟨Nat.zero_le _, Nat.zero_le _⟩ (fun H locs hP hD hS => ?_)
          refine lv_aload_n hx hb dX10_wantSeat_80 rfl (lv_at hl 0 rfl) ?_
          refine lv_iconst (v := 0) hx hb dX10_wantSeat_81 (by decide) ?_
          refine lv_aload_n hx hb dX10_wantSeat_82 rfl (lv_at hl 0 rfl) ?_
          refine zGet (ci := 10) (C := RX10) (F := TX10) (N := 54) (v := .int (gm_16 0 16)) hx hb hts hiX10 hown hK hP 0 16 4 rfl rfl (by decide) rfl rfl rfl dX10_wantSeat_83 ?_
          refine lv_iconst (v := 1) hx hb dX10_wantSeat_86 (by decide) ?_
          refine lv_isub hx hb dX10_wantSeat_87 ?_
          obtain ⟨v18, gm_19, gmL_20, hc88, hf⟩ := zB3_ok hf
          refine zCallVEI [.int 0, .int ((gm_16 0 16) - 1)] ⟨hx, hb, hml, hown, hts⟩ (pX10_wantNumber l D T X hgm H.size gm_16 gmL_17 0 ((gm_16 0 16) - 1) v18 gm_19 gmL_20 hc88) (cwV 2 hts gX10_wantSeat_X10_wantNumber rfl rfl rfl (by decide +kernel) ⟨Nat.le_of_ble_eq_true rfl, Nat.le_of_ble_eq_true rfl⟩) hK hP hD hS hA hX 0 rfl rfl rfl hl.1 rfl (Nat.le_of_ble_eq_true rfl) dX10_wantSeat_88 ⟨Nat.zero_le _, Nat.zero_le _⟩ (fun H locs hP hD hS => ?_)
          refine lv_istore_n (lv' := [(1, .int v18), (0, .ref (hgm 0)), (2, .int v9)]) hx hb dX10_wantSeat_91 rfl hl (by decide) rfl (fun ls hl => ?_)
          refine lv_iload_n hx hb dX10_wantSeat_92 rfl (lv_at hl 2 rfl) ?_
          refine lv_aload_n hx hb dX10_wantSeat_93 rfl (lv_at hl 1 rfl) ?_
          refine zGet (ci := 10) (C := RX10) (F := TX10) (N := 54) (v := .int (gm_19 0 15)) hx hb hts hiX10 hown hK hP 0 15 1 rfl rfl (by decide) rfl rfl rfl dX10_wantSeat_94 ?_
          have hJ107 : ∀ (v21 : Int32) (v22 : Int32) (H : Heap) (locs : List Loc) (ls : Array Slot), fX10_wantSeat_L59J107 gm_19 gmL_20 v21 v22 = some z → va_P D vwCl (wX10 T hgm gm_19 gmL_20) H → va_D A (wX10 T hgm gm_19 gmL_20) → va_S A s.heap H locs → lv_has ls 3 [(0, .ref (hgm 0))] → W p l e rX10_wantSeat s m args below meth c H locs 0 0 Q (F0 m 107 ls [.int v21, .int v22]) := by
            intro v21 v22 H locs ls hf hP hD hS hl
            unfold fX10_wantSeat_L59J107 at hf
            refine lv_ior hx hb dX10_wantSeat_107 ?_
            refine lv_topi (fun v23 ev23 => ?_)
            replace hf := zLt_at ev23 hf
            refine lv_istore_n (lv' := [(2, .int v23), (0, .ref (hgm 0))]) hx hb dX10_wantSeat_108 rfl hl (by decide) rfl (fun ls hl => ?_)
            refine lv_goto (tgt := 59) hx hb dX10_wantSeat_109 (by decide) ?_
            cases hf
            exact hzz H locs ls hP hD hS (lv_sub hl [1, 0] rfl)
          refine lv_if_eq (tgt := 106) hx hb dX10_wantSeat_97 (by decide) (fun hc => ?_) (fun hc => ?_)
          · replace hf := zIf_t hc hf
            refine lv_iconst (v := 0) hx hb dX10_wantSeat_106 (by decide) ?_
            exact hJ107 0 v9 H locs ls hf hP hD hS (lv_sub hl [1] rfl)
          · replace hf := zIf_f hc hf
            refine lv_iconst (v := 1) hx hb dX10_wantSeat_100 (by decide) ?_
            refine lv_iload_n hx hb dX10_wantSeat_101 rfl (lv_at hl 0 rfl) ?_
            refine lv_ishl hx hb dX10_wantSeat_102 ?_
            refine lv_goto (tgt := 107) hx hb dX10_wantSeat_103 (by decide) ?_
            exact hJ107 ((1 : Int32) <<< (v18 &&& 31)) v9 H locs ls hf hP hD hS (lv_sub hl [1] rfl)
    refine lv_if_eq (tgt := 57) hx hb dX10_wantSeat_48 (by decide) (fun hc => ?_) (fun hc => ?_)
    · replace hf := zIf_t hc hf
      refine lv_iconst (v := 0) hx hb dX10_wantSeat_57 (by decide) ?_
      exact hJ58 0 H locs ls hf hP hD hS (lv_sub hl [1] rfl)
    · replace hf := zIf_f hc hf
      refine lv_iconst (v := 1) hx hb dX10_wantSeat_51 (by decide) ?_
      refine lv_iload_n hx hb dX10_wantSeat_52 rfl (lv_at hl 0 rfl) ?_
      refine lv_ishl hx hb dX10_wantSeat_53 ?_
      refine lv_goto (tgt := 58) hx hb dX10_wantSeat_54 (by decide) ?_
      exact hJ58 ((1 : Int32) <<< (v5 &&& 31)) H locs ls hf hP hD hS (lv_sub hl [1] rfl)
  have hJ21 : ∀ (H : Heap) (locs : List Loc) (ls : Array Slot), fX10_wantSeat_J21 gm gml = some (ngm, ngml) → va_P D vwCl (wX10 T hgm gm gml) H → va_D A (wX10 T hgm gm gml) → va_S A s.heap H locs → lv_has ls 3 [(0, .ref (hgm 0))] → W p l e rX10_wantSeat s m args below meth c H locs 0 0 Q (F0 m 21 ls [.ref (hgm 0)]) := by
    intro H locs ls hf hP hD hS hl
    unfold fX10_wantSeat_J21 at hf
    refine lv_iconst (v := 0) hx hb dX10_wantSeat_21 (by decide) ?_
    exact hJ22 0 H locs ls hf hP hD hS hl
  refine lv_if_eq (tgt := 21) hx hb dX10_wantSeat_5 (by decide) (fun hc => ?_) (fun hc => ?_)
  · replace hf := zIf_t hc hf
    exact hJ21 H locs ls hf hP hD hS hl
  · replace hf := zIf_f hc hf
    refine lv_aload_n hx hb dX10_wantSeat_8 rfl (lv_at hl 0 rfl) ?_
    refine zGet (ci := 10) (C := RX10) (F := TX10) (N := 54) (v := .int (gm 0 18)) hx hb hts hiX10 hown hK hP 0 18 2 rfl rfl (by decide) rfl rfl rfl dX10_wantSeat_9 ?_
    refine lv_bipush (v := 8) hx hb dX10_wantSeat_12 (by decide) ?_
    refine lv_icmp_ge (tgt := 21) hx hb dX10_wantSeat_14 (by decide) (fun hc => ?_) (fun hc => ?_)
    · replace hf := zIf_t hc hf
      exact hJ21 H locs ls hf hP hD hS hl
    · replace hf := zIf_f hc hf
      refine lv_iconst (v := 1) hx hb dX10_wantSeat_17 (by decide) ?_
      refine lv_goto (tgt := 22) hx hb dX10_wantSeat_18 (by decide) ?_
      exact hJ22 1 H locs ls hf hP hD hS hl
set_option maxHeartbeats 4000000 in
set_option maxRecDepth 100000 in
theorem pX10_wantLate (l : Launch) (D : va_G) (T : Nat → ClassId) (X : zFP) (hgm : Nat → Nat) (sz : Nat) (gm : zM) (gml : zL) (ngm : zM) (ngml : zL) (hf : fX10_wantLate gm gml = some (ngm, ngml)) : Met l yX10_wantLate wsX10_wantLate rX10_wantLate (zPre D T X [.ref (hgm 0)] (wX10 T hgm gm gml) sz) (zQv D T (wX10 T hgm ngm ngml) (wX10 T hgm gm gml) sz) 0 0 (va_A (wX10 T hgm gm gml) sz) := by
  unfold fX10_wantLate at hf
  refine zStart [(0, .ref (hgm 0))] (by decide) rfl (Nat.le_of_ble_eq_true rfl) rfl ?_
  intro p e s m args below meth c A Q ls hx hb hr hml hown hlocks hts hsz hA0 hQ hA hK hX hP hD hS hl
  replace hown : s.vm.findClass RX10 = some m.cls := hown
  have hH := hsz
  have hiX10 : ∀ w ∈ u_ws RX10 TX10 54, w ∈ wsX10_wantLate := fun w h => List.mem_cons_of_mem _ (List.mem_append_right _ (h))
  obtain ⟨H, hHe⟩ : ∃ H : Heap, H = s.heap := ⟨_, rfl⟩
  obtain ⟨locs, hLe⟩ : ∃ L : List Loc, L = [] := ⟨_, rfl⟩
  replace hP : va_P D vwCl (wX10 T hgm gm gml) H := by rw [hHe]; exact hP
  replace hS : va_S A s.heap H locs := by rw [hHe, hLe]; exact hS
  suffices hgo : W p l e rX10_wantLate s m args below meth c H locs 0 0 Q (F0 m 0 ls []) by rw [hHe, hLe] at hgo; exact hgo
  clear hHe hLe
  refine lv_aload_n hx hb dX10_wantLate_0 rfl (lv_at hl 0 rfl) ?_
  refine lv_aload_n hx hb dX10_wantLate_1 rfl (lv_at hl 0 rfl) ?_
  refine zGet (ci := 10) (C := RX10) (F := TX10) (N := 54) (v := .int (gm 0 15)) hx hb hts hiX10 hown hK hP 0 15 1 rfl rfl (by decide) rfl rfl rfl dX10_wantLate_2 ?_
  have hJ22 : ∀ (v1 : Int32) (H : Heap) (locs : List Loc) (ls : Array Slot), fX10_wantLate_J22 gm gml v1 = some (ngm, ngml) → va_P D vwCl (wX10 T hgm gm gml) H → va_D A (wX10 T hgm gm gml) → va_S A s.heap H locs → lv_has ls 3 [(0, .ref (hgm 0))] → W p l e rX10_wantLate s m args below meth c H locs 0 0 Q (F0 m 22 ls [.int v1, .ref (hgm 0)]) := by
    intro v1 H locs ls hf hP hD hS hl
    unfold fX10_wantLate_J22 at hf
    obtain ⟨hg, hf⟩ := zGd_ok hf
    refine zPut (ci := 10) (C := RX10) (F := TX10) (N := 54) (x := v1) (w := gm) hx hb hts hiX10 tyX10 tyX10_ok nmX10 hown hK hP hD hS (fun g => wX10 T hgm g gml) 0 15 1 rfl rfl (by decide) rfl rfl rfl (zBo_ok hg) (Nat.le_of_ble_eq_true rfl) rfl dX10_wantLate_22 (fun gm_2 egm_2 H locs hP hD hS => ?_)
    replace hP : va_P D vwCl (wX10 T hgm gm_2 gml) H := hP
    replace hD : va_D A (wX10 T hgm gm_2 gml) := hD
    replace hf := zLt_at egm_2 hf
    refine lv_aload_n hx hb dX10_wantLate_25 rfl (lv_at hl 0 rfl) ?_
    refine lv_ldc2 (v := 237470) hx hb hown (hts _ (List.mem_of_getElem? (i := 3) rfl)) dX10_wantLate_26 ?_
    obtain ⟨gm_3, gmL_4, hc29, hf⟩ := zB2_ok hf
    refine zCallVEV [.long 237470] ⟨hx, hb, hml, hown, hts⟩ (pX10_wantWord l D T X hgm H.size gm_2 gml 237470 gm_3 gmL_4 hc29) (cwV 1 hts gX10_wantLate_X10_wantWord rfl rfl rfl (by decide +kernel) ⟨Nat.le_of_ble_eq_true rfl, Nat.le_of_ble_eq_true rfl⟩) hK hP hD hS hA hX 0 rfl rfl rfl hl.1 rfl (Nat.le_of_ble_eq_true rfl) dX10_wantLate_29 ⟨Nat.zero_le _, Nat.zero_le _⟩ (fun H locs hP hD hS => ?_)
    refine lv_aload_n hx hb dX10_wantLate_32 rfl (lv_at hl 0 rfl) ?_
    refine lv_iconst (v := 0) hx hb dX10_wantLate_33 (by decide) ?_
    refine lv_aload_n hx hb dX10_wantLate_34 rfl (lv_at hl 0 rfl) ?_
    refine zGet (ci := 10) (C := RX10) (F := TX10) (N := 54) (v := .int (gm_3 0 17)) hx hb hts hiX10 hown hK hP 0 17 4 rfl rfl (by decide) rfl rfl rfl dX10_wantLate_35 ?_
    refine lv_iconst (v := 1) hx hb dX10_wantLate_38 (by decide) ?_
    refine lv_isub hx hb dX10_wantLate_39 ?_
    obtain ⟨v5, gm_6, gmL_7, hc40, hf⟩ := zB3_ok hf
    refine zCallVEI [.int 0, .int ((gm_3 0 17) - 1)] ⟨hx, hb, hml, hown, hts⟩ (pX10_wantNumber l D T X hgm H.size gm_3 gmL_4 0 ((gm_3 0 17) - 1) v5 gm_6 gmL_7 hc40) (cwV 2 hts gX10_wantLate_X10_wantNumber rfl rfl rfl (by decide +kernel) ⟨Nat.le_of_ble_eq_true rfl, Nat.le_of_ble_eq_true rfl⟩) hK hP hD hS hA hX 0 rfl rfl rfl hl.1 rfl (Nat.le_of_ble_eq_true rfl) dX10_wantLate_40 ⟨Nat.zero_le _, Nat.zero_le _⟩ (fun H locs hP hD hS => ?_)
    refine lv_istore_n (lv' := [(1, .int v5), (0, .ref (hgm 0))]) hx hb dX10_wantLate_43 rfl hl (by decide) rfl (fun ls hl => ?_)
    refine lv_aload_n hx hb dX10_wantLate_44 rfl (lv_at hl 1 rfl) ?_
    refine lv_iconst (v := 0) hx hb dX10_wantLate_45 (by decide) ?_
    refine lv_bipush (v := 99) hx hb dX10_wantLate_46 (by decide) ?_
    obtain ⟨v8, gm_9, gmL_10, hc48, hf⟩ := zB3_ok hf
    refine zCallVEI [.int 0, .int 99] ⟨hx, hb, hml, hown, hts⟩ (pX10_wantNumber l D T X hgm H.size gm_6 gmL_7 0 99 v8 gm_9 gmL_10 hc48) (cwV 2 hts gX10_wantLate_X10_wantNumber rfl rfl rfl (by decide +kernel) ⟨Nat.le_of_ble_eq_true rfl, Nat.le_of_ble_eq_true rfl⟩) hK hP hD hS hA hX 0 rfl rfl rfl hl.1 rfl (Nat.le_of_ble_eq_true rfl) dX10_wantLate_48 ⟨Nat.zero_le _, Nat.zero_le _⟩ (fun H locs hP hD hS => ?_)
    refine lv_istore_n (lv' := [(2, .int v8), (1, .int v5), (0, .ref (hgm 0))]) hx hb dX10_wantLate_51 rfl hl (by decide) rfl (fun ls hl => ?_)
    refine lv_aload_n hx hb dX10_wantLate_52 rfl (lv_at hl 2 rfl) ?_
    obtain ⟨gm_11, gmL_12, hc53, hf⟩ := zB2_ok hf
    refine zCallVEV [] ⟨hx, hb, hml, hown, hts⟩ (pX10_wantEnd l D T X hgm H.size gm_9 gmL_10 gm_11 gmL_12 hc53) (cwV 0 hts gX10_wantLate_X10_wantEnd rfl rfl rfl (by decide +kernel) ⟨Nat.le_of_ble_eq_true rfl, Nat.le_of_ble_eq_true rfl⟩) hK hP hD hS hA hX 0 rfl rfl rfl hl.1 rfl (Nat.le_of_ble_eq_true rfl) dX10_wantLate_53 ⟨Nat.zero_le _, Nat.zero_le _⟩ (fun H locs hP hD hS => ?_)
    refine lv_aload_n hx hb dX10_wantLate_56 rfl (lv_at hl 2 rfl) ?_
    refine zGet (ci := 10) (C := RX10) (F := TX10) (N := 54) (v := .int (gm_11 0 15)) hx hb hts hiX10 hown hK hP 0 15 1 rfl rfl (by decide) rfl rfl rfl dX10_wantLate_57 ?_
    refine lv_if_eq (tgt := 70) hx hb dX10_wantLate_60 (by decide) (fun hc => ?_) (fun hc => ?_)
    · replace hf := zIf_t hc hf
      obtain ⟨q1, q2⟩ := zI2 hf
      subst q1
      subst q2
      exact zRetV hQ hx hb hr hlocks hA0 hK hP hD hS dX10_wantLate_70
    · replace hf := zIf_f hc hf
      refine lv_aload_n hx hb dX10_wantLate_63 rfl (lv_at hl 2 rfl) ?_
      refine lv_iconst (v := 4) hx hb dX10_wantLate_64 (by decide) ?_
      refine lv_iload_n hx hb dX10_wantLate_65 rfl (lv_at hl 1 rfl) ?_
      refine lv_iload_n hx hb dX10_wantLate_66 rfl (lv_at hl 0 rfl) ?_
      obtain ⟨gm_13, hc67, hf⟩ := zB1_ok hf
      refine zCallVEV [.int 4, .int v5, .int v8] ⟨hx, hb, hml, hown, hts⟩ (pX10_addCut l D T X hgm H.size gm_11 gmL_12 4 v5 v8 gm_13 hc67) (cwV 3 hts gX10_wantLate_X10_addCut rfl rfl rfl (by decide +kernel) ⟨Nat.le_of_ble_eq_true rfl, Nat.le_of_ble_eq_true rfl⟩) hK hP hD hS hA hX 0 rfl rfl rfl hl.1 rfl (Nat.le_of_ble_eq_true rfl) dX10_wantLate_67 ⟨Nat.zero_le _, Nat.zero_le _⟩ (fun H locs hP hD hS => ?_)
      obtain ⟨q1, q2⟩ := zI2 hf
      subst q1
      subst q2
      exact zRetV hQ hx hb hr hlocks hA0 hK hP hD hS dX10_wantLate_70
  have hJ21 : ∀ (H : Heap) (locs : List Loc) (ls : Array Slot), fX10_wantLate_J21 gm gml = some (ngm, ngml) → va_P D vwCl (wX10 T hgm gm gml) H → va_D A (wX10 T hgm gm gml) → va_S A s.heap H locs → lv_has ls 3 [(0, .ref (hgm 0))] → W p l e rX10_wantLate s m args below meth c H locs 0 0 Q (F0 m 21 ls [.ref (hgm 0)]) := by
    intro H locs ls hf hP hD hS hl
    unfold fX10_wantLate_J21 at hf
    refine lv_iconst (v := 0) hx hb dX10_wantLate_21 (by decide) ?_
    exact hJ22 0 H locs ls hf hP hD hS hl
  refine lv_if_eq (tgt := 21) hx hb dX10_wantLate_5 (by decide) (fun hc => ?_) (fun hc => ?_)
  · replace hf := zIf_t hc hf
    exact hJ21 H locs ls hf hP hD hS hl
  · replace hf := zIf_f hc hf
    refine lv_aload_n hx hb dX10_wantLate_8 rfl (lv_at hl 0 rfl) ?_
    refine zGet (ci := 10) (C := RX10) (F := TX10) (N := 54) (v := .int (gm 0 18)) hx hb hts hiX10 hown hK hP 0 18 2 rfl rfl (by decide) rfl rfl rfl dX10_wantLate_9 ?_
    refine lv_bipush (v := 8) hx hb dX10_wantLate_12 (by decide) ?_
    refine lv_icmp_ge (tgt := 21) hx hb dX10_wantLate_14 (by decide) (fun hc => ?_) (fun hc => ?_)
    · replace hf := zIf_t hc hf
      exact hJ21 H locs ls hf hP hD hS hl
    · replace hf := zIf_f hc hf
      refine lv_iconst (v := 1) hx hb dX10_wantLate_17 (by decide) ?_
      refine lv_goto (tgt := 22) hx hb dX10_wantLate_18 (by decide) ?_
      exact hJ22 1 H locs ls hf hP hD hS hl
set_option maxHeartbeats 4000000 in
set_option maxRecDepth 100000 in
theorem pX10_wantWorks (l : Launch) (D : va_G) (T : Nat → ClassId) (X : zFP) (hgm : Nat → Nat) (sz : Nat) (gm : zM) (gml : zL) (ngm : zM) (ngml : zL) (hf : fX10_wantWorks gm gml = some (ngm, ngml)) : Met l yX10_wantWorks wsX10_wantWorks rX10_wantWorks (zPre D T X [.ref (hgm 0)] (wX10 T hgm gm gml) sz) (zQv D T (wX10 T hgm ngm ngml) (wX10 T hgm gm gml) sz) 0 0 (va_A (wX10 T hgm gm gml) sz) := by
  unfold fX10_wantWorks at hf
  refine zStart [(0, .ref (hgm 0))] (by decide) rfl (Nat.le_of_ble_eq_true rfl) rfl ?_
  intro p e s m args below meth c A Q ls hx hb hr hml hown hlocks hts hsz hA0 hQ hA hK hX hP hD hS hl
  replace hown : s.vm.findClass RX10 = some m.cls := hown
  have hH := hsz
  have hiX10 : ∀ w ∈ u_ws RX10 TX10 54, w ∈ wsX10_wantWorks := fun w h => List.mem_cons_of_mem _ (List.mem_append_right _ (h))
  obtain ⟨H, hHe⟩ : ∃ H : Heap, H = s.heap := ⟨_, rfl⟩
  obtain ⟨locs, hLe⟩ : ∃ L : List Loc, L = [] := ⟨_, rfl⟩
  replace hP : va_P D vwCl (wX10 T hgm gm gml) H := by rw [hHe]; exact hP
  replace hS : va_S A s.heap H locs := by rw [hHe, hLe]; exact hS
  suffices hgo : W p l e rX10_wantWorks s m args below meth c H locs 0 0 Q (F0 m 0 ls []) by rw [hHe, hLe] at hgo; exact hgo
  clear hHe hLe
  refine lv_aload_n hx hb dX10_wantWorks_0 rfl (lv_at hl 0 rfl) ?_
  refine lv_iconst (v := 1) hx hb dX10_wantWorks_1 (by decide) ?_
  refine zPut (ci := 10) (C := RX10) (F := TX10) (N := 54) (x := 1) (w := gm) hx hb hts hiX10 tyX10 tyX10_ok nmX10 hown hK hP hD hS (fun g => wX10 T hgm g gml) 0 15 1 rfl rfl (by decide) rfl rfl rfl (by decide) (Nat.le_of_ble_eq_true rfl) rfl dX10_wantWorks_2 (fun gm_1 egm_1 H locs hP hD hS => ?_)
  replace hP : va_P D vwCl (wX10 T hgm gm_1 gml) H := hP
  replace hD : va_D A (wX10 T hgm gm_1 gml) := hD
  replace hf := zLt_at egm_1 hf
  refine lv_aload_n hx hb dX10_wantWorks_5 rfl (lv_at hl 0 rfl) ?_
  refine lv_iconst (v := 0) hx hb dX10_wantWorks_6 (by decide) ?_
  refine zPut (ci := 10) (C := RX10) (F := TX10) (N := 54) (x := 0) (w := gm_1) hx hb hts hiX10 tyX10 tyX10_ok nmX10 hown hK hP hD hS (fun g => wX10 T hgm g gml) 0 17 2 rfl rfl (by decide) rfl rfl rfl ⟨rfl, rfl⟩ (Nat.le_of_ble_eq_true rfl) rfl dX10_wantWorks_7 (fun gm_2 egm_2 H locs hP hD hS => ?_)
  replace hP : va_P D vwCl (wX10 T hgm gm_2 gml) H := hP
  replace hD : va_D A (wX10 T hgm gm_2 gml) := hD
  replace hf := zLt_at egm_2 hf
  refine lv_aload_n hx hb dX10_wantWorks_10 rfl (lv_at hl 0 rfl) ?_
  refine lv_iconst (v := 0) hx hb dX10_wantWorks_11 (by decide) ?_
  refine zPut (ci := 10) (C := RX10) (F := TX10) (N := 54) (x := 0) (w := gm_2) hx hb hts hiX10 tyX10 tyX10_ok nmX10 hown hK hP hD hS (fun g => wX10 T hgm g gml) 0 18 3 rfl rfl (by decide) rfl rfl rfl ⟨rfl, rfl⟩ (Nat.le_of_ble_eq_true rfl) rfl dX10_wantWorks_12 (fun gm_3 egm_3 H locs hP hD hS => ?_)
  replace hP : va_P D vwCl (wX10 T hgm gm_3 gml) H := hP
  replace hD : va_D A (wX10 T hgm gm_3 gml) := hD
  replace hf := zLt_at egm_3 hf
  refine lv_aload_n hx hb dX10_wantWorks_15 rfl (lv_at hl 0 rfl) ?_
  refine lv_ldc2 (v := 232546955) hx hb hown (hts _ (List.mem_of_getElem? (i := 4) rfl)) dX10_wantWorks_16 ?_
  obtain ⟨gm_4, gmL_5, hc19, hf⟩ := zB2_ok hf
  refine zCallVEV [.long 232546955] ⟨hx, hb, hml, hown, hts⟩ (pX10_wantWord l D T X hgm H.size gm_3 gml 232546955 gm_4 gmL_5 hc19) (cwV 1 hts gX10_wantWorks_X10_wantWord rfl rfl rfl (by decide +kernel) ⟨Nat.le_of_ble_eq_true rfl, Nat.le_of_ble_eq_true rfl⟩) hK hP hD hS hA hX 0 rfl rfl rfl hl.1 rfl (Nat.le_of_ble_eq_true rfl) dX10_wantWorks_19 ⟨Nat.zero_le _, Nat.zero_le _⟩ (fun H locs hP hD hS => ?_)
  refine lv_aload_n hx hb dX10_wantWorks_22 rfl (lv_at hl 0 rfl) ?_
  refine lv_aload_n hx hb dX10_wantWorks_23 rfl (lv_at hl 0 rfl) ?_
  refine lv_iconst (v := 1) hx hb dX10_wantWorks_24 (by decide) ?_
  refine lv_bipush (v := 10) hx hb dX10_wantWorks_25 (by decide) ?_
  obtain ⟨v6, gm_7, gmL_8, hc27, hf⟩ := zB3_ok hf
  refine zCallVEI [.int 1, .int 10] ⟨hx, hb, hml, hown, hts⟩ (pX10_wantNumber l D T X hgm H.size gm_4 gmL_5 1 10 v6 gm_7 gmL_8 hc27) (cwV 2 hts gX10_wantWorks_X10_wantNumber rfl rfl rfl (by decide +kernel) ⟨Nat.le_of_ble_eq_true rfl, Nat.le_of_ble_eq_true rfl⟩) hK hP hD hS hA hX 0 rfl rfl rfl hl.1 rfl (Nat.le_of_ble_eq_true rfl) dX10_wantWorks_27 ⟨Nat.zero_le _, Nat.zero_le _⟩ (fun H locs hP hD hS => ?_)
  refine zPut (ci := 10) (C := RX10) (F := TX10) (N := 54) (x := v6) (w := gm_7) hx hb hts hiX10 tyX10 tyX10_ok nmX10 hown hK hP hD hS (fun g => wX10 T hgm g gmL_8) 0 16 5 rfl rfl (by decide) rfl rfl rfl ⟨rfl, rfl⟩ (Nat.le_of_ble_eq_true rfl) rfl dX10_wantWorks_30 (fun gm_9 egm_9 H locs hP hD hS => ?_)
  replace hP : va_P D vwCl (wX10 T hgm gm_9 gmL_8) H := hP
  replace hD : va_D A (wX10 T hgm gm_9 gmL_8) := hD
  replace hf := zLt_at egm_9 hf
  refine lv_aload_n hx hb dX10_wantWorks_33 rfl (lv_at hl 0 rfl) ?_
  obtain ⟨gm_10, gmL_11, hc34, hf⟩ := zB2_ok hf
  refine zCallVEV [] ⟨hx, hb, hml, hown, hts⟩ (pX10_wantEnd l D T X hgm H.size gm_9 gmL_8 gm_10 gmL_11 hc34) (cwV 0 hts gX10_wantWorks_X10_wantEnd rfl rfl rfl (by decide +kernel) ⟨Nat.le_of_ble_eq_true rfl, Nat.le_of_ble_eq_true rfl⟩) hK hP hD hS hA hX 0 rfl rfl rfl hl.1 rfl (Nat.le_of_ble_eq_true rfl) dX10_wantWorks_34 ⟨Nat.zero_le _, Nat.zero_le _⟩ (fun H locs hP hD hS => ?_)
  refine lv_iconst (v := 0) hx hb dX10_wantWorks_37 (by decide) ?_
  refine lv_istore_n (lv' := [(1, .int 0), (0, .ref (hgm 0))]) hx hb dX10_wantWorks_38 rfl hl (by decide) rfl (fun ls hl => ?_)
  obtain ⟨ex, hlp, hf⟩ := zB1_ok hf
  have hE39_58 : ∀ (gm_14 : zM) , ex = gm_14 → ∀ (H : Heap) (locs : List Loc) (ls : Array Slot), va_P D vwCl (wX10 T hgm gm_14 gmL_11) H → va_D A (wX10 T hgm gm_14 gmL_11) → va_S A s.heap H locs → lv_has ls 2 [(0, .ref (hgm 0))] → W p l e rX10_wantWorks s m args below meth c H locs 0 0 Q (F0 m 58 ls []) := by
    intro gm_14 hex H locs ls hP hD hS hl
    have hf := zEx1 hex hf
    obtain ⟨ex, hlp, hf⟩ := zB1_ok hf
    have hE58_148 : ∀ (gm_19 : zM) (gmL_20 : zL) , ex = (gm_19, gmL_20) → ∀ (H : Heap) (locs : List Loc) (ls : Array Slot), va_P D vwCl (wX10 T hgm gm_19 gmL_20) H → va_D A (wX10 T hgm gm_19 gmL_20) → va_S A s.heap H locs → lv_has ls 2 [] → W p l e rX10_wantWorks s m args below meth c H locs 0 0 Q (F0 m 148 ls []) := by
      intro gm_19 gmL_20 hex H locs ls hP hD hS hl
      have hf := zEx2 hex hf
      obtain ⟨q1, q2⟩ := zI2 hf
      subst q1
      subst q2
      exact zRetV hQ hx hb hr hlocks hA0 hK hP hD hS dX10_wantWorks_148
    refine zLpS2 (body := fX10_wantWorks_L58) (b := ex) (fun (gm_17 : zM) (gmL_18 : zL) => ∀ (H : Heap) (locs : List Loc) (ls : Array Slot), va_P D vwCl (wX10 T hgm gm_17 gmL_18) H → va_D A (wX10 T hgm gm_17 gmL_18) → va_S A s.heap H locs → lv_has ls 2 [(0, .ref (hgm 0))] → W p l e rX10_wantWorks s m args below meth c H locs 0 0 Q (F0 m 58 ls [])) ?_ zFU gm_14 gmL_11 hlp H locs ls hP hD hS hl
    intro gm_17 gmL_18 z hf hzz H locs ls hP hD hS hl
    unfold fX10_wantWorks_L58 at hf
    replace hf := zUk2 hf
    refine lv_aload_n hx hb dX10_wantWorks_58 rfl (lv_at hl 0 rfl) ?_
    refine zGet (ci := 10) (C := RX10) (F := TX10) (N := 54) (v := .int (gm_17 0 15)) hx hb hts hiX10 hown hK hP 0 15 1 rfl rfl (by decide) rfl rfl rfl dX10_wantWorks_59 ?_
    refine lv_if_eq (tgt := 148) hx hb dX10_wantWorks_62 (by decide) (fun hc => ?_) (fun hc => ?_)
    · replace hf := zIf_t hc hf
      cases hf
      exact hE58_148 gm_17 gmL_18 hzz.symm H locs ls hP hD hS (lv_sub hl [] rfl)
    · replace hf := zIf_f hc hf
      refine lv_aload_n hx hb dX10_wantWorks_65 rfl (lv_at hl 0 rfl) ?_
      refine zGet (ci := 10) (C := RX10) (F := TX10) (N := 54) (v := .int (gm_17 0 10)) hx hb hts hiX10 hown hK hP 0 10 7 rfl rfl (by decide) rfl rfl rfl dX10_wantWorks_66 ?_
      refine lv_if_eq (tgt := 148) hx hb dX10_wantWorks_69 (by decide) (fun hc => ?_) (fun hc => ?_)
      · replace hf := zIf_t hc hf
        cases hf
        exact hE58_148 gm_17 gmL_18 hzz.symm H locs ls hP hD hS (lv_sub hl [] rfl)
      · replace hf := zIf_f hc hf
        refine lv_aload_n hx hb dX10_wantWorks_72 rfl (lv_at hl 0 rfl) ?_
        refine lv_ldc2 (v := 14828) hx hb hown (hts _ (List.mem_of_getElem? (i := 8) rfl)) dX10_wantWorks_73 ?_
        obtain ⟨v21, hc76, hf⟩ := zB1_ok hf
        refine zCallVEI [.long 14828] ⟨hx, hb, hml, hown, hts⟩ (pX10_isWord l D T X hgm H.size gm_17 gmL_18 14828 v21 hc76) (cwV 1 hts gX10_wantWorks_X10_isWord rfl rfl rfl (by decide +kernel) ⟨Nat.le_of_ble_eq_true rfl, Nat.le_of_ble_eq_true rfl⟩) hK hP hD hS hA hX 0 rfl rfl rfl hl.1 rfl (Nat.le_of_ble_eq_true rfl) dX10_wantWorks_76 ⟨Nat.zero_le _, Nat.zero_le _⟩ (fun H locs hP hD hS => ?_)
        refine lv_if_eq (tgt := 89) hx hb dX10_wantWorks_79 (by decide) (fun hc => ?_) (fun hc => ?_)
        · replace hf := zIf_t hc hf
          refine lv_aload_n hx hb dX10_wantWorks_89 rfl (lv_at hl 0 rfl) ?_
          refine lv_ldc2 (v := 3379448) hx hb hown (hts _ (List.mem_of_getElem? (i := 9) rfl)) dX10_wantWorks_90 ?_
          obtain ⟨v22, hc93, hf⟩ := zB1_ok hf
          refine zCallVEI [.long 3379448] ⟨hx, hb, hml, hown, hts⟩ (pX10_isWord l D T X hgm H.size gm_17 gmL_18 3379448 v22 hc93) (cwV 1 hts gX10_wantWorks_X10_isWord rfl rfl rfl (by decide +kernel) ⟨Nat.le_of_ble_eq_true rfl, Nat.le_of_ble_eq_true rfl⟩) hK hP hD hS hA hX 0 rfl rfl rfl hl.1 rfl (Nat.le_of_ble_eq_true rfl) dX10_wantWorks_93 ⟨Nat.zero_le _, Nat.zero_le _⟩ (fun H locs hP hD hS => ?_)
          refine lv_if_eq (tgt := 106) hx hb dX10_wantWorks_96 (by decide) (fun hc => ?_) (fun hc => ?_)
          · replace hf := zIf_t hc hf
            refine lv_aload_n hx hb dX10_wantWorks_106 rfl (lv_at hl 0 rfl) ?_
            refine lv_ldc2 (v := 377669) hx hb hown (hts _ (List.mem_of_getElem? (i := 10) rfl)) dX10_wantWorks_107 ?_
            obtain ⟨v23, hc110, hf⟩ := zB1_ok hf
            refine zCallVEI [.long 377669] ⟨hx, hb, hml, hown, hts⟩ (pX10_isWord l D T X hgm H.size gm_17 gmL_18 377669 v23 hc110) (cwV 1 hts gX10_wantWorks_X10_isWord rfl rfl rfl (by decide +kernel) ⟨Nat.le_of_ble_eq_true rfl, Nat.le_of_ble_eq_true rfl⟩) hK hP hD hS hA hX 0 rfl rfl rfl hl.1 rfl (Nat.le_of_ble_eq_true rfl) dX10_wantWorks_110 ⟨Nat.zero_le _, Nat.zero_le _⟩ (fun H locs hP hD hS => ?_)
            refine lv_if_eq (tgt := 123) hx hb dX10_wantWorks_113 (by decide) (fun hc => ?_) (fun hc => ?_)
            · replace hf := zIf_t hc hf
              refine lv_aload_n hx hb dX10_wantWorks_123 rfl (lv_at hl 0 rfl) ?_
              refine lv_ldc2 (v := 237470) hx hb hown (hts _ (List.mem_of_getElem? (i := 11) rfl)) dX10_wantWorks_124 ?_
              obtain ⟨v24, hc127, hf⟩ := zB1_ok hf
              refine zCallVEI [.long 237470] ⟨hx, hb, hml, hown, hts⟩ (pX10_isWord l D T X hgm H.size gm_17 gmL_18 237470 v24 hc127) (cwV 1 hts gX10_wantWorks_X10_isWord rfl rfl rfl (by decide +kernel) ⟨Nat.le_of_ble_eq_true rfl, Nat.le_of_ble_eq_true rfl⟩) hK hP hD hS hA hX 0 rfl rfl rfl hl.1 rfl (Nat.le_of_ble_eq_true rfl) dX10_wantWorks_127 ⟨Nat.zero_le _, Nat.zero_le _⟩ (fun H locs hP hD hS => ?_)
              refine lv_if_eq (tgt := 140) hx hb dX10_wantWorks_130 (by decide) (fun hc => ?_) (fun hc => ?_)
              · replace hf := zIf_t hc hf
                refine lv_aload_n hx hb dX10_wantWorks_140 rfl (lv_at hl 0 rfl) ?_
                refine lv_iconst (v := 0) hx hb dX10_wantWorks_141 (by decide) ?_
                refine zPut (ci := 10) (C := RX10) (F := TX10) (N := 54) (x := 0) (w := gm_17) hx hb hts hiX10 tyX10 tyX10_ok nmX10 hown hK hP hD hS (fun g => wX10 T hgm g gmL_18) 0 15 1 rfl rfl (by decide) rfl rfl rfl (by decide) (Nat.le_of_ble_eq_true rfl) rfl dX10_wantWorks_142 (fun gm_25 egm_25 H locs hP hD hS => ?_)
                replace hP : va_P D vwCl (wX10 T hgm gm_25 gmL_18) H := hP
                replace hD : va_D A (wX10 T hgm gm_25 gmL_18) := hD
                replace hf := zLt_at egm_25 hf
                refine lv_goto (tgt := 58) hx hb dX10_wantWorks_145 (by decide) ?_
                cases hf
                exact hzz H locs ls hP hD hS hl
              · replace hf := zIf_f hc hf
                refine lv_aload_n hx hb dX10_wantWorks_133 rfl (lv_at hl 0 rfl) ?_
                obtain ⟨gm_26, gmL_27, hc134, hf⟩ := zB2_ok hf
                refine zCallVEV [] ⟨hx, hb, hml, hown, hts⟩ (pX10_wantLate l D T X hgm H.size gm_17 gmL_18 gm_26 gmL_27 hc134) (cwV 0 hts gX10_wantWorks_X10_wantLate rfl rfl rfl (by decide +kernel) ⟨Nat.le_of_ble_eq_true rfl, Nat.le_of_ble_eq_true rfl⟩) hK hP hD hS hA hX 0 rfl rfl rfl hl.1 rfl (Nat.le_of_ble_eq_true rfl) dX10_wantWorks_134 ⟨Nat.zero_le _, Nat.zero_le _⟩ (fun H locs hP hD hS => ?_)
                refine lv_goto (tgt := 58) hx hb dX10_wantWorks_137 (by decide) ?_
                cases hf
                exact hzz H locs ls hP hD hS hl
            · replace hf := zIf_f hc hf
              refine lv_aload_n hx hb dX10_wantWorks_116 rfl (lv_at hl 0 rfl) ?_
              obtain ⟨gm_28, gmL_29, hc117, hf⟩ := zB2_ok hf
              refine zCallVEV [] ⟨hx, hb, hml, hown, hts⟩ (pX10_wantSeat l D T X hgm H.size gm_17 gmL_18 gm_28 gmL_29 hc117) (cwV 0 hts gX10_wantWorks_X10_wantSeat rfl rfl rfl (by decide +kernel) ⟨Nat.le_of_ble_eq_true rfl, Nat.le_of_ble_eq_true rfl⟩) hK hP hD hS hA hX 0 rfl rfl rfl hl.1 rfl (Nat.le_of_ble_eq_true rfl) dX10_wantWorks_117 ⟨Nat.zero_le _, Nat.zero_le _⟩ (fun H locs hP hD hS => ?_)
              refine lv_goto (tgt := 58) hx hb dX10_wantWorks_120 (by decide) ?_
              cases hf
              exact hzz H locs ls hP hD hS hl
          · replace hf := zIf_f hc hf
            refine lv_aload_n hx hb dX10_wantWorks_99 rfl (lv_at hl 0 rfl) ?_
            obtain ⟨gm_30, gmL_31, hc100, hf⟩ := zB2_ok hf
            refine zCallVEV [] ⟨hx, hb, hml, hown, hts⟩ (pX10_wantFirst l D T X hgm H.size gm_17 gmL_18 gm_30 gmL_31 hc100) (cwV 0 hts gX10_wantWorks_X10_wantFirst rfl rfl rfl (by decide +kernel) ⟨Nat.le_of_ble_eq_true rfl, Nat.le_of_ble_eq_true rfl⟩) hK hP hD hS hA hX 0 rfl rfl rfl hl.1 rfl (Nat.le_of_ble_eq_true rfl) dX10_wantWorks_100 ⟨Nat.zero_le _, Nat.zero_le _⟩ (fun H locs hP hD hS => ?_)
            refine lv_goto (tgt := 58) hx hb dX10_wantWorks_103 (by decide) ?_
            cases hf
            exact hzz H locs ls hP hD hS hl
        · replace hf := zIf_f hc hf
          refine lv_aload_n hx hb dX10_wantWorks_82 rfl (lv_at hl 0 rfl) ?_
          obtain ⟨gm_32, gmL_33, hc83, hf⟩ := zB2_ok hf
          refine zCallVEV [] ⟨hx, hb, hml, hown, hts⟩ (pX10_wantTie l D T X hgm H.size gm_17 gmL_18 gm_32 gmL_33 hc83) (cwV 0 hts gX10_wantWorks_X10_wantTie rfl rfl rfl (by decide +kernel) ⟨Nat.le_of_ble_eq_true rfl, Nat.le_of_ble_eq_true rfl⟩) hK hP hD hS hA hX 0 rfl rfl rfl hl.1 rfl (Nat.le_of_ble_eq_true rfl) dX10_wantWorks_83 ⟨Nat.zero_le _, Nat.zero_le _⟩ (fun H locs hP hD hS => ?_)
          refine lv_goto (tgt := 58) hx hb dX10_wantWorks_86 (by decide) ?_
          cases hf
          exact hzz H locs ls hP hD hS hl
  refine zLpS2 (body := fX10_wantWorks_L39) (b := ex) (fun (v12 : Int32) (gm_13 : zM) => ∀ (H : Heap) (locs : List Loc) (ls : Array Slot), va_P D vwCl (wX10 T hgm gm_13 gmL_11) H → va_D A (wX10 T hgm gm_13 gmL_11) → va_S A s.heap H locs → lv_has ls 2 [(0, .ref (hgm 0)), (1, .int v12)] → W p l e rX10_wantWorks s m args below meth c H locs 0 0 Q (F0 m 39 ls [])) ?_ zFU 0 gm_10 hlp H locs ls hP hD hS (lv_sub hl [1, 0] rfl)
  intro v12 gm_13 z hf hzz H locs ls hP hD hS hl
  unfold fX10_wantWorks_L39 at hf
  replace hf := zUk2 hf
  refine lv_iload_n hx hb dX10_wantWorks_39 rfl (lv_at hl 1 rfl) ?_
  refine lv_bipush (v := 10) hx hb dX10_wantWorks_40 (by decide) ?_
  refine lv_icmp_ge (tgt := 58) hx hb dX10_wantWorks_42 (by decide) (fun hc => ?_) (fun hc => ?_)
  · replace hf := zIf_t hc hf
    cases hf
    exact hE39_58 gm_13 hzz.symm H locs ls hP hD hS (lv_sub hl [0] rfl)
  · replace hf := zIf_f hc hf
    refine lv_aload_n hx hb dX10_wantWorks_45 rfl (lv_at hl 0 rfl) ?_
    refine zGet (ci := 10) (C := RX10) (F := TX10) (N := 54) (v := .ref (hgm 6)) hx hb hts hiX10 hown hK hP 0 19 6 rfl rfl (by decide) rfl rfl rfl dX10_wantWorks_46 ?_
    refine lv_iload_n hx hb dX10_wantWorks_49 rfl (lv_at hl 1 rfl) ?_
    refine lv_iconst (v := 1) hx hb dX10_wantWorks_50 (by decide) ?_
    obtain ⟨hg, hf⟩ := zGd_ok hf
    refine zAstI (w := gm_13) hx hb hK hP hD hS (fun g => wX10 T hgm g gmL_11) 6 6 rfl hg rfl dX10_wantWorks_51 (fun gm_15 egm_15 H locs hP hD hS => ?_)
    replace hP : va_P D vwCl (wX10 T hgm gm_15 gmL_11) H := hP
    replace hD : va_D A (wX10 T hgm gm_15 gmL_11) := hD
    replace hf := zLt_at egm_15 hf
    obtain ⟨v16, ev16⟩ : ∃ y : Int32, y = v12 + 1 := ⟨_, rfl⟩
    replace hf := zLt_at ev16 hf
    refine lv_iinc (v := v16) (lv' := [(1, .int v16), (0, .ref (hgm 0))]) hx hb dX10_wantWorks_52 hl (k := 1) rfl (by rw [ev16]; rfl) (by decide) rfl (fun ls hl => ?_)
    refine lv_goto (tgt := 39) hx hb dX10_wantWorks_55 (by decide) ?_
    cases hf
    exact hzz H locs ls hP hD hS (lv_sub hl [1, 0] rfl)
set_option maxHeartbeats 4000000 in
set_option maxRecDepth 100000 in
theorem pX10_begin (l : Launch) (D : va_G) (T : Nat → ClassId) (X : zFP) (hgm : Nat → Nat) (sz : Nat) (gm : zM) (gml : zL) (a1 : Int32) (ngm : zM) (hf : fX10_begin gm gml a1 = some ngm) : Met l yX10_begin wsX10_begin rX10_begin (zPre D T X [.ref (hgm 0), .int a1] (wX10 T hgm gm gml) sz) (zQv D T (wX10 T hgm ngm gml) (wX10 T hgm gm gml) sz) 0 0 (va_A (wX10 T hgm gm gml) sz) := by
  unfold fX10_begin at hf
  refine zStart [(0, .ref (hgm 0)), (1, .int a1)] (by decide) rfl (Nat.le_of_ble_eq_true rfl) rfl ?_
  intro p e s m args below meth c A Q ls hx hb hr hml hown hlocks hts hsz hA0 hQ hA hK hX hP hD hS hl
  replace hown : s.vm.findClass RX10 = some m.cls := hown
  have hH := hsz
  have hiX10 : ∀ w ∈ u_ws RX10 TX10 54, w ∈ wsX10_begin := fun w h => List.mem_cons_of_mem _ (List.mem_append_right _ (h))
  obtain ⟨H, hHe⟩ : ∃ H : Heap, H = s.heap := ⟨_, rfl⟩
  obtain ⟨locs, hLe⟩ : ∃ L : List Loc, L = [] := ⟨_, rfl⟩
  replace hP : va_P D vwCl (wX10 T hgm gm gml) H := by rw [hHe]; exact hP
  replace hS : va_S A s.heap H locs := by rw [hHe, hLe]; exact hS
  suffices hgo : W p l e rX10_begin s m args below meth c H locs 0 0 Q (F0 m 0 ls []) by rw [hHe, hLe] at hgo; exact hgo
  clear hHe hLe
  refine lv_aload_n hx hb dX10_begin_0 rfl (lv_at hl 0 rfl) ?_
  refine lv_iload_n hx hb dX10_begin_1 rfl (lv_at hl 1 rfl) ?_
  refine zPut (ci := 10) (C := RX10) (F := TX10) (N := 54) (x := a1) (w := gm) hx hb hts hiX10 tyX10 tyX10_ok nmX10 hown hK hP hD hS (fun g => wX10 T hgm g gml) 0 0 1 rfl rfl (by decide) rfl rfl rfl ⟨rfl, rfl⟩ (Nat.le_of_ble_eq_true rfl) rfl dX10_begin_2 (fun gm_1 egm_1 H locs hP hD hS => ?_)
  replace hP : va_P D vwCl (wX10 T hgm gm_1 gml) H := hP
  replace hD : va_D A (wX10 T hgm gm_1 gml) := hD
  replace hf := zLt_at egm_1 hf
  refine lv_aload_n hx hb dX10_begin_5 rfl (lv_at hl 0 rfl) ?_
  refine lv_iconst (v := 0) hx hb dX10_begin_6 (by decide) ?_
  refine zPut (ci := 10) (C := RX10) (F := TX10) (N := 54) (x := 0) (w := gm_1) hx hb hts hiX10 tyX10 tyX10_ok nmX10 hown hK hP hD hS (fun g => wX10 T hgm g gml) 0 2 2 rfl rfl (by decide) rfl rfl rfl ⟨rfl, rfl⟩ (Nat.le_of_ble_eq_true rfl) rfl dX10_begin_7 (fun gm_2 egm_2 H locs hP hD hS => ?_)
  replace hP : va_P D vwCl (wX10 T hgm gm_2 gml) H := hP
  replace hD : va_D A (wX10 T hgm gm_2 gml) := hD
  replace hf := zLt_at egm_2 hf
  refine lv_aload_n hx hb dX10_begin_10 rfl (lv_at hl 0 rfl) ?_
  refine lv_iconst (v := 0) hx hb dX10_begin_11 (by decide) ?_
  refine zPut (ci := 10) (C := RX10) (F := TX10) (N := 54) (x := 0) (w := gm_2) hx hb hts hiX10 tyX10 tyX10_ok nmX10 hown hK hP hD hS (fun g => wX10 T hgm g gml) 0 4 3 rfl rfl (by decide) rfl rfl rfl ⟨rfl, rfl⟩ (Nat.le_of_ble_eq_true rfl) rfl dX10_begin_12 (fun gm_3 egm_3 H locs hP hD hS => ?_)
  replace hP : va_P D vwCl (wX10 T hgm gm_3 gml) H := hP
  replace hD : va_D A (wX10 T hgm gm_3 gml) := hD
  replace hf := zLt_at egm_3 hf
  refine lv_aload_n hx hb dX10_begin_15 rfl (lv_at hl 0 rfl) ?_
  refine lv_iconst (v := 0) hx hb dX10_begin_16 (by decide) ?_
  refine zPut (ci := 10) (C := RX10) (F := TX10) (N := 54) (x := 0) (w := gm_3) hx hb hts hiX10 tyX10 tyX10_ok nmX10 hown hK hP hD hS (fun g => wX10 T hgm g gml) 0 36 4 rfl rfl (by decide) rfl rfl rfl ⟨rfl, rfl⟩ (Nat.le_of_ble_eq_true rfl) rfl dX10_begin_17 (fun gm_4 egm_4 H locs hP hD hS => ?_)
  replace hP : va_P D vwCl (wX10 T hgm gm_4 gml) H := hP
  replace hD : va_D A (wX10 T hgm gm_4 gml) := hD
  replace hf := zLt_at egm_4 hf
  refine lv_iconst (v := 0) hx hb dX10_begin_20 (by decide) ?_
  refine lv_istore_n (lv' := [(2, .int 0), (0, .ref (hgm 0)), (1, .int a1)]) hx hb dX10_begin_21 rfl hl (by decide) rfl (fun ls hl => ?_)
  obtain ⟨ex, hlp, hf⟩ := zB1_ok hf
  have hE22_48 : ∀ (gm_7 : zM) , ex = gm_7 → ∀ (H : Heap) (locs : List Loc) (ls : Array Slot), va_P D vwCl (wX10 T hgm gm_7 gml) H → va_D A (wX10 T hgm gm_7 gml) → va_S A s.heap H locs → lv_has ls 3 [] → W p l e rX10_begin s m args below meth c H locs 0 0 Q (F0 m 48 ls []) := by
    intro gm_7 hex H locs ls hP hD hS hl
    have hf := zEx1 hex hf
    obtain ⟨q1, -⟩ := zI1 hf
    subst q1
    exact zRetV hQ hx hb hr hlocks hA0 hK hP hD hS dX10_begin_48
  refine zLpS2 (body := fX10_begin_L22) (b := ex) (fun (v5 : Int32) (gm_6 : zM) => ∀ (H : Heap) (locs : List Loc) (ls : Array Slot), va_P D vwCl (wX10 T hgm gm_6 gml) H → va_D A (wX10 T hgm gm_6 gml) → va_S A s.heap H locs → lv_has ls 3 [(0, .ref (hgm 0)), (2, .int v5)] → W p l e rX10_begin s m args below meth c H locs 0 0 Q (F0 m 22 ls [])) ?_ zFU 0 gm_4 hlp H locs ls hP hD hS (lv_sub hl [1, 0] rfl)
  intro v5 gm_6 z hf hzz H locs ls hP hD hS hl
  unfold fX10_begin_L22 at hf
  replace hf := zUk2 hf
  refine lv_iload_n hx hb dX10_begin_22 rfl (lv_at hl 1 rfl) ?_
  refine lv_bipush (v := 10) hx hb dX10_begin_23 (by decide) ?_
  refine lv_icmp_ge (tgt := 48) hx hb dX10_begin_25 (by decide) (fun hc => ?_) (fun hc => ?_)
  · replace hf := zIf_t hc hf
    cases hf
    exact hE22_48 gm_6 hzz.symm H locs ls hP hD hS (lv_sub hl [] rfl)
  · replace hf := zIf_f hc hf
    refine lv_aload_n hx hb dX10_begin_28 rfl (lv_at hl 0 rfl) ?_
    refine zGet (ci := 10) (C := RX10) (F := TX10) (N := 54) (v := .ref (hgm 1)) hx hb hts hiX10 hown hK hP 0 1 5 rfl rfl (by decide) rfl rfl rfl dX10_begin_29 ?_
    refine lv_iload_n hx hb dX10_begin_32 rfl (lv_at hl 1 rfl) ?_
    refine lv_iconst (v := 1) hx hb dX10_begin_33 (by decide) ?_
    obtain ⟨hg, hf⟩ := zGd_ok hf
    refine zAstI (w := gm_6) hx hb hK hP hD hS (fun g => wX10 T hgm g gml) 1 1 rfl hg rfl dX10_begin_34 (fun gm_8 egm_8 H locs hP hD hS => ?_)
    replace hP : va_P D vwCl (wX10 T hgm gm_8 gml) H := hP
    replace hD : va_D A (wX10 T hgm gm_8 gml) := hD
    replace hf := zLt_at egm_8 hf
    refine lv_aload_n hx hb dX10_begin_35 rfl (lv_at hl 0 rfl) ?_
    refine zGet (ci := 10) (C := RX10) (F := TX10) (N := 54) (v := .ref (hgm 4)) hx hb hts hiX10 hown hK hP 0 6 6 rfl rfl (by decide) rfl rfl rfl dX10_begin_36 ?_
    refine lv_iload_n hx hb dX10_begin_39 rfl (lv_at hl 1 rfl) ?_
    refine lv_iconst (v := 0) hx hb dX10_begin_40 (by decide) ?_
    obtain ⟨hg, hf⟩ := zGd_ok hf
    refine zAstI (w := gm_8) hx hb hK hP hD hS (fun g => wX10 T hgm g gml) 4 4 rfl hg rfl dX10_begin_41 (fun gm_9 egm_9 H locs hP hD hS => ?_)
    replace hP : va_P D vwCl (wX10 T hgm gm_9 gml) H := hP
    replace hD : va_D A (wX10 T hgm gm_9 gml) := hD
    replace hf := zLt_at egm_9 hf
    obtain ⟨v10, ev10⟩ : ∃ y : Int32, y = v5 + 1 := ⟨_, rfl⟩
    replace hf := zLt_at ev10 hf
    refine lv_iinc (v := v10) (lv' := [(2, .int v10), (0, .ref (hgm 0))]) hx hb dX10_begin_42 hl (k := 1) rfl (by rw [ev10]; rfl) (by decide) rfl (fun ls hl => ?_)
    refine lv_goto (tgt := 22) hx hb dX10_begin_45 (by decide) ?_
    cases hf
    exact hzz H locs ls hP hD hS (lv_sub hl [1, 0] rfl)
set_option maxHeartbeats 4000000 in
set_option maxRecDepth 100000 in
theorem pX10_works (l : Launch) (D : va_G) (T : Nat → ClassId) (X : zFP) (hgm : Nat → Nat) (sz : Nat) (gm : zM) (gml : zL) (r : Int32) (ngm : zM) (ngml : zL) (hf : fX10_works gm gml = some (r, ngm, ngml)) : Met l yX10_works wsX10_works rX10_works (zPre D T X [.ref (hgm 0)] (wX10 T hgm gm gml) sz) (zQi D T r (wX10 T hgm ngm ngml) (wX10 T hgm gm gml) sz) 0 0 (va_A (wX10 T hgm gm gml) sz) := by
  unfold fX10_works at hf
  refine zStart [(0, .ref (hgm 0))] (by decide) rfl (Nat.le_of_ble_eq_true rfl) rfl ?_
  intro p e s m args below meth c A Q ls hx hb hr hml hown hlocks hts hsz hA0 hQ hA hK hX hP hD hS hl
  replace hown : s.vm.findClass RX10 = some m.cls := hown
  have hH := hsz
  have hiX10 : ∀ w ∈ u_ws RX10 TX10 54, w ∈ wsX10_works := fun w h => List.mem_cons_of_mem _ (List.mem_append_right _ (h))
  obtain ⟨H, hHe⟩ : ∃ H : Heap, H = s.heap := ⟨_, rfl⟩
  obtain ⟨locs, hLe⟩ : ∃ L : List Loc, L = [] := ⟨_, rfl⟩
  replace hP : va_P D vwCl (wX10 T hgm gm gml) H := by rw [hHe]; exact hP
  replace hS : va_S A s.heap H locs := by rw [hHe, hLe]; exact hS
  suffices hgo : W p l e rX10_works s m args below meth c H locs 0 0 Q (F0 m 0 ls []) by rw [hHe, hLe] at hgo; exact hgo
  clear hHe hLe
  refine lv_aload_n hx hb dX10_works_0 rfl (lv_at hl 0 rfl) ?_
  refine lv_iconst (v := 0) hx hb dX10_works_1 (by decide) ?_
  refine zPut (ci := 10) (C := RX10) (F := TX10) (N := 54) (x := 0) (w := gm) hx hb hts hiX10 tyX10 tyX10_ok nmX10 hown hK hP hD hS (fun g => wX10 T hgm g gml) 0 12 1 rfl rfl (by decide) rfl rfl rfl ⟨rfl, rfl⟩ (Nat.le_of_ble_eq_true rfl) rfl dX10_works_2 (fun gm_1 egm_1 H locs hP hD hS => ?_)
  replace hP : va_P D vwCl (wX10 T hgm gm_1 gml) H := hP
  replace hD : va_D A (wX10 T hgm gm_1 gml) := hD
  replace hf := zLt_at egm_1 hf
  refine lv_aload_n hx hb dX10_works_5 rfl (lv_at hl 0 rfl) ?_
  obtain ⟨gm_2, gmL_3, hc6, hf⟩ := zB2_ok hf
  refine zCallVEV [] ⟨hx, hb, hml, hown, hts⟩ (pX10_advance l D T X hgm H.size gm_1 gml gm_2 gmL_3 hc6) (cwV 0 hts gX10_works_X10_advance rfl rfl rfl (by decide +kernel) ⟨Nat.le_of_ble_eq_true rfl, Nat.le_of_ble_eq_true rfl⟩) hK hP hD hS hA hX 0 rfl rfl rfl hl.1 rfl (Nat.le_of_ble_eq_true rfl) dX10_works_6 ⟨Nat.zero_le _, Nat.zero_le _⟩ (fun H locs hP hD hS => ?_)
  refine lv_aload_n hx hb dX10_works_9 rfl (lv_at hl 0 rfl) ?_
  obtain ⟨gm_4, gmL_5, hc10, hf⟩ := zB2_ok hf
  refine zCallVEV [] ⟨hx, hb, hml, hown, hts⟩ (pX10_wantWorks l D T X hgm H.size gm_2 gmL_3 gm_4 gmL_5 hc10) (cwV 0 hts gX10_works_X10_wantWorks rfl rfl rfl (by decide +kernel) ⟨Nat.le_of_ble_eq_true rfl, Nat.le_of_ble_eq_true rfl⟩) hK hP hD hS hA hX 0 rfl rfl rfl hl.1 rfl (Nat.le_of_ble_eq_true rfl) dX10_works_10 ⟨Nat.zero_le _, Nat.zero_le _⟩ (fun H locs hP hD hS => ?_)
  refine lv_aload_n hx hb dX10_works_13 rfl (lv_at hl 0 rfl) ?_
  refine lv_iconst (v := 0) hx hb dX10_works_14 (by decide) ?_
  refine zPut (ci := 10) (C := RX10) (F := TX10) (N := 54) (x := 0) (w := gm_4) hx hb hts hiX10 tyX10 tyX10_ok nmX10 hown hK hP hD hS (fun g => wX10 T hgm g gmL_5) 0 9 2 rfl rfl (by decide) rfl rfl rfl ⟨rfl, rfl⟩ (Nat.le_of_ble_eq_true rfl) rfl dX10_works_15 (fun gm_6 egm_6 H locs hP hD hS => ?_)
  replace hP : va_P D vwCl (wX10 T hgm gm_6 gmL_5) H := hP
  replace hD : va_D A (wX10 T hgm gm_6 gmL_5) := hD
  replace hf := zLt_at egm_6 hf
  refine lv_aload_n hx hb dX10_works_18 rfl (lv_at hl 0 rfl) ?_
  refine zGet (ci := 10) (C := RX10) (F := TX10) (N := 54) (v := .int (gm_6 0 15)) hx hb hts hiX10 hown hK hP 0 15 3 rfl rfl (by decide) rfl rfl rfl dX10_works_19 ?_
  refine lv_if_ne (tgt := 33) hx hb dX10_works_22 (by decide) (fun hc => ?_) (fun hc => ?_)
  · replace hf := zIf_f hc hf
    refine lv_aload_n hx hb dX10_works_33 rfl (lv_at hl 0 rfl) ?_
    refine lv_aload_n hx hb dX10_works_34 rfl (lv_at hl 0 rfl) ?_
    refine zGet (ci := 10) (C := RX10) (F := TX10) (N := 54) (v := .int (gm_6 0 16)) hx hb hts hiX10 hown hK hP 0 16 5 rfl rfl (by decide) rfl rfl rfl dX10_works_35 ?_
    obtain ⟨gm_7, hc38, hf⟩ := zB1_ok hf
    refine zCallVEV [.int (gm_6 0 16)] ⟨hx, hb, hml, hown, hts⟩ (pX10_begin l D T X hgm H.size gm_6 gmL_5 (gm_6 0 16) gm_7 hc38) (cwV 1 hts gX10_works_X10_begin rfl rfl rfl (by decide +kernel) ⟨Nat.le_of_ble_eq_true rfl, Nat.le_of_ble_eq_true rfl⟩) hK hP hD hS hA hX 0 rfl rfl rfl hl.1 rfl (Nat.le_of_ble_eq_true rfl) dX10_works_38 ⟨Nat.zero_le _, Nat.zero_le _⟩ (fun H locs hP hD hS => ?_)
    refine lv_aload_n hx hb dX10_works_41 rfl (lv_at hl 0 rfl) ?_
    refine lv_aload_n hx hb dX10_works_42 rfl (lv_at hl 0 rfl) ?_
    refine zGet (ci := 10) (C := RX10) (F := TX10) (N := 54) (v := .int (gm_7 0 17)) hx hb hts hiX10 hown hK hP 0 17 6 rfl rfl (by decide) rfl rfl rfl dX10_works_43 ?_
    refine lv_topi (fun v8 ev8 => ?_)
    replace hf := zLt_at ev8 hf
    refine zPut (ci := 10) (C := RX10) (F := TX10) (N := 54) (x := v8) (w := gm_7) hx hb hts hiX10 tyX10 tyX10_ok nmX10 hown hK hP hD hS (fun g => wX10 T hgm g gmL_5) 0 2 7 rfl rfl (by decide) rfl rfl rfl ⟨rfl, rfl⟩ (Nat.le_of_ble_eq_true rfl) rfl dX10_works_46 (fun gm_9 egm_9 H locs hP hD hS => ?_)
    replace hP : va_P D vwCl (wX10 T hgm gm_9 gmL_5) H := hP
    replace hD : va_D A (wX10 T hgm gm_9 gmL_5) := hD
    replace hf := zLt_at egm_9 hf
    refine lv_aload_n hx hb dX10_works_49 rfl (lv_at hl 0 rfl) ?_
    refine lv_aload_n hx hb dX10_works_50 rfl (lv_at hl 0 rfl) ?_
    refine zGet (ci := 10) (C := RX10) (F := TX10) (N := 54) (v := .int (gm_9 0 18)) hx hb hts hiX10 hown hK hP 0 18 8 rfl rfl (by decide) rfl rfl rfl dX10_works_51 ?_
    refine lv_topi (fun v10 ev10 => ?_)
    replace hf := zLt_at ev10 hf
    refine zPut (ci := 10) (C := RX10) (F := TX10) (N := 54) (x := v10) (w := gm_9) hx hb hts hiX10 tyX10 tyX10_ok nmX10 hown hK hP hD hS (fun g => wX10 T hgm g gmL_5) 0 4 9 rfl rfl (by decide) rfl rfl rfl ⟨rfl, rfl⟩ (Nat.le_of_ble_eq_true rfl) rfl dX10_works_54 (fun gm_11 egm_11 H locs hP hD hS => ?_)
    replace hP : va_P D vwCl (wX10 T hgm gm_11 gmL_5) H := hP
    replace hD : va_D A (wX10 T hgm gm_11 gmL_5) := hD
    replace hf := zLt_at egm_11 hf
    refine lv_iconst (v := 0) hx hb dX10_works_57 (by decide) ?_
    refine lv_istore_n (lv' := [(1, .int 0), (0, .ref (hgm 0))]) hx hb dX10_works_58 rfl hl (by decide) rfl (fun ls hl => ?_)
    obtain ⟨ex, hlp, hf⟩ := zB1_ok hf
    have hE59_83 : ∀ (gm_14 : zM) , ex = gm_14 → ∀ (H : Heap) (locs : List Loc) (ls : Array Slot), va_P D vwCl (wX10 T hgm gm_14 gmL_5) H → va_D A (wX10 T hgm gm_14 gmL_5) → va_S A s.heap H locs → lv_has ls 2 [(0, .ref (hgm 0))] → W p l e rX10_works s m args below meth c H locs 0 0 Q (F0 m 83 ls []) := by
      intro gm_14 hex H locs ls hP hD hS hl
      have hf := zEx1 hex hf
      refine lv_iconst (v := 0) hx hb dX10_works_83 (by decide) ?_
      refine lv_istore_n (lv' := [(1, .int 0), (0, .ref (hgm 0))]) hx hb dX10_works_84 rfl hl (by decide) rfl (fun ls hl => ?_)
      obtain ⟨ex, hlp, hf⟩ := zB1_ok hf
      have hE85_113 : ∀ (gm_20 : zM) , ex = gm_20 → ∀ (H : Heap) (locs : List Loc) (ls : Array Slot), va_P D vwCl (wX10 T hgm gm_20 gmL_5) H → va_D A (wX10 T hgm gm_20 gmL_5) → va_S A s.heap H locs → lv_has ls 2 [(0, .ref (hgm 0))] → W p l e rX10_works s m args below meth c H locs 0 0 Q (F0 m 113 ls []) := by
        intro gm_20 hex H locs ls hP hD hS hl
        have hf := zEx1 hex hf
        refine lv_iconst (v := 0) hx hb dX10_works_113 (by decide) ?_
        refine lv_istore_n (lv' := [(1, .int 0), (0, .ref (hgm 0))]) hx hb dX10_works_114 rfl hl (by decide) rfl (fun ls hl => ?_)
        obtain ⟨ex, hlp, hf⟩ := zB1_ok hf
        have hE115_143 : ∀ (gm_26 : zM) , ex = gm_26 → ∀ (H : Heap) (locs : List Loc) (ls : Array Slot), va_P D vwCl (wX10 T hgm gm_26 gmL_5) H → va_D A (wX10 T hgm gm_26 gmL_5) → va_S A s.heap H locs → lv_has ls 2 [(0, .ref (hgm 0))] → W p l e rX10_works s m args below meth c H locs 0 0 Q (F0 m 143 ls []) := by
          intro gm_26 hex H locs ls hP hD hS hl
          have hf := zEx1 hex hf
          refine lv_aload_n hx hb dX10_works_143 rfl (lv_at hl 0 rfl) ?_
          refine zGet (ci := 10) (C := RX10) (F := TX10) (N := 54) (v := .int (gm_26 0 2)) hx hb hts hiX10 hown hK hP 0 2 7 rfl rfl (by decide) rfl rfl rfl dX10_works_144 ?_
          obtain ⟨q1, q2, q3⟩ := zI3 hf
          subst q1
          subst q2
          subst q3
          exact zRetI hQ hx hb hr hlocks hA0 hK hP hD hS rfl dX10_works_147
        refine zLpS2 (body := fX10_works_L115) (b := ex) (fun (v24 : Int32) (gm_25 : zM) => ∀ (H : Heap) (locs : List Loc) (ls : Array Slot), va_P D vwCl (wX10 T hgm gm_25 gmL_5) H → va_D A (wX10 T hgm gm_25 gmL_5) → va_S A s.heap H locs → lv_has ls 2 [(0, .ref (hgm 0)), (1, .int v24)] → W p l e rX10_works s m args below meth c H locs 0 0 Q (F0 m 115 ls [])) ?_ zFU 0 gm_20 hlp H locs ls hP hD hS (lv_sub hl [1, 0] rfl)
        intro v24 gm_25 z hf hzz H locs ls hP hD hS hl
        unfold fX10_works_L115 at hf
        replace hf := zUk2 hf
        refine lv_iload_n hx hb dX10_works_115 rfl (lv_at hl 1 rfl) ?_
        refine lv_iconst (v := 3) hx hb dX10_works_116 (by decide) ?_
        refine lv_aload_n hx hb dX10_works_117 rfl (lv_at hl 0 rfl) ?_
        refine zGet (ci := 10) (C := RX10) (F := TX10) (N := 54) (v := .int (gm_25 0 4)) hx hb hts hiX10 hown hK hP 0 4 9 rfl rfl (by decide) rfl rfl rfl dX10_works_118 ?_
        refine lv_imul hx hb dX10_works_121 ?_
        refine lv_icmp_ge (tgt := 143) hx hb dX10_works_122 (by decide) (fun hc => ?_) (fun hc => ?_)
        · replace hf := zIf_t hc hf
          cases hf
          exact hE115_143 gm_25 hzz.symm H locs ls hP hD hS (lv_sub hl [0] rfl)
        · replace hf := zIf_f hc hf
          refine lv_aload_n hx hb dX10_works_125 rfl (lv_at hl 0 rfl) ?_
          refine zGet (ci := 10) (C := RX10) (F := TX10) (N := 54) (v := .ref (hgm 3)) hx hb hts hiX10 hown hK hP 0 5 14 rfl rfl (by decide) rfl rfl rfl dX10_works_126 ?_
          refine lv_iload_n hx hb dX10_works_129 rfl (lv_at hl 1 rfl) ?_
          refine lv_aload_n hx hb dX10_works_130 rfl (lv_at hl 0 rfl) ?_
          refine zGet (ci := 10) (C := RX10) (F := TX10) (N := 54) (v := .ref (hgm 8)) hx hb hts hiX10 hown hK hP 0 21 15 rfl rfl (by decide) rfl rfl rfl dX10_works_131 ?_
          refine lv_iload_n hx hb dX10_works_134 rfl (lv_at hl 1 rfl) ?_
          obtain ⟨hg, hf⟩ := zGd_ok hf
          refine zAldI hx hb hK hP 8 rfl hg dX10_works_135 (fun v27 ev27 => ?_)
          replace hf := zLt_at ev27 hf
          obtain ⟨hg, hf⟩ := zGd_ok hf
          refine zAstI (w := gm_25) hx hb hK hP hD hS (fun g => wX10 T hgm g gmL_5) 3 3 rfl hg rfl dX10_works_136 (fun gm_28 egm_28 H locs hP hD hS => ?_)
          replace hP : va_P D vwCl (wX10 T hgm gm_28 gmL_5) H := hP
          replace hD : va_D A (wX10 T hgm gm_28 gmL_5) := hD
          replace hf := zLt_at egm_28 hf
          obtain ⟨v29, ev29⟩ : ∃ y : Int32, y = v24 + 1 := ⟨_, rfl⟩
          replace hf := zLt_at ev29 hf
          refine lv_iinc (v := v29) (lv' := [(1, .int v29), (0, .ref (hgm 0))]) hx hb dX10_works_137 hl (k := 1) rfl (by rw [ev29]; rfl) (by decide) rfl (fun ls hl => ?_)
          refine lv_goto (tgt := 115) hx hb dX10_works_140 (by decide) ?_
          cases hf
          exact hzz H locs ls hP hD hS (lv_sub hl [1, 0] rfl)
      refine zLpS2 (body := fX10_works_L85) (b := ex) (fun (v18 : Int32) (gm_19 : zM) => ∀ (H : Heap) (locs : List Loc) (ls : Array Slot), va_P D vwCl (wX10 T hgm gm_19 gmL_5) H → va_D A (wX10 T hgm gm_19 gmL_5) → va_S A s.heap H locs → lv_has ls 2 [(0, .ref (hgm 0)), (1, .int v18)] → W p l e rX10_works s m args below meth c H locs 0 0 Q (F0 m 85 ls [])) ?_ zFU 0 gm_14 hlp H locs ls hP hD hS (lv_sub hl [1, 0] rfl)
      intro v18 gm_19 z hf hzz H locs ls hP hD hS hl
      unfold fX10_works_L85 at hf
      replace hf := zUk2 hf
      refine lv_iload_n hx hb dX10_works_85 rfl (lv_at hl 1 rfl) ?_
      refine lv_iconst (v := 5) hx hb dX10_works_86 (by decide) ?_
      refine lv_aload_n hx hb dX10_works_87 rfl (lv_at hl 0 rfl) ?_
      refine zGet (ci := 10) (C := RX10) (F := TX10) (N := 54) (v := .int (gm_19 0 2)) hx hb hts hiX10 hown hK hP 0 2 7 rfl rfl (by decide) rfl rfl rfl dX10_works_88 ?_
      refine lv_imul hx hb dX10_works_91 ?_
      refine lv_icmp_ge (tgt := 113) hx hb dX10_works_92 (by decide) (fun hc => ?_) (fun hc => ?_)
      · replace hf := zIf_t hc hf
        cases hf
        exact hE85_113 gm_19 hzz.symm H locs ls hP hD hS (lv_sub hl [0] rfl)
      · replace hf := zIf_f hc hf
        refine lv_aload_n hx hb dX10_works_95 rfl (lv_at hl 0 rfl) ?_
        refine zGet (ci := 10) (C := RX10) (F := TX10) (N := 54) (v := .ref (hgm 2)) hx hb hts hiX10 hown hK hP 0 3 12 rfl rfl (by decide) rfl rfl rfl dX10_works_96 ?_
        refine lv_iload_n hx hb dX10_works_99 rfl (lv_at hl 1 rfl) ?_
        refine lv_aload_n hx hb dX10_works_100 rfl (lv_at hl 0 rfl) ?_
        refine zGet (ci := 10) (C := RX10) (F := TX10) (N := 54) (v := .ref (hgm 7)) hx hb hts hiX10 hown hK hP 0 20 13 rfl rfl (by decide) rfl rfl rfl dX10_works_101 ?_
        refine lv_iload_n hx hb dX10_works_104 rfl (lv_at hl 1 rfl) ?_
        obtain ⟨hg, hf⟩ := zGd_ok hf
        refine zAldI hx hb hK hP 7 rfl hg dX10_works_105 (fun v21 ev21 => ?_)
        replace hf := zLt_at ev21 hf
        obtain ⟨hg, hf⟩ := zGd_ok hf
        refine zAstI (w := gm_19) hx hb hK hP hD hS (fun g => wX10 T hgm g gmL_5) 2 2 rfl hg rfl dX10_works_106 (fun gm_22 egm_22 H locs hP hD hS => ?_)
        replace hP : va_P D vwCl (wX10 T hgm gm_22 gmL_5) H := hP
        replace hD : va_D A (wX10 T hgm gm_22 gmL_5) := hD
        replace hf := zLt_at egm_22 hf
        obtain ⟨v23, ev23⟩ : ∃ y : Int32, y = v18 + 1 := ⟨_, rfl⟩
        replace hf := zLt_at ev23 hf
        refine lv_iinc (v := v23) (lv' := [(1, .int v23), (0, .ref (hgm 0))]) hx hb dX10_works_107 hl (k := 1) rfl (by rw [ev23]; rfl) (by decide) rfl (fun ls hl => ?_)
        refine lv_goto (tgt := 85) hx hb dX10_works_110 (by decide) ?_
        cases hf
        exact hzz H locs ls hP hD hS (lv_sub hl [1, 0] rfl)
    refine zLpS2 (body := fX10_works_L59) (b := ex) (fun (v12 : Int32) (gm_13 : zM) => ∀ (H : Heap) (locs : List Loc) (ls : Array Slot), va_P D vwCl (wX10 T hgm gm_13 gmL_5) H → va_D A (wX10 T hgm gm_13 gmL_5) → va_S A s.heap H locs → lv_has ls 2 [(0, .ref (hgm 0)), (1, .int v12)] → W p l e rX10_works s m args below meth c H locs 0 0 Q (F0 m 59 ls [])) ?_ zFU 0 gm_11 hlp H locs ls hP hD hS (lv_sub hl [1, 0] rfl)
    intro v12 gm_13 z hf hzz H locs ls hP hD hS hl
    unfold fX10_works_L59 at hf
    replace hf := zUk2 hf
    refine lv_iload_n hx hb dX10_works_59 rfl (lv_at hl 1 rfl) ?_
    refine lv_bipush (v := 10) hx hb dX10_works_60 (by decide) ?_
    refine lv_icmp_ge (tgt := 83) hx hb dX10_works_62 (by decide) (fun hc => ?_) (fun hc => ?_)
    · replace hf := zIf_t hc hf
      cases hf
      exact hE59_83 gm_13 hzz.symm H locs ls hP hD hS (lv_sub hl [0] rfl)
    · replace hf := zIf_f hc hf
      refine lv_aload_n hx hb dX10_works_65 rfl (lv_at hl 0 rfl) ?_
      refine zGet (ci := 10) (C := RX10) (F := TX10) (N := 54) (v := .ref (hgm 1)) hx hb hts hiX10 hown hK hP 0 1 10 rfl rfl (by decide) rfl rfl rfl dX10_works_66 ?_
      refine lv_iload_n hx hb dX10_works_69 rfl (lv_at hl 1 rfl) ?_
      refine lv_aload_n hx hb dX10_works_70 rfl (lv_at hl 0 rfl) ?_
      refine zGet (ci := 10) (C := RX10) (F := TX10) (N := 54) (v := .ref (hgm 6)) hx hb hts hiX10 hown hK hP 0 19 11 rfl rfl (by decide) rfl rfl rfl dX10_works_71 ?_
      refine lv_iload_n hx hb dX10_works_74 rfl (lv_at hl 1 rfl) ?_
      obtain ⟨hg, hf⟩ := zGd_ok hf
      refine zAldI hx hb hK hP 6 rfl hg dX10_works_75 (fun v15 ev15 => ?_)
      replace hf := zLt_at ev15 hf
      obtain ⟨hg, hf⟩ := zGd_ok hf
      refine zAstI (w := gm_13) hx hb hK hP hD hS (fun g => wX10 T hgm g gmL_5) 1 1 rfl hg rfl dX10_works_76 (fun gm_16 egm_16 H locs hP hD hS => ?_)
      replace hP : va_P D vwCl (wX10 T hgm gm_16 gmL_5) H := hP
      replace hD : va_D A (wX10 T hgm gm_16 gmL_5) := hD
      replace hf := zLt_at egm_16 hf
      obtain ⟨v17, ev17⟩ : ∃ y : Int32, y = v12 + 1 := ⟨_, rfl⟩
      replace hf := zLt_at ev17 hf
      refine lv_iinc (v := v17) (lv' := [(1, .int v17), (0, .ref (hgm 0))]) hx hb dX10_works_77 hl (k := 1) rfl (by rw [ev17]; rfl) (by decide) rfl (fun ls hl => ?_)
      refine lv_goto (tgt := 59) hx hb dX10_works_80 (by decide) ?_
      cases hf
      exact hzz H locs ls hP hD hS (lv_sub hl [1, 0] rfl)
  · replace hf := zIf_t hc hf
    refine lv_bipush (v := (-100)) hx hb dX10_works_25 (by decide) ?_
    refine lv_aload_n hx hb dX10_works_27 rfl (lv_at hl 0 rfl) ?_
    refine zGet (ci := 10) (C := RX10) (F := TX10) (N := 54) (v := .int (gm_6 0 11)) hx hb hts hiX10 hown hK hP 0 11 4 rfl rfl (by decide) rfl rfl rfl dX10_works_28 ?_
    refine lv_isub hx hb dX10_works_31 ?_
    obtain ⟨q1, q2, q3⟩ := zI3 hf
    subst q1
    subst q2
    subst q3
    exact zRetI hQ hx hb hr hlocks hA0 hK hP hD hS rfl dX10_works_32
set_option maxHeartbeats 4000000 in
set_option maxRecDepth 100000 in
theorem pX10_people (l : Launch) (D : va_G) (T : Nat → ClassId) (X : zFP) (hgm : Nat → Nat) (sz : Nat) (gm : zM) (gml : zL) (a1 : Int32) (r : Int32) (ngm : zM) (hf : fX10_people gm gml a1 = some (r, ngm)) : Met l yX10_people wsX10_people rX10_people (zPre D T X [.ref (hgm 0), .int a1] (wX10 T hgm gm gml) sz) (zQi D T r (wX10 T hgm ngm gml) (wX10 T hgm gm gml) sz) 0 0 (va_A (wX10 T hgm gm gml) sz) := by
  unfold fX10_people at hf
  refine zStart [(0, .ref (hgm 0)), (1, .int a1)] (by decide) rfl (Nat.le_of_ble_eq_true rfl) rfl ?_
  intro p e s m args below meth c A Q ls hx hb hr hml hown hlocks hts hsz hA0 hQ hA hK hX hP hD hS hl
  replace hown : s.vm.findClass RX10 = some m.cls := hown
  have hH := hsz
  obtain ⟨H, hHe⟩ : ∃ H : Heap, H = s.heap := ⟨_, rfl⟩
  obtain ⟨locs, hLe⟩ : ∃ L : List Loc, L = [] := ⟨_, rfl⟩
  replace hP : va_P D vwCl (wX10 T hgm gm gml) H := by rw [hHe]; exact hP
  replace hS : va_S A s.heap H locs := by rw [hHe, hLe]; exact hS
  suffices hgo : W p l e rX10_people s m args below meth c H locs 0 0 Q (F0 m 0 ls []) by rw [hHe, hLe] at hgo; exact hgo
  clear hHe hLe
  refine lv_iload_n hx hb dX10_people_0 rfl (lv_at hl 1 rfl) ?_
  refine lv_iconst (v := 1) hx hb dX10_people_1 (by decide) ?_
  refine lv_bipush (v := 10) hx hb dX10_people_2 (by decide) ?_
  obtain ⟨v1, hc4, hf⟩ := zB1_ok hf
  refine zCallS0I [.int a1, .int 1, .int 10] ⟨hx, hb, hml, hown, hts⟩ (pX10_in l D T X H.size a1 1 10 v1 hc4) (va_cwS 3 hts gX10_people_X10_in rfl rfl rfl (by decide +kernel) ⟨Nat.le_of_ble_eq_true rfl, Nat.le_of_ble_eq_true rfl⟩) hK hP hD hS hA hX rfl hl.1 rfl (Nat.le_of_ble_eq_true rfl) dX10_people_4 ⟨Nat.zero_le _, Nat.zero_le _⟩ (fun H locs hP hD hS => ?_)
  refine lv_if_ne (tgt := 12) hx hb dX10_people_7 (by decide) (fun hc => ?_) (fun hc => ?_)
  · replace hf := zIf_f hc hf
    refine lv_aload_n hx hb dX10_people_12 rfl (lv_at hl 0 rfl) ?_
    refine lv_iload_n hx hb dX10_people_13 rfl (lv_at hl 1 rfl) ?_
    obtain ⟨gm_2, hc14, hf⟩ := zB1_ok hf
    refine zCallVEV [.int a1] ⟨hx, hb, hml, hown, hts⟩ (pX10_begin l D T X hgm H.size gm gml a1 gm_2 hc14) (cwV 1 hts gX10_people_X10_begin rfl rfl rfl (by decide +kernel) ⟨Nat.le_of_ble_eq_true rfl, Nat.le_of_ble_eq_true rfl⟩) hK hP hD hS hA hX 0 rfl rfl rfl hl.1 rfl (Nat.le_of_ble_eq_true rfl) dX10_people_14 ⟨Nat.zero_le _, Nat.zero_le _⟩ (fun H locs hP hD hS => ?_)
    refine lv_iload_n hx hb dX10_people_17 rfl (lv_at hl 1 rfl) ?_
    obtain ⟨q1, q2⟩ := zI2 hf
    subst q1
    subst q2
    exact zRetI hQ hx hb hr hlocks hA0 hK hP hD hS rfl dX10_people_18
  · replace hf := zIf_t hc hf
    refine lv_iconst (v := (-1)) hx hb dX10_people_10 (by decide) ?_
    obtain ⟨q1, q2⟩ := zI2 hf
    subst q1
    subst q2
    exact zRetI hQ hx hb hr hlocks hA0 hK hP hD hS rfl dX10_people_11
set_option maxHeartbeats 4000000 in
set_option maxRecDepth 100000 in
theorem pX10_tie (l : Launch) (D : va_G) (T : Nat → ClassId) (X : zFP) (hgm : Nat → Nat) (sz : Nat) (gm : zM) (gml : zL) (a1 : Int32) (a2 : Int32) (a3 : Int32) (a4 : Int32) (a5 : Int32) (r : Int32) (ngm : zM) (hf : fX10_tie gm gml a1 a2 a3 a4 a5 = some (r, ngm)) : Met l yX10_tie wsX10_tie rX10_tie (zPre D T X [.ref (hgm 0), .int a1, .int a2, .int a3, .int a4, .int a5] (wX10 T hgm gm gml) sz) (zQi D T r (wX10 T hgm ngm gml) (wX10 T hgm gm gml) sz) 0 0 (va_A (wX10 T hgm gm gml) sz) := by
  unfold fX10_tie at hf
  refine zStart [(0, .ref (hgm 0)), (1, .int a1), (2, .int a2), (3, .int a3), (4, .int a4), (5, .int a5)] (by decide) rfl (Nat.le_of_ble_eq_true rfl) rfl ?_
  intro p e s m args below meth c A Q ls hx hb hr hml hown hlocks hts hsz hA0 hQ hA hK hX hP hD hS hl
  replace hown : s.vm.findClass RX10 = some m.cls := hown
  have hH := hsz
  have hiX10 : ∀ w ∈ u_ws RX10 TX10 54, w ∈ wsX10_tie := fun w h => List.mem_cons_of_mem _ (List.mem_append_right _ (h))
  obtain ⟨H, hHe⟩ : ∃ H : Heap, H = s.heap := ⟨_, rfl⟩
  obtain ⟨locs, hLe⟩ : ∃ L : List Loc, L = [] := ⟨_, rfl⟩
  replace hP : va_P D vwCl (wX10 T hgm gm gml) H := by rw [hHe]; exact hP
  replace hS : va_S A s.heap H locs := by rw [hHe, hLe]; exact hS
  suffices hgo : W p l e rX10_tie s m args below meth c H locs 0 0 Q (F0 m 0 ls []) by rw [hHe, hLe] at hgo; exact hgo
  clear hHe hLe
  refine lv_aload_n hx hb dX10_tie_0 rfl (lv_at hl 0 rfl) ?_
  refine lv_iload_n hx hb dX10_tie_1 rfl (lv_at hl 1 rfl) ?_
  refine lv_iload_n hx hb dX10_tie_2 rfl (lv_at hl 2 rfl) ?_
  obtain ⟨v1, hc3, hf⟩ := zB1_ok hf
  refine zCallVEI [.int a1, .int a2] ⟨hx, hb, hml, hown, hts⟩ (pX10_areTwo l D T X hgm H.size gm gml a1 a2 v1 hc3) (cwV 2 hts gX10_tie_X10_areTwo rfl rfl rfl (by decide +kernel) ⟨Nat.le_of_ble_eq_true rfl, Nat.le_of_ble_eq_true rfl⟩) hK hP hD hS hA hX 0 rfl rfl rfl hl.1 rfl (Nat.le_of_ble_eq_true rfl) dX10_tie_3 ⟨Nat.zero_le _, Nat.zero_le _⟩ (fun H locs hP hD hS => ?_)
  refine lv_if_eq (tgt := 29) hx hb dX10_tie_6 (by decide) (fun hc => ?_) (fun hc => ?_)
  · replace hf := zIf_t hc hf
    refine lv_iconst (v := (-1)) hx hb dX10_tie_29 (by decide) ?_
    obtain ⟨q1, q2⟩ := zI2 hf
    subst q1
    subst q2
    exact zRetI hQ hx hb hr hlocks hA0 hK hP hD hS rfl dX10_tie_30
  · replace hf := zIf_f hc hf
    refine lv_iload_n hx hb dX10_tie_9 rfl (lv_at hl 3 rfl) ?_
    refine lv_iconst (v := 0) hx hb dX10_tie_10 (by decide) ?_
    refine lv_bipush (v := 99) hx hb dX10_tie_11 (by decide) ?_
    obtain ⟨v2, hc13, hf⟩ := zB1_ok hf
    refine zCallS0I [.int a3, .int 0, .int 99] ⟨hx, hb, hml, hown, hts⟩ (pX10_in l D T X H.size a3 0 99 v2 hc13) (va_cwS 3 hts gX10_tie_X10_in rfl rfl rfl (by decide +kernel) ⟨Nat.le_of_ble_eq_true rfl, Nat.le_of_ble_eq_true rfl⟩) hK hP hD hS hA hX rfl hl.1 rfl (Nat.le_of_ble_eq_true rfl) dX10_tie_13 ⟨Nat.zero_le _, Nat.zero_le _⟩ (fun H locs hP hD hS => ?_)
    refine lv_if_eq (tgt := 29) hx hb dX10_tie_16 (by decide) (fun hc => ?_) (fun hc => ?_)
    · replace hf := zIf_t hc hf
      refine lv_iconst (v := (-1)) hx hb dX10_tie_29 (by decide) ?_
      obtain ⟨q1, q2⟩ := zI2 hf
      subst q1
      subst q2
      exact zRetI hQ hx hb hr hlocks hA0 hK hP hD hS rfl dX10_tie_30
    · replace hf := zIf_f hc hf
      refine lv_iload hx hb dX10_tie_19 (lv_at hl 4 rfl) ?_
      refine lv_iconst (v := 1) hx hb dX10_tie_21 (by decide) ?_
      refine lv_iconst (v := 4) hx hb dX10_tie_22 (by decide) ?_
      obtain ⟨v3, hc23, hf⟩ := zB1_ok hf
      refine zCallS0I [.int a4, .int 1, .int 4] ⟨hx, hb, hml, hown, hts⟩ (pX10_in l D T X H.size a4 1 4 v3 hc23) (va_cwS 3 hts gX10_tie_X10_in rfl rfl rfl (by decide +kernel) ⟨Nat.le_of_ble_eq_true rfl, Nat.le_of_ble_eq_true rfl⟩) hK hP hD hS hA hX rfl hl.1 rfl (Nat.le_of_ble_eq_true rfl) dX10_tie_23 ⟨Nat.zero_le _, Nat.zero_le _⟩ (fun H locs hP hD hS => ?_)
      refine lv_if_ne (tgt := 31) hx hb dX10_tie_26 (by decide) (fun hc => ?_) (fun hc => ?_)
      · replace hf := zIf_f hc hf
        refine lv_aload_n hx hb dX10_tie_31 rfl (lv_at hl 0 rfl) ?_
        refine zGet (ci := 10) (C := RX10) (F := TX10) (N := 54) (v := .int (gm 0 2)) hx hb hts hiX10 hown hK hP 0 2 1 rfl rfl (by decide) rfl rfl rfl dX10_tie_32 ?_
        refine lv_bipush (v := 14) hx hb dX10_tie_35 (by decide) ?_
        refine lv_icmp_ne (tgt := 43) hx hb dX10_tie_37 (by decide) (fun hc => ?_) (fun hc => ?_)
        · replace hf := zIf_f hc hf
          refine lv_iconst (v := 0) hx hb dX10_tie_43 (by decide) ?_
          refine lv_istore (lv' := [(6, .int 0), (0, .ref (hgm 0)), (1, .int a1), (2, .int a2), (3, .int a3), (4, .int a4), (5, .int a5)]) hx hb dX10_tie_44 hl (by decide) rfl (fun ls hl => ?_)
          obtain ⟨ex, hlp, hf⟩ := zB1_ok hf
          have hE46_80 : ex = (.inl ()) → ∀ (H : Heap) (locs : List Loc) (ls : Array Slot), va_P D vwCl (wX10 T hgm gm gml) H → va_D A (wX10 T hgm gm gml) → va_S A s.heap H locs → lv_has ls 7 [(0, .ref (hgm 0)), (1, .int a1), (2, .int a2), (3, .int a3), (4, .int a4), (5, .int a5)] → W p l e rX10_tie s m args below meth c H locs 0 0 Q (F0 m 80 ls []) := by
            intro hex H locs ls hP hD hS hl
            have hf := zExL0 hex hf
            refine lv_iconst (v := 5) hx hb dX10_tie_80 (by decide) ?_
            refine lv_aload_n hx hb dX10_tie_81 rfl (lv_at hl 0 rfl) ?_
            refine zGet (ci := 10) (C := RX10) (F := TX10) (N := 54) (v := .int (gm 0 2)) hx hb hts hiX10 hown hK hP 0 2 1 rfl rfl (by decide) rfl rfl rfl dX10_tie_82 ?_
            refine lv_imul hx hb dX10_tie_85 ?_
            refine lv_topi (fun v7 ev7 => ?_)
            replace hf := zLt_at ev7 hf
            refine lv_istore (lv' := [(6, .int v7), (0, .ref (hgm 0)), (1, .int a1), (2, .int a2), (3, .int a3), (4, .int a4), (5, .int a5)]) hx hb dX10_tie_86 hl (by decide) rfl (fun ls hl => ?_)
            refine lv_aload_n hx hb dX10_tie_88 rfl (lv_at hl 1 rfl) ?_
            refine zGet (ci := 10) (C := RX10) (F := TX10) (N := 54) (v := .ref (hgm 2)) hx hb hts hiX10 hown hK hP 0 3 2 rfl rfl (by decide) rfl rfl rfl dX10_tie_89 ?_
            refine lv_iload hx hb dX10_tie_92 (lv_at hl 0 rfl) ?_
            refine lv_iload_n hx hb dX10_tie_94 rfl (lv_at hl 2 rfl) ?_
            refine lv_iload_n hx hb dX10_tie_95 rfl (lv_at hl 3 rfl) ?_
            have hJ104 : ∀ (v8 : Int32) (v9 : Int32) (H : Heap) (locs : List Loc) (ls : Array Slot), fX10_tie_J104 a1 a2 a3 a4 a5 gm v7 v8 v9 = some (r, ngm) → va_P D vwCl (wX10 T hgm gm gml) H → va_D A (wX10 T hgm gm gml) → va_S A s.heap H locs → lv_has ls 7 [(0, .ref (hgm 0)), (1, .int a1), (2, .int a2), (3, .int a3), (4, .int a4), (5, .int a5), (6, .int v7)] → W p l e rX10_tie s m args below meth c H locs 0 0 Q (F0 m 104 ls [.int v8, .int v9, .ref (hgm 2)]) := by
              intro v8 v9 H locs ls hf hP hD hS hl
              unfold fX10_tie_J104 at hf
              obtain ⟨hg, hf⟩ := zGd_ok hf
              refine zAstI (w := gm) hx hb hK hP hD hS (fun g => wX10 T hgm g gml) 2 2 rfl hg rfl dX10_tie_104 (fun gm_10 egm_10 H locs hP hD hS => ?_)
              replace hP : va_P D vwCl (wX10 T hgm gm_10 gml) H := hP
              replace hD : va_D A (wX10 T hgm gm_10 gml) := hD
              replace hf := zLt_at egm_10 hf
              refine lv_aload_n hx hb dX10_tie_105 rfl (lv_at hl 0 rfl) ?_
              refine zGet (ci := 10) (C := RX10) (F := TX10) (N := 54) (v := .ref (hgm 2)) hx hb hts hiX10 hown hK hP 0 3 2 rfl rfl (by decide) rfl rfl rfl dX10_tie_106 ?_
              refine lv_iload hx hb dX10_tie_109 (lv_at hl 6 rfl) ?_
              refine lv_iconst (v := 1) hx hb dX10_tie_111 (by decide) ?_
              refine lv_iadd hx hb dX10_tie_112 ?_
              refine lv_iload_n hx hb dX10_tie_113 rfl (lv_at hl 1 rfl) ?_
              refine lv_iload_n hx hb dX10_tie_114 rfl (lv_at hl 2 rfl) ?_
              have hJ123 : ∀ (v11 : Int32) (v12 : Int32) (H : Heap) (locs : List Loc) (ls : Array Slot), fX10_tie_J123 a3 a4 a5 v7 gm_10 v11 v12 = some (r, ngm) → va_P D vwCl (wX10 T hgm gm_10 gml) H → va_D A (wX10 T hgm gm_10 gml) → va_S A s.heap H locs → lv_has ls 7 [(0, .ref (hgm 0)), (3, .int a3), (4, .int a4), (5, .int a5), (6, .int v7)] → W p l e rX10_tie s m args below meth c H locs 0 0 Q (F0 m 123 ls [.int v11, .int v12, .ref (hgm 2)]) := by
                intro v11 v12 H locs ls hf hP hD hS hl
                unfold fX10_tie_J123 at hf
                obtain ⟨hg, hf⟩ := zGd_ok hf
                refine zAstI (w := gm_10) hx hb hK hP hD hS (fun g => wX10 T hgm g gml) 2 2 rfl hg rfl dX10_tie_123 (fun gm_13 egm_13 H locs hP hD hS => ?_)
                replace hP : va_P D vwCl (wX10 T hgm gm_13 gml) H := hP
                replace hD : va_D A (wX10 T hgm gm_13 gml) := hD
                replace hf := zLt_at egm_13 hf
                refine lv_aload_n hx hb dX10_tie_124 rfl (lv_at hl 0 rfl) ?_
                refine zGet (ci := 10) (C := RX10) (F := TX10) (N := 54) (v := .ref (hgm 2)) hx hb hts hiX10 hown hK hP 0 3 2 rfl rfl (by decide) rfl rfl rfl dX10_tie_125 ?_
                refine lv_iload hx hb dX10_tie_128 (lv_at hl 4 rfl) ?_
                refine lv_iconst (v := 2) hx hb dX10_tie_130 (by decide) ?_
                refine lv_iadd hx hb dX10_tie_131 ?_
                refine lv_iload_n hx hb dX10_tie_132 rfl (lv_at hl 1 rfl) ?_
                obtain ⟨hg, hf⟩ := zGd_ok hf
                refine zAstI (w := gm_13) hx hb hK hP hD hS (fun g => wX10 T hgm g gml) 2 2 rfl hg rfl dX10_tie_133 (fun gm_14 egm_14 H locs hP hD hS => ?_)
                replace hP : va_P D vwCl (wX10 T hgm gm_14 gml) H := hP
                replace hD : va_D A (wX10 T hgm gm_14 gml) := hD
                replace hf := zLt_at egm_14 hf
                refine lv_aload_n hx hb dX10_tie_134 rfl (lv_at hl 0 rfl) ?_
                refine zGet (ci := 10) (C := RX10) (F := TX10) (N := 54) (v := .ref (hgm 2)) hx hb hts hiX10 hown hK hP 0 3 2 rfl rfl (by decide) rfl rfl rfl dX10_tie_135 ?_
                refine lv_iload hx hb dX10_tie_138 (lv_at hl 4 rfl) ?_
                refine lv_iconst (v := 3) hx hb dX10_tie_140 (by decide) ?_
                refine lv_iadd hx hb dX10_tie_141 ?_
                refine lv_iload hx hb dX10_tie_142 (lv_at hl 2 rfl) ?_
                obtain ⟨hg, hf⟩ := zGd_ok hf
                refine zAstI (w := gm_14) hx hb hK hP hD hS (fun g => wX10 T hgm g gml) 2 2 rfl hg rfl dX10_tie_144 (fun gm_15 egm_15 H locs hP hD hS => ?_)
                replace hP : va_P D vwCl (wX10 T hgm gm_15 gml) H := hP
                replace hD : va_D A (wX10 T hgm gm_15 gml) := hD
                replace hf := zLt_at egm_15 hf
                refine lv_aload_n hx hb dX10_tie_145 rfl (lv_at hl 0 rfl) ?_
                refine zGet (ci := 10) (C := RX10) (F := TX10) (N := 54) (v := .ref (hgm 2)) hx hb hts hiX10 hown hK hP 0 3 2 rfl rfl (by decide) rfl rfl rfl dX10_tie_146 ?_
                refine lv_iload hx hb dX10_tie_149 (lv_at hl 4 rfl) ?_
                refine lv_iconst (v := 4) hx hb dX10_tie_151 (by decide) ?_
                refine lv_iadd hx hb dX10_tie_152 ?_
                refine lv_iload hx hb dX10_tie_153 (lv_at hl 3 rfl) ?_
                have hJ163 : ∀ (v16 : Int32) (v17 : Int32) (H : Heap) (locs : List Loc) (ls : Array Slot), fX10_tie_J163 gm_15 v16 v17 = some (r, ngm) → va_P D vwCl (wX10 T hgm gm_15 gml) H → va_D A (wX10 T hgm gm_15 gml) → va_S A s.heap H locs → lv_has ls 7 [(0, .ref (hgm 0))] → W p l e rX10_tie s m args below meth c H locs 0 0 Q (F0 m 163 ls [.int v16, .int v17, .ref (hgm 2)]) := by
                  intro v16 v17 H locs ls hf hP hD hS hl
                  unfold fX10_tie_J163 at hf
                  obtain ⟨hg, hf⟩ := zGd_ok hf
                  refine zAstI (w := gm_15) hx hb hK hP hD hS (fun g => wX10 T hgm g gml) 2 2 rfl hg rfl dX10_tie_163 (fun gm_18 egm_18 H locs hP hD hS => ?_)
                  replace hP : va_P D vwCl (wX10 T hgm gm_18 gml) H := hP
                  replace hD : va_D A (wX10 T hgm gm_18 gml) := hD
                  replace hf := zLt_at egm_18 hf
                  refine lv_aload_n hx hb dX10_tie_164 rfl (lv_at hl 0 rfl) ?_
                  refine lv_dup hx hb dX10_tie_165 rfl ?_
                  refine zGet (ci := 10) (C := RX10) (F := TX10) (N := 54) (v := .int (gm_18 0 2)) hx hb hts hiX10 hown hK hP 0 2 1 rfl rfl (by decide) rfl rfl rfl dX10_tie_166 ?_
                  refine lv_iconst (v := 1) hx hb dX10_tie_169 (by decide) ?_
                  refine lv_iadd hx hb dX10_tie_170 ?_
                  refine lv_topi (fun v19 ev19 => ?_)
                  replace hf := zLt_at ev19 hf
                  refine zPut (ci := 10) (C := RX10) (F := TX10) (N := 54) (x := v19) (w := gm_18) hx hb hts hiX10 tyX10 tyX10_ok nmX10 hown hK hP hD hS (fun g => wX10 T hgm g gml) 0 2 1 rfl rfl (by decide) rfl rfl rfl ⟨rfl, rfl⟩ (Nat.le_of_ble_eq_true rfl) rfl dX10_tie_171 (fun gm_20 egm_20 H locs hP hD hS => ?_)
                  replace hP : va_P D vwCl (wX10 T hgm gm_20 gml) H := hP
                  replace hD : va_D A (wX10 T hgm gm_20 gml) := hD
                  replace hf := zLt_at egm_20 hf
                  refine lv_aload_n hx hb dX10_tie_174 rfl (lv_at hl 0 rfl) ?_
                  refine zGet (ci := 10) (C := RX10) (F := TX10) (N := 54) (v := .int (gm_20 0 2)) hx hb hts hiX10 hown hK hP 0 2 1 rfl rfl (by decide) rfl rfl rfl dX10_tie_175 ?_
                  refine lv_iconst (v := 1) hx hb dX10_tie_178 (by decide) ?_
                  refine lv_isub hx hb dX10_tie_179 ?_
                  obtain ⟨q1, q2⟩ := zI2 hf
                  subst q1
                  subst q2
                  exact zRetI hQ hx hb hr hlocks hA0 hK hP hD hS rfl dX10_tie_180
                refine lv_if_eq (tgt := 162) hx hb dX10_tie_155 (by decide) (fun hc => ?_) (fun hc => ?_)
                · replace hf := zIf_t hc hf
                  refine lv_iconst (v := 0) hx hb dX10_tie_162 (by decide) ?_
                  exact hJ163 0 (v7 + 4) H locs ls hf hP hD hS (lv_sub hl [0] rfl)
                · replace hf := zIf_f hc hf
                  refine lv_iconst (v := 1) hx hb dX10_tie_158 (by decide) ?_
                  refine lv_goto (tgt := 163) hx hb dX10_tie_159 (by decide) ?_
                  exact hJ163 1 (v7 + 4) H locs ls hf hP hD hS (lv_sub hl [0] rfl)
              refine lv_icmp_ge (tgt := 122) hx hb dX10_tie_115 (by decide) (fun hc => ?_) (fun hc => ?_)
              · replace hf := zIf_t hc hf
                refine lv_iload_n hx hb dX10_tie_122 rfl (lv_at hl 1 rfl) ?_
                exact hJ123 a1 (v7 + 1) H locs ls hf hP hD hS (lv_sub hl [0, 3, 4, 5, 6] rfl)
              · replace hf := zIf_f hc hf
                refine lv_iload_n hx hb dX10_tie_118 rfl (lv_at hl 2 rfl) ?_
                refine lv_goto (tgt := 123) hx hb dX10_tie_119 (by decide) ?_
                exact hJ123 a2 (v7 + 1) H locs ls hf hP hD hS (lv_sub hl [0, 3, 4, 5, 6] rfl)
            refine lv_icmp_ge (tgt := 103) hx hb dX10_tie_96 (by decide) (fun hc => ?_) (fun hc => ?_)
            · replace hf := zIf_t hc hf
              refine lv_iload_n hx hb dX10_tie_103 rfl (lv_at hl 3 rfl) ?_
              exact hJ104 a2 v7 H locs ls hf hP hD hS (lv_sub hl [1, 2, 3, 4, 5, 6, 0] rfl)
            · replace hf := zIf_f hc hf
              refine lv_iload_n hx hb dX10_tie_99 rfl (lv_at hl 2 rfl) ?_
              refine lv_goto (tgt := 104) hx hb dX10_tie_100 (by decide) ?_
              exact hJ104 a1 v7 H locs ls hf hP hD hS (lv_sub hl [1, 2, 3, 4, 5, 6, 0] rfl)
          have hE46_71 : ex = (.inr ()) → ∀ (H : Heap) (locs : List Loc) (ls : Array Slot), va_P D vwCl (wX10 T hgm gm gml) H → va_D A (wX10 T hgm gm gml) → va_S A s.heap H locs → lv_has ls 7 [] → W p l e rX10_tie s m args below meth c H locs 0 0 Q (F0 m 71 ls []) := by
            intro hex H locs ls hP hD hS hl
            have hf := zSmR hex hf
            have hf := zEx0 rfl hf
            refine lv_bipush (v := (-4)) hx hb dX10_tie_71 (by decide) ?_
            obtain ⟨q1, q2⟩ := zI2 hf
            subst q1
            subst q2
            exact zRetI hQ hx hb hr hlocks hA0 hK hP hD hS rfl dX10_tie_73
          refine zLpS1 (body := (fX10_tie_L46 a1 a2 gm gml)) (b := ex) (fun (v4 : Int32) => ∀ (H : Heap) (locs : List Loc) (ls : Array Slot), va_P D vwCl (wX10 T hgm gm gml) H → va_D A (wX10 T hgm gm gml) → va_S A s.heap H locs → lv_has ls 7 [(0, .ref (hgm 0)), (1, .int a1), (2, .int a2), (3, .int a3), (4, .int a4), (5, .int a5), (6, .int v4)] → W p l e rX10_tie s m args below meth c H locs 0 0 Q (F0 m 46 ls [])) ?_ zFU 0 hlp H locs ls hP hD hS (lv_sub hl [1, 2, 3, 4, 5, 6, 0] rfl)
          intro v4 z hf hzz H locs ls hP hD hS hl
          unfold fX10_tie_L46 at hf
          replace hf := zUk1 hf
          refine lv_iload hx hb dX10_tie_46 (lv_at hl 6 rfl) ?_
          refine lv_aload_n hx hb dX10_tie_48 rfl (lv_at hl 0 rfl) ?_
          refine zGet (ci := 10) (C := RX10) (F := TX10) (N := 54) (v := .int (gm 0 2)) hx hb hts hiX10 hown hK hP 0 2 1 rfl rfl (by decide) rfl rfl rfl dX10_tie_49 ?_
          refine lv_icmp_ge (tgt := 80) hx hb dX10_tie_52 (by decide) (fun hc => ?_) (fun hc => ?_)
          · replace hf := zIf_t hc hf
            cases hf
            exact hE46_80 hzz.symm H locs ls hP hD hS (lv_sub hl [0, 1, 2, 3, 4, 5] rfl)
          · replace hf := zIf_f hc hf
            refine lv_aload_n hx hb dX10_tie_55 rfl (lv_at hl 0 rfl) ?_
            refine lv_iload hx hb dX10_tie_56 (lv_at hl 6 rfl) ?_
            obtain ⟨v5, hc58, hf⟩ := zB1_ok hf
            refine zCallVEI [.int v4] ⟨hx, hb, hml, hown, hts⟩ (pX10_ends l D T X hgm H.size gm gml v4 v5 hc58) (cwV 1 hts gX10_tie_X10_ends rfl rfl rfl (by decide +kernel) ⟨Nat.le_of_ble_eq_true rfl, Nat.le_of_ble_eq_true rfl⟩) hK hP hD hS hA hX 0 rfl rfl rfl hl.1 rfl (Nat.le_of_ble_eq_true rfl) dX10_tie_58 ⟨Nat.zero_le _, Nat.zero_le _⟩ (fun H locs hP hD hS => ?_)
            refine lv_iconst (v := 1) hx hb dX10_tie_61 (by decide) ?_
            refine lv_iload_n hx hb dX10_tie_62 rfl (lv_at hl 1 rfl) ?_
            refine lv_ishl hx hb dX10_tie_63 ?_
            refine lv_iconst (v := 1) hx hb dX10_tie_64 (by decide) ?_
            refine lv_iload_n hx hb dX10_tie_65 rfl (lv_at hl 2 rfl) ?_
            refine lv_ishl hx hb dX10_tie_66 ?_
            refine lv_ior hx hb dX10_tie_67 ?_
            refine lv_icmp_ne (tgt := 74) hx hb dX10_tie_68 (by decide) (fun hc => ?_) (fun hc => ?_)
            · replace hf := zIf_f hc hf
              obtain ⟨v6, ev6⟩ : ∃ y : Int32, y = v4 + 1 := ⟨_, rfl⟩
              replace hf := zLt_at ev6 hf
              refine lv_iinc (v := v6) (lv' := [(6, .int v6), (0, .ref (hgm 0)), (1, .int a1), (2, .int a2), (3, .int a3), (4, .int a4), (5, .int a5)]) hx hb dX10_tie_74 hl (k := 6) rfl (by rw [ev6]; rfl) (by decide) rfl (fun ls hl => ?_)
              refine lv_goto (tgt := 46) hx hb dX10_tie_77 (by decide) ?_
              cases hf
              exact hzz H locs ls hP hD hS (lv_sub hl [1, 2, 3, 4, 5, 6, 0] rfl)
            · replace hf := zIf_t hc hf
              cases hf
              exact hE46_71 hzz.symm H locs ls hP hD hS (lv_sub hl [] rfl)
        · replace hf := zIf_t hc hf
          refine lv_bipush (v := (-2)) hx hb dX10_tie_40 (by decide) ?_
          obtain ⟨q1, q2⟩ := zI2 hf
          subst q1
          subst q2
          exact zRetI hQ hx hb hr hlocks hA0 hK hP hD hS rfl dX10_tie_42
      · replace hf := zIf_t hc hf
        refine lv_iconst (v := (-1)) hx hb dX10_tie_29 (by decide) ?_
        obtain ⟨q1, q2⟩ := zI2 hf
        subst q1
        subst q2
        exact zRetI hQ hx hb hr hlocks hA0 hK hP hD hS rfl dX10_tie_30
set_option maxHeartbeats 4000000 in
set_option maxRecDepth 100000 in
theorem pX10_tieOf (l : Launch) (D : va_G) (T : Nat → ClassId) (X : zFP) (hgm : Nat → Nat) (sz : Nat) (gm : zM) (gml : zL) (a1 : Int32) (a2 : Int32) (r : Int32) (hf : fX10_tieOf gm gml a1 a2 = some r) : Met l yX10_tieOf wsX10_tieOf rX10_tieOf (zPre D T X [.ref (hgm 0), .int a1, .int a2] (wX10 T hgm gm gml) sz) (zQi D T r (wX10 T hgm gm gml) (wX10 T hgm gm gml) sz) 0 0 (va_A (wX10 T hgm gm gml) sz) := by
  unfold fX10_tieOf at hf
  refine zStart [(0, .ref (hgm 0)), (1, .int a1), (2, .int a2)] (by decide) rfl (Nat.le_of_ble_eq_true rfl) rfl ?_
  intro p e s m args below meth c A Q ls hx hb hr hml hown hlocks hts hsz hA0 hQ hA hK hX hP hD hS hl
  replace hown : s.vm.findClass RX10 = some m.cls := hown
  have hH := hsz
  obtain ⟨H, hHe⟩ : ∃ H : Heap, H = s.heap := ⟨_, rfl⟩
  obtain ⟨locs, hLe⟩ : ∃ L : List Loc, L = [] := ⟨_, rfl⟩
  replace hP : va_P D vwCl (wX10 T hgm gm gml) H := by rw [hHe]; exact hP
  replace hS : va_S A s.heap H locs := by rw [hHe, hLe]; exact hS
  suffices hgo : W p l e rX10_tieOf s m args below meth c H locs 0 0 Q (F0 m 0 ls []) by rw [hHe, hLe] at hgo; exact hgo
  clear hHe hLe
  refine lv_aload_n hx hb dX10_tieOf_0 rfl (lv_at hl 0 rfl) ?_
  refine lv_iload_n hx hb dX10_tieOf_1 rfl (lv_at hl 1 rfl) ?_
  obtain ⟨v1, hc2, hf⟩ := zB1_ok hf
  refine zCallVEI [.int a1] ⟨hx, hb, hml, hown, hts⟩ (pX10_isTie l D T X hgm H.size gm gml a1 v1 hc2) (cwV 1 hts gX10_tieOf_X10_isTie rfl rfl rfl (by decide +kernel) ⟨Nat.le_of_ble_eq_true rfl, Nat.le_of_ble_eq_true rfl⟩) hK hP hD hS hA hX 0 rfl rfl rfl hl.1 rfl (Nat.le_of_ble_eq_true rfl) dX10_tieOf_2 ⟨Nat.zero_le _, Nat.zero_le _⟩ (fun H locs hP hD hS => ?_)
  refine lv_if_eq (tgt := 26) hx hb dX10_tieOf_5 (by decide) (fun hc => ?_) (fun hc => ?_)
  · replace hf := zIf_t hc hf
    refine lv_iconst (v := (-1)) hx hb dX10_tieOf_26 (by decide) ?_
    obtain ⟨q1, -⟩ := zI1 hf
    subst q1
    exact zRetI hQ hx hb hr hlocks hA0 hK hP hD hS rfl dX10_tieOf_27
  · replace hf := zIf_f hc hf
    refine lv_iload_n hx hb dX10_tieOf_8 rfl (lv_at hl 2 rfl) ?_
    refine lv_iconst (v := 0) hx hb dX10_tieOf_9 (by decide) ?_
    refine lv_iconst (v := 4) hx hb dX10_tieOf_10 (by decide) ?_
    obtain ⟨v2, hc11, hf⟩ := zB1_ok hf
    refine zCallS0I [.int a2, .int 0, .int 4] ⟨hx, hb, hml, hown, hts⟩ (pX10_in l D T X H.size a2 0 4 v2 hc11) (va_cwS 3 hts gX10_tieOf_X10_in rfl rfl rfl (by decide +kernel) ⟨Nat.le_of_ble_eq_true rfl, Nat.le_of_ble_eq_true rfl⟩) hK hP hD hS hA hX rfl hl.1 rfl (Nat.le_of_ble_eq_true rfl) dX10_tieOf_11 ⟨Nat.zero_le _, Nat.zero_le _⟩ (fun H locs hP hD hS => ?_)
    refine lv_if_eq (tgt := 26) hx hb dX10_tieOf_14 (by decide) (fun hc => ?_) (fun hc => ?_)
    · replace hf := zIf_t hc hf
      refine lv_iconst (v := (-1)) hx hb dX10_tieOf_26 (by decide) ?_
      obtain ⟨q1, -⟩ := zI1 hf
      subst q1
      exact zRetI hQ hx hb hr hlocks hA0 hK hP hD hS rfl dX10_tieOf_27
    · replace hf := zIf_f hc hf
      refine lv_aload_n hx hb dX10_tieOf_17 rfl (lv_at hl 0 rfl) ?_
      refine lv_iload_n hx hb dX10_tieOf_18 rfl (lv_at hl 1 rfl) ?_
      refine lv_iload_n hx hb dX10_tieOf_19 rfl (lv_at hl 2 rfl) ?_
      obtain ⟨v3, hc20, hf⟩ := zB1_ok hf
      refine zCallVEI [.int a1, .int a2] ⟨hx, hb, hml, hown, hts⟩ (pX10_its l D T X hgm H.size gm gml a1 a2 v3 hc20) (cwV 2 hts gX10_tieOf_X10_its rfl rfl rfl (by decide +kernel) ⟨Nat.le_of_ble_eq_true rfl, Nat.le_of_ble_eq_true rfl⟩) hK hP hD hS hA hX 0 rfl rfl rfl hl.1 rfl (Nat.le_of_ble_eq_true rfl) dX10_tieOf_20 ⟨Nat.zero_le _, Nat.zero_le _⟩ (fun H locs hP hD hS => ?_)
      refine lv_goto (tgt := 27) hx hb dX10_tieOf_23 (by decide) ?_
      obtain ⟨q1, -⟩ := zI1 hf
      subst q1
      exact zRetI hQ hx hb hr hlocks hA0 hK hP hD hS rfl dX10_tieOf_27
set_option maxHeartbeats 4000000 in
set_option maxRecDepth 100000 in
theorem pX10_first (l : Launch) (D : va_G) (T : Nat → ClassId) (X : zFP) (hgm : Nat → Nat) (sz : Nat) (gm : zM) (gml : zL) (a1 : Int32) (a2 : Int32) (r : Int32) (ngm : zM) (hf : fX10_first gm gml a1 a2 = some (r, ngm)) : Met l yX10_first wsX10_first rX10_first (zPre D T X [.ref (hgm 0), .int a1, .int a2] (wX10 T hgm gm gml) sz) (zQi D T r (wX10 T hgm ngm gml) (wX10 T hgm gm gml) sz) 0 0 (va_A (wX10 T hgm gm gml) sz) := by
  unfold fX10_first at hf
  refine zStart [(0, .ref (hgm 0)), (1, .int a1), (2, .int a2)] (by decide) rfl (Nat.le_of_ble_eq_true rfl) rfl ?_
  intro p e s m args below meth c A Q ls hx hb hr hml hown hlocks hts hsz hA0 hQ hA hK hX hP hD hS hl
  replace hown : s.vm.findClass RX10 = some m.cls := hown
  have hH := hsz
  have hiX10 : ∀ w ∈ u_ws RX10 TX10 54, w ∈ wsX10_first := fun w h => List.mem_cons_of_mem _ (List.mem_append_right _ (h))
  obtain ⟨H, hHe⟩ : ∃ H : Heap, H = s.heap := ⟨_, rfl⟩
  obtain ⟨locs, hLe⟩ : ∃ L : List Loc, L = [] := ⟨_, rfl⟩
  replace hP : va_P D vwCl (wX10 T hgm gm gml) H := by rw [hHe]; exact hP
  replace hS : va_S A s.heap H locs := by rw [hHe, hLe]; exact hS
  suffices hgo : W p l e rX10_first s m args below meth c H locs 0 0 Q (F0 m 0 ls []) by rw [hHe, hLe] at hgo; exact hgo
  clear hHe hLe
  refine lv_aload_n hx hb dX10_first_0 rfl (lv_at hl 0 rfl) ?_
  refine lv_iload_n hx hb dX10_first_1 rfl (lv_at hl 1 rfl) ?_
  obtain ⟨v1, hc2, hf⟩ := zB1_ok hf
  refine zCallVEI [.int a1] ⟨hx, hb, hml, hown, hts⟩ (pX10_isPerson l D T X hgm H.size gm gml a1 v1 hc2) (cwV 1 hts gX10_first_X10_isPerson rfl rfl rfl (by decide +kernel) ⟨Nat.le_of_ble_eq_true rfl, Nat.le_of_ble_eq_true rfl⟩) hK hP hD hS hA hX 0 rfl rfl rfl hl.1 rfl (Nat.le_of_ble_eq_true rfl) dX10_first_2 ⟨Nat.zero_le _, Nat.zero_le _⟩ (fun H locs hP hD hS => ?_)
  refine lv_if_eq (tgt := 18) hx hb dX10_first_5 (by decide) (fun hc => ?_) (fun hc => ?_)
  · replace hf := zIf_t hc hf
    refine lv_iconst (v := (-1)) hx hb dX10_first_18 (by decide) ?_
    obtain ⟨q1, q2⟩ := zI2 hf
    subst q1
    subst q2
    exact zRetI hQ hx hb hr hlocks hA0 hK hP hD hS rfl dX10_first_19
  · replace hf := zIf_f hc hf
    refine lv_iload_n hx hb dX10_first_8 rfl (lv_at hl 2 rfl) ?_
    refine lv_iconst (v := 0) hx hb dX10_first_9 (by decide) ?_
    refine lv_bipush (v := 9) hx hb dX10_first_10 (by decide) ?_
    obtain ⟨v2, hc12, hf⟩ := zB1_ok hf
    refine zCallS0I [.int a2, .int 0, .int 9] ⟨hx, hb, hml, hown, hts⟩ (pX10_in l D T X H.size a2 0 9 v2 hc12) (va_cwS 3 hts gX10_first_X10_in rfl rfl rfl (by decide +kernel) ⟨Nat.le_of_ble_eq_true rfl, Nat.le_of_ble_eq_true rfl⟩) hK hP hD hS hA hX rfl hl.1 rfl (Nat.le_of_ble_eq_true rfl) dX10_first_12 ⟨Nat.zero_le _, Nat.zero_le _⟩ (fun H locs hP hD hS => ?_)
    refine lv_if_ne (tgt := 20) hx hb dX10_first_15 (by decide) (fun hc => ?_) (fun hc => ?_)
    · replace hf := zIf_f hc hf
      refine lv_aload_n hx hb dX10_first_20 rfl (lv_at hl 0 rfl) ?_
      refine zGet (ci := 10) (C := RX10) (F := TX10) (N := 54) (v := .ref (hgm 1)) hx hb hts hiX10 hown hK hP 0 1 1 rfl rfl (by decide) rfl rfl rfl dX10_first_21 ?_
      refine lv_iload_n hx hb dX10_first_24 rfl (lv_at hl 1 rfl) ?_
      obtain ⟨hg, hf⟩ := zGd_ok hf
      refine zAldI hx hb hK hP 1 rfl hg dX10_first_25 (fun v3 ev3 => ?_)
      replace hf := zLt_at ev3 hf
      refine lv_istore_n (lv' := [(3, .int v3), (0, .ref (hgm 0)), (1, .int a1), (2, .int a2)]) hx hb dX10_first_26 rfl hl (by decide) rfl (fun ls hl => ?_)
      refine lv_aload_n hx hb dX10_first_27 rfl (lv_at hl 1 rfl) ?_
      refine zGet (ci := 10) (C := RX10) (F := TX10) (N := 54) (v := .ref (hgm 1)) hx hb hts hiX10 hown hK hP 0 1 1 rfl rfl (by decide) rfl rfl rfl dX10_first_28 ?_
      refine lv_iload_n hx hb dX10_first_31 rfl (lv_at hl 2 rfl) ?_
      refine lv_iload_n hx hb dX10_first_32 rfl (lv_at hl 3 rfl) ?_
      obtain ⟨hg, hf⟩ := zGd_ok hf
      refine zAstI (w := gm) hx hb hK hP hD hS (fun g => wX10 T hgm g gml) 1 1 rfl hg rfl dX10_first_33 (fun gm_4 egm_4 H locs hP hD hS => ?_)
      replace hP : va_P D vwCl (wX10 T hgm gm_4 gml) H := hP
      replace hD : va_D A (wX10 T hgm gm_4 gml) := hD
      replace hf := zLt_at egm_4 hf
      refine lv_iload_n hx hb dX10_first_34 rfl (lv_at hl 0 rfl) ?_
      obtain ⟨q1, q2⟩ := zI2 hf
      subst q1
      subst q2
      exact zRetI hQ hx hb hr hlocks hA0 hK hP hD hS rfl dX10_first_35
    · replace hf := zIf_t hc hf
      refine lv_iconst (v := (-1)) hx hb dX10_first_18 (by decide) ?_
      obtain ⟨q1, q2⟩ := zI2 hf
      subst q1
      subst q2
      exact zRetI hQ hx hb hr hlocks hA0 hK hP hD hS rfl dX10_first_19
set_option maxHeartbeats 4000000 in
set_option maxRecDepth 100000 in
theorem pX10_isWhat (l : Launch) (D : va_G) (T : Nat → ClassId) (X : zFP) (hgm : Nat → Nat) (sz : Nat) (gm : zM) (gml : zL) (a1 : Int32) (a2 : Int32) (r : Int32) (hf : fX10_isWhat gm gml a1 a2 = some r) : Met l yX10_isWhat wsX10_isWhat rX10_isWhat (zPre D T X [.ref (hgm 0), .int a1, .int a2] (wX10 T hgm gm gml) sz) (zQi D T r (wX10 T hgm gm gml) (wX10 T hgm gm gml) sz) 0 0 (va_A (wX10 T hgm gm gml) sz) := by
  unfold fX10_isWhat at hf
  refine zStart [(0, .ref (hgm 0)), (1, .int a1), (2, .int a2)] (by decide) rfl (Nat.le_of_ble_eq_true rfl) rfl ?_
  intro p e s m args below meth c A Q ls hx hb hr hml hown hlocks hts hsz hA0 hQ hA hK hX hP hD hS hl
  replace hown : s.vm.findClass RX10 = some m.cls := hown
  have hH := hsz
  obtain ⟨H, hHe⟩ : ∃ H : Heap, H = s.heap := ⟨_, rfl⟩
  obtain ⟨locs, hLe⟩ : ∃ L : List Loc, L = [] := ⟨_, rfl⟩
  replace hP : va_P D vwCl (wX10 T hgm gm gml) H := by rw [hHe]; exact hP
  replace hS : va_S A s.heap H locs := by rw [hHe, hLe]; exact hS
  suffices hgo : W p l e rX10_isWhat s m args below meth c H locs 0 0 Q (F0 m 0 ls []) by rw [hHe, hLe] at hgo; exact hgo
  clear hHe hLe
  refine lv_iload_n hx hb dX10_isWhat_0 rfl (lv_at hl 1 rfl) ?_
  refine lv_iconst (v := 1) hx hb dX10_isWhat_1 (by decide) ?_
  have hJ10 : ∀ (H : Heap) (locs : List Loc) (ls : Array Slot), fX10_isWhat_J10 a2 gm gml = some r → va_P D vwCl (wX10 T hgm gm gml) H → va_D A (wX10 T hgm gm gml) → va_S A s.heap H locs → lv_has ls 3 [(0, .ref (hgm 0)), (2, .int a2)] → W p l e rX10_isWhat s m args below meth c H locs 0 0 Q (F0 m 10 ls []) := by
    intro H locs ls hf hP hD hS hl
    unfold fX10_isWhat_J10 at hf
    refine lv_aload_n hx hb dX10_isWhat_10 rfl (lv_at hl 0 rfl) ?_
    refine lv_iload_n hx hb dX10_isWhat_11 rfl (lv_at hl 1 rfl) ?_
    obtain ⟨v1, hc12, hf⟩ := zB1_ok hf
    refine zCallVEI [.int a2] ⟨hx, hb, hml, hown, hts⟩ (pX10_isTie l D T X hgm H.size gm gml a2 v1 hc12) (cwV 1 hts gX10_isWhat_X10_isTie rfl rfl rfl (by decide +kernel) ⟨Nat.le_of_ble_eq_true rfl, Nat.le_of_ble_eq_true rfl⟩) hK hP hD hS hA hX 0 rfl rfl rfl hl.1 rfl (Nat.le_of_ble_eq_true rfl) dX10_isWhat_12 ⟨Nat.zero_le _, Nat.zero_le _⟩ (fun H locs hP hD hS => ?_)
    refine lv_goto (tgt := 27) hx hb dX10_isWhat_15 (by decide) ?_
    obtain ⟨hg, hf⟩ := zGd_ok hf
    obtain ⟨q1, -⟩ := zI1 hf
    subst q1
    exact zRetZ hQ hx hb hr hlocks hA0 hK hP hD hS hg rfl dX10_isWhat_27
  refine lv_icmp_eq (tgt := 10) hx hb dX10_isWhat_2 (by decide) (fun hc => ?_) (fun hc => ?_)
  · replace hf := zIf_t hc hf
    exact hJ10 H locs ls hf hP hD hS (lv_sub hl [0, 2] rfl)
  · replace hf := zIf_f hc hf
    refine lv_iload_n hx hb dX10_isWhat_5 rfl (lv_at hl 1 rfl) ?_
    refine lv_iconst (v := 4) hx hb dX10_isWhat_6 (by decide) ?_
    refine lv_icmp_ne (tgt := 18) hx hb dX10_isWhat_7 (by decide) (fun hc => ?_) (fun hc => ?_)
    · replace hf := zIf_f hc hf
      refine lv_iload_n hx hb dX10_isWhat_18 rfl (lv_at hl 2 rfl) ?_
      refine lv_iconst (v := 0) hx hb dX10_isWhat_19 (by decide) ?_
      refine lv_aload_n hx hb dX10_isWhat_20 rfl (lv_at hl 0 rfl) ?_
      obtain ⟨v2, hc21, hf⟩ := zB1_ok hf
      refine zCallVEI [] ⟨hx, hb, hml, hown, hts⟩ (pX10_all l D T X hgm H.size gm gml v2 hc21) (cwV 0 hts gX10_isWhat_X10_all rfl rfl rfl (by decide +kernel) ⟨Nat.le_of_ble_eq_true rfl, Nat.le_of_ble_eq_true rfl⟩) hK hP hD hS hA hX 0 rfl rfl rfl hl.1 rfl (Nat.le_of_ble_eq_true rfl) dX10_isWhat_21 ⟨Nat.zero_le _, Nat.zero_le _⟩ (fun H locs hP hD hS => ?_)
      obtain ⟨v3, hc24, hf⟩ := zB1_ok hf
      refine zCallS0I [.int a2, .int 0, .int v2] ⟨hx, hb, hml, hown, hts⟩ (pX10_in l D T X H.size a2 0 v2 v3 hc24) (va_cwS 3 hts gX10_isWhat_X10_in rfl rfl rfl (by decide +kernel) ⟨Nat.le_of_ble_eq_true rfl, Nat.le_of_ble_eq_true rfl⟩) hK hP hD hS hA hX rfl hl.1 rfl (Nat.le_of_ble_eq_true rfl) dX10_isWhat_24 ⟨Nat.zero_le _, Nat.zero_le _⟩ (fun H locs hP hD hS => ?_)
      obtain ⟨hg, hf⟩ := zGd_ok hf
      obtain ⟨q1, -⟩ := zI1 hf
      subst q1
      exact zRetZ hQ hx hb hr hlocks hA0 hK hP hD hS hg rfl dX10_isWhat_27
    · replace hf := zIf_t hc hf
      exact hJ10 H locs ls hf hP hD hS (lv_sub hl [0, 2] rfl)
set_option maxHeartbeats 4000000 in
set_option maxRecDepth 100000 in
theorem pX10_cut (l : Launch) (D : va_G) (T : Nat → ClassId) (X : zFP) (hgm : Nat → Nat) (sz : Nat) (gm : zM) (gml : zL) (a1 : Int32) (a2 : Int32) (a3 : Int32) (r : Int32) (ngm : zM) (hf : fX10_cut gm gml a1 a2 a3 = some (r, ngm)) : Met l yX10_cut wsX10_cut rX10_cut (zPre D T X [.ref (hgm 0), .int a1, .int a2, .int a3] (wX10 T hgm gm gml) sz) (zQi D T r (wX10 T hgm ngm gml) (wX10 T hgm gm gml) sz) 0 0 (va_A (wX10 T hgm gm gml) sz) := by
  unfold fX10_cut at hf
  refine zStart [(0, .ref (hgm 0)), (1, .int a1), (2, .int a2), (3, .int a3)] (by decide) rfl (Nat.le_of_ble_eq_true rfl) rfl ?_
  intro p e s m args below meth c A Q ls hx hb hr hml hown hlocks hts hsz hA0 hQ hA hK hX hP hD hS hl
  replace hown : s.vm.findClass RX10 = some m.cls := hown
  have hH := hsz
  have hiX10 : ∀ w ∈ u_ws RX10 TX10 54, w ∈ wsX10_cut := fun w h => List.mem_cons_of_mem _ (List.mem_append_right _ (h))
  obtain ⟨H, hHe⟩ : ∃ H : Heap, H = s.heap := ⟨_, rfl⟩
  obtain ⟨locs, hLe⟩ : ∃ L : List Loc, L = [] := ⟨_, rfl⟩
  replace hP : va_P D vwCl (wX10 T hgm gm gml) H := by rw [hHe]; exact hP
  replace hS : va_S A s.heap H locs := by rw [hHe, hLe]; exact hS
  suffices hgo : W p l e rX10_cut s m args below meth c H locs 0 0 Q (F0 m 0 ls []) by rw [hHe, hLe] at hgo; exact hgo
  clear hHe hLe
  refine lv_iload_n hx hb dX10_cut_0 rfl (lv_at hl 1 rfl) ?_
  refine lv_iconst (v := 1) hx hb dX10_cut_1 (by decide) ?_
  refine lv_bipush (v := 6) hx hb dX10_cut_2 (by decide) ?_
  obtain ⟨v1, hc4, hf⟩ := zB1_ok hf
  refine zCallS0I [.int a1, .int 1, .int 6] ⟨hx, hb, hml, hown, hts⟩ (pX10_in l D T X H.size a1 1 6 v1 hc4) (va_cwS 3 hts gX10_cut_X10_in rfl rfl rfl (by decide +kernel) ⟨Nat.le_of_ble_eq_true rfl, Nat.le_of_ble_eq_true rfl⟩) hK hP hD hS hA hX rfl hl.1 rfl (Nat.le_of_ble_eq_true rfl) dX10_cut_4 ⟨Nat.zero_le _, Nat.zero_le _⟩ (fun H locs hP hD hS => ?_)
  refine lv_if_eq (tgt := 29) hx hb dX10_cut_7 (by decide) (fun hc => ?_) (fun hc => ?_)
  · replace hf := zIf_t hc hf
    refine lv_iconst (v := (-1)) hx hb dX10_cut_29 (by decide) ?_
    obtain ⟨q1, q2⟩ := zI2 hf
    subst q1
    subst q2
    exact zRetI hQ hx hb hr hlocks hA0 hK hP hD hS rfl dX10_cut_30
  · replace hf := zIf_f hc hf
    refine lv_aload_n hx hb dX10_cut_10 rfl (lv_at hl 0 rfl) ?_
    refine lv_iload_n hx hb dX10_cut_11 rfl (lv_at hl 1 rfl) ?_
    refine lv_iload_n hx hb dX10_cut_12 rfl (lv_at hl 2 rfl) ?_
    obtain ⟨v2, hc13, hf⟩ := zB1_ok hf
    refine zCallVEI [.int a1, .int a2] ⟨hx, hb, hml, hown, hts⟩ (pX10_isWhat l D T X hgm H.size gm gml a1 a2 v2 hc13) (cwV 2 hts gX10_cut_X10_isWhat rfl rfl rfl (by decide +kernel) ⟨Nat.le_of_ble_eq_true rfl, Nat.le_of_ble_eq_true rfl⟩) hK hP hD hS hA hX 0 rfl rfl rfl hl.1 rfl (Nat.le_of_ble_eq_true rfl) dX10_cut_13 ⟨Nat.zero_le _, Nat.zero_le _⟩ (fun H locs hP hD hS => ?_)
    refine lv_if_eq (tgt := 29) hx hb dX10_cut_16 (by decide) (fun hc => ?_) (fun hc => ?_)
    · replace hf := zIf_t hc hf
      refine lv_iconst (v := (-1)) hx hb dX10_cut_29 (by decide) ?_
      obtain ⟨q1, q2⟩ := zI2 hf
      subst q1
      subst q2
      exact zRetI hQ hx hb hr hlocks hA0 hK hP hD hS rfl dX10_cut_30
    · replace hf := zIf_f hc hf
      refine lv_iload_n hx hb dX10_cut_19 rfl (lv_at hl 3 rfl) ?_
      refine lv_iconst (v := 0) hx hb dX10_cut_20 (by decide) ?_
      refine lv_bipush (v := 99) hx hb dX10_cut_21 (by decide) ?_
      obtain ⟨v3, hc23, hf⟩ := zB1_ok hf
      refine zCallS0I [.int a3, .int 0, .int 99] ⟨hx, hb, hml, hown, hts⟩ (pX10_in l D T X H.size a3 0 99 v3 hc23) (va_cwS 3 hts gX10_cut_X10_in rfl rfl rfl (by decide +kernel) ⟨Nat.le_of_ble_eq_true rfl, Nat.le_of_ble_eq_true rfl⟩) hK hP hD hS hA hX rfl hl.1 rfl (Nat.le_of_ble_eq_true rfl) dX10_cut_23 ⟨Nat.zero_le _, Nat.zero_le _⟩ (fun H locs hP hD hS => ?_)
      refine lv_if_ne (tgt := 31) hx hb dX10_cut_26 (by decide) (fun hc => ?_) (fun hc => ?_)
      · replace hf := zIf_f hc hf
        refine lv_aload_n hx hb dX10_cut_31 rfl (lv_at hl 0 rfl) ?_
        refine zGet (ci := 10) (C := RX10) (F := TX10) (N := 54) (v := .int (gm 0 4)) hx hb hts hiX10 hown hK hP 0 4 1 rfl rfl (by decide) rfl rfl rfl dX10_cut_32 ?_
        refine lv_bipush (v := 8) hx hb dX10_cut_35 (by decide) ?_
        refine lv_icmp_ne (tgt := 43) hx hb dX10_cut_37 (by decide) (fun hc => ?_) (fun hc => ?_)
        · replace hf := zIf_f hc hf
          refine lv_aload_n hx hb dX10_cut_43 rfl (lv_at hl 0 rfl) ?_
          refine zGet (ci := 10) (C := RX10) (F := TX10) (N := 54) (v := .ref (hgm 3)) hx hb hts hiX10 hown hK hP 0 5 2 rfl rfl (by decide) rfl rfl rfl dX10_cut_44 ?_
          refine lv_iconst (v := 3) hx hb dX10_cut_47 (by decide) ?_
          refine lv_aload_n hx hb dX10_cut_48 rfl (lv_at hl 0 rfl) ?_
          refine zGet (ci := 10) (C := RX10) (F := TX10) (N := 54) (v := .int (gm 0 4)) hx hb hts hiX10 hown hK hP 0 4 1 rfl rfl (by decide) rfl rfl rfl dX10_cut_49 ?_
          refine lv_imul hx hb dX10_cut_52 ?_
          refine lv_iload_n hx hb dX10_cut_53 rfl (lv_at hl 1 rfl) ?_
          obtain ⟨hg, hf⟩ := zGd_ok hf
          refine zAstI (w := gm) hx hb hK hP hD hS (fun g => wX10 T hgm g gml) 3 3 rfl hg rfl dX10_cut_54 (fun gm_4 egm_4 H locs hP hD hS => ?_)
          replace hP : va_P D vwCl (wX10 T hgm gm_4 gml) H := hP
          replace hD : va_D A (wX10 T hgm gm_4 gml) := hD
          replace hf := zLt_at egm_4 hf
          refine lv_aload_n hx hb dX10_cut_55 rfl (lv_at hl 0 rfl) ?_
          refine zGet (ci := 10) (C := RX10) (F := TX10) (N := 54) (v := .ref (hgm 3)) hx hb hts hiX10 hown hK hP 0 5 2 rfl rfl (by decide) rfl rfl rfl dX10_cut_56 ?_
          refine lv_iconst (v := 3) hx hb dX10_cut_59 (by decide) ?_
          refine lv_aload_n hx hb dX10_cut_60 rfl (lv_at hl 0 rfl) ?_
          refine zGet (ci := 10) (C := RX10) (F := TX10) (N := 54) (v := .int (gm_4 0 4)) hx hb hts hiX10 hown hK hP 0 4 1 rfl rfl (by decide) rfl rfl rfl dX10_cut_61 ?_
          refine lv_imul hx hb dX10_cut_64 ?_
          refine lv_iconst (v := 1) hx hb dX10_cut_65 (by decide) ?_
          refine lv_iadd hx hb dX10_cut_66 ?_
          refine lv_iload_n hx hb dX10_cut_67 rfl (lv_at hl 2 rfl) ?_
          obtain ⟨hg, hf⟩ := zGd_ok hf
          refine zAstI (w := gm_4) hx hb hK hP hD hS (fun g => wX10 T hgm g gml) 3 3 rfl hg rfl dX10_cut_68 (fun gm_5 egm_5 H locs hP hD hS => ?_)
          replace hP : va_P D vwCl (wX10 T hgm gm_5 gml) H := hP
          replace hD : va_D A (wX10 T hgm gm_5 gml) := hD
          replace hf := zLt_at egm_5 hf
          refine lv_aload_n hx hb dX10_cut_69 rfl (lv_at hl 0 rfl) ?_
          refine zGet (ci := 10) (C := RX10) (F := TX10) (N := 54) (v := .ref (hgm 3)) hx hb hts hiX10 hown hK hP 0 5 2 rfl rfl (by decide) rfl rfl rfl dX10_cut_70 ?_
          refine lv_iconst (v := 3) hx hb dX10_cut_73 (by decide) ?_
          refine lv_aload_n hx hb dX10_cut_74 rfl (lv_at hl 0 rfl) ?_
          refine zGet (ci := 10) (C := RX10) (F := TX10) (N := 54) (v := .int (gm_5 0 4)) hx hb hts hiX10 hown hK hP 0 4 1 rfl rfl (by decide) rfl rfl rfl dX10_cut_75 ?_
          refine lv_imul hx hb dX10_cut_78 ?_
          refine lv_iconst (v := 2) hx hb dX10_cut_79 (by decide) ?_
          refine lv_iadd hx hb dX10_cut_80 ?_
          refine lv_iload_n hx hb dX10_cut_81 rfl (lv_at hl 3 rfl) ?_
          obtain ⟨hg, hf⟩ := zGd_ok hf
          refine zAstI (w := gm_5) hx hb hK hP hD hS (fun g => wX10 T hgm g gml) 3 3 rfl hg rfl dX10_cut_82 (fun gm_6 egm_6 H locs hP hD hS => ?_)
          replace hP : va_P D vwCl (wX10 T hgm gm_6 gml) H := hP
          replace hD : va_D A (wX10 T hgm gm_6 gml) := hD
          replace hf := zLt_at egm_6 hf
          refine lv_aload_n hx hb dX10_cut_83 rfl (lv_at hl 0 rfl) ?_
          refine lv_dup hx hb dX10_cut_84 rfl ?_
          refine zGet (ci := 10) (C := RX10) (F := TX10) (N := 54) (v := .int (gm_6 0 4)) hx hb hts hiX10 hown hK hP 0 4 1 rfl rfl (by decide) rfl rfl rfl dX10_cut_85 ?_
          refine lv_iconst (v := 1) hx hb dX10_cut_88 (by decide) ?_
          refine lv_iadd hx hb dX10_cut_89 ?_
          refine lv_topi (fun v7 ev7 => ?_)
          replace hf := zLt_at ev7 hf
          refine zPut (ci := 10) (C := RX10) (F := TX10) (N := 54) (x := v7) (w := gm_6) hx hb hts hiX10 tyX10 tyX10_ok nmX10 hown hK hP hD hS (fun g => wX10 T hgm g gml) 0 4 1 rfl rfl (by decide) rfl rfl rfl ⟨rfl, rfl⟩ (Nat.le_of_ble_eq_true rfl) rfl dX10_cut_90 (fun gm_8 egm_8 H locs hP hD hS => ?_)
          replace hP : va_P D vwCl (wX10 T hgm gm_8 gml) H := hP
          replace hD : va_D A (wX10 T hgm gm_8 gml) := hD
          replace hf := zLt_at egm_8 hf
          refine lv_aload_n hx hb dX10_cut_93 rfl (lv_at hl 0 rfl) ?_
          refine zGet (ci := 10) (C := RX10) (F := TX10) (N := 54) (v := .int (gm_8 0 4)) hx hb hts hiX10 hown hK hP 0 4 1 rfl rfl (by decide) rfl rfl rfl dX10_cut_94 ?_
          refine lv_iconst (v := 1) hx hb dX10_cut_97 (by decide) ?_
          refine lv_isub hx hb dX10_cut_98 ?_
          obtain ⟨q1, q2⟩ := zI2 hf
          subst q1
          subst q2
          exact zRetI hQ hx hb hr hlocks hA0 hK hP hD hS rfl dX10_cut_99
        · replace hf := zIf_t hc hf
          refine lv_bipush (v := (-2)) hx hb dX10_cut_40 (by decide) ?_
          obtain ⟨q1, q2⟩ := zI2 hf
          subst q1
          subst q2
          exact zRetI hQ hx hb hr hlocks hA0 hK hP hD hS rfl dX10_cut_42
      · replace hf := zIf_t hc hf
        refine lv_iconst (v := (-1)) hx hb dX10_cut_29 (by decide) ?_
        obtain ⟨q1, q2⟩ := zI2 hf
        subst q1
        subst q2
        exact zRetI hQ hx hb hr hlocks hA0 hK hP hD hS rfl dX10_cut_30
set_option maxHeartbeats 4000000 in
set_option maxRecDepth 100000 in
theorem pX10_isCut (l : Launch) (D : va_G) (T : Nat → ClassId) (X : zFP) (hgm : Nat → Nat) (sz : Nat) (gm : zM) (gml : zL) (a1 : Int32) (r : Int32) (hf : fX10_isCut gm gml a1 = some r) : Met l yX10_isCut wsX10_isCut rX10_isCut (zPre D T X [.ref (hgm 0), .int a1] (wX10 T hgm gm gml) sz) (zQi D T r (wX10 T hgm gm gml) (wX10 T hgm gm gml) sz) 0 0 (va_A (wX10 T hgm gm gml) sz) := by
  unfold fX10_isCut at hf
  refine zStart [(0, .ref (hgm 0)), (1, .int a1)] (by decide) rfl (Nat.le_of_ble_eq_true rfl) rfl ?_
  intro p e s m args below meth c A Q ls hx hb hr hml hown hlocks hts hsz hA0 hQ hA hK hX hP hD hS hl
  replace hown : s.vm.findClass RX10 = some m.cls := hown
  have hH := hsz
  have hiX10 : ∀ w ∈ u_ws RX10 TX10 54, w ∈ wsX10_isCut := fun w h => List.mem_cons_of_mem _ (List.mem_append_right _ (h))
  obtain ⟨H, hHe⟩ : ∃ H : Heap, H = s.heap := ⟨_, rfl⟩
  obtain ⟨locs, hLe⟩ : ∃ L : List Loc, L = [] := ⟨_, rfl⟩
  replace hP : va_P D vwCl (wX10 T hgm gm gml) H := by rw [hHe]; exact hP
  replace hS : va_S A s.heap H locs := by rw [hHe, hLe]; exact hS
  suffices hgo : W p l e rX10_isCut s m args below meth c H locs 0 0 Q (F0 m 0 ls []) by rw [hHe, hLe] at hgo; exact hgo
  clear hHe hLe
  refine lv_iload_n hx hb dX10_isCut_0 rfl (lv_at hl 1 rfl) ?_
  refine lv_iconst (v := 0) hx hb dX10_isCut_1 (by decide) ?_
  refine lv_aload_n hx hb dX10_isCut_2 rfl (lv_at hl 0 rfl) ?_
  refine zGet (ci := 10) (C := RX10) (F := TX10) (N := 54) (v := .int (gm 0 4)) hx hb hts hiX10 hown hK hP 0 4 1 rfl rfl (by decide) rfl rfl rfl dX10_isCut_3 ?_
  refine lv_iconst (v := 1) hx hb dX10_isCut_6 (by decide) ?_
  refine lv_isub hx hb dX10_isCut_7 ?_
  obtain ⟨v1, hc8, hf⟩ := zB1_ok hf
  refine zCallS0I [.int a1, .int 0, .int ((gm 0 4) - 1)] ⟨hx, hb, hml, hown, hts⟩ (pX10_in l D T X H.size a1 0 ((gm 0 4) - 1) v1 hc8) (va_cwS 3 hts gX10_isCut_X10_in rfl rfl rfl (by decide +kernel) ⟨Nat.le_of_ble_eq_true rfl, Nat.le_of_ble_eq_true rfl⟩) hK hP hD hS hA hX rfl hl.1 rfl (Nat.le_of_ble_eq_true rfl) dX10_isCut_8 ⟨Nat.zero_le _, Nat.zero_le _⟩ (fun H locs hP hD hS => ?_)
  obtain ⟨hg, hf⟩ := zGd_ok hf
  obtain ⟨q1, -⟩ := zI1 hf
  subst q1
  exact zRetZ hQ hx hb hr hlocks hA0 hK hP hD hS hg rfl dX10_isCut_11
