-- X7_step X7_isWord X7_stepNumber X8_startWith X7_stepStop X8_addTie X7_extraNamed X7_readExtra X7_isTiePiece X7_isFirstPiece X8_addCut X7_isSeatPiece X7_isLatePiece X7_isReadInto X8_become X8_hasPerson X8_hasTie X8_hasCut X8_hasSet X8_howManyShow X8_kindAbove X8_isUnder X9_feed X9_works X9_people X9_isPair X9_tie
set_option maxHeartbeats 4000000 in
set_option maxRecDepth 100000 in
theorem pX7_step (l : Launch) (D : va_G) (T : Nat → ClassId) (X : zFP) (hgt : Nat → Nat) (sz : Nat) (gt : zM) (ngt : zM) (hf : fX7_step gt = some ngt) : Met l yX7_step wsX7_step rX7_step (zPre D T X [.ref (hgt 0)] (wX7 T hgt gt) sz) (zQv D T (wX7 T hgt ngt) (wX7 T hgt gt) sz) 0 0 (va_A (wX7 T hgt gt) sz) := by
  unfold fX7_step at hf
  refine zStart [(0, .ref (hgt 0))] (by decide) rfl (Nat.le_of_ble_eq_true rfl) rfl ?_
  intro p e s m args below meth c A Q ls hx hb hr hml hown hlocks hts hsz hA0 hQ hA hK hX hP hD hS hl
  replace hown : s.vm.findClass RX7 = some m.cls := hown
  have hH := hsz
  have hiX7 : ∀ w ∈ u_ws RX7 TX7 6, w ∈ wsX7_step := fun w h => List.mem_cons_of_mem _ (List.mem_append_right _ (h))
  obtain ⟨H, hHe⟩ : ∃ H : Heap, H = s.heap := ⟨_, rfl⟩
  obtain ⟨locs, hLe⟩ : ∃ L : List Loc, L = [] := ⟨_, rfl⟩
  replace hP : va_P D vwCl (wX7 T hgt gt) H := by rw [hHe]; exact hP
  replace hS : va_S A s.heap H locs := by rw [hHe, hLe]; exact hS
  suffices hgo : W p l e rX7_step s m args below meth c H locs 0 0 Q (F0 m 0 ls []) by rw [hHe, hLe] at hgo; exact hgo
  clear hHe hLe
  obtain ⟨ex, hlp, hf⟩ := zB1_ok hf
  have hE0_38 : ∀ (gt_2 : zM) , ex = gt_2 → ∀ (H : Heap) (locs : List Loc) (ls : Array Slot), va_P D vwCl (wX7 T hgt gt_2) H → va_D A (wX7 T hgt gt_2) → va_S A s.heap H locs → lv_has ls 2 [(0, .ref (hgt 0))] → W p l e rX7_step s m args below meth c H locs 0 0 Q (F0 m 38 ls []) := by
    intro gt_2 hex H locs ls hP hD hS hl
    have hf := zEx1 hex hf
    refine lv_aload_n hx hb dX7_step_38 rfl (lv_at hl 0 rfl) ?_
    refine lv_aload_n hx hb dX7_step_39 rfl (lv_at hl 0 rfl) ?_
    refine zGet (ci := 7) (C := RX7) (F := TX7) (N := 6) (v := .int (gt_2 0 3)) hx hb hts hiX7 hown hK hP 0 3 1 rfl rfl (by decide) rfl rfl rfl dX7_step_40 ?_
    refine lv_topi (fun v6 ev6 => ?_)
    replace hf := zLt_at ev6 hf
    refine zPut (ci := 7) (C := RX7) (F := TX7) (N := 6) (x := v6) (w := gt_2) hx hb hts hiX7 tyX7 tyX7_ok nmX7 hown hK hP hD hS (fun g => wX7 T hgt g) 0 2 4 rfl rfl (by decide) rfl rfl rfl ⟨rfl, rfl⟩ (Nat.le_of_ble_eq_true rfl) rfl dX7_step_43 (fun gt_7 egt_7 H locs hP hD hS => ?_)
    replace hP : va_P D vwCl (wX7 T hgt gt_7) H := hP
    replace hD : va_D A (wX7 T hgt gt_7) := hD
    replace hf := zLt_at egt_7 hf
    refine lv_aload_n hx hb dX7_step_46 rfl (lv_at hl 0 rfl) ?_
    refine lv_iconst (v := (-1)) hx hb dX7_step_47 (by decide) ?_
    refine zPut (ci := 7) (C := RX7) (F := TX7) (N := 6) (x := (-1)) (w := gt_7) hx hb hts hiX7 tyX7 tyX7_ok nmX7 hown hK hP hD hS (fun g => wX7 T hgt g) 0 5 5 rfl rfl (by decide) rfl rfl rfl ⟨rfl, rfl⟩ (Nat.le_of_ble_eq_true rfl) rfl dX7_step_48 (fun gt_8 egt_8 H locs hP hD hS => ?_)
    replace hP : va_P D vwCl (wX7 T hgt gt_8) H := hP
    replace hD : va_D A (wX7 T hgt gt_8) := hD
    replace hf := zLt_at egt_8 hf
    refine lv_aload_n hx hb dX7_step_51 rfl (lv_at hl 0 rfl) ?_
    refine zGet (ci := 7) (C := RX7) (F := TX7) (N := 6) (v := .int (gt_8 0 3)) hx hb hts hiX7 hown hK hP 0 3 1 rfl rfl (by decide) rfl rfl rfl dX7_step_52 ?_
    refine lv_aload_n hx hb dX7_step_55 rfl (lv_at hl 0 rfl) ?_
    refine zGet (ci := 7) (C := RX7) (F := TX7) (N := 6) (v := .int (gt_8 0 1)) hx hb hts hiX7 hown hK hP 0 1 2 rfl rfl (by decide) rfl rfl rfl dX7_step_56 ?_
    refine lv_icmp_lt (tgt := 68) hx hb dX7_step_59 (by decide) (fun hc => ?_) (fun hc => ?_)
    · replace hf := zIf_t hc hf
      refine lv_aload_n hx hb dX7_step_68 rfl (lv_at hl 0 rfl) ?_
      refine lv_aload_n hx hb dX7_step_69 rfl (lv_at hl 0 rfl) ?_
      refine zGet (ci := 7) (C := RX7) (F := TX7) (N := 6) (v := .ref (hgt 1)) hx hb hts hiX7 hown hK hP 0 0 3 rfl rfl (by decide) rfl rfl rfl dX7_step_70 ?_
      refine lv_aload_n hx hb dX7_step_73 rfl (lv_at hl 0 rfl) ?_
      refine zGet (ci := 7) (C := RX7) (F := TX7) (N := 6) (v := .int (gt_8 0 3)) hx hb hts hiX7 hown hK hP 0 3 1 rfl rfl (by decide) rfl rfl rfl dX7_step_74 ?_
      obtain ⟨hg, hf⟩ := zGd_ok hf
      refine zAldB hx hb hK hP 1 rfl hg dX7_step_77 (fun v9 ev9 => ?_)
      replace hf := zLt_at ev9 hf
      obtain ⟨v10, hc78, hf⟩ := zB1_ok hf
      refine zCallS0I [.int v9] ⟨hx, hb, hml, hown, hts⟩ (pX7_sortOf l D T X H.size v9 v10 hc78) (va_cwS 1 hts gX7_step_X7_sortOf rfl rfl rfl (by decide +kernel) ⟨Nat.le_of_ble_eq_true rfl, Nat.le_of_ble_eq_true rfl⟩) hK hP hD hS hA hX rfl hl.1 rfl (Nat.le_of_ble_eq_true rfl) dX7_step_78 ⟨Nat.zero_le _, Nat.zero_le _⟩ (fun H locs hP hD hS => ?_)
      refine zPut (ci := 7) (C := RX7) (F := TX7) (N := 6) (x := v10) (w := gt_8) hx hb hts hiX7 tyX7 tyX7_ok nmX7 hown hK hP hD hS (fun g => wX7 T hgt g) 0 4 6 rfl rfl (by decide) rfl rfl rfl ⟨rfl, rfl⟩ (Nat.le_of_ble_eq_true rfl) rfl dX7_step_81 (fun gt_11 egt_11 H locs hP hD hS => ?_)
      replace hP : va_P D vwCl (wX7 T hgt gt_11) H := hP
      replace hD : va_D A (wX7 T hgt gt_11) := hD
      replace hf := zLt_at egt_11 hf
      refine lv_aload_n hx hb dX7_step_84 rfl (lv_at hl 0 rfl) ?_
      refine lv_dup hx hb dX7_step_85 rfl ?_
      refine zGet (ci := 7) (C := RX7) (F := TX7) (N := 6) (v := .int (gt_11 0 3)) hx hb hts hiX7 hown hK hP 0 3 1 rfl rfl (by decide) rfl rfl rfl dX7_step_86 ?_
      refine lv_iconst (v := 1) hx hb dX7_step_89 (by decide) ?_
      refine lv_iadd hx hb dX7_step_90 ?_
      refine lv_topi (fun v12 ev12 => ?_)
      replace hf := zLt_at ev12 hf
      refine zPut (ci := 7) (C := RX7) (F := TX7) (N := 6) (x := v12) (w := gt_11) hx hb hts hiX7 tyX7 tyX7_ok nmX7 hown hK hP hD hS (fun g => wX7 T hgt g) 0 3 1 rfl rfl (by decide) rfl rfl rfl ⟨rfl, rfl⟩ (Nat.le_of_ble_eq_true rfl) rfl dX7_step_91 (fun gt_13 egt_13 H locs hP hD hS => ?_)
      replace hP : va_P D vwCl (wX7 T hgt gt_13) H := hP
      replace hD : va_D A (wX7 T hgt gt_13) := hD
      replace hf := zLt_at egt_13 hf
      refine lv_aload_n hx hb dX7_step_94 rfl (lv_at hl 0 rfl) ?_
      refine zGet (ci := 7) (C := RX7) (F := TX7) (N := 6) (v := .int (gt_13 0 4)) hx hb hts hiX7 hown hK hP 0 4 6 rfl rfl (by decide) rfl rfl rfl dX7_step_95 ?_
      refine lv_iconst (v := 1) hx hb dX7_step_98 (by decide) ?_
      have hJ115 : ∀ (v14 : Int32) (H : Heap) (locs : List Loc) (ls : Array Slot), fX7_step_J115 gt_13 v14 = some ngt → va_P D vwCl (wX7 T hgt gt_13) H → va_D A (wX7 T hgt gt_13) → va_S A s.heap H locs → lv_has ls 2 [(0, .ref (hgt 0))] → W p l e rX7_step s m args below meth c H locs 0 0 Q (F0 m 115 ls [.int v14]) := by
        intro v14 H locs ls hf hP hD hS hl
        unfold fX7_step_J115 at hf
        refine lv_istore_n (lv' := [(1, .int v14), (0, .ref (hgt 0))]) hx hb dX7_step_115 rfl hl (by decide) rfl (fun ls hl => ?_)
        obtain ⟨ex, hlp, hf⟩ := zB1_ok hf
        have hE116_163 : ∀ (gt_16 : zM) , ex = gt_16 → ∀ (H : Heap) (locs : List Loc) (ls : Array Slot), va_P D vwCl (wX7 T hgt gt_16) H → va_D A (wX7 T hgt gt_16) → va_S A s.heap H locs → lv_has ls 2 [(0, .ref (hgt 0))] → W p l e rX7_step s m args below meth c H locs 0 0 Q (F0 m 163 ls []) := by
          intro gt_16 hex H locs ls hP hD hS hl
          have hf := zEx1 hex hf
          refine lv_aload_n hx hb dX7_step_163 rfl (lv_at hl 0 rfl) ?_
          refine zGet (ci := 7) (C := RX7) (F := TX7) (N := 6) (v := .int (gt_16 0 4)) hx hb hts hiX7 hown hK hP 0 4 6 rfl rfl (by decide) rfl rfl rfl dX7_step_164 ?_
          refine lv_iconst (v := 2) hx hb dX7_step_167 (by decide) ?_
          refine lv_icmp_ne (tgt := 175) hx hb dX7_step_168 (by decide) (fun hc => ?_) (fun hc => ?_)
          · replace hf := zIf_f hc hf
            obtain ⟨q1, -⟩ := zI1 hf
            subst q1
            exact zRetV hQ hx hb hr hlocks hA0 hK hP hD hS dX7_step_175
          · replace hf := zIf_t hc hf
            refine lv_aload_n hx hb dX7_step_171 rfl (lv_at hl 0 rfl) ?_
            obtain ⟨gt_21, hc172, hf⟩ := zB1_ok hf
            refine zCallVEV [] ⟨hx, hb, hml, hown, hts⟩ (pX7_readNumber l D T X hgt H.size gt_16 gt_21 hc172) (cwV 0 hts gX7_step_X7_readNumber rfl rfl rfl (by decide +kernel) ⟨Nat.le_of_ble_eq_true rfl, Nat.le_of_ble_eq_true rfl⟩) hK hP hD hS hA hX 0 rfl rfl rfl hl.1 rfl (Nat.le_of_ble_eq_true rfl) dX7_step_172 ⟨Nat.zero_le _, Nat.zero_le _⟩ (fun H locs hP hD hS => ?_)
            obtain ⟨q1, -⟩ := zI1 hf
            subst q1
            exact zRetV hQ hx hb hr hlocks hA0 hK hP hD hS dX7_step_175
        refine zLpS1 (body := (fX7_step_L116 v14)) (b := ex) (fun (gt_15 : zM) => ∀ (H : Heap) (locs : List Loc) (ls : Array Slot), va_P D vwCl (wX7 T hgt gt_15) H → va_D A (wX7 T hgt gt_15) → va_S A s.heap H locs → lv_has ls 2 [(0, .ref (hgt 0)), (1, .int v14)] → W p l e rX7_step s m args below meth c H locs 0 0 Q (F0 m 116 ls [])) ?_ zFU gt_13 hlp H locs ls hP hD hS (lv_sub hl [1, 0] rfl)
        intro gt_15 z hf hzz H locs ls hP hD hS hl
        unfold fX7_step_L116 at hf
        replace hf := zUk1 hf
        refine lv_iload_n hx hb dX7_step_116 rfl (lv_at hl 1 rfl) ?_
        refine lv_if_eq (tgt := 163) hx hb dX7_step_117 (by decide) (fun hc => ?_) (fun hc => ?_)
        · replace hf := zIf_t hc hf
          cases hf
          exact hE116_163 gt_15 hzz.symm H locs ls hP hD hS (lv_sub hl [0] rfl)
        · replace hf := zIf_f hc hf
          refine lv_aload_n hx hb dX7_step_120 rfl (lv_at hl 0 rfl) ?_
          refine zGet (ci := 7) (C := RX7) (F := TX7) (N := 6) (v := .int (gt_15 0 3)) hx hb hts hiX7 hown hK hP 0 3 1 rfl rfl (by decide) rfl rfl rfl dX7_step_121 ?_
          refine lv_aload_n hx hb dX7_step_124 rfl (lv_at hl 0 rfl) ?_
          refine zGet (ci := 7) (C := RX7) (F := TX7) (N := 6) (v := .int (gt_15 0 1)) hx hb hts hiX7 hown hK hP 0 1 2 rfl rfl (by decide) rfl rfl rfl dX7_step_125 ?_
          refine lv_icmp_ge (tgt := 163) hx hb dX7_step_128 (by decide) (fun hc => ?_) (fun hc => ?_)
          · replace hf := zIf_t hc hf
            cases hf
            exact hE116_163 gt_15 hzz.symm H locs ls hP hD hS (lv_sub hl [0] rfl)
          · replace hf := zIf_f hc hf
            refine lv_aload_n hx hb dX7_step_131 rfl (lv_at hl 0 rfl) ?_
            refine zGet (ci := 7) (C := RX7) (F := TX7) (N := 6) (v := .ref (hgt 1)) hx hb hts hiX7 hown hK hP 0 0 3 rfl rfl (by decide) rfl rfl rfl dX7_step_132 ?_
            refine lv_aload_n hx hb dX7_step_135 rfl (lv_at hl 0 rfl) ?_
            refine zGet (ci := 7) (C := RX7) (F := TX7) (N := 6) (v := .int (gt_15 0 3)) hx hb hts hiX7 hown hK hP 0 3 1 rfl rfl (by decide) rfl rfl rfl dX7_step_136 ?_
            obtain ⟨hg, hf⟩ := zGd_ok hf
            refine zAldB hx hb hK hP 1 rfl hg dX7_step_139 (fun v17 ev17 => ?_)
            replace hf := zLt_at ev17 hf
            obtain ⟨v18, hc140, hf⟩ := zB1_ok hf
            refine zCallS0I [.int v17] ⟨hx, hb, hml, hown, hts⟩ (pX7_sortOf l D T X H.size v17 v18 hc140) (va_cwS 1 hts gX7_step_X7_sortOf rfl rfl rfl (by decide +kernel) ⟨Nat.le_of_ble_eq_true rfl, Nat.le_of_ble_eq_true rfl⟩) hK hP hD hS hA hX rfl hl.1 rfl (Nat.le_of_ble_eq_true rfl) dX7_step_140 ⟨Nat.zero_le _, Nat.zero_le _⟩ (fun H locs hP hD hS => ?_)
            refine lv_aload_n hx hb dX7_step_143 rfl (lv_at hl 0 rfl) ?_
            refine zGet (ci := 7) (C := RX7) (F := TX7) (N := 6) (v := .int (gt_15 0 4)) hx hb hts hiX7 hown hK hP 0 4 6 rfl rfl (by decide) rfl rfl rfl dX7_step_144 ?_
            refine lv_icmp_ne (tgt := 163) hx hb dX7_step_147 (by decide) (fun hc => ?_) (fun hc => ?_)
            · replace hf := zIf_f hc hf
              cases hf
              exact hE116_163 gt_15 hzz.symm H locs ls hP hD hS (lv_sub hl [0] rfl)
            · replace hf := zIf_t hc hf
              refine lv_aload_n hx hb dX7_step_150 rfl (lv_at hl 0 rfl) ?_
              refine lv_dup hx hb dX7_step_151 rfl ?_
              refine zGet (ci := 7) (C := RX7) (F := TX7) (N := 6) (v := .int (gt_15 0 3)) hx hb hts hiX7 hown hK hP 0 3 1 rfl rfl (by decide) rfl rfl rfl dX7_step_152 ?_
              refine lv_iconst (v := 1) hx hb dX7_step_155 (by decide) ?_
              refine lv_iadd hx hb dX7_step_156 ?_
              refine lv_topi (fun v19 ev19 => ?_)
              replace hf := zLt_at ev19 hf
              refine zPut (ci := 7) (C := RX7) (F := TX7) (N := 6) (x := v19) (w := gt_15) hx hb hts hiX7 tyX7 tyX7_ok nmX7 hown hK hP hD hS (fun g => wX7 T hgt g) 0 3 1 rfl rfl (by decide) rfl rfl rfl ⟨rfl, rfl⟩ (Nat.le_of_ble_eq_true rfl) rfl dX7_step_157 (fun gt_20 egt_20 H locs hP hD hS => ?_)
              replace hP : va_P D vwCl (wX7 T hgt gt_20) H := hP
              replace hD : va_D A (wX7 T hgt gt_20) := hD
              replace hf := zLt_at egt_20 hf
              refine lv_goto (tgt := 116) hx hb dX7_step_160 (by decide) ?_
              cases hf
              exact hzz H locs ls hP hD hS hl
      have hJ110 : ∀ (H : Heap) (locs : List Loc) (ls : Array Slot), fX7_step_J110 gt_13 = some ngt → va_P D vwCl (wX7 T hgt gt_13) H → va_D A (wX7 T hgt gt_13) → va_S A s.heap H locs → lv_has ls 2 [(0, .ref (hgt 0))] → W p l e rX7_step s m args below meth c H locs 0 0 Q (F0 m 110 ls []) := by
        intro H locs ls hf hP hD hS hl
        unfold fX7_step_J110 at hf
        refine lv_iconst (v := 1) hx hb dX7_step_110 (by decide) ?_
        refine lv_goto (tgt := 115) hx hb dX7_step_111 (by decide) ?_
        exact hJ115 1 H locs ls hf hP hD hS hl
      refine lv_icmp_eq (tgt := 110) hx hb dX7_step_99 (by decide) (fun hc => ?_) (fun hc => ?_)
      · replace hf := zIf_t hc hf
        exact hJ110 H locs ls hf hP hD hS hl
      · replace hf := zIf_f hc hf
        refine lv_aload_n hx hb dX7_step_102 rfl (lv_at hl 0 rfl) ?_
        refine zGet (ci := 7) (C := RX7) (F := TX7) (N := 6) (v := .int (gt_13 0 4)) hx hb hts hiX7 hown hK hP 0 4 6 rfl rfl (by decide) rfl rfl rfl dX7_step_103 ?_
        refine lv_iconst (v := 2) hx hb dX7_step_106 (by decide) ?_
        refine lv_icmp_ne (tgt := 114) hx hb dX7_step_107 (by decide) (fun hc => ?_) (fun hc => ?_)
        · replace hf := zIf_f hc hf
          refine lv_iconst (v := 0) hx hb dX7_step_114 (by decide) ?_
          exact hJ115 0 H locs ls hf hP hD hS hl
        · replace hf := zIf_t hc hf
          exact hJ110 H locs ls hf hP hD hS hl
    · replace hf := zIf_f hc hf
      refine lv_aload_n hx hb dX7_step_62 rfl (lv_at hl 0 rfl) ?_
      refine lv_iconst (v := 0) hx hb dX7_step_63 (by decide) ?_
      refine zPut (ci := 7) (C := RX7) (F := TX7) (N := 6) (x := 0) (w := gt_8) hx hb hts hiX7 tyX7 tyX7_ok nmX7 hown hK hP hD hS (fun g => wX7 T hgt g) 0 4 6 rfl rfl (by decide) rfl rfl rfl ⟨rfl, rfl⟩ (Nat.le_of_ble_eq_true rfl) rfl dX7_step_64 (fun gt_22 egt_22 H locs hP hD hS => ?_)
      replace hP : va_P D vwCl (wX7 T hgt gt_22) H := hP
      replace hD : va_D A (wX7 T hgt gt_22) := hD
      replace hf := zLt_at egt_22 hf
      obtain ⟨q1, -⟩ := zI1 hf
      subst q1
      exact zRetV hQ hx hb hr hlocks hA0 hK hP hD hS dX7_step_67
  refine zLpS1 (body := fX7_step_L0) (b := ex) (fun (gt_1 : zM) => ∀ (H : Heap) (locs : List Loc) (ls : Array Slot), va_P D vwCl (wX7 T hgt gt_1) H → va_D A (wX7 T hgt gt_1) → va_S A s.heap H locs → lv_has ls 2 [(0, .ref (hgt 0))] → W p l e rX7_step s m args below meth c H locs 0 0 Q (F0 m 0 ls [])) ?_ zFU gt hlp H locs ls hP hD hS hl
  intro gt_1 z hf hzz H locs ls hP hD hS hl
  unfold fX7_step_L0 at hf
  replace hf := zUk1 hf
  refine lv_aload_n hx hb dX7_step_0 rfl (lv_at hl 0 rfl) ?_
  refine zGet (ci := 7) (C := RX7) (F := TX7) (N := 6) (v := .int (gt_1 0 3)) hx hb hts hiX7 hown hK hP 0 3 1 rfl rfl (by decide) rfl rfl rfl dX7_step_1 ?_
  refine lv_aload_n hx hb dX7_step_4 rfl (lv_at hl 0 rfl) ?_
  refine zGet (ci := 7) (C := RX7) (F := TX7) (N := 6) (v := .int (gt_1 0 1)) hx hb hts hiX7 hown hK hP 0 1 2 rfl rfl (by decide) rfl rfl rfl dX7_step_5 ?_
  refine lv_icmp_ge (tgt := 38) hx hb dX7_step_8 (by decide) (fun hc => ?_) (fun hc => ?_)
  · replace hf := zIf_t hc hf
    cases hf
    exact hE0_38 gt_1 hzz.symm H locs ls hP hD hS hl
  · replace hf := zIf_f hc hf
    refine lv_aload_n hx hb dX7_step_11 rfl (lv_at hl 0 rfl) ?_
    refine zGet (ci := 7) (C := RX7) (F := TX7) (N := 6) (v := .ref (hgt 1)) hx hb hts hiX7 hown hK hP 0 0 3 rfl rfl (by decide) rfl rfl rfl dX7_step_12 ?_
    refine lv_aload_n hx hb dX7_step_15 rfl (lv_at hl 0 rfl) ?_
    refine zGet (ci := 7) (C := RX7) (F := TX7) (N := 6) (v := .int (gt_1 0 3)) hx hb hts hiX7 hown hK hP 0 3 1 rfl rfl (by decide) rfl rfl rfl dX7_step_16 ?_
    obtain ⟨hg, hf⟩ := zGd_ok hf
    refine zAldB hx hb hK hP 1 rfl hg dX7_step_19 (fun v3 ev3 => ?_)
    replace hf := zLt_at ev3 hf
    refine lv_bipush (v := 32) hx hb dX7_step_20 (by decide) ?_
    refine lv_icmp_ne (tgt := 38) hx hb dX7_step_22 (by decide) (fun hc => ?_) (fun hc => ?_)
    · replace hf := zIf_f hc hf
      cases hf
      exact hE0_38 gt_1 hzz.symm H locs ls hP hD hS hl
    · replace hf := zIf_t hc hf
      refine lv_aload_n hx hb dX7_step_25 rfl (lv_at hl 0 rfl) ?_
      refine lv_dup hx hb dX7_step_26 rfl ?_
      refine zGet (ci := 7) (C := RX7) (F := TX7) (N := 6) (v := .int (gt_1 0 3)) hx hb hts hiX7 hown hK hP 0 3 1 rfl rfl (by decide) rfl rfl rfl dX7_step_27 ?_
      refine lv_iconst (v := 1) hx hb dX7_step_30 (by decide) ?_
      refine lv_iadd hx hb dX7_step_31 ?_
      refine lv_topi (fun v4 ev4 => ?_)
      replace hf := zLt_at ev4 hf
      refine zPut (ci := 7) (C := RX7) (F := TX7) (N := 6) (x := v4) (w := gt_1) hx hb hts hiX7 tyX7 tyX7_ok nmX7 hown hK hP hD hS (fun g => wX7 T hgt g) 0 3 1 rfl rfl (by decide) rfl rfl rfl ⟨rfl, rfl⟩ (Nat.le_of_ble_eq_true rfl) rfl dX7_step_32 (fun gt_5 egt_5 H locs hP hD hS => ?_)
      replace hP : va_P D vwCl (wX7 T hgt gt_5) H := hP
      replace hD : va_D A (wX7 T hgt gt_5) := hD
      replace hf := zLt_at egt_5 hf
      refine lv_goto (tgt := 0) hx hb dX7_step_35 (by decide) ?_
      cases hf
      exact hzz H locs ls hP hD hS hl
set_option maxHeartbeats 4000000 in
set_option maxRecDepth 100000 in
theorem pX7_isWord (l : Launch) (D : va_G) (T : Nat → ClassId) (X : zFP) (hgt : Nat → Nat) (sz : Nat) (gt : zM) (j : Nat) (r : Int32) (hf : fX7_isWord gt j = some r) : Met l yX7_isWord wsX7_isWord rX7_isWord (zPre D T X [.ref (hgt 0), .ref (X.2.1 j)] (wX7 T hgt gt) sz) (zQi D T r (wX7 T hgt gt) (wX7 T hgt gt) sz) 0 0 (va_A (wX7 T hgt gt) sz) := by
  unfold fX7_isWord at hf
  refine zStart [(0, .ref (hgt 0)), (1, .ref (X.2.1 j))] (by decide) rfl (Nat.le_of_ble_eq_true rfl) rfl ?_
  intro p e s m args below meth c A Q ls hx hb hr hml hown hlocks hts hsz hA0 hQ hA hK hX hP hD hS hl
  replace hown : s.vm.findClass RX7 = some m.cls := hown
  have hH := hsz
  have hiX7 : ∀ w ∈ u_ws RX7 TX7 6, w ∈ wsX7_isWord := fun w h => List.mem_cons_of_mem _ (List.mem_append_right _ (h))
  obtain ⟨H, hHe⟩ : ∃ H : Heap, H = s.heap := ⟨_, rfl⟩
  obtain ⟨locs, hLe⟩ : ∃ L : List Loc, L = [] := ⟨_, rfl⟩
  replace hP : va_P D vwCl (wX7 T hgt gt) H := by rw [hHe]; exact hP
  replace hS : va_S A s.heap H locs := by rw [hHe, hLe]; exact hS
  suffices hgo : W p l e rX7_isWord s m args below meth c H locs 0 0 Q (F0 m 0 ls []) by rw [hHe, hLe] at hgo; exact hgo
  clear hHe hLe
  obtain ⟨hj0, hf⟩ := zGd_ok hf
  have hj : j < 10 := of_decide_eq_true hj0
  refine lv_aload_n hx hb dX7_isWord_0 rfl (lv_at hl 0 rfl) ?_
  refine zGet (ci := 7) (C := RX7) (F := TX7) (N := 6) (v := .int (gt 0 4)) hx hb hts hiX7 hown hK hP 0 4 1 rfl rfl (by decide) rfl rfl rfl dX7_isWord_1 ?_
  refine lv_iconst (v := 1) hx hb dX7_isWord_4 (by decide) ?_
  refine lv_icmp_ne (tgt := 24) hx hb dX7_isWord_5 (by decide) (fun hc => ?_) (fun hc => ?_)
  · replace hf := zIf_f hc hf
    refine lv_iconst (v := 0) hx hb dX7_isWord_24 (by decide) ?_
    obtain ⟨q1, -⟩ := zI1 hf
    subst q1
    exact zRetZ hQ hx hb hr hlocks hA0 hK hP hD hS (by decide) rfl dX7_isWord_25
  · replace hf := zIf_t hc hf
    refine lv_aload_n hx hb dX7_isWord_8 rfl (lv_at hl 0 rfl) ?_
    refine zGet (ci := 7) (C := RX7) (F := TX7) (N := 6) (v := .int (gt 0 3)) hx hb hts hiX7 hown hK hP 0 3 2 rfl rfl (by decide) rfl rfl rfl dX7_isWord_9 ?_
    refine lv_aload_n hx hb dX7_isWord_12 rfl (lv_at hl 0 rfl) ?_
    refine zGet (ci := 7) (C := RX7) (F := TX7) (N := 6) (v := .int (gt 0 2)) hx hb hts hiX7 hown hK hP 0 2 3 rfl rfl (by decide) rfl rfl rfl dX7_isWord_13 ?_
    refine lv_isub hx hb dX7_isWord_16 ?_
    refine lv_aload_n hx hb dX7_isWord_17 rfl (lv_at hl 1 rfl) ?_
    refine zCallV0I (r := zSl j) [] ⟨hx, hb, hml, hown, hts⟩ (pJ0_length_8abf5 l D T X H.size j hj) (cwV 0 hts gX7_isWord_J0_length_8abf5 rfl rfl rfl (by decide +kernel) ⟨Nat.le_of_ble_eq_true rfl, Nat.le_of_ble_eq_true rfl⟩) hK hP hD hS hA hX (vk_recv hX.2.2.2.2.1 hj hS) rfl hl.1 rfl (Nat.le_of_ble_eq_true rfl) dX7_isWord_18 ⟨Nat.zero_le _, Nat.zero_le _⟩ (fun H locs hP hD hS => ?_)
    refine lv_topi (fun v1 ev1 => ?_)
    replace hf := zLt_at ev1 hf
    refine lv_icmp_eq (tgt := 26) hx hb dX7_isWord_21 (by decide) (fun hc => ?_) (fun hc => ?_)
    · replace hf := zIf_t hc hf
      refine lv_iconst (v := 0) hx hb dX7_isWord_26 (by decide) ?_
      refine lv_istore_n (lv' := [(2, .int 0), (0, .ref (hgt 0)), (1, .ref (X.2.1 j))]) hx hb dX7_isWord_27 rfl hl (by decide) rfl (fun ls hl => ?_)
      obtain ⟨ex, hlp, hf⟩ := zB1_ok hf
      have hE28_63 : ex = (.inl ()) → ∀ (H : Heap) (locs : List Loc) (ls : Array Slot), va_P D vwCl (wX7 T hgt gt) H → va_D A (wX7 T hgt gt) → va_S A s.heap H locs → lv_has ls 3 [] → W p l e rX7_isWord s m args below meth c H locs 0 0 Q (F0 m 63 ls []) := by
        intro hex H locs ls hP hD hS hl
        have hf := zExL0 hex hf
        refine lv_iconst (v := 1) hx hb dX7_isWord_63 (by decide) ?_
        obtain ⟨q1, -⟩ := zI1 hf
        subst q1
        exact zRetZ hQ hx hb hr hlocks hA0 hK hP hD hS (by decide) rfl dX7_isWord_64
      have hE28_55 : ex = (.inr ()) → ∀ (H : Heap) (locs : List Loc) (ls : Array Slot), va_P D vwCl (wX7 T hgt gt) H → va_D A (wX7 T hgt gt) → va_S A s.heap H locs → lv_has ls 3 [] → W p l e rX7_isWord s m args below meth c H locs 0 0 Q (F0 m 55 ls []) := by
        intro hex H locs ls hP hD hS hl
        have hf := zSmR hex hf
        have hf := zEx0 rfl hf
        refine lv_iconst (v := 0) hx hb dX7_isWord_55 (by decide) ?_
        obtain ⟨q1, -⟩ := zI1 hf
        subst q1
        exact zRetZ hQ hx hb hr hlocks hA0 hK hP hD hS (by decide) rfl dX7_isWord_56
      refine zLpS1 (body := (fX7_isWord_L28 j gt)) (b := ex) (fun (v2 : Int32) => ∀ (H : Heap) (locs : List Loc) (ls : Array Slot), va_P D vwCl (wX7 T hgt gt) H → va_D A (wX7 T hgt gt) → va_S A s.heap H locs → lv_has ls 3 [(0, .ref (hgt 0)), (1, .ref (X.2.1 j)), (2, .int v2)] → W p l e rX7_isWord s m args below meth c H locs 0 0 Q (F0 m 28 ls [])) ?_ zFU 0 hlp H locs ls hP hD hS (lv_sub hl [1, 2, 0] rfl)
      intro v2 z hf hzz H locs ls hP hD hS hl
      unfold fX7_isWord_L28 at hf
      replace hf := zUk1 hf
      refine lv_iload_n hx hb dX7_isWord_28 rfl (lv_at hl 2 rfl) ?_
      refine lv_aload_n hx hb dX7_isWord_29 rfl (lv_at hl 1 rfl) ?_
      refine zCallV0I (r := zSl j) [] ⟨hx, hb, hml, hown, hts⟩ (pJ0_length_8abf5 l D T X H.size j hj) (cwV 0 hts gX7_isWord_J0_length_8abf5 rfl rfl rfl (by decide +kernel) ⟨Nat.le_of_ble_eq_true rfl, Nat.le_of_ble_eq_true rfl⟩) hK hP hD hS hA hX (vk_recv hX.2.2.2.2.1 hj hS) rfl hl.1 rfl (Nat.le_of_ble_eq_true rfl) dX7_isWord_30 ⟨Nat.zero_le _, Nat.zero_le _⟩ (fun H locs hP hD hS => ?_)
      refine lv_topi (fun v3 ev3 => ?_)
      replace hf := zLt_at ev3 hf
      refine lv_icmp_ge (tgt := 63) hx hb dX7_isWord_33 (by decide) (fun hc => ?_) (fun hc => ?_)
      · replace hf := zIf_t hc hf
        cases hf
        exact hE28_63 hzz.symm H locs ls hP hD hS (lv_sub hl [] rfl)
      · replace hf := zIf_f hc hf
        refine lv_aload_n hx hb dX7_isWord_36 rfl (lv_at hl 0 rfl) ?_
        refine zGet (ci := 7) (C := RX7) (F := TX7) (N := 6) (v := .ref (hgt 1)) hx hb hts hiX7 hown hK hP 0 0 4 rfl rfl (by decide) rfl rfl rfl dX7_isWord_37 ?_
        refine lv_aload_n hx hb dX7_isWord_40 rfl (lv_at hl 0 rfl) ?_
        refine zGet (ci := 7) (C := RX7) (F := TX7) (N := 6) (v := .int (gt 0 2)) hx hb hts hiX7 hown hK hP 0 2 3 rfl rfl (by decide) rfl rfl rfl dX7_isWord_41 ?_
        refine lv_iload_n hx hb dX7_isWord_44 rfl (lv_at hl 2 rfl) ?_
        refine lv_iadd hx hb dX7_isWord_45 ?_
        obtain ⟨hg, hf⟩ := zGd_ok hf
        refine zAldB hx hb hK hP 1 rfl hg dX7_isWord_46 (fun v4 ev4 => ?_)
        replace hf := zLt_at ev4 hf
        refine lv_aload_n hx hb dX7_isWord_47 rfl (lv_at hl 1 rfl) ?_
        refine lv_iload_n hx hb dX7_isWord_48 rfl (lv_at hl 2 rfl) ?_
        obtain ⟨hg, hf⟩ := zGd_ok hf
        refine zCallV0I (r := zSc j v2) [.int v2] ⟨hx, hb, hml, hown, hts⟩ (pJ0_charAt_5068e l D T X H.size j hj v2 hg) (cwV 1 hts gX7_isWord_J0_charAt_5068e rfl rfl rfl (by decide +kernel) ⟨Nat.le_of_ble_eq_true rfl, Nat.le_of_ble_eq_true rfl⟩) hK hP hD hS hA hX (vk_recv hX.2.2.2.2.1 hj hS) rfl hl.1 rfl (Nat.le_of_ble_eq_true rfl) dX7_isWord_49 ⟨Nat.zero_le _, Nat.zero_le _⟩ (fun H locs hP hD hS => ?_)
        refine lv_topi (fun v5 ev5 => ?_)
        replace hf := zLt_at ev5 hf
        refine lv_icmp_eq (tgt := 57) hx hb dX7_isWord_52 (by decide) (fun hc => ?_) (fun hc => ?_)
        · replace hf := zIf_t hc hf
          obtain ⟨v6, ev6⟩ : ∃ y : Int32, y = v2 + 1 := ⟨_, rfl⟩
          replace hf := zLt_at ev6 hf
          refine lv_iinc (v := v6) (lv' := [(2, .int v6), (0, .ref (hgt 0)), (1, .ref (X.2.1 j))]) hx hb dX7_isWord_57 hl (k := 2) rfl (by rw [ev6]; rfl) (by decide) rfl (fun ls hl => ?_)
          refine lv_goto (tgt := 28) hx hb dX7_isWord_60 (by decide) ?_
          cases hf
          exact hzz H locs ls hP hD hS (lv_sub hl [1, 2, 0] rfl)
        · replace hf := zIf_f hc hf
          cases hf
          exact hE28_55 hzz.symm H locs ls hP hD hS (lv_sub hl [] rfl)
    · replace hf := zIf_f hc hf
      refine lv_iconst (v := 0) hx hb dX7_isWord_24 (by decide) ?_
      obtain ⟨q1, -⟩ := zI1 hf
      subst q1
      exact zRetZ hQ hx hb hr hlocks hA0 hK hP hD hS (by decide) rfl dX7_isWord_25
set_option maxHeartbeats 4000000 in
set_option maxRecDepth 100000 in
theorem pX7_stepNumber (l : Launch) (D : va_G) (T : Nat → ClassId) (X : zFP) (hgt : Nat → Nat) (sz : Nat) (gt : zM) (a1 : Int32) (a2 : Int32) (r : Int32) (ngt : zM) (hf : fX7_stepNumber gt a1 a2 = some (r, ngt)) : Met l yX7_stepNumber wsX7_stepNumber rX7_stepNumber (zPre D T X [.ref (hgt 0), .int a1, .int a2] (wX7 T hgt gt) sz) (zQi D T r (wX7 T hgt ngt) (wX7 T hgt gt) sz) 0 0 (va_A (wX7 T hgt gt) sz) := by
  unfold fX7_stepNumber at hf
  refine zStart [(0, .ref (hgt 0)), (1, .int a1), (2, .int a2)] (by decide) rfl (Nat.le_of_ble_eq_true rfl) rfl ?_
  intro p e s m args below meth c A Q ls hx hb hr hml hown hlocks hts hsz hA0 hQ hA hK hX hP hD hS hl
  replace hown : s.vm.findClass RX7 = some m.cls := hown
  have hH := hsz
  have hiX7 : ∀ w ∈ u_ws RX7 TX7 6, w ∈ wsX7_stepNumber := fun w h => List.mem_cons_of_mem _ (List.mem_append_right _ (h))
  obtain ⟨H, hHe⟩ : ∃ H : Heap, H = s.heap := ⟨_, rfl⟩
  obtain ⟨locs, hLe⟩ : ∃ L : List Loc, L = [] := ⟨_, rfl⟩
  replace hP : va_P D vwCl (wX7 T hgt gt) H := by rw [hHe]; exact hP
  replace hS : va_S A s.heap H locs := by rw [hHe, hLe]; exact hS
  suffices hgo : W p l e rX7_stepNumber s m args below meth c H locs 0 0 Q (F0 m 0 ls []) by rw [hHe, hLe] at hgo; exact hgo
  clear hHe hLe
  refine lv_aload_n hx hb dX7_stepNumber_0 rfl (lv_at hl 0 rfl) ?_
  obtain ⟨gt_1, hc1, hf⟩ := zB1_ok hf
  refine zCallVEV [] ⟨hx, hb, hml, hown, hts⟩ (pX7_step l D T X hgt H.size gt gt_1 hc1) (cwV 0 hts gX7_stepNumber_X7_step rfl rfl rfl (by decide +kernel) ⟨Nat.le_of_ble_eq_true rfl, Nat.le_of_ble_eq_true rfl⟩) hK hP hD hS hA hX 0 rfl rfl rfl hl.1 rfl (Nat.le_of_ble_eq_true rfl) dX7_stepNumber_1 ⟨Nat.zero_le _, Nat.zero_le _⟩ (fun H locs hP hD hS => ?_)
  refine lv_aload_n hx hb dX7_stepNumber_4 rfl (lv_at hl 0 rfl) ?_
  refine zGet (ci := 7) (C := RX7) (F := TX7) (N := 6) (v := .int (gt_1 0 4)) hx hb hts hiX7 hown hK hP 0 4 1 rfl rfl (by decide) rfl rfl rfl dX7_stepNumber_5 ?_
  refine lv_iconst (v := 2) hx hb dX7_stepNumber_8 (by decide) ?_
  refine lv_icmp_ne (tgt := 32) hx hb dX7_stepNumber_9 (by decide) (fun hc => ?_) (fun hc => ?_)
  · replace hf := zIf_f hc hf
    refine lv_iconst (v := 0) hx hb dX7_stepNumber_32 (by decide) ?_
    obtain ⟨q1, q2⟩ := zI2 hf
    subst q1
    subst q2
    exact zRetZ hQ hx hb hr hlocks hA0 hK hP hD hS (by decide) rfl dX7_stepNumber_33
  · replace hf := zIf_t hc hf
    refine lv_aload_n hx hb dX7_stepNumber_12 rfl (lv_at hl 0 rfl) ?_
    refine zGet (ci := 7) (C := RX7) (F := TX7) (N := 6) (v := .int (gt_1 0 5)) hx hb hts hiX7 hown hK hP 0 5 2 rfl rfl (by decide) rfl rfl rfl dX7_stepNumber_13 ?_
    refine lv_iload_n hx hb dX7_stepNumber_16 rfl (lv_at hl 1 rfl) ?_
    refine lv_icmp_lt (tgt := 32) hx hb dX7_stepNumber_17 (by decide) (fun hc => ?_) (fun hc => ?_)
    · replace hf := zIf_t hc hf
      refine lv_iconst (v := 0) hx hb dX7_stepNumber_32 (by decide) ?_
      obtain ⟨q1, q2⟩ := zI2 hf
      subst q1
      subst q2
      exact zRetZ hQ hx hb hr hlocks hA0 hK hP hD hS (by decide) rfl dX7_stepNumber_33
    · replace hf := zIf_f hc hf
      refine lv_aload_n hx hb dX7_stepNumber_20 rfl (lv_at hl 0 rfl) ?_
      refine zGet (ci := 7) (C := RX7) (F := TX7) (N := 6) (v := .int (gt_1 0 5)) hx hb hts hiX7 hown hK hP 0 5 2 rfl rfl (by decide) rfl rfl rfl dX7_stepNumber_21 ?_
      refine lv_iload_n hx hb dX7_stepNumber_24 rfl (lv_at hl 2 rfl) ?_
      refine lv_icmp_gt (tgt := 32) hx hb dX7_stepNumber_25 (by decide) (fun hc => ?_) (fun hc => ?_)
      · replace hf := zIf_t hc hf
        refine lv_iconst (v := 0) hx hb dX7_stepNumber_32 (by decide) ?_
        obtain ⟨q1, q2⟩ := zI2 hf
        subst q1
        subst q2
        exact zRetZ hQ hx hb hr hlocks hA0 hK hP hD hS (by decide) rfl dX7_stepNumber_33
      · replace hf := zIf_f hc hf
        refine lv_iconst (v := 1) hx hb dX7_stepNumber_28 (by decide) ?_
        refine lv_goto (tgt := 33) hx hb dX7_stepNumber_29 (by decide) ?_
        obtain ⟨q1, q2⟩ := zI2 hf
        subst q1
        subst q2
        exact zRetZ hQ hx hb hr hlocks hA0 hK hP hD hS (by decide) rfl dX7_stepNumber_33
set_option maxHeartbeats 4000000 in
set_option maxRecDepth 100000 in
theorem pX8_startWith (l : Launch) (D : va_G) (T : Nat → ClassId) (X : zFP) (hgw : Nat → Nat) (sz : Nat) (gw : zM) (a1 : Int32) (ngw : zM) (hf : fX8_startWith gw a1 = some ngw) : Met l yX8_startWith wsX8_startWith rX8_startWith (zPre D T X [.ref (hgw 0), .int a1] (wX8 T hgw gw) sz) (zQv D T (wX8 T hgw ngw) (wX8 T hgw gw) sz) 0 0 (va_A (wX8 T hgw gw) sz) := by
  unfold fX8_startWith at hf
  refine zStart [(0, .ref (hgw 0)), (1, .int a1)] (by decide) rfl (Nat.le_of_ble_eq_true rfl) rfl ?_
  intro p e s m args below meth c A Q ls hx hb hr hml hown hlocks hts hsz hA0 hQ hA hK hX hP hD hS hl
  replace hown : s.vm.findClass RX8 = some m.cls := hown
  have hH := hsz
  have hiX8 : ∀ w ∈ u_ws RX8 TX8 14, w ∈ wsX8_startWith := fun w h => List.mem_cons_of_mem _ (List.mem_append_right _ (h))
  obtain ⟨H, hHe⟩ : ∃ H : Heap, H = s.heap := ⟨_, rfl⟩
  obtain ⟨locs, hLe⟩ : ∃ L : List Loc, L = [] := ⟨_, rfl⟩
  replace hP : va_P D vwCl (wX8 T hgw gw) H := by rw [hHe]; exact hP
  replace hS : va_S A s.heap H locs := by rw [hHe, hLe]; exact hS
  suffices hgo : W p l e rX8_startWith s m args below meth c H locs 0 0 Q (F0 m 0 ls []) by rw [hHe, hLe] at hgo; exact hgo
  clear hHe hLe
  refine lv_aload_n hx hb dX8_startWith_0 rfl (lv_at hl 0 rfl) ?_
  refine lv_iload_n hx hb dX8_startWith_1 rfl (lv_at hl 1 rfl) ?_
  refine zPut (ci := 8) (C := RX8) (F := TX8) (N := 14) (x := a1) (w := gw) hx hb hts hiX8 tyX8 tyX8_ok nmX8 hown hK hP hD hS (fun g => wX8 T hgw g) 0 0 1 rfl rfl (by decide) rfl rfl rfl ⟨rfl, rfl⟩ (Nat.le_of_ble_eq_true rfl) rfl dX8_startWith_2 (fun gw_1 egw_1 H locs hP hD hS => ?_)
  replace hP : va_P D vwCl (wX8 T hgw gw_1) H := hP
  replace hD : va_D A (wX8 T hgw gw_1) := hD
  replace hf := zLt_at egw_1 hf
  refine lv_aload_n hx hb dX8_startWith_5 rfl (lv_at hl 0 rfl) ?_
  refine lv_iconst (v := 0) hx hb dX8_startWith_6 (by decide) ?_
  refine zPut (ci := 8) (C := RX8) (F := TX8) (N := 14) (x := 0) (w := gw_1) hx hb hts hiX8 tyX8 tyX8_ok nmX8 hown hK hP hD hS (fun g => wX8 T hgw g) 0 3 2 rfl rfl (by decide) rfl rfl rfl ⟨rfl, rfl⟩ (Nat.le_of_ble_eq_true rfl) rfl dX8_startWith_7 (fun gw_2 egw_2 H locs hP hD hS => ?_)
  replace hP : va_P D vwCl (wX8 T hgw gw_2) H := hP
  replace hD : va_D A (wX8 T hgw gw_2) := hD
  replace hf := zLt_at egw_2 hf
  refine lv_aload_n hx hb dX8_startWith_10 rfl (lv_at hl 0 rfl) ?_
  refine lv_iconst (v := 0) hx hb dX8_startWith_11 (by decide) ?_
  refine zPut (ci := 8) (C := RX8) (F := TX8) (N := 14) (x := 0) (w := gw_2) hx hb hts hiX8 tyX8 tyX8_ok nmX8 hown hK hP hD hS (fun g => wX8 T hgw g) 0 9 3 rfl rfl (by decide) rfl rfl rfl ⟨rfl, rfl⟩ (Nat.le_of_ble_eq_true rfl) rfl dX8_startWith_12 (fun gw_3 egw_3 H locs hP hD hS => ?_)
  replace hP : va_P D vwCl (wX8 T hgw gw_3) H := hP
  replace hD : va_D A (wX8 T hgw gw_3) := hD
  replace hf := zLt_at egw_3 hf
  refine lv_aload_n hx hb dX8_startWith_15 rfl (lv_at hl 0 rfl) ?_
  refine zGet (ci := 8) (C := RX8) (F := TX8) (N := 14) (v := .ref (hgw 1)) hx hb hts hiX8 hown hK hP 0 1 4 rfl rfl (by decide) rfl rfl rfl dX8_startWith_16 ?_
  refine lv_iconst (v := 1) hx hb dX8_startWith_19 (by decide) ?_
  obtain ⟨t4, hc20, hf⟩ := zB1_ok hf
  refine zCallFill (w := gw_3) (t := t4) ⟨hx, hb, hml, hown, hts⟩ (pJ7_fill_53178 l D T X (fun _ => (hgw 1)) H.size 10 (fun _ => gw_3 1) 1 t4 hc20) (va_cwS 2 hts gX8_startWith_J7_fill_53178 rfl rfl rfl (by decide +kernel) ⟨Nat.le_of_ble_eq_true rfl, Nat.le_of_ble_eq_true rfl⟩) hK hP hD hS hA hX (fun g => wX8 T hgw g) 1 1 rfl rfl hl.1 (Nat.le_of_ble_eq_true rfl) dX8_startWith_20 ⟨Nat.zero_le _, Nat.zero_le _⟩ (fun gw_5 egw_5 H locs hP hD hS => ?_)
  replace hP : va_P D vwCl (wX8 T hgw gw_5) H := hP
  replace hD : va_D A (wX8 T hgw gw_5) := hD
  replace hf := zLt_at egw_5 hf
  refine lv_aload_n hx hb dX8_startWith_23 rfl (lv_at hl 0 rfl) ?_
  refine zGet (ci := 8) (C := RX8) (F := TX8) (N := 14) (v := .ref (hgw 2)) hx hb hts hiX8 hown hK hP 0 2 5 rfl rfl (by decide) rfl rfl rfl dX8_startWith_24 ?_
  refine lv_iconst (v := (-1)) hx hb dX8_startWith_27 (by decide) ?_
  obtain ⟨t6, hc28, hf⟩ := zB1_ok hf
  refine zCallFill (w := gw_5) (t := t6) ⟨hx, hb, hml, hown, hts⟩ (pJ7_fill_53178 l D T X (fun _ => (hgw 2)) H.size 10 (fun _ => gw_5 2) (-1) t6 hc28) (va_cwS 2 hts gX8_startWith_J7_fill_53178 rfl rfl rfl (by decide +kernel) ⟨Nat.le_of_ble_eq_true rfl, Nat.le_of_ble_eq_true rfl⟩) hK hP hD hS hA hX (fun g => wX8 T hgw g) 2 2 rfl rfl hl.1 (Nat.le_of_ble_eq_true rfl) dX8_startWith_28 ⟨Nat.zero_le _, Nat.zero_le _⟩ (fun gw_7 egw_7 H locs hP hD hS => ?_)
  replace hP : va_P D vwCl (wX8 T hgw gw_7) H := hP
  replace hD : va_D A (wX8 T hgw gw_7) := hD
  replace hf := zLt_at egw_7 hf
  obtain ⟨q1, -⟩ := zI1 hf
  subst q1
  exact zRetV hQ hx hb hr hlocks hA0 hK hP hD hS dX8_startWith_31
set_option maxHeartbeats 4000000 in
set_option maxRecDepth 100000 in
theorem pX7_stepStop (l : Launch) (D : va_G) (T : Nat → ClassId) (X : zFP) (hgt : Nat → Nat) (sz : Nat) (gt : zM) (r : Int32) (ngt : zM) (hf : fX7_stepStop gt = some (r, ngt)) : Met l yX7_stepStop wsX7_stepStop rX7_stepStop (zPre D T X [.ref (hgt 0)] (wX7 T hgt gt) sz) (zQi D T r (wX7 T hgt ngt) (wX7 T hgt gt) sz) 0 0 (va_A (wX7 T hgt gt) sz) := by
  unfold fX7_stepStop at hf
  refine zStart [(0, .ref (hgt 0))] (by decide) rfl (Nat.le_of_ble_eq_true rfl) rfl ?_
  intro p e s m args below meth c A Q ls hx hb hr hml hown hlocks hts hsz hA0 hQ hA hK hX hP hD hS hl
  replace hown : s.vm.findClass RX7 = some m.cls := hown
  have hH := hsz
  have hiX7 : ∀ w ∈ u_ws RX7 TX7 6, w ∈ wsX7_stepStop := fun w h => List.mem_cons_of_mem _ (List.mem_append_right _ (h))
  obtain ⟨H, hHe⟩ : ∃ H : Heap, H = s.heap := ⟨_, rfl⟩
  obtain ⟨locs, hLe⟩ : ∃ L : List Loc, L = [] := ⟨_, rfl⟩
  replace hP : va_P D vwCl (wX7 T hgt gt) H := by rw [hHe]; exact hP
  replace hS : va_S A s.heap H locs := by rw [hHe, hLe]; exact hS
  suffices hgo : W p l e rX7_stepStop s m args below meth c H locs 0 0 Q (F0 m 0 ls []) by rw [hHe, hLe] at hgo; exact hgo
  clear hHe hLe
  refine lv_aload_n hx hb dX7_stepStop_0 rfl (lv_at hl 0 rfl) ?_
  obtain ⟨gt_1, hc1, hf⟩ := zB1_ok hf
  refine zCallVEV [] ⟨hx, hb, hml, hown, hts⟩ (pX7_step l D T X hgt H.size gt gt_1 hc1) (cwV 0 hts gX7_stepStop_X7_step rfl rfl rfl (by decide +kernel) ⟨Nat.le_of_ble_eq_true rfl, Nat.le_of_ble_eq_true rfl⟩) hK hP hD hS hA hX 0 rfl rfl rfl hl.1 rfl (Nat.le_of_ble_eq_true rfl) dX7_stepStop_1 ⟨Nat.zero_le _, Nat.zero_le _⟩ (fun H locs hP hD hS => ?_)
  refine lv_aload_n hx hb dX7_stepStop_4 rfl (lv_at hl 0 rfl) ?_
  refine zGet (ci := 7) (C := RX7) (F := TX7) (N := 6) (v := .int (gt_1 0 4)) hx hb hts hiX7 hown hK hP 0 4 1 rfl rfl (by decide) rfl rfl rfl dX7_stepStop_5 ?_
  refine lv_iconst (v := 3) hx hb dX7_stepStop_8 (by decide) ?_
  refine lv_icmp_ne (tgt := 16) hx hb dX7_stepStop_9 (by decide) (fun hc => ?_) (fun hc => ?_)
  · replace hf := zIf_f hc hf
    refine lv_iconst (v := 0) hx hb dX7_stepStop_16 (by decide) ?_
    obtain ⟨q1, q2⟩ := zI2 hf
    subst q1
    subst q2
    exact zRetZ hQ hx hb hr hlocks hA0 hK hP hD hS (by decide) rfl dX7_stepStop_17
  · replace hf := zIf_t hc hf
    refine lv_iconst (v := 1) hx hb dX7_stepStop_12 (by decide) ?_
    refine lv_goto (tgt := 17) hx hb dX7_stepStop_13 (by decide) ?_
    obtain ⟨q1, q2⟩ := zI2 hf
    subst q1
    subst q2
    exact zRetZ hQ hx hb hr hlocks hA0 hK hP hD hS (by decide) rfl dX7_stepStop_17
set_option maxHeartbeats 4000000 in
set_option maxRecDepth 100000 in
theorem pX8_addTie (l : Launch) (D : va_G) (T : Nat → ClassId) (X : zFP) (hgw : Nat → Nat) (sz : Nat) (gw : zM) (a1 : Int32) (a2 : Int32) (r : Int32) (ngw : zM) (hf : fX8_addTie gw a1 a2 = some (r, ngw)) : Met l yX8_addTie wsX8_addTie rX8_addTie (zPre D T X [.ref (hgw 0), .int a1, .int a2] (wX8 T hgw gw) sz) (zQi D T r (wX8 T hgw ngw) (wX8 T hgw gw) sz) 0 0 (va_A (wX8 T hgw gw) sz) := by
  unfold fX8_addTie at hf
  refine zStart [(0, .ref (hgw 0)), (1, .int a1), (2, .int a2)] (by decide) rfl (Nat.le_of_ble_eq_true rfl) rfl ?_
  intro p e s m args below meth c A Q ls hx hb hr hml hown hlocks hts hsz hA0 hQ hA hK hX hP hD hS hl
  replace hown : s.vm.findClass RX8 = some m.cls := hown
  have hH := hsz
  have hiX8 : ∀ w ∈ u_ws RX8 TX8 14, w ∈ wsX8_addTie := fun w h => List.mem_cons_of_mem _ (List.mem_append_right _ (h))
  obtain ⟨H, hHe⟩ : ∃ H : Heap, H = s.heap := ⟨_, rfl⟩
  obtain ⟨locs, hLe⟩ : ∃ L : List Loc, L = [] := ⟨_, rfl⟩
  replace hP : va_P D vwCl (wX8 T hgw gw) H := by rw [hHe]; exact hP
  replace hS : va_S A s.heap H locs := by rw [hHe, hLe]; exact hS
  suffices hgo : W p l e rX8_addTie s m args below meth c H locs 0 0 Q (F0 m 0 ls []) by rw [hHe, hLe] at hgo; exact hgo
  clear hHe hLe
  refine lv_aload_n hx hb dX8_addTie_0 rfl (lv_at hl 0 rfl) ?_
  refine zGet (ci := 8) (C := RX8) (F := TX8) (N := 14) (v := .int (gw 0 3)) hx hb hts hiX8 hown hK hP 0 3 1 rfl rfl (by decide) rfl rfl rfl dX8_addTie_1 ?_
  refine lv_bipush (v := 14) hx hb dX8_addTie_4 (by decide) ?_
  refine lv_icmp_lt (tgt := 11) hx hb dX8_addTie_6 (by decide) (fun hc => ?_) (fun hc => ?_)
  · replace hf := zIf_t hc hf
    refine lv_aload_n hx hb dX8_addTie_11 rfl (lv_at hl 0 rfl) ?_
    refine zGet (ci := 8) (C := RX8) (F := TX8) (N := 14) (v := .int (gw 0 3)) hx hb hts hiX8 hown hK hP 0 3 1 rfl rfl (by decide) rfl rfl rfl dX8_addTie_12 ?_
    refine lv_topi (fun v1 ev1 => ?_)
    replace hf := zLt_at ev1 hf
    refine lv_istore_n (lv' := [(3, .int v1), (0, .ref (hgw 0)), (1, .int a1), (2, .int a2)]) hx hb dX8_addTie_15 rfl hl (by decide) rfl (fun ls hl => ?_)
    refine lv_aload_n hx hb dX8_addTie_16 rfl (lv_at hl 1 rfl) ?_
    refine zGet (ci := 8) (C := RX8) (F := TX8) (N := 14) (v := .ref (hgw 3)) hx hb hts hiX8 hown hK hP 0 4 2 rfl rfl (by decide) rfl rfl rfl dX8_addTie_17 ?_
    refine lv_iload_n hx hb dX8_addTie_20 rfl (lv_at hl 0 rfl) ?_
    refine lv_iload_n hx hb dX8_addTie_21 rfl (lv_at hl 2 rfl) ?_
    refine lv_iload_n hx hb dX8_addTie_22 rfl (lv_at hl 3 rfl) ?_
    refine va_mmin hx hb (hml.trans hl.1.symm) hown (hts _ (List.mem_of_getElem? (i := 3) rfl)) (hts _ (List.mem_of_getElem? (i := 4) rfl)) (hts _ (List.mem_of_getElem? (i := 5) rfl)) (hts _ (List.mem_of_getElem? (i := 6) rfl)) (Nat.le_of_ble_eq_true rfl) (Nat.le_of_ble_eq_true rfl) (Nat.zero_le _) (Nat.zero_le _) dX8_addTie_23 ?_
    refine lv_topi (fun v2 ev2 => ?_)
    replace hf := zLt_at ev2 hf
    obtain ⟨hg, hf⟩ := zGd_ok hf
    refine zAstI (w := gw) hx hb hK hP hD hS (fun g => wX8 T hgw g) 3 3 rfl hg rfl dX8_addTie_26 (fun gw_3 egw_3 H locs hP hD hS => ?_)
    replace hP : va_P D vwCl (wX8 T hgw gw_3) H := hP
    replace hD : va_D A (wX8 T hgw gw_3) := hD
    replace hf := zLt_at egw_3 hf
    refine lv_aload_n hx hb dX8_addTie_27 rfl (lv_at hl 1 rfl) ?_
    refine zGet (ci := 8) (C := RX8) (F := TX8) (N := 14) (v := .ref (hgw 4)) hx hb hts hiX8 hown hK hP 0 5 7 rfl rfl (by decide) rfl rfl rfl dX8_addTie_28 ?_
    refine lv_iload_n hx hb dX8_addTie_31 rfl (lv_at hl 0 rfl) ?_
    refine lv_iload_n hx hb dX8_addTie_32 rfl (lv_at hl 2 rfl) ?_
    refine lv_iload_n hx hb dX8_addTie_33 rfl (lv_at hl 3 rfl) ?_
    refine va_mmax hx hb (hml.trans hl.1.symm) hown (hts _ (List.mem_of_getElem? (i := 8) rfl)) (hts _ (List.mem_of_getElem? (i := 9) rfl)) (hts _ (List.mem_of_getElem? (i := 5) rfl)) (hts _ (List.mem_of_getElem? (i := 10) rfl)) (Nat.le_of_ble_eq_true rfl) (Nat.le_of_ble_eq_true rfl) (Nat.zero_le _) (Nat.zero_le _) dX8_addTie_34 ?_
    refine lv_topi (fun v4 ev4 => ?_)
    replace hf := zLt_at ev4 hf
    obtain ⟨hg, hf⟩ := zGd_ok hf
    refine zAstI (w := gw_3) hx hb hK hP hD hS (fun g => wX8 T hgw g) 4 4 rfl hg rfl dX8_addTie_37 (fun gw_5 egw_5 H locs hP hD hS => ?_)
    replace hP : va_P D vwCl (wX8 T hgw gw_5) H := hP
    replace hD : va_D A (wX8 T hgw gw_5) := hD
    replace hf := zLt_at egw_5 hf
    refine lv_aload_n hx hb dX8_addTie_38 rfl (lv_at hl 1 rfl) ?_
    refine zGet (ci := 8) (C := RX8) (F := TX8) (N := 14) (v := .ref (hgw 5)) hx hb hts hiX8 hown hK hP 0 6 11 rfl rfl (by decide) rfl rfl rfl dX8_addTie_39 ?_
    refine lv_iload_n hx hb dX8_addTie_42 rfl (lv_at hl 0 rfl) ?_
    refine lv_iconst (v := 1) hx hb dX8_addTie_43 (by decide) ?_
    obtain ⟨hg, hf⟩ := zGd_ok hf
    refine zAstI (w := gw_5) hx hb hK hP hD hS (fun g => wX8 T hgw g) 5 5 rfl hg rfl dX8_addTie_44 (fun gw_6 egw_6 H locs hP hD hS => ?_)
    replace hP : va_P D vwCl (wX8 T hgw gw_6) H := hP
    replace hD : va_D A (wX8 T hgw gw_6) := hD
    replace hf := zLt_at egw_6 hf
    refine lv_aload_n hx hb dX8_addTie_45 rfl (lv_at hl 1 rfl) ?_
    refine zGet (ci := 8) (C := RX8) (F := TX8) (N := 14) (v := .ref (hgw 6)) hx hb hts hiX8 hown hK hP 0 7 12 rfl rfl (by decide) rfl rfl rfl dX8_addTie_46 ?_
    refine lv_iload_n hx hb dX8_addTie_49 rfl (lv_at hl 0 rfl) ?_
    refine lv_iconst (v := 4) hx hb dX8_addTie_50 (by decide) ?_
    obtain ⟨hg, hf⟩ := zGd_ok hf
    refine zAstI (w := gw_6) hx hb hK hP hD hS (fun g => wX8 T hgw g) 6 6 rfl hg rfl dX8_addTie_51 (fun gw_7 egw_7 H locs hP hD hS => ?_)
    replace hP : va_P D vwCl (wX8 T hgw gw_7) H := hP
    replace hD : va_D A (wX8 T hgw gw_7) := hD
    replace hf := zLt_at egw_7 hf
    refine lv_aload_n hx hb dX8_addTie_52 rfl (lv_at hl 1 rfl) ?_
    refine zGet (ci := 8) (C := RX8) (F := TX8) (N := 14) (v := .ref (hgw 7)) hx hb hts hiX8 hown hK hP 0 8 13 rfl rfl (by decide) rfl rfl rfl dX8_addTie_53 ?_
    refine lv_iload_n hx hb dX8_addTie_56 rfl (lv_at hl 0 rfl) ?_
    refine lv_iconst (v := 0) hx hb dX8_addTie_57 (by decide) ?_
    obtain ⟨hg, hf⟩ := zGd_ok hf
    refine zAstZ (w := gw_7) hx hb hK hP hD hS (fun g => wX8 T hgw g) 7 7 rfl hg rfl dX8_addTie_58 (fun gw_8 egw_8 H locs hP hD hS => ?_)
    replace hP : va_P D vwCl (wX8 T hgw gw_8) H := hP
    replace hD : va_D A (wX8 T hgw gw_8) := hD
    replace hf := zLt_at egw_8 hf
    refine lv_aload_n hx hb dX8_addTie_59 rfl (lv_at hl 1 rfl) ?_
    refine lv_dup hx hb dX8_addTie_60 rfl ?_
    refine zGet (ci := 8) (C := RX8) (F := TX8) (N := 14) (v := .int (gw_8 0 3)) hx hb hts hiX8 hown hK hP 0 3 1 rfl rfl (by decide) rfl rfl rfl dX8_addTie_61 ?_
    refine lv_iconst (v := 1) hx hb dX8_addTie_64 (by decide) ?_
    refine lv_iadd hx hb dX8_addTie_65 ?_
    refine lv_topi (fun v9 ev9 => ?_)
    replace hf := zLt_at ev9 hf
    refine zPut (ci := 8) (C := RX8) (F := TX8) (N := 14) (x := v9) (w := gw_8) hx hb hts hiX8 tyX8 tyX8_ok nmX8 hown hK hP hD hS (fun g => wX8 T hgw g) 0 3 1 rfl rfl (by decide) rfl rfl rfl ⟨rfl, rfl⟩ (Nat.le_of_ble_eq_true rfl) rfl dX8_addTie_66 (fun gw_10 egw_10 H locs hP hD hS => ?_)
    replace hP : va_P D vwCl (wX8 T hgw gw_10) H := hP
    replace hD : va_D A (wX8 T hgw gw_10) := hD
    replace hf := zLt_at egw_10 hf
    refine lv_iload_n hx hb dX8_addTie_69 rfl (lv_at hl 0 rfl) ?_
    obtain ⟨q1, q2⟩ := zI2 hf
    subst q1
    subst q2
    exact zRetI hQ hx hb hr hlocks hA0 hK hP hD hS rfl dX8_addTie_70
  · replace hf := zIf_f hc hf
    refine lv_iconst (v := (-1)) hx hb dX8_addTie_9 (by decide) ?_
    obtain ⟨q1, q2⟩ := zI2 hf
    subst q1
    subst q2
    exact zRetI hQ hx hb hr hlocks hA0 hK hP hD hS rfl dX8_addTie_10
set_option maxHeartbeats 4000000 in
set_option maxRecDepth 100000 in
theorem pX7_extraNamed (l : Launch) (D : va_G) (T : Nat → ClassId) (X : zFP) (hgt : Nat → Nat) (sz : Nat) (gt : zM) (r : Int32) (hf : fX7_extraNamed gt = some r) : Met l yX7_extraNamed wsX7_extraNamed rX7_extraNamed (zPre D T X [.ref (hgt 0)] (wX7 T hgt gt) sz) (zQi D T r (wX7 T hgt gt) (wX7 T hgt gt) sz) 0 0 (va_A (wX7 T hgt gt) sz) := by
  unfold fX7_extraNamed at hf
  refine zStart [(0, .ref (hgt 0))] (by decide) rfl (Nat.le_of_ble_eq_true rfl) rfl ?_
  intro p e s m args below meth c A Q ls hx hb hr hml hown hlocks hts hsz hA0 hQ hA hK hX hP hD hS hl
  replace hown : s.vm.findClass RX7 = some m.cls := hown
  have hH := hsz
  obtain ⟨H, hHe⟩ : ∃ H : Heap, H = s.heap := ⟨_, rfl⟩
  obtain ⟨locs, hLe⟩ : ∃ L : List Loc, L = [] := ⟨_, rfl⟩
  replace hP : va_P D vwCl (wX7 T hgt gt) H := by rw [hHe]; exact hP
  replace hS : va_S A s.heap H locs := by rw [hHe, hLe]; exact hS
  suffices hgo : W p l e rX7_extraNamed s m args below meth c H locs 0 0 Q (F0 m 0 ls []) by rw [hHe, hLe] at hgo; exact hgo
  clear hHe hLe
  refine lv_aload_n hx hb dX7_extraNamed_0 rfl (lv_at hl 0 rfl) ?_
  refine va_ldcS hx hb hown (hX.2.2.2.2.2 2 (92, "worth") rfl) dX7_extraNamed_1 ?_
  obtain ⟨v1, hc3, hf⟩ := zB1_ok hf
  refine zCallVEI [.ref (X.2.1 2)] ⟨hx, hb, hml, hown, hts⟩ (pX7_isWord l D T X hgt H.size gt 2 v1 hc3) (cwV 1 hts gX7_extraNamed_X7_isWord rfl rfl rfl (by decide +kernel) ⟨Nat.le_of_ble_eq_true rfl, Nat.le_of_ble_eq_true rfl⟩) hK hP hD hS hA hX 0 rfl rfl rfl hl.1 rfl (Nat.le_of_ble_eq_true rfl) dX7_extraNamed_3 ⟨Nat.zero_le _, Nat.zero_le _⟩ (fun H locs hP hD hS => ?_)
  refine lv_if_eq (tgt := 11) hx hb dX7_extraNamed_6 (by decide) (fun hc => ?_) (fun hc => ?_)
  · replace hf := zIf_t hc hf
    refine lv_aload_n hx hb dX7_extraNamed_11 rfl (lv_at hl 0 rfl) ?_
    refine va_ldcS hx hb hown (hX.2.2.2.2.2 3 (94, "odds") rfl) dX7_extraNamed_12 ?_
    obtain ⟨v2, hc14, hf⟩ := zB1_ok hf
    refine zCallVEI [.ref (X.2.1 3)] ⟨hx, hb, hml, hown, hts⟩ (pX7_isWord l D T X hgt H.size gt 3 v2 hc14) (cwV 1 hts gX7_extraNamed_X7_isWord rfl rfl rfl (by decide +kernel) ⟨Nat.le_of_ble_eq_true rfl, Nat.le_of_ble_eq_true rfl⟩) hK hP hD hS hA hX 0 rfl rfl rfl hl.1 rfl (Nat.le_of_ble_eq_true rfl) dX7_extraNamed_14 ⟨Nat.zero_le _, Nat.zero_le _⟩ (fun H locs hP hD hS => ?_)
    refine lv_if_eq (tgt := 22) hx hb dX7_extraNamed_17 (by decide) (fun hc => ?_) (fun hc => ?_)
    · replace hf := zIf_t hc hf
      refine lv_aload_n hx hb dX7_extraNamed_22 rfl (lv_at hl 0 rfl) ?_
      refine va_ldcS hx hb hown (hX.2.2.2.2.2 4 (96, "must") rfl) dX7_extraNamed_23 ?_
      obtain ⟨v3, hc25, hf⟩ := zB1_ok hf
      refine zCallVEI [.ref (X.2.1 4)] ⟨hx, hb, hml, hown, hts⟩ (pX7_isWord l D T X hgt H.size gt 4 v3 hc25) (cwV 1 hts gX7_extraNamed_X7_isWord rfl rfl rfl (by decide +kernel) ⟨Nat.le_of_ble_eq_true rfl, Nat.le_of_ble_eq_true rfl⟩) hK hP hD hS hA hX 0 rfl rfl rfl hl.1 rfl (Nat.le_of_ble_eq_true rfl) dX7_extraNamed_25 ⟨Nat.zero_le _, Nat.zero_le _⟩ (fun H locs hP hD hS => ?_)
      refine lv_if_eq (tgt := 35) hx hb dX7_extraNamed_28 (by decide) (fun hc => ?_) (fun hc => ?_)
      · replace hf := zIf_t hc hf
        refine lv_iconst (v := 0) hx hb dX7_extraNamed_35 (by decide) ?_
        obtain ⟨q1, -⟩ := zI1 hf
        subst q1
        exact zRetI hQ hx hb hr hlocks hA0 hK hP hD hS rfl dX7_extraNamed_36
      · replace hf := zIf_f hc hf
        refine lv_iconst (v := 4) hx hb dX7_extraNamed_31 (by decide) ?_
        refine lv_goto (tgt := 36) hx hb dX7_extraNamed_32 (by decide) ?_
        obtain ⟨q1, -⟩ := zI1 hf
        subst q1
        exact zRetI hQ hx hb hr hlocks hA0 hK hP hD hS rfl dX7_extraNamed_36
    · replace hf := zIf_f hc hf
      refine lv_iconst (v := 2) hx hb dX7_extraNamed_20 (by decide) ?_
      obtain ⟨q1, -⟩ := zI1 hf
      subst q1
      exact zRetI hQ hx hb hr hlocks hA0 hK hP hD hS rfl dX7_extraNamed_21
  · replace hf := zIf_f hc hf
    refine lv_iconst (v := 1) hx hb dX7_extraNamed_9 (by decide) ?_
    obtain ⟨q1, -⟩ := zI1 hf
    subst q1
    exact zRetI hQ hx hb hr hlocks hA0 hK hP hD hS rfl dX7_extraNamed_10
set_option maxHeartbeats 4000000 in
set_option maxRecDepth 100000 in
theorem pX7_readExtra (l : Launch) (D : va_G) (T : Nat → ClassId) (X : zFP) (hgt : Nat → Nat) (hgw : Nat → Nat) (sz : Nat) (gt : zM) (gw : zM) (a2 : Int32) (a3 : Int32) (r : Int32) (ngt : zM) (ngw : zM) (hf : fX7_readExtra gt gw a2 a3 = some (r, ngt, ngw)) : Met l yX7_readExtra wsX7_readExtra rX7_readExtra (zPre D T X [.ref (hgt 0), .ref (hgw 0), .int a2, .int a3] (wX7 T hgt gt ++ wX8 T hgw gw) sz) (zQi D T r (wX7 T hgt ngt ++ wX8 T hgw ngw) (wX7 T hgt gt ++ wX8 T hgw gw) sz) 0 0 (va_A (wX7 T hgt gt ++ wX8 T hgw gw) sz) := by
  unfold fX7_readExtra at hf
  refine zStart [(0, .ref (hgt 0)), (1, .ref (hgw 0)), (2, .int a2), (3, .int a3)] (by decide) rfl (Nat.le_of_ble_eq_true rfl) rfl ?_
  intro p e s m args below meth c A Q ls hx hb hr hml hown hlocks hts hsz hA0 hQ hA hK hX hP hD hS hl
  replace hown : s.vm.findClass RX7 = some m.cls := hown
  have hH := hsz
  have hiX7 : ∀ w ∈ u_ws RX7 TX7 6, w ∈ wsX7_readExtra := fun w h => List.mem_cons_of_mem _ (List.mem_append_right _ (h))
  have hiX8 : ∀ w ∈ u_ws RX8 TX8 14, w ∈ wsX7_readExtra := fun w h => List.mem_cons_of_mem _ (List.mem_append_left _ (List.mem_append_right _ (h)))
  obtain ⟨H, hHe⟩ : ∃ H : Heap, H = s.heap := ⟨_, rfl⟩
  obtain ⟨locs, hLe⟩ : ∃ L : List Loc, L = [] := ⟨_, rfl⟩
  replace hP : va_P D vwCl (wX7 T hgt gt ++ wX8 T hgw gw) H := by rw [hHe]; exact hP
  replace hS : va_S A s.heap H locs := by rw [hHe, hLe]; exact hS
  suffices hgo : W p l e rX7_readExtra s m args below meth c H locs 0 0 Q (F0 m 0 ls []) by rw [hHe, hLe] at hgo; exact hgo
  clear hHe hLe
  refine lv_aload_n hx hb dX7_readExtra_0 rfl (lv_at hl 0 rfl) ?_
  obtain ⟨v1, hc1, hf⟩ := zB1_ok hf
  refine zCallVJI (wr := wX8 T hgw gw) (ws' := wX7 T hgt gt ++ wX8 T hgw gw) [] ⟨hx, hb, hml, hown, hts⟩ (pX7_extraNamed l D T X hgt H.size gt v1 hc1) (cwV 0 hts gX7_readExtra_X7_extraNamed rfl rfl rfl (by decide +kernel) ⟨Nat.le_of_ble_eq_true rfl, Nat.le_of_ble_eq_true rfl⟩) hK hP hD hS hA hX [0, 1] [2, 3, 4, 5, 6, 7, 8, 9, 10, 11, 12] [11, 12, 0, 1, 2, 3, 4, 5, 6, 7, 8, 9, 10] rfl rfl rfl rfl 0 rfl rfl rfl hl.1 rfl (Nat.le_of_ble_eq_true rfl) dX7_readExtra_1 ⟨Nat.zero_le _, Nat.zero_le _⟩ (fun H locs hP hD hS => ?_)
  refine lv_istore (lv' := [(4, .int v1), (0, .ref (hgt 0)), (1, .ref (hgw 0)), (2, .int a2), (3, .int a3)]) hx hb dX7_readExtra_4 hl (by decide) rfl (fun ls hl => ?_)
  refine lv_iload_n hx hb dX7_readExtra_6 rfl (lv_at hl 4 rfl) ?_
  refine lv_iload hx hb dX7_readExtra_7 (lv_at hl 0 rfl) ?_
  refine lv_iand hx hb dX7_readExtra_9 ?_
  refine lv_if_eq (tgt := 15) hx hb dX7_readExtra_10 (by decide) (fun hc => ?_) (fun hc => ?_)
  · replace hf := zIf_t hc hf
    refine lv_iload hx hb dX7_readExtra_15 (lv_at hl 0 rfl) ?_
    refine zSw (x := v1) (k := 1) (fun hc => ?_) (fun hk1 => ?_)
    · replace hf := zIf_t hc hf
      refine lv_tableIn (off := 31) (tgt := 48) hx hb dX7_readExtra_17 (by rw [hc]; decide) (by rw [hc]; decide) (by rw [hc]; decide) (by decide) ?_
      refine lv_aload_n hx hb dX7_readExtra_48 rfl (lv_at hl 1 rfl) ?_
      refine lv_iconst (v := 0) hx hb dX7_readExtra_49 (by decide) ?_
      refine lv_bipush (v := 99) hx hb dX7_readExtra_50 (by decide) ?_
      obtain ⟨v2, gt_3, hc52, hf⟩ := zB2_ok hf
      refine zCallVJI (wr := wX8 T hgw gw) (ws' := wX7 T hgt gt_3 ++ wX8 T hgw gw) [.int 0, .int 99] ⟨hx, hb, hml, hown, hts⟩ (pX7_stepNumber l D T X hgt H.size gt 0 99 v2 gt_3 hc52) (cwV 2 hts gX7_readExtra_X7_stepNumber rfl rfl rfl (by decide +kernel) ⟨Nat.le_of_ble_eq_true rfl, Nat.le_of_ble_eq_true rfl⟩) hK hP hD hS hA hX [0, 1] [2, 3, 4, 5, 6, 7, 8, 9, 10, 11, 12] [11, 12, 0, 1, 2, 3, 4, 5, 6, 7, 8, 9, 10] rfl rfl rfl rfl 0 rfl rfl rfl hl.1 rfl (Nat.le_of_ble_eq_true rfl) dX7_readExtra_52 ⟨Nat.zero_le _, Nat.zero_le _⟩ (fun H locs hP hD hS => ?_)
      refine lv_if_ne (tgt := 60) hx hb dX7_readExtra_55 (by decide) (fun hc => ?_) (fun hc => ?_)
      · replace hf := zIf_f hc hf
        refine lv_aload_n hx hb dX7_readExtra_60 rfl (lv_at hl 2 rfl) ?_
        refine zGet (ci := 8) (C := RX8) (F := TX8) (N := 14) (v := .ref (hgw 5)) hx hb hts hiX8 hown hK hP 2 6 1 rfl rfl (by decide) rfl rfl rfl dX7_readExtra_61 ?_
        refine lv_iload_n hx hb dX7_readExtra_64 rfl (lv_at hl 3 rfl) ?_
        refine lv_aload_n hx hb dX7_readExtra_65 rfl (lv_at hl 1 rfl) ?_
        refine zGet (ci := 7) (C := RX7) (F := TX7) (N := 6) (v := .int (gt_3 0 5)) hx hb hts hiX7 hown hK hP 0 5 2 rfl rfl (by decide) rfl rfl rfl dX7_readExtra_66 ?_
        refine lv_topi (fun v4 ev4 => ?_)
        replace hf := zLt_at ev4 hf
        obtain ⟨hg, hf⟩ := zGd_ok hf
        refine zAstI (w := gw) hx hb hK hP hD hS (fun g => wX7 T hgt gt_3 ++ wX8 T hgw g) 7 5 rfl hg rfl dX7_readExtra_69 (fun gw_5 egw_5 H locs hP hD hS => ?_)
        replace hP : va_P D vwCl (wX7 T hgt gt_3 ++ wX8 T hgw gw_5) H := hP
        replace hD : va_D A (wX7 T hgt gt_3 ++ wX8 T hgw gw_5) := hD
        replace hf := zLt_at egw_5 hf
        refine lv_iload hx hb dX7_readExtra_70 (lv_at hl 0 rfl) ?_
        obtain ⟨q1, q2, q3⟩ := zI3 hf
        subst q1
        subst q2
        subst q3
        exact zRetI hQ hx hb hr hlocks hA0 hK hP hD hS rfl dX7_readExtra_72
      · replace hf := zIf_t hc hf
        refine lv_iconst (v := 0) hx hb dX7_readExtra_58 (by decide) ?_
        obtain ⟨q1, q2, q3⟩ := zI3 hf
        subst q1
        subst q2
        subst q3
        exact zRetI hQ hx hb hr hlocks hA0 hK hP hD hS rfl dX7_readExtra_59
    replace hf := zIf_f hk1 hf
    refine zSw (x := v1) (k := 2) (fun hc => ?_) (fun hk2 => ?_)
    · replace hf := zIf_t hc hf
      refine lv_tableIn (off := 56) (tgt := 73) hx hb dX7_readExtra_17 (by rw [hc]; decide) (by rw [hc]; decide) (by rw [hc]; decide) (by decide) ?_
      refine lv_aload_n hx hb dX7_readExtra_73 rfl (lv_at hl 1 rfl) ?_
      refine lv_iconst (v := 1) hx hb dX7_readExtra_74 (by decide) ?_
      refine lv_iconst (v := 4) hx hb dX7_readExtra_75 (by decide) ?_
      obtain ⟨v6, gt_7, hc76, hf⟩ := zB2_ok hf
      refine zCallVJI (wr := wX8 T hgw gw) (ws' := wX7 T hgt gt_7 ++ wX8 T hgw gw) [.int 1, .int 4] ⟨hx, hb, hml, hown, hts⟩ (pX7_stepNumber l D T X hgt H.size gt 1 4 v6 gt_7 hc76) (cwV 2 hts gX7_readExtra_X7_stepNumber rfl rfl rfl (by decide +kernel) ⟨Nat.le_of_ble_eq_true rfl, Nat.le_of_ble_eq_true rfl⟩) hK hP hD hS hA hX [0, 1] [2, 3, 4, 5, 6, 7, 8, 9, 10, 11, 12] [11, 12, 0, 1, 2, 3, 4, 5, 6, 7, 8, 9, 10] rfl rfl rfl rfl 0 rfl rfl rfl hl.1 rfl (Nat.le_of_ble_eq_true rfl) dX7_readExtra_76 ⟨Nat.zero_le _, Nat.zero_le _⟩ (fun H locs hP hD hS => ?_)
      refine lv_if_ne (tgt := 84) hx hb dX7_readExtra_79 (by decide) (fun hc => ?_) (fun hc => ?_)
      · replace hf := zIf_f hc hf
        refine lv_aload_n hx hb dX7_readExtra_84 rfl (lv_at hl 2 rfl) ?_
        refine zGet (ci := 8) (C := RX8) (F := TX8) (N := 14) (v := .ref (hgw 6)) hx hb hts hiX8 hown hK hP 2 7 3 rfl rfl (by decide) rfl rfl rfl dX7_readExtra_85 ?_
        refine lv_iload_n hx hb dX7_readExtra_88 rfl (lv_at hl 3 rfl) ?_
        refine lv_aload_n hx hb dX7_readExtra_89 rfl (lv_at hl 1 rfl) ?_
        refine zGet (ci := 7) (C := RX7) (F := TX7) (N := 6) (v := .int (gt_7 0 5)) hx hb hts hiX7 hown hK hP 0 5 2 rfl rfl (by decide) rfl rfl rfl dX7_readExtra_90 ?_
        refine lv_topi (fun v8 ev8 => ?_)
        replace hf := zLt_at ev8 hf
        obtain ⟨hg, hf⟩ := zGd_ok hf
        refine zAstI (w := gw) hx hb hK hP hD hS (fun g => wX7 T hgt gt_7 ++ wX8 T hgw g) 8 6 rfl hg rfl dX7_readExtra_93 (fun gw_9 egw_9 H locs hP hD hS => ?_)
        replace hP : va_P D vwCl (wX7 T hgt gt_7 ++ wX8 T hgw gw_9) H := hP
        replace hD : va_D A (wX7 T hgt gt_7 ++ wX8 T hgw gw_9) := hD
        replace hf := zLt_at egw_9 hf
        refine lv_iload hx hb dX7_readExtra_94 (lv_at hl 0 rfl) ?_
        obtain ⟨q1, q2, q3⟩ := zI3 hf
        subst q1
        subst q2
        subst q3
        exact zRetI hQ hx hb hr hlocks hA0 hK hP hD hS rfl dX7_readExtra_96
      · replace hf := zIf_t hc hf
        refine lv_iconst (v := 0) hx hb dX7_readExtra_82 (by decide) ?_
        obtain ⟨q1, q2, q3⟩ := zI3 hf
        subst q1
        subst q2
        subst q3
        exact zRetI hQ hx hb hr hlocks hA0 hK hP hD hS rfl dX7_readExtra_83
    replace hf := zIf_f hk2 hf
    refine zSw (x := v1) (k := 4) (fun hc => ?_) (fun hk4 => ?_)
    · replace hf := zIf_t hc hf
      refine lv_tableIn (off := 80) (tgt := 97) hx hb dX7_readExtra_17 (by rw [hc]; decide) (by rw [hc]; decide) (by rw [hc]; decide) (by decide) ?_
      refine lv_aload_n hx hb dX7_readExtra_97 rfl (lv_at hl 2 rfl) ?_
      refine zGet (ci := 8) (C := RX8) (F := TX8) (N := 14) (v := .ref (hgw 7)) hx hb hts hiX8 hown hK hP 2 8 4 rfl rfl (by decide) rfl rfl rfl dX7_readExtra_98 ?_
      refine lv_iload_n hx hb dX7_readExtra_101 rfl (lv_at hl 3 rfl) ?_
      refine lv_iconst (v := 1) hx hb dX7_readExtra_102 (by decide) ?_
      obtain ⟨hg, hf⟩ := zGd_ok hf
      refine zAstZ (w := gw) hx hb hK hP hD hS (fun g => wX7 T hgt gt ++ wX8 T hgw g) 9 7 rfl hg rfl dX7_readExtra_103 (fun gw_10 egw_10 H locs hP hD hS => ?_)
      replace hP : va_P D vwCl (wX7 T hgt gt ++ wX8 T hgw gw_10) H := hP
      replace hD : va_D A (wX7 T hgt gt ++ wX8 T hgw gw_10) := hD
      replace hf := zLt_at egw_10 hf
      refine lv_iload hx hb dX7_readExtra_104 (lv_at hl 0 rfl) ?_
      obtain ⟨q1, q2, q3⟩ := zI3 hf
      subst q1
      subst q2
      subst q3
      exact zRetI hQ hx hb hr hlocks hA0 hK hP hD hS rfl dX7_readExtra_106
    replace hf := zIf_f hk4 hf
    by_cases hd3 : v1 = 3
    · refine lv_tableIn (off := 90) (tgt := 107) hx hb dX7_readExtra_17 (by rw [hd3]; decide) (by rw [hd3]; decide) (by rw [hd3]; decide) (by decide) ?_
      refine lv_iconst (v := 0) hx hb dX7_readExtra_107 (by decide) ?_
      obtain ⟨q1, q2, q3⟩ := zI3 hf
      subst q1
      subst q2
      subst q3
      exact zRetI hQ hx hb hr hlocks hA0 hK hP hD hS rfl dX7_readExtra_108
    refine lv_tableOut (tgt := 107) hx hb dX7_readExtra_17 (by have := zNe hk1 (z := 1) (by decide); have := zNe hk2 (z := 2) (by decide); have := zNe hk4 (z := 4) (by decide); have := zNe hd3 (z := 3) (by decide); omega) (by decide) ?_
    refine lv_iconst (v := 0) hx hb dX7_readExtra_107 (by decide) ?_
    obtain ⟨q1, q2, q3⟩ := zI3 hf
    subst q1
    subst q2
    subst q3
    exact zRetI hQ hx hb hr hlocks hA0 hK hP hD hS rfl dX7_readExtra_108
  · replace hf := zIf_f hc hf
    refine lv_iconst (v := 0) hx hb dX7_readExtra_13 (by decide) ?_
    obtain ⟨q1, q2, q3⟩ := zI3 hf
    subst q1
    subst q2
    subst q3
    exact zRetI hQ hx hb hr hlocks hA0 hK hP hD hS rfl dX7_readExtra_14
set_option maxHeartbeats 4000000 in
set_option maxRecDepth 100000 in
theorem pX7_isTiePiece (l : Launch) (D : va_G) (T : Nat → ClassId) (X : zFP) (hgt : Nat → Nat) (hgw : Nat → Nat) (sz : Nat) (gt : zM) (gw : zM) (r : Int32) (ngt : zM) (ngw : zM) (hf : fX7_isTiePiece gt gw = some (r, ngt, ngw)) : Met l yX7_isTiePiece wsX7_isTiePiece rX7_isTiePiece (zPre D T X [.ref (hgt 0), .ref (hgw 0)] (wX7 T hgt gt ++ wX8 T hgw gw) sz) (zQi D T r (wX7 T hgt ngt ++ wX8 T hgw ngw) (wX7 T hgt gt ++ wX8 T hgw gw) sz) 0 0 (va_A (wX7 T hgt gt ++ wX8 T hgw gw) sz) := by
  unfold fX7_isTiePiece at hf
  refine zStart [(0, .ref (hgt 0)), (1, .ref (hgw 0))] (by decide) rfl (Nat.le_of_ble_eq_true rfl) rfl ?_
  intro p e s m args below meth c A Q ls hx hb hr hml hown hlocks hts hsz hA0 hQ hA hK hX hP hD hS hl
  replace hown : s.vm.findClass RX7 = some m.cls := hown
  have hH := hsz
  have hiX7 : ∀ w ∈ u_ws RX7 TX7 6, w ∈ wsX7_isTiePiece := fun w h => List.mem_cons_of_mem _ (List.mem_append_right _ (h))
  have hiX8 : ∀ w ∈ u_ws RX8 TX8 14, w ∈ wsX7_isTiePiece := fun w h => List.mem_cons_of_mem _ (List.mem_append_left _ (List.mem_append_right _ (h)))
  obtain ⟨H, hHe⟩ : ∃ H : Heap, H = s.heap := ⟨_, rfl⟩
  obtain ⟨locs, hLe⟩ : ∃ L : List Loc, L = [] := ⟨_, rfl⟩
  replace hP : va_P D vwCl (wX7 T hgt gt ++ wX8 T hgw gw) H := by rw [hHe]; exact hP
  replace hS : va_S A s.heap H locs := by rw [hHe, hLe]; exact hS
  suffices hgo : W p l e rX7_isTiePiece s m args below meth c H locs 0 0 Q (F0 m 0 ls []) by rw [hHe, hLe] at hgo; exact hgo
  clear hHe hLe
  refine lv_aload_n hx hb dX7_isTiePiece_0 rfl (lv_at hl 1 rfl) ?_
  refine zGet (ci := 8) (C := RX8) (F := TX8) (N := 14) (v := .int (gw 0 3)) hx hb hts hiX8 hown hK hP 2 3 1 rfl rfl (by decide) rfl rfl rfl dX7_isTiePiece_1 ?_
  refine lv_bipush (v := 14) hx hb dX7_isTiePiece_4 (by decide) ?_
  refine lv_icmp_ge (tgt := 23) hx hb dX7_isTiePiece_6 (by decide) (fun hc => ?_) (fun hc => ?_)
  · replace hf := zIf_t hc hf
    refine lv_iconst (v := 0) hx hb dX7_isTiePiece_23 (by decide) ?_
    obtain ⟨q1, q2, q3⟩ := zI3 hf
    subst q1
    subst q2
    subst q3
    exact zRetZ hQ hx hb hr hlocks hA0 hK hP hD hS (by decide) rfl dX7_isTiePiece_24
  · replace hf := zIf_f hc hf
    refine lv_aload_n hx hb dX7_isTiePiece_9 rfl (lv_at hl 0 rfl) ?_
    refine lv_iconst (v := 0) hx hb dX7_isTiePiece_10 (by decide) ?_
    refine lv_aload_n hx hb dX7_isTiePiece_11 rfl (lv_at hl 1 rfl) ?_
    refine zGet (ci := 8) (C := RX8) (F := TX8) (N := 14) (v := .int (gw 0 0)) hx hb hts hiX8 hown hK hP 2 0 2 rfl rfl (by decide) rfl rfl rfl dX7_isTiePiece_12 ?_
    refine lv_iconst (v := 1) hx hb dX7_isTiePiece_15 (by decide) ?_
    refine lv_isub hx hb dX7_isTiePiece_16 ?_
    obtain ⟨v1, gt_2, hc17, hf⟩ := zB2_ok hf
    refine zCallVJI (wr := wX8 T hgw gw) (ws' := wX7 T hgt gt_2 ++ wX8 T hgw gw) [.int 0, .int ((gw 0 0) - 1)] ⟨hx, hb, hml, hown, hts⟩ (pX7_stepNumber l D T X hgt H.size gt 0 ((gw 0 0) - 1) v1 gt_2 hc17) (cwV 2 hts gX7_isTiePiece_X7_stepNumber rfl rfl rfl (by decide +kernel) ⟨Nat.le_of_ble_eq_true rfl, Nat.le_of_ble_eq_true rfl⟩) hK hP hD hS hA hX [0, 1] [2, 3, 4, 5, 6, 7, 8, 9, 10, 11, 12] [11, 12, 0, 1, 2, 3, 4, 5, 6, 7, 8, 9, 10] rfl rfl rfl rfl 0 rfl rfl rfl hl.1 rfl (Nat.le_of_ble_eq_true rfl) dX7_isTiePiece_17 ⟨Nat.zero_le _, Nat.zero_le _⟩ (fun H locs hP hD hS => ?_)
    refine lv_if_ne (tgt := 25) hx hb dX7_isTiePiece_20 (by decide) (fun hc => ?_) (fun hc => ?_)
    · replace hf := zIf_f hc hf
      refine lv_aload_n hx hb dX7_isTiePiece_25 rfl (lv_at hl 0 rfl) ?_
      refine zGet (ci := 7) (C := RX7) (F := TX7) (N := 6) (v := .int (gt_2 0 5)) hx hb hts hiX7 hown hK hP 0 5 3 rfl rfl (by decide) rfl rfl rfl dX7_isTiePiece_26 ?_
      refine lv_topi (fun v3 ev3 => ?_)
      replace hf := zLt_at ev3 hf
      refine lv_istore_n (lv' := [(2, .int v3), (0, .ref (hgt 0)), (1, .ref (hgw 0))]) hx hb dX7_isTiePiece_29 rfl hl (by decide) rfl (fun ls hl => ?_)
      refine lv_aload_n hx hb dX7_isTiePiece_30 rfl (lv_at hl 1 rfl) ?_
      refine lv_iconst (v := 0) hx hb dX7_isTiePiece_31 (by decide) ?_
      refine lv_aload_n hx hb dX7_isTiePiece_32 rfl (lv_at hl 2 rfl) ?_
      refine zGet (ci := 8) (C := RX8) (F := TX8) (N := 14) (v := .int (gw 0 0)) hx hb hts hiX8 hown hK hP 2 0 2 rfl rfl (by decide) rfl rfl rfl dX7_isTiePiece_33 ?_
      refine lv_iconst (v := 1) hx hb dX7_isTiePiece_36 (by decide) ?_
      refine lv_isub hx hb dX7_isTiePiece_37 ?_
      obtain ⟨v4, gt_5, hc38, hf⟩ := zB2_ok hf
      refine zCallVJI (wr := wX8 T hgw gw) (ws' := wX7 T hgt gt_5 ++ wX8 T hgw gw) [.int 0, .int ((gw 0 0) - 1)] ⟨hx, hb, hml, hown, hts⟩ (pX7_stepNumber l D T X hgt H.size gt_2 0 ((gw 0 0) - 1) v4 gt_5 hc38) (cwV 2 hts gX7_isTiePiece_X7_stepNumber rfl rfl rfl (by decide +kernel) ⟨Nat.le_of_ble_eq_true rfl, Nat.le_of_ble_eq_true rfl⟩) hK hP hD hS hA hX [0, 1] [2, 3, 4, 5, 6, 7, 8, 9, 10, 11, 12] [11, 12, 0, 1, 2, 3, 4, 5, 6, 7, 8, 9, 10] rfl rfl rfl rfl 0 rfl rfl rfl hl.1 rfl (Nat.le_of_ble_eq_true rfl) dX7_isTiePiece_38 ⟨Nat.zero_le _, Nat.zero_le _⟩ (fun H locs hP hD hS => ?_)
      refine lv_if_eq (tgt := 64) hx hb dX7_isTiePiece_41 (by decide) (fun hc => ?_) (fun hc => ?_)
      · replace hf := zIf_t hc hf
        refine lv_iconst (v := 0) hx hb dX7_isTiePiece_64 (by decide) ?_
        obtain ⟨q1, q2, q3⟩ := zI3 hf
        subst q1
        subst q2
        subst q3
        exact zRetZ hQ hx hb hr hlocks hA0 hK hP hD hS (by decide) rfl dX7_isTiePiece_65
      · replace hf := zIf_f hc hf
        refine lv_aload_n hx hb dX7_isTiePiece_44 rfl (lv_at hl 1 rfl) ?_
        refine zGet (ci := 7) (C := RX7) (F := TX7) (N := 6) (v := .int (gt_5 0 5)) hx hb hts hiX7 hown hK hP 0 5 3 rfl rfl (by decide) rfl rfl rfl dX7_isTiePiece_45 ?_
        refine lv_iload_n hx hb dX7_isTiePiece_48 rfl (lv_at hl 0 rfl) ?_
        refine lv_icmp_eq (tgt := 64) hx hb dX7_isTiePiece_49 (by decide) (fun hc => ?_) (fun hc => ?_)
        · replace hf := zIf_t hc hf
          refine lv_iconst (v := 0) hx hb dX7_isTiePiece_64 (by decide) ?_
          obtain ⟨q1, q2, q3⟩ := zI3 hf
          subst q1
          subst q2
          subst q3
          exact zRetZ hQ hx hb hr hlocks hA0 hK hP hD hS (by decide) rfl dX7_isTiePiece_65
        · replace hf := zIf_f hc hf
          refine lv_aload_n hx hb dX7_isTiePiece_52 rfl (lv_at hl 2 rfl) ?_
          refine lv_iload_n hx hb dX7_isTiePiece_53 rfl (lv_at hl 0 rfl) ?_
          refine lv_aload_n hx hb dX7_isTiePiece_54 rfl (lv_at hl 1 rfl) ?_
          refine zGet (ci := 7) (C := RX7) (F := TX7) (N := 6) (v := .int (gt_5 0 5)) hx hb hts hiX7 hown hK hP 0 5 3 rfl rfl (by decide) rfl rfl rfl dX7_isTiePiece_55 ?_
          obtain ⟨v6, hc58, hf⟩ := zB1_ok hf
          refine zCallVJI (wr := wX7 T hgt gt_5) (ws' := wX7 T hgt gt_5 ++ wX8 T hgw gw) [.int v3, .int (gt_5 0 5)] ⟨hx, hb, hml, hown, hts⟩ (pX8_tieBetween l D T X hgw H.size gw v3 (gt_5 0 5) v6 hc58) (cwV 2 hts gX7_isTiePiece_X8_tieBetween rfl rfl rfl (by decide +kernel) ⟨Nat.le_of_ble_eq_true rfl, Nat.le_of_ble_eq_true rfl⟩) hK hP hD hS hA hX [2, 3, 4, 5, 6, 7, 8, 9, 10, 11, 12] [0, 1] [0, 1, 2, 3, 4, 5, 6, 7, 8, 9, 10, 11, 12] rfl rfl rfl rfl 0 rfl rfl rfl hl.1 rfl (Nat.le_of_ble_eq_true rfl) dX7_isTiePiece_58 ⟨Nat.zero_le _, Nat.zero_le _⟩ (fun H locs hP hD hS => ?_)
          refine lv_if_lt (tgt := 66) hx hb dX7_isTiePiece_61 (by decide) (fun hc => ?_) (fun hc => ?_)
          · replace hf := zIf_t hc hf
            refine lv_aload_n hx hb dX7_isTiePiece_66 rfl (lv_at hl 2 rfl) ?_
            refine lv_iload_n hx hb dX7_isTiePiece_67 rfl (lv_at hl 0 rfl) ?_
            refine lv_aload_n hx hb dX7_isTiePiece_68 rfl (lv_at hl 1 rfl) ?_
            refine zGet (ci := 7) (C := RX7) (F := TX7) (N := 6) (v := .int (gt_5 0 5)) hx hb hts hiX7 hown hK hP 0 5 3 rfl rfl (by decide) rfl rfl rfl dX7_isTiePiece_69 ?_
            obtain ⟨v7, gw_8, hc72, hf⟩ := zB2_ok hf
            refine zCallVJI (wr := wX7 T hgt gt_5) (ws' := wX7 T hgt gt_5 ++ wX8 T hgw gw_8) [.int v3, .int (gt_5 0 5)] ⟨hx, hb, hml, hown, hts⟩ (pX8_addTie l D T X hgw H.size gw v3 (gt_5 0 5) v7 gw_8 hc72) (cwV 2 hts gX7_isTiePiece_X8_addTie rfl rfl rfl (by decide +kernel) ⟨Nat.le_of_ble_eq_true rfl, Nat.le_of_ble_eq_true rfl⟩) hK hP hD hS hA hX [2, 3, 4, 5, 6, 7, 8, 9, 10, 11, 12] [0, 1] [0, 1, 2, 3, 4, 5, 6, 7, 8, 9, 10, 11, 12] rfl rfl rfl rfl 0 rfl rfl rfl hl.1 rfl (Nat.le_of_ble_eq_true rfl) dX7_isTiePiece_72 ⟨Nat.zero_le _, Nat.zero_le _⟩ (fun H locs hP hD hS => ?_)
            refine lv_istore_n (lv' := [(3, .int v7), (2, .int v3), (0, .ref (hgt 0)), (1, .ref (hgw 0))]) hx hb dX7_isTiePiece_75 rfl hl (by decide) rfl (fun ls hl => ?_)
            refine lv_iconst (v := 0) hx hb dX7_isTiePiece_76 (by decide) ?_
            refine lv_istore (lv' := [(4, .int 0), (3, .int v7), (2, .int v3), (0, .ref (hgt 0)), (1, .ref (hgw 0))]) hx hb dX7_isTiePiece_77 hl (by decide) rfl (fun ls hl => ?_)
            refine lv_aload_n hx hb dX7_isTiePiece_79 rfl (lv_at hl 3 rfl) ?_
            obtain ⟨gt_9, hc80, hf⟩ := zB1_ok hf
            refine zCallVJV (wr := wX8 T hgw gw_8) (ws' := wX7 T hgt gt_9 ++ wX8 T hgw gw_8) [] ⟨hx, hb, hml, hown, hts⟩ (pX7_step l D T X hgt H.size gt_5 gt_9 hc80) (cwV 0 hts gX7_isTiePiece_X7_step rfl rfl rfl (by decide +kernel) ⟨Nat.le_of_ble_eq_true rfl, Nat.le_of_ble_eq_true rfl⟩) hK hP hD hS hA hX [0, 1] [2, 3, 4, 5, 6, 7, 8, 9, 10, 11, 12] [11, 12, 0, 1, 2, 3, 4, 5, 6, 7, 8, 9, 10] rfl rfl rfl rfl 0 rfl rfl rfl hl.1 rfl (Nat.le_of_ble_eq_true rfl) dX7_isTiePiece_80 ⟨Nat.zero_le _, Nat.zero_le _⟩ (fun H locs hP hD hS => ?_)
            refine lv_iconst (v := 0) hx hb dX7_isTiePiece_83 (by decide) ?_
            refine lv_istore (lv' := [(5, .int 0), (4, .int 0), (3, .int v7), (2, .int v3), (0, .ref (hgt 0)), (1, .ref (hgw 0))]) hx hb dX7_isTiePiece_84 hl (by decide) rfl (fun ls hl => ?_)
            obtain ⟨ex, hlp, hf⟩ := zB1_ok hf
            have hE86_134 : ∀ (gt_14 : zM) (gw_15 : zM) , ex = (.inl (gt_14, gw_15)) → ∀ (H : Heap) (locs : List Loc) (ls : Array Slot), va_P D vwCl (wX7 T hgt gt_14 ++ wX8 T hgw gw_15) H → va_D A (wX7 T hgt gt_14 ++ wX8 T hgw gw_15) → va_S A s.heap H locs → lv_has ls 7 [(0, .ref (hgt 0))] → W p l e rX7_isTiePiece s m args below meth c H locs 0 0 Q (F0 m 134 ls []) := by
              intro gt_14 gw_15 hex H locs ls hP hD hS hl
              have hf := zExL2 hex hf
              refine lv_aload_n hx hb dX7_isTiePiece_134 rfl (lv_at hl 0 rfl) ?_
              refine zGet (ci := 7) (C := RX7) (F := TX7) (N := 6) (v := .int (gt_14 0 4)) hx hb hts hiX7 hown hK hP 0 4 4 rfl rfl (by decide) rfl rfl rfl dX7_isTiePiece_135 ?_
              refine lv_iconst (v := 3) hx hb dX7_isTiePiece_138 (by decide) ?_
              refine lv_icmp_ne (tgt := 146) hx hb dX7_isTiePiece_139 (by decide) (fun hc => ?_) (fun hc => ?_)
              · replace hf := zIf_f hc hf
                refine lv_iconst (v := 0) hx hb dX7_isTiePiece_146 (by decide) ?_
                obtain ⟨q1, q2, q3⟩ := zI3 hf
                subst q1
                subst q2
                subst q3
                exact zRetZ hQ hx hb hr hlocks hA0 hK hP hD hS (by decide) rfl dX7_isTiePiece_147
              · replace hf := zIf_t hc hf
                refine lv_iconst (v := 1) hx hb dX7_isTiePiece_142 (by decide) ?_
                refine lv_goto (tgt := 147) hx hb dX7_isTiePiece_143 (by decide) ?_
                obtain ⟨q1, q2, q3⟩ := zI3 hf
                subst q1
                subst q2
                subst q3
                exact zRetZ hQ hx hb hr hlocks hA0 hK hP hD hS (by decide) rfl dX7_isTiePiece_147
            have hE86_115 : ∀ (gt_16 : zM) (gw_17 : zM) , ex = (.inr (gt_16, gw_17)) → ∀ (H : Heap) (locs : List Loc) (ls : Array Slot), va_P D vwCl (wX7 T hgt gt_16 ++ wX8 T hgw gw_17) H → va_D A (wX7 T hgt gt_16 ++ wX8 T hgw gw_17) → va_S A s.heap H locs → lv_has ls 7 [] → W p l e rX7_isTiePiece s m args below meth c H locs 0 0 Q (F0 m 115 ls []) := by
              intro gt_16 gw_17 hex H locs ls hP hD hS hl
              have hf := zSmR hex hf
              have hf := zEx2 rfl hf
              refine lv_iconst (v := 0) hx hb dX7_isTiePiece_115 (by decide) ?_
              obtain ⟨q1, q2, q3⟩ := zI3 hf
              subst q1
              subst q2
              subst q3
              exact zRetZ hQ hx hb hr hlocks hA0 hK hP hD hS (by decide) rfl dX7_isTiePiece_116
            refine zLpS4 (body := (fX7_isTiePiece_L86 v7)) (b := ex) (fun (v10 : Int32) (v11 : Int32) (gt_12 : zM) (gw_13 : zM) => ∀ (H : Heap) (locs : List Loc) (ls : Array Slot), va_P D vwCl (wX7 T hgt gt_12 ++ wX8 T hgw gw_13) H → va_D A (wX7 T hgt gt_12 ++ wX8 T hgw gw_13) → va_S A s.heap H locs → lv_has ls 7 [(0, .ref (hgt 0)), (1, .ref (hgw 0)), (3, .int v7), (4, .int v10), (5, .int v11)] → W p l e rX7_isTiePiece s m args below meth c H locs 0 0 Q (F0 m 86 ls [])) ?_ zFU 0 0 gt_9 gw_8 hlp H locs ls hP hD hS (lv_sub hl [4, 5, 2, 1, 0] rfl)
            intro v10 v11 gt_12 gw_13 z hf hzz H locs ls hP hD hS hl
            unfold fX7_isTiePiece_L86 at hf
            replace hf := zUk4 hf
            refine lv_iload hx hb dX7_isTiePiece_86 (lv_at hl 4 rfl) ?_
            refine lv_iconst (v := 3) hx hb dX7_isTiePiece_88 (by decide) ?_
            refine lv_icmp_ge (tgt := 134) hx hb dX7_isTiePiece_89 (by decide) (fun hc => ?_) (fun hc => ?_)
            · replace hf := zIf_t hc hf
              cases hf
              exact hE86_134 gt_12 gw_13 hzz.symm H locs ls hP hD hS (lv_sub hl [0] rfl)
            · replace hf := zIf_f hc hf
              refine lv_aload_n hx hb dX7_isTiePiece_92 rfl (lv_at hl 0 rfl) ?_
              refine zGet (ci := 7) (C := RX7) (F := TX7) (N := 6) (v := .int (gt_12 0 4)) hx hb hts hiX7 hown hK hP 0 4 4 rfl rfl (by decide) rfl rfl rfl dX7_isTiePiece_93 ?_
              refine lv_iconst (v := 3) hx hb dX7_isTiePiece_96 (by decide) ?_
              refine lv_icmp_eq (tgt := 134) hx hb dX7_isTiePiece_97 (by decide) (fun hc => ?_) (fun hc => ?_)
              · replace hf := zIf_t hc hf
                cases hf
                exact hE86_134 gt_12 gw_13 hzz.symm H locs ls hP hD hS (lv_sub hl [0] rfl)
              · replace hf := zIf_f hc hf
                refine lv_aload_n hx hb dX7_isTiePiece_100 rfl (lv_at hl 0 rfl) ?_
                refine lv_aload_n hx hb dX7_isTiePiece_101 rfl (lv_at hl 1 rfl) ?_
                refine lv_iload_n hx hb dX7_isTiePiece_102 rfl (lv_at hl 2 rfl) ?_
                refine lv_iload hx hb dX7_isTiePiece_103 (lv_at hl 3 rfl) ?_
                obtain ⟨v18, gt_19, gw_20, hc105, hf⟩ := zB3_ok hf
                refine zCallVEI [.ref (hgw 0), .int v7, .int v10] ⟨hx, hb, hml, hown, hts⟩ (pX7_readExtra l D T X hgt hgw H.size gt_12 gw_13 v7 v10 v18 gt_19 gw_20 hc105) (cwV 3 hts gX7_isTiePiece_X7_readExtra rfl rfl rfl (by decide +kernel) ⟨Nat.le_of_ble_eq_true rfl, Nat.le_of_ble_eq_true rfl⟩) hK hP hD hS hA hX 0 rfl rfl rfl hl.1 rfl (Nat.le_of_ble_eq_true rfl) dX7_isTiePiece_105 ⟨Nat.zero_le _, Nat.zero_le _⟩ (fun H locs hP hD hS => ?_)
                refine lv_istore (lv' := [(6, .int v18), (0, .ref (hgt 0)), (1, .ref (hgw 0)), (3, .int v7), (4, .int v10), (5, .int v11)]) hx hb dX7_isTiePiece_108 hl (by decide) rfl (fun ls hl => ?_)
                refine lv_iload hx hb dX7_isTiePiece_110 (lv_at hl 0 rfl) ?_
                refine lv_if_ne (tgt := 117) hx hb dX7_isTiePiece_112 (by decide) (fun hc => ?_) (fun hc => ?_)
                · replace hf := zIf_f hc hf
                  refine lv_iload hx hb dX7_isTiePiece_117 (lv_at hl 4 rfl) ?_
                  refine lv_iload hx hb dX7_isTiePiece_119 (lv_at hl 0 rfl) ?_
                  refine lv_ior hx hb dX7_isTiePiece_121 ?_
                  refine lv_topi (fun v21 ev21 => ?_)
                  replace hf := zLt_at ev21 hf
                  refine lv_istore (lv' := [(4, .int v21), (6, .int v18), (0, .ref (hgt 0)), (1, .ref (hgw 0)), (3, .int v7), (5, .int v11)]) hx hb dX7_isTiePiece_122 hl (by decide) rfl (fun ls hl => ?_)
                  refine lv_aload_n hx hb dX7_isTiePiece_124 rfl (lv_at hl 2 rfl) ?_
                  obtain ⟨gt_22, hc125, hf⟩ := zB1_ok hf
                  refine zCallVJV (wr := wX8 T hgw gw_20) (ws' := wX7 T hgt gt_22 ++ wX8 T hgw gw_20) [] ⟨hx, hb, hml, hown, hts⟩ (pX7_step l D T X hgt H.size gt_19 gt_22 hc125) (cwV 0 hts gX7_isTiePiece_X7_step rfl rfl rfl (by decide +kernel) ⟨Nat.le_of_ble_eq_true rfl, Nat.le_of_ble_eq_true rfl⟩) hK hP hD hS hA hX [0, 1] [2, 3, 4, 5, 6, 7, 8, 9, 10, 11, 12] [11, 12, 0, 1, 2, 3, 4, 5, 6, 7, 8, 9, 10] rfl rfl rfl rfl 0 rfl rfl rfl hl.1 rfl (Nat.le_of_ble_eq_true rfl) dX7_isTiePiece_125 ⟨Nat.zero_le _, Nat.zero_le _⟩ (fun H locs hP hD hS => ?_)
                  obtain ⟨v23, ev23⟩ : ∃ y : Int32, y = v11 + 1 := ⟨_, rfl⟩
                  replace hf := zLt_at ev23 hf
                  refine lv_iinc (v := v23) (lv' := [(5, .int v23), (4, .int v21), (6, .int v18), (0, .ref (hgt 0)), (1, .ref (hgw 0)), (3, .int v7)]) hx hb dX7_isTiePiece_128 hl (k := 5) rfl (by rw [ev23]; rfl) (by decide) rfl (fun ls hl => ?_)
                  refine lv_goto (tgt := 86) hx hb dX7_isTiePiece_131 (by decide) ?_
                  cases hf
                  exact hzz H locs ls hP hD hS (lv_sub hl [3, 4, 5, 1, 0] rfl)
                · replace hf := zIf_t hc hf
                  cases hf
                  exact hE86_115 gt_19 gw_20 hzz.symm H locs ls hP hD hS (lv_sub hl [] rfl)
          · replace hf := zIf_f hc hf
            refine lv_iconst (v := 0) hx hb dX7_isTiePiece_64 (by decide) ?_
            obtain ⟨q1, q2, q3⟩ := zI3 hf
            subst q1
            subst q2
            subst q3
            exact zRetZ hQ hx hb hr hlocks hA0 hK hP hD hS (by decide) rfl dX7_isTiePiece_65
    · replace hf := zIf_t hc hf
      refine lv_iconst (v := 0) hx hb dX7_isTiePiece_23 (by decide) ?_
      obtain ⟨q1, q2, q3⟩ := zI3 hf
      subst q1
      subst q2
      subst q3
      exact zRetZ hQ hx hb hr hlocks hA0 hK hP hD hS (by decide) rfl dX7_isTiePiece_24
set_option maxHeartbeats 4000000 in
set_option maxRecDepth 100000 in
theorem pX7_isFirstPiece (l : Launch) (D : va_G) (T : Nat → ClassId) (X : zFP) (hgt : Nat → Nat) (hgw : Nat → Nat) (sz : Nat) (gt : zM) (gw : zM) (r : Int32) (ngt : zM) (ngw : zM) (hf : fX7_isFirstPiece gt gw = some (r, ngt, ngw)) : Met l yX7_isFirstPiece wsX7_isFirstPiece rX7_isFirstPiece (zPre D T X [.ref (hgt 0), .ref (hgw 0)] (wX7 T hgt gt ++ wX8 T hgw gw) sz) (zQi D T r (wX7 T hgt ngt ++ wX8 T hgw ngw) (wX7 T hgt gt ++ wX8 T hgw gw) sz) 0 0 (va_A (wX7 T hgt gt ++ wX8 T hgw gw) sz) := by
  unfold fX7_isFirstPiece at hf
  refine zStart [(0, .ref (hgt 0)), (1, .ref (hgw 0))] (by decide) rfl (Nat.le_of_ble_eq_true rfl) rfl ?_
  intro p e s m args below meth c A Q ls hx hb hr hml hown hlocks hts hsz hA0 hQ hA hK hX hP hD hS hl
  replace hown : s.vm.findClass RX7 = some m.cls := hown
  have hH := hsz
  have hiX7 : ∀ w ∈ u_ws RX7 TX7 6, w ∈ wsX7_isFirstPiece := fun w h => List.mem_cons_of_mem _ (List.mem_append_right _ (h))
  have hiX8 : ∀ w ∈ u_ws RX8 TX8 14, w ∈ wsX7_isFirstPiece := fun w h => List.mem_cons_of_mem _ (List.mem_append_left _ (List.mem_append_right _ (h)))
  obtain ⟨H, hHe⟩ : ∃ H : Heap, H = s.heap := ⟨_, rfl⟩
  obtain ⟨locs, hLe⟩ : ∃ L : List Loc, L = [] := ⟨_, rfl⟩
  replace hP : va_P D vwCl (wX7 T hgt gt ++ wX8 T hgw gw) H := by rw [hHe]; exact hP
  replace hS : va_S A s.heap H locs := by rw [hHe, hLe]; exact hS
  suffices hgo : W p l e rX7_isFirstPiece s m args below meth c H locs 0 0 Q (F0 m 0 ls []) by rw [hHe, hLe] at hgo; exact hgo
  clear hHe hLe
  refine lv_aload_n hx hb dX7_isFirstPiece_0 rfl (lv_at hl 0 rfl) ?_
  refine lv_iconst (v := 0) hx hb dX7_isFirstPiece_1 (by decide) ?_
  refine lv_aload_n hx hb dX7_isFirstPiece_2 rfl (lv_at hl 1 rfl) ?_
  refine zGet (ci := 8) (C := RX8) (F := TX8) (N := 14) (v := .int (gw 0 0)) hx hb hts hiX8 hown hK hP 2 0 1 rfl rfl (by decide) rfl rfl rfl dX7_isFirstPiece_3 ?_
  refine lv_iconst (v := 1) hx hb dX7_isFirstPiece_6 (by decide) ?_
  refine lv_isub hx hb dX7_isFirstPiece_7 ?_
  obtain ⟨v1, gt_2, hc8, hf⟩ := zB2_ok hf
  refine zCallVJI (wr := wX8 T hgw gw) (ws' := wX7 T hgt gt_2 ++ wX8 T hgw gw) [.int 0, .int ((gw 0 0) - 1)] ⟨hx, hb, hml, hown, hts⟩ (pX7_stepNumber l D T X hgt H.size gt 0 ((gw 0 0) - 1) v1 gt_2 hc8) (cwV 2 hts gX7_isFirstPiece_X7_stepNumber rfl rfl rfl (by decide +kernel) ⟨Nat.le_of_ble_eq_true rfl, Nat.le_of_ble_eq_true rfl⟩) hK hP hD hS hA hX [0, 1] [2, 3, 4, 5, 6, 7, 8, 9, 10, 11, 12] [11, 12, 0, 1, 2, 3, 4, 5, 6, 7, 8, 9, 10] rfl rfl rfl rfl 0 rfl rfl rfl hl.1 rfl (Nat.le_of_ble_eq_true rfl) dX7_isFirstPiece_8 ⟨Nat.zero_le _, Nat.zero_le _⟩ (fun H locs hP hD hS => ?_)
  refine lv_if_ne (tgt := 16) hx hb dX7_isFirstPiece_11 (by decide) (fun hc => ?_) (fun hc => ?_)
  · replace hf := zIf_f hc hf
    refine lv_aload_n hx hb dX7_isFirstPiece_16 rfl (lv_at hl 0 rfl) ?_
    refine zGet (ci := 7) (C := RX7) (F := TX7) (N := 6) (v := .int (gt_2 0 5)) hx hb hts hiX7 hown hK hP 0 5 2 rfl rfl (by decide) rfl rfl rfl dX7_isFirstPiece_17 ?_
    refine lv_topi (fun v3 ev3 => ?_)
    replace hf := zLt_at ev3 hf
    refine lv_istore_n (lv' := [(2, .int v3), (0, .ref (hgt 0)), (1, .ref (hgw 0))]) hx hb dX7_isFirstPiece_20 rfl hl (by decide) rfl (fun ls hl => ?_)
    refine lv_aload_n hx hb dX7_isFirstPiece_21 rfl (lv_at hl 1 rfl) ?_
    obtain ⟨gt_4, hc22, hf⟩ := zB1_ok hf
    refine zCallVJV (wr := wX8 T hgw gw) (ws' := wX7 T hgt gt_4 ++ wX8 T hgw gw) [] ⟨hx, hb, hml, hown, hts⟩ (pX7_step l D T X hgt H.size gt_2 gt_4 hc22) (cwV 0 hts gX7_isFirstPiece_X7_step rfl rfl rfl (by decide +kernel) ⟨Nat.le_of_ble_eq_true rfl, Nat.le_of_ble_eq_true rfl⟩) hK hP hD hS hA hX [0, 1] [2, 3, 4, 5, 6, 7, 8, 9, 10, 11, 12] [11, 12, 0, 1, 2, 3, 4, 5, 6, 7, 8, 9, 10] rfl rfl rfl rfl 0 rfl rfl rfl hl.1 rfl (Nat.le_of_ble_eq_true rfl) dX7_isFirstPiece_22 ⟨Nat.zero_le _, Nat.zero_le _⟩ (fun H locs hP hD hS => ?_)
    refine lv_aload_n hx hb dX7_isFirstPiece_25 rfl (lv_at hl 1 rfl) ?_
    refine va_ldcS hx hb hown (hX.2.2.2.2.2 6 (110, "weight") rfl) dX7_isFirstPiece_26 ?_
    obtain ⟨v5, hc28, hf⟩ := zB1_ok hf
    refine zCallVJI (wr := wX8 T hgw gw) (ws' := wX7 T hgt gt_4 ++ wX8 T hgw gw) [.ref (X.2.1 6)] ⟨hx, hb, hml, hown, hts⟩ (pX7_isWord l D T X hgt H.size gt_4 6 v5 hc28) (cwV 1 hts gX7_isFirstPiece_X7_isWord rfl rfl rfl (by decide +kernel) ⟨Nat.le_of_ble_eq_true rfl, Nat.le_of_ble_eq_true rfl⟩) hK hP hD hS hA hX [0, 1] [2, 3, 4, 5, 6, 7, 8, 9, 10, 11, 12] [11, 12, 0, 1, 2, 3, 4, 5, 6, 7, 8, 9, 10] rfl rfl rfl rfl 0 rfl rfl rfl hl.1 rfl (Nat.le_of_ble_eq_true rfl) dX7_isFirstPiece_28 ⟨Nat.zero_le _, Nat.zero_le _⟩ (fun H locs hP hD hS => ?_)
    refine lv_if_eq (tgt := 44) hx hb dX7_isFirstPiece_31 (by decide) (fun hc => ?_) (fun hc => ?_)
    · replace hf := zIf_t hc hf
      refine lv_iconst (v := 0) hx hb dX7_isFirstPiece_44 (by decide) ?_
      obtain ⟨q1, q2, q3⟩ := zI3 hf
      subst q1
      subst q2
      subst q3
      exact zRetZ hQ hx hb hr hlocks hA0 hK hP hD hS (by decide) rfl dX7_isFirstPiece_45
    · replace hf := zIf_f hc hf
      refine lv_aload_n hx hb dX7_isFirstPiece_34 rfl (lv_at hl 1 rfl) ?_
      refine lv_iconst (v := 0) hx hb dX7_isFirstPiece_35 (by decide) ?_
      refine lv_bipush (v := 9) hx hb dX7_isFirstPiece_36 (by decide) ?_
      obtain ⟨v6, gt_7, hc38, hf⟩ := zB2_ok hf
      refine zCallVJI (wr := wX8 T hgw gw) (ws' := wX7 T hgt gt_7 ++ wX8 T hgw gw) [.int 0, .int 9] ⟨hx, hb, hml, hown, hts⟩ (pX7_stepNumber l D T X hgt H.size gt_4 0 9 v6 gt_7 hc38) (cwV 2 hts gX7_isFirstPiece_X7_stepNumber rfl rfl rfl (by decide +kernel) ⟨Nat.le_of_ble_eq_true rfl, Nat.le_of_ble_eq_true rfl⟩) hK hP hD hS hA hX [0, 1] [2, 3, 4, 5, 6, 7, 8, 9, 10, 11, 12] [11, 12, 0, 1, 2, 3, 4, 5, 6, 7, 8, 9, 10] rfl rfl rfl rfl 0 rfl rfl rfl hl.1 rfl (Nat.le_of_ble_eq_true rfl) dX7_isFirstPiece_38 ⟨Nat.zero_le _, Nat.zero_le _⟩ (fun H locs hP hD hS => ?_)
      refine lv_if_ne (tgt := 46) hx hb dX7_isFirstPiece_41 (by decide) (fun hc => ?_) (fun hc => ?_)
      · replace hf := zIf_f hc hf
        refine lv_aload_n hx hb dX7_isFirstPiece_46 rfl (lv_at hl 2 rfl) ?_
        refine zGet (ci := 8) (C := RX8) (F := TX8) (N := 14) (v := .ref (hgw 1)) hx hb hts hiX8 hown hK hP 2 1 3 rfl rfl (by decide) rfl rfl rfl dX7_isFirstPiece_47 ?_
        refine lv_iload_n hx hb dX7_isFirstPiece_50 rfl (lv_at hl 0 rfl) ?_
        refine lv_aload_n hx hb dX7_isFirstPiece_51 rfl (lv_at hl 1 rfl) ?_
        refine zGet (ci := 7) (C := RX7) (F := TX7) (N := 6) (v := .int (gt_7 0 5)) hx hb hts hiX7 hown hK hP 0 5 2 rfl rfl (by decide) rfl rfl rfl dX7_isFirstPiece_52 ?_
        refine lv_topi (fun v8 ev8 => ?_)
        replace hf := zLt_at ev8 hf
        obtain ⟨hg, hf⟩ := zGd_ok hf
        refine zAstI (w := gw) hx hb hK hP hD hS (fun g => wX7 T hgt gt_7 ++ wX8 T hgw g) 3 1 rfl hg rfl dX7_isFirstPiece_55 (fun gw_9 egw_9 H locs hP hD hS => ?_)
        replace hP : va_P D vwCl (wX7 T hgt gt_7 ++ wX8 T hgw gw_9) H := hP
        replace hD : va_D A (wX7 T hgt gt_7 ++ wX8 T hgw gw_9) := hD
        replace hf := zLt_at egw_9 hf
        refine lv_aload_n hx hb dX7_isFirstPiece_56 rfl (lv_at hl 1 rfl) ?_
        obtain ⟨v10, gt_11, hc57, hf⟩ := zB2_ok hf
        refine zCallVJI (wr := wX8 T hgw gw_9) (ws' := wX7 T hgt gt_11 ++ wX8 T hgw gw_9) [] ⟨hx, hb, hml, hown, hts⟩ (pX7_stepStop l D T X hgt H.size gt_7 v10 gt_11 hc57) (cwV 0 hts gX7_isFirstPiece_X7_stepStop rfl rfl rfl (by decide +kernel) ⟨Nat.le_of_ble_eq_true rfl, Nat.le_of_ble_eq_true rfl⟩) hK hP hD hS hA hX [0, 1] [2, 3, 4, 5, 6, 7, 8, 9, 10, 11, 12] [11, 12, 0, 1, 2, 3, 4, 5, 6, 7, 8, 9, 10] rfl rfl rfl rfl 0 rfl rfl rfl hl.1 rfl (Nat.le_of_ble_eq_true rfl) dX7_isFirstPiece_57 ⟨Nat.zero_le _, Nat.zero_le _⟩ (fun H locs hP hD hS => ?_)
        obtain ⟨hg, hf⟩ := zGd_ok hf
        obtain ⟨q1, q2, q3⟩ := zI3 hf
        subst q1
        subst q2
        subst q3
        exact zRetZ hQ hx hb hr hlocks hA0 hK hP hD hS hg rfl dX7_isFirstPiece_60
      · replace hf := zIf_t hc hf
        refine lv_iconst (v := 0) hx hb dX7_isFirstPiece_44 (by decide) ?_
        obtain ⟨q1, q2, q3⟩ := zI3 hf
        subst q1
        subst q2
        subst q3
        exact zRetZ hQ hx hb hr hlocks hA0 hK hP hD hS (by decide) rfl dX7_isFirstPiece_45
  · replace hf := zIf_t hc hf
    refine lv_iconst (v := 0) hx hb dX7_isFirstPiece_14 (by decide) ?_
    obtain ⟨q1, q2, q3⟩ := zI3 hf
    subst q1
    subst q2
    subst q3
    exact zRetZ hQ hx hb hr hlocks hA0 hK hP hD hS (by decide) rfl dX7_isFirstPiece_15
set_option maxHeartbeats 4000000 in
set_option maxRecDepth 100000 in
theorem pX8_addCut (l : Launch) (D : va_G) (T : Nat → ClassId) (X : zFP) (hgw : Nat → Nat) (sz : Nat) (gw : zM) (a1 : Int32) (a2 : Int32) (a3 : Int32) (r : Int32) (ngw : zM) (hf : fX8_addCut gw a1 a2 a3 = some (r, ngw)) : Met l yX8_addCut wsX8_addCut rX8_addCut (zPre D T X [.ref (hgw 0), .int a1, .int a2, .int a3] (wX8 T hgw gw) sz) (zQi D T r (wX8 T hgw ngw) (wX8 T hgw gw) sz) 0 0 (va_A (wX8 T hgw gw) sz) := by
  unfold fX8_addCut at hf
  refine zStart [(0, .ref (hgw 0)), (1, .int a1), (2, .int a2), (3, .int a3)] (by decide) rfl (Nat.le_of_ble_eq_true rfl) rfl ?_
  intro p e s m args below meth c A Q ls hx hb hr hml hown hlocks hts hsz hA0 hQ hA hK hX hP hD hS hl
  replace hown : s.vm.findClass RX8 = some m.cls := hown
  have hH := hsz
  have hiX8 : ∀ w ∈ u_ws RX8 TX8 14, w ∈ wsX8_addCut := fun w h => List.mem_cons_of_mem _ (List.mem_append_right _ (h))
  obtain ⟨H, hHe⟩ : ∃ H : Heap, H = s.heap := ⟨_, rfl⟩
  obtain ⟨locs, hLe⟩ : ∃ L : List Loc, L = [] := ⟨_, rfl⟩
  replace hP : va_P D vwCl (wX8 T hgw gw) H := by rw [hHe]; exact hP
  replace hS : va_S A s.heap H locs := by rw [hHe, hLe]; exact hS
  suffices hgo : W p l e rX8_addCut s m args below meth c H locs 0 0 Q (F0 m 0 ls []) by rw [hHe, hLe] at hgo; exact hgo
  clear hHe hLe
  refine lv_aload_n hx hb dX8_addCut_0 rfl (lv_at hl 0 rfl) ?_
  refine zGet (ci := 8) (C := RX8) (F := TX8) (N := 14) (v := .int (gw 0 9)) hx hb hts hiX8 hown hK hP 0 9 1 rfl rfl (by decide) rfl rfl rfl dX8_addCut_1 ?_
  refine lv_bipush (v := 8) hx hb dX8_addCut_4 (by decide) ?_
  refine lv_icmp_lt (tgt := 11) hx hb dX8_addCut_6 (by decide) (fun hc => ?_) (fun hc => ?_)
  · replace hf := zIf_t hc hf
    refine lv_aload_n hx hb dX8_addCut_11 rfl (lv_at hl 0 rfl) ?_
    refine zGet (ci := 8) (C := RX8) (F := TX8) (N := 14) (v := .int (gw 0 9)) hx hb hts hiX8 hown hK hP 0 9 1 rfl rfl (by decide) rfl rfl rfl dX8_addCut_12 ?_
    refine lv_topi (fun v1 ev1 => ?_)
    replace hf := zLt_at ev1 hf
    refine lv_istore (lv' := [(4, .int v1), (0, .ref (hgw 0)), (1, .int a1), (2, .int a2), (3, .int a3)]) hx hb dX8_addCut_15 hl (by decide) rfl (fun ls hl => ?_)
    refine lv_aload_n hx hb dX8_addCut_17 rfl (lv_at hl 1 rfl) ?_
    refine zGet (ci := 8) (C := RX8) (F := TX8) (N := 14) (v := .ref (hgw 8)) hx hb hts hiX8 hown hK hP 0 10 2 rfl rfl (by decide) rfl rfl rfl dX8_addCut_18 ?_
    refine lv_iload hx hb dX8_addCut_21 (lv_at hl 0 rfl) ?_
    refine lv_iload_n hx hb dX8_addCut_23 rfl (lv_at hl 2 rfl) ?_
    obtain ⟨hg, hf⟩ := zGd_ok hf
    refine zAstI (w := gw) hx hb hK hP hD hS (fun g => wX8 T hgw g) 8 8 rfl hg rfl dX8_addCut_24 (fun gw_2 egw_2 H locs hP hD hS => ?_)
    replace hP : va_P D vwCl (wX8 T hgw gw_2) H := hP
    replace hD : va_D A (wX8 T hgw gw_2) := hD
    replace hf := zLt_at egw_2 hf
    refine lv_aload_n hx hb dX8_addCut_25 rfl (lv_at hl 1 rfl) ?_
    refine zGet (ci := 8) (C := RX8) (F := TX8) (N := 14) (v := .ref (hgw 9)) hx hb hts hiX8 hown hK hP 0 11 3 rfl rfl (by decide) rfl rfl rfl dX8_addCut_26 ?_
    refine lv_iload hx hb dX8_addCut_29 (lv_at hl 0 rfl) ?_
    refine lv_iload_n hx hb dX8_addCut_31 rfl (lv_at hl 3 rfl) ?_
    obtain ⟨hg, hf⟩ := zGd_ok hf
    refine zAstI (w := gw_2) hx hb hK hP hD hS (fun g => wX8 T hgw g) 9 9 rfl hg rfl dX8_addCut_32 (fun gw_3 egw_3 H locs hP hD hS => ?_)
    replace hP : va_P D vwCl (wX8 T hgw gw_3) H := hP
    replace hD : va_D A (wX8 T hgw gw_3) := hD
    replace hf := zLt_at egw_3 hf
    refine lv_aload_n hx hb dX8_addCut_33 rfl (lv_at hl 1 rfl) ?_
    refine zGet (ci := 8) (C := RX8) (F := TX8) (N := 14) (v := .ref (hgw 10)) hx hb hts hiX8 hown hK hP 0 12 4 rfl rfl (by decide) rfl rfl rfl dX8_addCut_34 ?_
    refine lv_iload hx hb dX8_addCut_37 (lv_at hl 0 rfl) ?_
    refine lv_iload_n hx hb dX8_addCut_39 rfl (lv_at hl 4 rfl) ?_
    obtain ⟨hg, hf⟩ := zGd_ok hf
    refine zAstI (w := gw_3) hx hb hK hP hD hS (fun g => wX8 T hgw g) 10 10 rfl hg rfl dX8_addCut_40 (fun gw_4 egw_4 H locs hP hD hS => ?_)
    replace hP : va_P D vwCl (wX8 T hgw gw_4) H := hP
    replace hD : va_D A (wX8 T hgw gw_4) := hD
    replace hf := zLt_at egw_4 hf
    refine lv_aload_n hx hb dX8_addCut_41 rfl (lv_at hl 1 rfl) ?_
    refine lv_dup hx hb dX8_addCut_42 rfl ?_
    refine zGet (ci := 8) (C := RX8) (F := TX8) (N := 14) (v := .int (gw_4 0 9)) hx hb hts hiX8 hown hK hP 0 9 1 rfl rfl (by decide) rfl rfl rfl dX8_addCut_43 ?_
    refine lv_iconst (v := 1) hx hb dX8_addCut_46 (by decide) ?_
    refine lv_iadd hx hb dX8_addCut_47 ?_
    refine lv_topi (fun v5 ev5 => ?_)
    replace hf := zLt_at ev5 hf
    refine zPut (ci := 8) (C := RX8) (F := TX8) (N := 14) (x := v5) (w := gw_4) hx hb hts hiX8 tyX8 tyX8_ok nmX8 hown hK hP hD hS (fun g => wX8 T hgw g) 0 9 1 rfl rfl (by decide) rfl rfl rfl ⟨rfl, rfl⟩ (Nat.le_of_ble_eq_true rfl) rfl dX8_addCut_48 (fun gw_6 egw_6 H locs hP hD hS => ?_)
    replace hP : va_P D vwCl (wX8 T hgw gw_6) H := hP
    replace hD : va_D A (wX8 T hgw gw_6) := hD
    replace hf := zLt_at egw_6 hf
    refine lv_iload hx hb dX8_addCut_51 (lv_at hl 0 rfl) ?_
    obtain ⟨q1, q2⟩ := zI2 hf
    subst q1
    subst q2
    exact zRetI hQ hx hb hr hlocks hA0 hK hP hD hS rfl dX8_addCut_53
  · replace hf := zIf_f hc hf
    refine lv_iconst (v := (-1)) hx hb dX8_addCut_9 (by decide) ?_
    obtain ⟨q1, q2⟩ := zI2 hf
    subst q1
    subst q2
    exact zRetI hQ hx hb hr hlocks hA0 hK hP hD hS rfl dX8_addCut_10
set_option maxHeartbeats 4000000 in
set_option maxRecDepth 100000 in
theorem pX7_isSeatPiece (l : Launch) (D : va_G) (T : Nat → ClassId) (X : zFP) (hgt : Nat → Nat) (hgw : Nat → Nat) (sz : Nat) (gt : zM) (gw : zM) (r : Int32) (ngt : zM) (ngw : zM) (hf : fX7_isSeatPiece gt gw = some (r, ngt, ngw)) : Met l yX7_isSeatPiece wsX7_isSeatPiece rX7_isSeatPiece (zPre D T X [.ref (hgt 0), .ref (hgw 0)] (wX7 T hgt gt ++ wX8 T hgw gw) sz) (zQi D T r (wX7 T hgt ngt ++ wX8 T hgw ngw) (wX7 T hgt gt ++ wX8 T hgw gw) sz) 0 0 (va_A (wX7 T hgt gt ++ wX8 T hgw gw) sz) := by
  unfold fX7_isSeatPiece at hf
  refine zStart [(0, .ref (hgt 0)), (1, .ref (hgw 0))] (by decide) rfl (Nat.le_of_ble_eq_true rfl) rfl ?_
  intro p e s m args below meth c A Q ls hx hb hr hml hown hlocks hts hsz hA0 hQ hA hK hX hP hD hS hl
  replace hown : s.vm.findClass RX7 = some m.cls := hown
  have hH := hsz
  have hiX7 : ∀ w ∈ u_ws RX7 TX7 6, w ∈ wsX7_isSeatPiece := fun w h => List.mem_cons_of_mem _ (List.mem_append_right _ (h))
  have hiX8 : ∀ w ∈ u_ws RX8 TX8 14, w ∈ wsX7_isSeatPiece := fun w h => List.mem_cons_of_mem _ (List.mem_append_left _ (List.mem_append_right _ (h)))
  obtain ⟨H, hHe⟩ : ∃ H : Heap, H = s.heap := ⟨_, rfl⟩
  obtain ⟨locs, hLe⟩ : ∃ L : List Loc, L = [] := ⟨_, rfl⟩
  replace hP : va_P D vwCl (wX7 T hgt gt ++ wX8 T hgw gw) H := by rw [hHe]; exact hP
  replace hS : va_S A s.heap H locs := by rw [hHe, hLe]; exact hS
  suffices hgo : W p l e rX7_isSeatPiece s m args below meth c H locs 0 0 Q (F0 m 0 ls []) by rw [hHe, hLe] at hgo; exact hgo
  clear hHe hLe
  refine lv_aload_n hx hb dX7_isSeatPiece_0 rfl (lv_at hl 1 rfl) ?_
  refine zGet (ci := 8) (C := RX8) (F := TX8) (N := 14) (v := .int (gw 0 9)) hx hb hts hiX8 hown hK hP 2 9 1 rfl rfl (by decide) rfl rfl rfl dX7_isSeatPiece_1 ?_
  refine lv_bipush (v := 8) hx hb dX7_isSeatPiece_4 (by decide) ?_
  refine lv_icmp_ge (tgt := 23) hx hb dX7_isSeatPiece_6 (by decide) (fun hc => ?_) (fun hc => ?_)
  · replace hf := zIf_t hc hf
    refine lv_iconst (v := 0) hx hb dX7_isSeatPiece_23 (by decide) ?_
    obtain ⟨q1, q2, q3⟩ := zI3 hf
    subst q1
    subst q2
    subst q3
    exact zRetZ hQ hx hb hr hlocks hA0 hK hP hD hS (by decide) rfl dX7_isSeatPiece_24
  · replace hf := zIf_f hc hf
    refine lv_aload_n hx hb dX7_isSeatPiece_9 rfl (lv_at hl 0 rfl) ?_
    refine lv_iconst (v := 0) hx hb dX7_isSeatPiece_10 (by decide) ?_
    refine lv_aload_n hx hb dX7_isSeatPiece_11 rfl (lv_at hl 1 rfl) ?_
    refine zGet (ci := 8) (C := RX8) (F := TX8) (N := 14) (v := .int (gw 0 0)) hx hb hts hiX8 hown hK hP 2 0 2 rfl rfl (by decide) rfl rfl rfl dX7_isSeatPiece_12 ?_
    refine lv_iconst (v := 1) hx hb dX7_isSeatPiece_15 (by decide) ?_
    refine lv_isub hx hb dX7_isSeatPiece_16 ?_
    obtain ⟨v1, gt_2, hc17, hf⟩ := zB2_ok hf
    refine zCallVJI (wr := wX8 T hgw gw) (ws' := wX7 T hgt gt_2 ++ wX8 T hgw gw) [.int 0, .int ((gw 0 0) - 1)] ⟨hx, hb, hml, hown, hts⟩ (pX7_stepNumber l D T X hgt H.size gt 0 ((gw 0 0) - 1) v1 gt_2 hc17) (cwV 2 hts gX7_isSeatPiece_X7_stepNumber rfl rfl rfl (by decide +kernel) ⟨Nat.le_of_ble_eq_true rfl, Nat.le_of_ble_eq_true rfl⟩) hK hP hD hS hA hX [0, 1] [2, 3, 4, 5, 6, 7, 8, 9, 10, 11, 12] [11, 12, 0, 1, 2, 3, 4, 5, 6, 7, 8, 9, 10] rfl rfl rfl rfl 0 rfl rfl rfl hl.1 rfl (Nat.le_of_ble_eq_true rfl) dX7_isSeatPiece_17 ⟨Nat.zero_le _, Nat.zero_le _⟩ (fun H locs hP hD hS => ?_)
    refine lv_if_ne (tgt := 25) hx hb dX7_isSeatPiece_20 (by decide) (fun hc => ?_) (fun hc => ?_)
    · replace hf := zIf_f hc hf
      refine lv_iconst (v := 1) hx hb dX7_isSeatPiece_25 (by decide) ?_
      refine lv_aload_n hx hb dX7_isSeatPiece_26 rfl (lv_at hl 0 rfl) ?_
      refine zGet (ci := 7) (C := RX7) (F := TX7) (N := 6) (v := .int (gt_2 0 5)) hx hb hts hiX7 hown hK hP 0 5 3 rfl rfl (by decide) rfl rfl rfl dX7_isSeatPiece_27 ?_
      refine lv_ishl hx hb dX7_isSeatPiece_30 ?_
      refine lv_topi (fun v3 ev3 => ?_)
      replace hf := zLt_at ev3 hf
      refine lv_istore_n (lv' := [(2, .int v3), (0, .ref (hgt 0)), (1, .ref (hgw 0))]) hx hb dX7_isSeatPiece_31 rfl hl (by decide) rfl (fun ls hl => ?_)
      refine lv_aload_n hx hb dX7_isSeatPiece_32 rfl (lv_at hl 1 rfl) ?_
      obtain ⟨gt_4, hc33, hf⟩ := zB1_ok hf
      refine zCallVJV (wr := wX8 T hgw gw) (ws' := wX7 T hgt gt_4 ++ wX8 T hgw gw) [] ⟨hx, hb, hml, hown, hts⟩ (pX7_step l D T X hgt H.size gt_2 gt_4 hc33) (cwV 0 hts gX7_isSeatPiece_X7_step rfl rfl rfl (by decide +kernel) ⟨Nat.le_of_ble_eq_true rfl, Nat.le_of_ble_eq_true rfl⟩) hK hP hD hS hA hX [0, 1] [2, 3, 4, 5, 6, 7, 8, 9, 10, 11, 12] [11, 12, 0, 1, 2, 3, 4, 5, 6, 7, 8, 9, 10] rfl rfl rfl rfl 0 rfl rfl rfl hl.1 rfl (Nat.le_of_ble_eq_true rfl) dX7_isSeatPiece_33 ⟨Nat.zero_le _, Nat.zero_le _⟩ (fun H locs hP hD hS => ?_)
      refine lv_iconst (v := 0) hx hb dX7_isSeatPiece_36 (by decide) ?_
      refine lv_istore_n (lv' := [(3, .int 0), (2, .int v3), (0, .ref (hgt 0)), (1, .ref (hgw 0))]) hx hb dX7_isSeatPiece_37 rfl hl (by decide) rfl (fun ls hl => ?_)
      obtain ⟨ex, hlp, hf⟩ := zB1_ok hf
      have hE38_97 : ∀ (v8 : Int32) (gt_9 : zM) , ex = (.inl (v8, gt_9)) → ∀ (H : Heap) (locs : List Loc) (ls : Array Slot), va_P D vwCl (wX7 T hgt gt_9 ++ wX8 T hgw gw) H → va_D A (wX7 T hgt gt_9 ++ wX8 T hgw gw) → va_S A s.heap H locs → lv_has ls 4 [(0, .ref (hgt 0)), (1, .ref (hgw 0)), (2, .int v8)] → W p l e rX7_isSeatPiece s m args below meth c H locs 0 0 Q (F0 m 97 ls []) := by
        intro v8 gt_9 hex H locs ls hP hD hS hl
        have hf := zExL2 hex hf
        refine lv_aload_n hx hb dX7_isSeatPiece_97 rfl (lv_at hl 1 rfl) ?_
        refine lv_iconst (v := 5) hx hb dX7_isSeatPiece_98 (by decide) ?_
        refine lv_iload_n hx hb dX7_isSeatPiece_99 rfl (lv_at hl 2 rfl) ?_
        refine lv_iconst (v := 0) hx hb dX7_isSeatPiece_100 (by decide) ?_
        obtain ⟨v17, gw_18, hc101, hf⟩ := zB2_ok hf
        refine zCallVJI (wr := wX7 T hgt gt_9) (ws' := wX7 T hgt gt_9 ++ wX8 T hgw gw_18) [.int 5, .int v8, .int 0] ⟨hx, hb, hml, hown, hts⟩ (pX8_addCut l D T X hgw H.size gw 5 v8 0 v17 gw_18 hc101) (cwV 3 hts gX7_isSeatPiece_X8_addCut rfl rfl rfl (by decide +kernel) ⟨Nat.le_of_ble_eq_true rfl, Nat.le_of_ble_eq_true rfl⟩) hK hP hD hS hA hX [2, 3, 4, 5, 6, 7, 8, 9, 10, 11, 12] [0, 1] [0, 1, 2, 3, 4, 5, 6, 7, 8, 9, 10, 11, 12] rfl rfl rfl rfl 0 rfl rfl rfl hl.1 rfl (Nat.le_of_ble_eq_true rfl) dX7_isSeatPiece_101 ⟨Nat.zero_le _, Nat.zero_le _⟩ (fun H locs hP hD hS => ?_)
        refine lv_pop hx hb dX7_isSeatPiece_104 rfl ?_
        refine lv_aload_n hx hb dX7_isSeatPiece_105 rfl (lv_at hl 0 rfl) ?_
        refine zGet (ci := 7) (C := RX7) (F := TX7) (N := 6) (v := .int (gt_9 0 4)) hx hb hts hiX7 hown hK hP 0 4 4 rfl rfl (by decide) rfl rfl rfl dX7_isSeatPiece_106 ?_
        refine lv_iconst (v := 3) hx hb dX7_isSeatPiece_109 (by decide) ?_
        refine lv_icmp_ne (tgt := 117) hx hb dX7_isSeatPiece_110 (by decide) (fun hc => ?_) (fun hc => ?_)
        · replace hf := zIf_f hc hf
          refine lv_iconst (v := 0) hx hb dX7_isSeatPiece_117 (by decide) ?_
          obtain ⟨q1, q2, q3⟩ := zI3 hf
          subst q1
          subst q2
          subst q3
          exact zRetZ hQ hx hb hr hlocks hA0 hK hP hD hS (by decide) rfl dX7_isSeatPiece_118
        · replace hf := zIf_t hc hf
          refine lv_iconst (v := 1) hx hb dX7_isSeatPiece_113 (by decide) ?_
          refine lv_goto (tgt := 118) hx hb dX7_isSeatPiece_114 (by decide) ?_
          obtain ⟨q1, q2, q3⟩ := zI3 hf
          subst q1
          subst q2
          subst q3
          exact zRetZ hQ hx hb hr hlocks hA0 hK hP hD hS (by decide) rfl dX7_isSeatPiece_118
      have hE38_76 : ∀ (gt_10 : zM) , ex = (.inr gt_10) → ∀ (H : Heap) (locs : List Loc) (ls : Array Slot), va_P D vwCl (wX7 T hgt gt_10 ++ wX8 T hgw gw) H → va_D A (wX7 T hgt gt_10 ++ wX8 T hgw gw) → va_S A s.heap H locs → lv_has ls 4 [] → W p l e rX7_isSeatPiece s m args below meth c H locs 0 0 Q (F0 m 76 ls []) := by
        intro gt_10 hex H locs ls hP hD hS hl
        have hf := zSmR hex hf
        have hf := zEx1 rfl hf
        refine lv_iconst (v := 0) hx hb dX7_isSeatPiece_76 (by decide) ?_
        obtain ⟨q1, q2, q3⟩ := zI3 hf
        subst q1
        subst q2
        subst q3
        exact zRetZ hQ hx hb hr hlocks hA0 hK hP hD hS (by decide) rfl dX7_isSeatPiece_77
      refine zLpS3 (body := (fX7_isSeatPiece_L38 gw)) (b := ex) (fun (v5 : Int32) (v6 : Int32) (gt_7 : zM) => ∀ (H : Heap) (locs : List Loc) (ls : Array Slot), va_P D vwCl (wX7 T hgt gt_7 ++ wX8 T hgw gw) H → va_D A (wX7 T hgt gt_7 ++ wX8 T hgw gw) → va_S A s.heap H locs → lv_has ls 4 [(0, .ref (hgt 0)), (1, .ref (hgw 0)), (2, .int v5), (3, .int v6)] → W p l e rX7_isSeatPiece s m args below meth c H locs 0 0 Q (F0 m 38 ls [])) ?_ zFU v3 0 gt_4 hlp H locs ls hP hD hS (lv_sub hl [2, 3, 1, 0] rfl)
      intro v5 v6 gt_7 z hf hzz H locs ls hP hD hS hl
      unfold fX7_isSeatPiece_L38 at hf
      replace hf := zUk3 hf
      refine lv_iload_n hx hb dX7_isSeatPiece_38 rfl (lv_at hl 3 rfl) ?_
      refine lv_sipush (v := 200) hx hb dX7_isSeatPiece_39 (by decide) ?_
      refine lv_icmp_ge (tgt := 97) hx hb dX7_isSeatPiece_42 (by decide) (fun hc => ?_) (fun hc => ?_)
      · replace hf := zIf_t hc hf
        cases hf
        exact hE38_97 v5 gt_7 hzz.symm H locs ls hP hD hS (lv_sub hl [0, 1, 2] rfl)
      · replace hf := zIf_f hc hf
        refine lv_aload_n hx hb dX7_isSeatPiece_45 rfl (lv_at hl 0 rfl) ?_
        refine zGet (ci := 7) (C := RX7) (F := TX7) (N := 6) (v := .int (gt_7 0 4)) hx hb hts hiX7 hown hK hP 0 4 4 rfl rfl (by decide) rfl rfl rfl dX7_isSeatPiece_46 ?_
        refine lv_iconst (v := 3) hx hb dX7_isSeatPiece_49 (by decide) ?_
        refine lv_icmp_eq (tgt := 97) hx hb dX7_isSeatPiece_50 (by decide) (fun hc => ?_) (fun hc => ?_)
        · replace hf := zIf_t hc hf
          cases hf
          exact hE38_97 v5 gt_7 hzz.symm H locs ls hP hD hS (lv_sub hl [0, 1, 2] rfl)
        · replace hf := zIf_f hc hf
          refine lv_aload_n hx hb dX7_isSeatPiece_53 rfl (lv_at hl 0 rfl) ?_
          refine va_ldcS hx hb hown (hX.2.2.2.2.2 8 (117, "and") rfl) dX7_isSeatPiece_54 ?_
          obtain ⟨v11, hc56, hf⟩ := zB1_ok hf
          refine zCallVJI (wr := wX8 T hgw gw) (ws' := wX7 T hgt gt_7 ++ wX8 T hgw gw) [.ref (X.2.1 8)] ⟨hx, hb, hml, hown, hts⟩ (pX7_isWord l D T X hgt H.size gt_7 8 v11 hc56) (cwV 1 hts gX7_isSeatPiece_X7_isWord rfl rfl rfl (by decide +kernel) ⟨Nat.le_of_ble_eq_true rfl, Nat.le_of_ble_eq_true rfl⟩) hK hP hD hS hA hX [0, 1] [2, 3, 4, 5, 6, 7, 8, 9, 10, 11, 12] [11, 12, 0, 1, 2, 3, 4, 5, 6, 7, 8, 9, 10] rfl rfl rfl rfl 0 rfl rfl rfl hl.1 rfl (Nat.le_of_ble_eq_true rfl) dX7_isSeatPiece_56 ⟨Nat.zero_le _, Nat.zero_le _⟩ (fun H locs hP hD hS => ?_)
          refine lv_if_eq (tgt := 76) hx hb dX7_isSeatPiece_59 (by decide) (fun hc => ?_) (fun hc => ?_)
          · replace hf := zIf_t hc hf
            cases hf
            exact hE38_76 gt_7 hzz.symm H locs ls hP hD hS (lv_sub hl [] rfl)
          · replace hf := zIf_f hc hf
            refine lv_aload_n hx hb dX7_isSeatPiece_62 rfl (lv_at hl 0 rfl) ?_
            refine lv_iconst (v := 0) hx hb dX7_isSeatPiece_63 (by decide) ?_
            refine lv_aload_n hx hb dX7_isSeatPiece_64 rfl (lv_at hl 1 rfl) ?_
            refine zGet (ci := 8) (C := RX8) (F := TX8) (N := 14) (v := .int (gw 0 0)) hx hb hts hiX8 hown hK hP 2 0 2 rfl rfl (by decide) rfl rfl rfl dX7_isSeatPiece_65 ?_
            refine lv_iconst (v := 1) hx hb dX7_isSeatPiece_68 (by decide) ?_
            refine lv_isub hx hb dX7_isSeatPiece_69 ?_
            obtain ⟨v12, gt_13, hc70, hf⟩ := zB2_ok hf
            refine zCallVJI (wr := wX8 T hgw gw) (ws' := wX7 T hgt gt_13 ++ wX8 T hgw gw) [.int 0, .int ((gw 0 0) - 1)] ⟨hx, hb, hml, hown, hts⟩ (pX7_stepNumber l D T X hgt H.size gt_7 0 ((gw 0 0) - 1) v12 gt_13 hc70) (cwV 2 hts gX7_isSeatPiece_X7_stepNumber rfl rfl rfl (by decide +kernel) ⟨Nat.le_of_ble_eq_true rfl, Nat.le_of_ble_eq_true rfl⟩) hK hP hD hS hA hX [0, 1] [2, 3, 4, 5, 6, 7, 8, 9, 10, 11, 12] [11, 12, 0, 1, 2, 3, 4, 5, 6, 7, 8, 9, 10] rfl rfl rfl rfl 0 rfl rfl rfl hl.1 rfl (Nat.le_of_ble_eq_true rfl) dX7_isSeatPiece_70 ⟨Nat.zero_le _, Nat.zero_le _⟩ (fun H locs hP hD hS => ?_)
            refine lv_if_ne (tgt := 78) hx hb dX7_isSeatPiece_73 (by decide) (fun hc => ?_) (fun hc => ?_)
            · replace hf := zIf_f hc hf
              refine lv_iload_n hx hb dX7_isSeatPiece_78 rfl (lv_at hl 2 rfl) ?_
              refine lv_iconst (v := 1) hx hb dX7_isSeatPiece_79 (by decide) ?_
              refine lv_aload_n hx hb dX7_isSeatPiece_80 rfl (lv_at hl 0 rfl) ?_
              refine zGet (ci := 7) (C := RX7) (F := TX7) (N := 6) (v := .int (gt_13 0 5)) hx hb hts hiX7 hown hK hP 0 5 3 rfl rfl (by decide) rfl rfl rfl dX7_isSeatPiece_81 ?_
              refine lv_ishl hx hb dX7_isSeatPiece_84 ?_
              refine lv_ior hx hb dX7_isSeatPiece_85 ?_
              refine lv_topi (fun v14 ev14 => ?_)
              replace hf := zLt_at ev14 hf
              refine lv_istore_n (lv' := [(2, .int v14), (0, .ref (hgt 0)), (1, .ref (hgw 0)), (3, .int v6)]) hx hb dX7_isSeatPiece_86 rfl hl (by decide) rfl (fun ls hl => ?_)
              refine lv_aload_n hx hb dX7_isSeatPiece_87 rfl (lv_at hl 1 rfl) ?_
              obtain ⟨gt_15, hc88, hf⟩ := zB1_ok hf
              refine zCallVJV (wr := wX8 T hgw gw) (ws' := wX7 T hgt gt_15 ++ wX8 T hgw gw) [] ⟨hx, hb, hml, hown, hts⟩ (pX7_step l D T X hgt H.size gt_13 gt_15 hc88) (cwV 0 hts gX7_isSeatPiece_X7_step rfl rfl rfl (by decide +kernel) ⟨Nat.le_of_ble_eq_true rfl, Nat.le_of_ble_eq_true rfl⟩) hK hP hD hS hA hX [0, 1] [2, 3, 4, 5, 6, 7, 8, 9, 10, 11, 12] [11, 12, 0, 1, 2, 3, 4, 5, 6, 7, 8, 9, 10] rfl rfl rfl rfl 0 rfl rfl rfl hl.1 rfl (Nat.le_of_ble_eq_true rfl) dX7_isSeatPiece_88 ⟨Nat.zero_le _, Nat.zero_le _⟩ (fun H locs hP hD hS => ?_)
              obtain ⟨v16, ev16⟩ : ∃ y : Int32, y = v6 + 1 := ⟨_, rfl⟩
              replace hf := zLt_at ev16 hf
              refine lv_iinc (v := v16) (lv' := [(3, .int v16), (2, .int v14), (0, .ref (hgt 0)), (1, .ref (hgw 0))]) hx hb dX7_isSeatPiece_91 hl (k := 3) rfl (by rw [ev16]; rfl) (by decide) rfl (fun ls hl => ?_)
              refine lv_goto (tgt := 38) hx hb dX7_isSeatPiece_94 (by decide) ?_
              cases hf
              exact hzz H locs ls hP hD hS (lv_sub hl [2, 3, 1, 0] rfl)
            · replace hf := zIf_t hc hf
              cases hf
              exact hE38_76 gt_13 hzz.symm H locs ls hP hD hS (lv_sub hl [] rfl)
    · replace hf := zIf_t hc hf
      refine lv_iconst (v := 0) hx hb dX7_isSeatPiece_23 (by decide) ?_
      obtain ⟨q1, q2, q3⟩ := zI3 hf
      subst q1
      subst q2
      subst q3
      exact zRetZ hQ hx hb hr hlocks hA0 hK hP hD hS (by decide) rfl dX7_isSeatPiece_24
set_option maxHeartbeats 4000000 in
set_option maxRecDepth 100000 in
theorem pX7_isLatePiece (l : Launch) (D : va_G) (T : Nat → ClassId) (X : zFP) (hgt : Nat → Nat) (hgw : Nat → Nat) (sz : Nat) (gt : zM) (gw : zM) (r : Int32) (ngt : zM) (ngw : zM) (hf : fX7_isLatePiece gt gw = some (r, ngt, ngw)) : Met l yX7_isLatePiece wsX7_isLatePiece rX7_isLatePiece (zPre D T X [.ref (hgt 0), .ref (hgw 0)] (wX7 T hgt gt ++ wX8 T hgw gw) sz) (zQi D T r (wX7 T hgt ngt ++ wX8 T hgw ngw) (wX7 T hgt gt ++ wX8 T hgw gw) sz) 0 0 (va_A (wX7 T hgt gt ++ wX8 T hgw gw) sz) := by
  unfold fX7_isLatePiece at hf
  refine zStart [(0, .ref (hgt 0)), (1, .ref (hgw 0))] (by decide) rfl (Nat.le_of_ble_eq_true rfl) rfl ?_
  intro p e s m args below meth c A Q ls hx hb hr hml hown hlocks hts hsz hA0 hQ hA hK hX hP hD hS hl
  replace hown : s.vm.findClass RX7 = some m.cls := hown
  have hH := hsz
  have hiX7 : ∀ w ∈ u_ws RX7 TX7 6, w ∈ wsX7_isLatePiece := fun w h => List.mem_cons_of_mem _ (List.mem_append_right _ (h))
  have hiX8 : ∀ w ∈ u_ws RX8 TX8 14, w ∈ wsX7_isLatePiece := fun w h => List.mem_cons_of_mem _ (List.mem_append_left _ (List.mem_append_right _ (h)))
  obtain ⟨H, hHe⟩ : ∃ H : Heap, H = s.heap := ⟨_, rfl⟩
  obtain ⟨locs, hLe⟩ : ∃ L : List Loc, L = [] := ⟨_, rfl⟩
  replace hP : va_P D vwCl (wX7 T hgt gt ++ wX8 T hgw gw) H := by rw [hHe]; exact hP
  replace hS : va_S A s.heap H locs := by rw [hHe, hLe]; exact hS
  suffices hgo : W p l e rX7_isLatePiece s m args below meth c H locs 0 0 Q (F0 m 0 ls []) by rw [hHe, hLe] at hgo; exact hgo
  clear hHe hLe
  refine lv_aload_n hx hb dX7_isLatePiece_0 rfl (lv_at hl 1 rfl) ?_
  refine zGet (ci := 8) (C := RX8) (F := TX8) (N := 14) (v := .int (gw 0 9)) hx hb hts hiX8 hown hK hP 2 9 1 rfl rfl (by decide) rfl rfl rfl dX7_isLatePiece_1 ?_
  refine lv_bipush (v := 8) hx hb dX7_isLatePiece_4 (by decide) ?_
  refine lv_icmp_ge (tgt := 23) hx hb dX7_isLatePiece_6 (by decide) (fun hc => ?_) (fun hc => ?_)
  · replace hf := zIf_t hc hf
    refine lv_iconst (v := 0) hx hb dX7_isLatePiece_23 (by decide) ?_
    obtain ⟨q1, q2, q3⟩ := zI3 hf
    subst q1
    subst q2
    subst q3
    exact zRetZ hQ hx hb hr hlocks hA0 hK hP hD hS (by decide) rfl dX7_isLatePiece_24
  · replace hf := zIf_f hc hf
    refine lv_aload_n hx hb dX7_isLatePiece_9 rfl (lv_at hl 0 rfl) ?_
    refine lv_iconst (v := 0) hx hb dX7_isLatePiece_10 (by decide) ?_
    refine lv_aload_n hx hb dX7_isLatePiece_11 rfl (lv_at hl 1 rfl) ?_
    refine zGet (ci := 8) (C := RX8) (F := TX8) (N := 14) (v := .int (gw 0 3)) hx hb hts hiX8 hown hK hP 2 3 2 rfl rfl (by decide) rfl rfl rfl dX7_isLatePiece_12 ?_
    refine lv_iconst (v := 1) hx hb dX7_isLatePiece_15 (by decide) ?_
    refine lv_isub hx hb dX7_isLatePiece_16 ?_
    obtain ⟨v1, gt_2, hc17, hf⟩ := zB2_ok hf
    refine zCallVJI (wr := wX8 T hgw gw) (ws' := wX7 T hgt gt_2 ++ wX8 T hgw gw) [.int 0, .int ((gw 0 3) - 1)] ⟨hx, hb, hml, hown, hts⟩ (pX7_stepNumber l D T X hgt H.size gt 0 ((gw 0 3) - 1) v1 gt_2 hc17) (cwV 2 hts gX7_isLatePiece_X7_stepNumber rfl rfl rfl (by decide +kernel) ⟨Nat.le_of_ble_eq_true rfl, Nat.le_of_ble_eq_true rfl⟩) hK hP hD hS hA hX [0, 1] [2, 3, 4, 5, 6, 7, 8, 9, 10, 11, 12] [11, 12, 0, 1, 2, 3, 4, 5, 6, 7, 8, 9, 10] rfl rfl rfl rfl 0 rfl rfl rfl hl.1 rfl (Nat.le_of_ble_eq_true rfl) dX7_isLatePiece_17 ⟨Nat.zero_le _, Nat.zero_le _⟩ (fun H locs hP hD hS => ?_)
    refine lv_if_ne (tgt := 25) hx hb dX7_isLatePiece_20 (by decide) (fun hc => ?_) (fun hc => ?_)
    · replace hf := zIf_f hc hf
      refine lv_aload_n hx hb dX7_isLatePiece_25 rfl (lv_at hl 0 rfl) ?_
      refine zGet (ci := 7) (C := RX7) (F := TX7) (N := 6) (v := .int (gt_2 0 5)) hx hb hts hiX7 hown hK hP 0 5 3 rfl rfl (by decide) rfl rfl rfl dX7_isLatePiece_26 ?_
      refine lv_topi (fun v3 ev3 => ?_)
      replace hf := zLt_at ev3 hf
      refine lv_istore_n (lv' := [(2, .int v3), (0, .ref (hgt 0)), (1, .ref (hgw 0))]) hx hb dX7_isLatePiece_29 rfl hl (by decide) rfl (fun ls hl => ?_)
      refine lv_aload_n hx hb dX7_isLatePiece_30 rfl (lv_at hl 1 rfl) ?_
      refine lv_iconst (v := 0) hx hb dX7_isLatePiece_31 (by decide) ?_
      refine lv_bipush (v := 99) hx hb dX7_isLatePiece_32 (by decide) ?_
      obtain ⟨v4, gt_5, hc34, hf⟩ := zB2_ok hf
      refine zCallVJI (wr := wX8 T hgw gw) (ws' := wX7 T hgt gt_5 ++ wX8 T hgw gw) [.int 0, .int 99] ⟨hx, hb, hml, hown, hts⟩ (pX7_stepNumber l D T X hgt H.size gt_2 0 99 v4 gt_5 hc34) (cwV 2 hts gX7_isLatePiece_X7_stepNumber rfl rfl rfl (by decide +kernel) ⟨Nat.le_of_ble_eq_true rfl, Nat.le_of_ble_eq_true rfl⟩) hK hP hD hS hA hX [0, 1] [2, 3, 4, 5, 6, 7, 8, 9, 10, 11, 12] [11, 12, 0, 1, 2, 3, 4, 5, 6, 7, 8, 9, 10] rfl rfl rfl rfl 0 rfl rfl rfl hl.1 rfl (Nat.le_of_ble_eq_true rfl) dX7_isLatePiece_34 ⟨Nat.zero_le _, Nat.zero_le _⟩ (fun H locs hP hD hS => ?_)
      refine lv_if_ne (tgt := 42) hx hb dX7_isLatePiece_37 (by decide) (fun hc => ?_) (fun hc => ?_)
      · replace hf := zIf_f hc hf
        refine lv_aload_n hx hb dX7_isLatePiece_42 rfl (lv_at hl 2 rfl) ?_
        refine lv_iconst (v := 4) hx hb dX7_isLatePiece_43 (by decide) ?_
        refine lv_iload_n hx hb dX7_isLatePiece_44 rfl (lv_at hl 0 rfl) ?_
        refine lv_aload_n hx hb dX7_isLatePiece_45 rfl (lv_at hl 1 rfl) ?_
        refine zGet (ci := 7) (C := RX7) (F := TX7) (N := 6) (v := .int (gt_5 0 5)) hx hb hts hiX7 hown hK hP 0 5 3 rfl rfl (by decide) rfl rfl rfl dX7_isLatePiece_46 ?_
        obtain ⟨v6, gw_7, hc49, hf⟩ := zB2_ok hf
        refine zCallVJI (wr := wX7 T hgt gt_5) (ws' := wX7 T hgt gt_5 ++ wX8 T hgw gw_7) [.int 4, .int v3, .int (gt_5 0 5)] ⟨hx, hb, hml, hown, hts⟩ (pX8_addCut l D T X hgw H.size gw 4 v3 (gt_5 0 5) v6 gw_7 hc49) (cwV 3 hts gX7_isLatePiece_X8_addCut rfl rfl rfl (by decide +kernel) ⟨Nat.le_of_ble_eq_true rfl, Nat.le_of_ble_eq_true rfl⟩) hK hP hD hS hA hX [2, 3, 4, 5, 6, 7, 8, 9, 10, 11, 12] [0, 1] [0, 1, 2, 3, 4, 5, 6, 7, 8, 9, 10, 11, 12] rfl rfl rfl rfl 0 rfl rfl rfl hl.1 rfl (Nat.le_of_ble_eq_true rfl) dX7_isLatePiece_49 ⟨Nat.zero_le _, Nat.zero_le _⟩ (fun H locs hP hD hS => ?_)
        refine lv_pop hx hb dX7_isLatePiece_52 rfl ?_
        refine lv_aload_n hx hb dX7_isLatePiece_53 rfl (lv_at hl 1 rfl) ?_
        obtain ⟨v8, gt_9, hc54, hf⟩ := zB2_ok hf
        refine zCallVJI (wr := wX8 T hgw gw_7) (ws' := wX7 T hgt gt_9 ++ wX8 T hgw gw_7) [] ⟨hx, hb, hml, hown, hts⟩ (pX7_stepStop l D T X hgt H.size gt_5 v8 gt_9 hc54) (cwV 0 hts gX7_isLatePiece_X7_stepStop rfl rfl rfl (by decide +kernel) ⟨Nat.le_of_ble_eq_true rfl, Nat.le_of_ble_eq_true rfl⟩) hK hP hD hS hA hX [0, 1] [2, 3, 4, 5, 6, 7, 8, 9, 10, 11, 12] [11, 12, 0, 1, 2, 3, 4, 5, 6, 7, 8, 9, 10] rfl rfl rfl rfl 0 rfl rfl rfl hl.1 rfl (Nat.le_of_ble_eq_true rfl) dX7_isLatePiece_54 ⟨Nat.zero_le _, Nat.zero_le _⟩ (fun H locs hP hD hS => ?_)
        obtain ⟨hg, hf⟩ := zGd_ok hf
        obtain ⟨q1, q2, q3⟩ := zI3 hf
        subst q1
        subst q2
        subst q3
        exact zRetZ hQ hx hb hr hlocks hA0 hK hP hD hS hg rfl dX7_isLatePiece_57
      · replace hf := zIf_t hc hf
        refine lv_iconst (v := 0) hx hb dX7_isLatePiece_40 (by decide) ?_
        obtain ⟨q1, q2, q3⟩ := zI3 hf
        subst q1
        subst q2
        subst q3
        exact zRetZ hQ hx hb hr hlocks hA0 hK hP hD hS (by decide) rfl dX7_isLatePiece_41
    · replace hf := zIf_t hc hf
      refine lv_iconst (v := 0) hx hb dX7_isLatePiece_23 (by decide) ?_
      obtain ⟨q1, q2, q3⟩ := zI3 hf
      subst q1
      subst q2
      subst q3
      exact zRetZ hQ hx hb hr hlocks hA0 hK hP hD hS (by decide) rfl dX7_isLatePiece_24
set_option maxHeartbeats 4000000 in
set_option maxRecDepth 100000 in
theorem pX7_isReadInto (l : Launch) (D : va_G) (T : Nat → ClassId) (X : zFP) (hgt : Nat → Nat) (hgw : Nat → Nat) (sz : Nat) (gt : zM) (gw : zM) (r : Int32) (ngt : zM) (ngw : zM) (hf : fX7_isReadInto gt gw = some (r, ngt, ngw)) : Met l yX7_isReadInto wsX7_isReadInto rX7_isReadInto (zPre D T X [.ref (hgt 0), .ref (hgw 0)] (wX7 T hgt gt ++ wX8 T hgw gw) sz) (zQi D T r (wX7 T hgt ngt ++ wX8 T hgw ngw) (wX7 T hgt gt ++ wX8 T hgw gw) sz) 0 0 (va_A (wX7 T hgt gt ++ wX8 T hgw gw) sz) := by
  unfold fX7_isReadInto at hf
  refine zStart [(0, .ref (hgt 0)), (1, .ref (hgw 0))] (by decide) rfl (Nat.le_of_ble_eq_true rfl) rfl ?_
  intro p e s m args below meth c A Q ls hx hb hr hml hown hlocks hts hsz hA0 hQ hA hK hX hP hD hS hl
  replace hown : s.vm.findClass RX7 = some m.cls := hown
  have hH := hsz
  have hiX7 : ∀ w ∈ u_ws RX7 TX7 6, w ∈ wsX7_isReadInto := fun w h => List.mem_cons_of_mem _ (List.mem_append_left _ (List.mem_append_right _ (h)))
  obtain ⟨H, hHe⟩ : ∃ H : Heap, H = s.heap := ⟨_, rfl⟩
  obtain ⟨locs, hLe⟩ : ∃ L : List Loc, L = [] := ⟨_, rfl⟩
  replace hP : va_P D vwCl (wX7 T hgt gt ++ wX8 T hgw gw) H := by rw [hHe]; exact hP
  replace hS : va_S A s.heap H locs := by rw [hHe, hLe]; exact hS
  suffices hgo : W p l e rX7_isReadInto s m args below meth c H locs 0 0 Q (F0 m 0 ls []) by rw [hHe, hLe] at hgo; exact hgo
  clear hHe hLe
  refine lv_aload_n hx hb dX7_isReadInto_0 rfl (lv_at hl 0 rfl) ?_
  refine lv_iconst (v := 0) hx hb dX7_isReadInto_1 (by decide) ?_
  refine zPut (ci := 7) (C := RX7) (F := TX7) (N := 6) (x := 0) (w := gt) hx hb hts hiX7 tyX7 tyX7_ok nmX7 hown hK hP hD hS (fun g => wX7 T hgt g ++ wX8 T hgw gw) 0 3 1 rfl rfl (by decide) rfl rfl rfl ⟨rfl, rfl⟩ (Nat.le_of_ble_eq_true rfl) rfl dX7_isReadInto_2 (fun gt_1 egt_1 H locs hP hD hS => ?_)
  replace hP : va_P D vwCl (wX7 T hgt gt_1 ++ wX8 T hgw gw) H := hP
  replace hD : va_D A (wX7 T hgt gt_1 ++ wX8 T hgw gw) := hD
  replace hf := zLt_at egt_1 hf
  refine lv_aload_n hx hb dX7_isReadInto_5 rfl (lv_at hl 0 rfl) ?_
  obtain ⟨gt_2, hc6, hf⟩ := zB1_ok hf
  refine zCallVJV (wr := wX8 T hgw gw) (ws' := wX7 T hgt gt_2 ++ wX8 T hgw gw) [] ⟨hx, hb, hml, hown, hts⟩ (pX7_step l D T X hgt H.size gt_1 gt_2 hc6) (cwV 0 hts gX7_isReadInto_X7_step rfl rfl rfl (by decide +kernel) ⟨Nat.le_of_ble_eq_true rfl, Nat.le_of_ble_eq_true rfl⟩) hK hP hD hS hA hX [0, 1] [2, 3, 4, 5, 6, 7, 8, 9, 10, 11, 12] [11, 12, 0, 1, 2, 3, 4, 5, 6, 7, 8, 9, 10] rfl rfl rfl rfl 0 rfl rfl rfl hl.1 rfl (Nat.le_of_ble_eq_true rfl) dX7_isReadInto_6 ⟨Nat.zero_le _, Nat.zero_le _⟩ (fun H locs hP hD hS => ?_)
  refine lv_aload_n hx hb dX7_isReadInto_9 rfl (lv_at hl 0 rfl) ?_
  refine va_ldcS hx hb hown (hX.2.2.2.2.2 0 (34, "people") rfl) dX7_isReadInto_10 ?_
  obtain ⟨v3, hc12, hf⟩ := zB1_ok hf
  refine zCallVJI (wr := wX8 T hgw gw) (ws' := wX7 T hgt gt_2 ++ wX8 T hgw gw) [.ref (X.2.1 0)] ⟨hx, hb, hml, hown, hts⟩ (pX7_isWord l D T X hgt H.size gt_2 0 v3 hc12) (cwV 1 hts gX7_isReadInto_X7_isWord rfl rfl rfl (by decide +kernel) ⟨Nat.le_of_ble_eq_true rfl, Nat.le_of_ble_eq_true rfl⟩) hK hP hD hS hA hX [0, 1] [2, 3, 4, 5, 6, 7, 8, 9, 10, 11, 12] [11, 12, 0, 1, 2, 3, 4, 5, 6, 7, 8, 9, 10] rfl rfl rfl rfl 0 rfl rfl rfl hl.1 rfl (Nat.le_of_ble_eq_true rfl) dX7_isReadInto_12 ⟨Nat.zero_le _, Nat.zero_le _⟩ (fun H locs hP hD hS => ?_)
  refine lv_if_eq (tgt := 28) hx hb dX7_isReadInto_15 (by decide) (fun hc => ?_) (fun hc => ?_)
  · replace hf := zIf_t hc hf
    refine lv_iconst (v := 0) hx hb dX7_isReadInto_28 (by decide) ?_
    obtain ⟨q1, q2, q3⟩ := zI3 hf
    subst q1
    subst q2
    subst q3
    exact zRetZ hQ hx hb hr hlocks hA0 hK hP hD hS (by decide) rfl dX7_isReadInto_29
  · replace hf := zIf_f hc hf
    refine lv_aload_n hx hb dX7_isReadInto_18 rfl (lv_at hl 0 rfl) ?_
    refine lv_iconst (v := 1) hx hb dX7_isReadInto_19 (by decide) ?_
    refine lv_bipush (v := 10) hx hb dX7_isReadInto_20 (by decide) ?_
    obtain ⟨v4, gt_5, hc22, hf⟩ := zB2_ok hf
    refine zCallVJI (wr := wX8 T hgw gw) (ws' := wX7 T hgt gt_5 ++ wX8 T hgw gw) [.int 1, .int 10] ⟨hx, hb, hml, hown, hts⟩ (pX7_stepNumber l D T X hgt H.size gt_2 1 10 v4 gt_5 hc22) (cwV 2 hts gX7_isReadInto_X7_stepNumber rfl rfl rfl (by decide +kernel) ⟨Nat.le_of_ble_eq_true rfl, Nat.le_of_ble_eq_true rfl⟩) hK hP hD hS hA hX [0, 1] [2, 3, 4, 5, 6, 7, 8, 9, 10, 11, 12] [11, 12, 0, 1, 2, 3, 4, 5, 6, 7, 8, 9, 10] rfl rfl rfl rfl 0 rfl rfl rfl hl.1 rfl (Nat.le_of_ble_eq_true rfl) dX7_isReadInto_22 ⟨Nat.zero_le _, Nat.zero_le _⟩ (fun H locs hP hD hS => ?_)
    refine lv_if_ne (tgt := 30) hx hb dX7_isReadInto_25 (by decide) (fun hc => ?_) (fun hc => ?_)
    · replace hf := zIf_f hc hf
      refine lv_aload_n hx hb dX7_isReadInto_30 rfl (lv_at hl 1 rfl) ?_
      refine lv_aload_n hx hb dX7_isReadInto_31 rfl (lv_at hl 0 rfl) ?_
      refine zGet (ci := 7) (C := RX7) (F := TX7) (N := 6) (v := .int (gt_5 0 5)) hx hb hts hiX7 hown hK hP 0 5 2 rfl rfl (by decide) rfl rfl rfl dX7_isReadInto_32 ?_
      obtain ⟨gw_6, hc35, hf⟩ := zB1_ok hf
      refine zCallVJV (wr := wX7 T hgt gt_5) (ws' := wX7 T hgt gt_5 ++ wX8 T hgw gw_6) [.int (gt_5 0 5)] ⟨hx, hb, hml, hown, hts⟩ (pX8_startWith l D T X hgw H.size gw (gt_5 0 5) gw_6 hc35) (cwV 1 hts gX7_isReadInto_X8_startWith rfl rfl rfl (by decide +kernel) ⟨Nat.le_of_ble_eq_true rfl, Nat.le_of_ble_eq_true rfl⟩) hK hP hD hS hA hX [2, 3, 4, 5, 6, 7, 8, 9, 10, 11, 12] [0, 1] [0, 1, 2, 3, 4, 5, 6, 7, 8, 9, 10, 11, 12] rfl rfl rfl rfl 0 rfl rfl rfl hl.1 rfl (Nat.le_of_ble_eq_true rfl) dX7_isReadInto_35 ⟨Nat.zero_le _, Nat.zero_le _⟩ (fun H locs hP hD hS => ?_)
      refine lv_aload_n hx hb dX7_isReadInto_38 rfl (lv_at hl 0 rfl) ?_
      obtain ⟨v7, gt_8, hc39, hf⟩ := zB2_ok hf
      refine zCallVJI (wr := wX8 T hgw gw_6) (ws' := wX7 T hgt gt_8 ++ wX8 T hgw gw_6) [] ⟨hx, hb, hml, hown, hts⟩ (pX7_stepStop l D T X hgt H.size gt_5 v7 gt_8 hc39) (cwV 0 hts gX7_isReadInto_X7_stepStop rfl rfl rfl (by decide +kernel) ⟨Nat.le_of_ble_eq_true rfl, Nat.le_of_ble_eq_true rfl⟩) hK hP hD hS hA hX [0, 1] [2, 3, 4, 5, 6, 7, 8, 9, 10, 11, 12] [11, 12, 0, 1, 2, 3, 4, 5, 6, 7, 8, 9, 10] rfl rfl rfl rfl 0 rfl rfl rfl hl.1 rfl (Nat.le_of_ble_eq_true rfl) dX7_isReadInto_39 ⟨Nat.zero_le _, Nat.zero_le _⟩ (fun H locs hP hD hS => ?_)
      refine lv_if_ne (tgt := 47) hx hb dX7_isReadInto_42 (by decide) (fun hc => ?_) (fun hc => ?_)
      · replace hf := zIf_f hc hf
        refine lv_aload_n hx hb dX7_isReadInto_47 rfl (lv_at hl 0 rfl) ?_
        obtain ⟨gt_9, hc48, hf⟩ := zB1_ok hf
        refine zCallVJV (wr := wX8 T hgw gw_6) (ws' := wX7 T hgt gt_9 ++ wX8 T hgw gw_6) [] ⟨hx, hb, hml, hown, hts⟩ (pX7_step l D T X hgt H.size gt_8 gt_9 hc48) (cwV 0 hts gX7_isReadInto_X7_step rfl rfl rfl (by decide +kernel) ⟨Nat.le_of_ble_eq_true rfl, Nat.le_of_ble_eq_true rfl⟩) hK hP hD hS hA hX [0, 1] [2, 3, 4, 5, 6, 7, 8, 9, 10, 11, 12] [11, 12, 0, 1, 2, 3, 4, 5, 6, 7, 8, 9, 10] rfl rfl rfl rfl 0 rfl rfl rfl hl.1 rfl (Nat.le_of_ble_eq_true rfl) dX7_isReadInto_48 ⟨Nat.zero_le _, Nat.zero_le _⟩ (fun H locs hP hD hS => ?_)
        refine lv_iconst (v := 0) hx hb dX7_isReadInto_51 (by decide) ?_
        refine lv_istore_n (lv' := [(2, .int 0), (0, .ref (hgt 0)), (1, .ref (hgw 0))]) hx hb dX7_isReadInto_52 rfl hl (by decide) rfl (fun ls hl => ?_)
        obtain ⟨ex, hlp, hf⟩ := zB1_ok hf
        have hE53_157 : ∀ (gt_13 : zM) (gw_14 : zM) , ex = (.inl (gt_13, gw_14)) → ∀ (H : Heap) (locs : List Loc) (ls : Array Slot), va_P D vwCl (wX7 T hgt gt_13 ++ wX8 T hgw gw_14) H → va_D A (wX7 T hgt gt_13 ++ wX8 T hgw gw_14) → va_S A s.heap H locs → lv_has ls 4 [(0, .ref (hgt 0))] → W p l e rX7_isReadInto s m args below meth c H locs 0 0 Q (F0 m 157 ls []) := by
          intro gt_13 gw_14 hex H locs ls hP hD hS hl
          have hf := zExL2 hex hf
          refine lv_aload_n hx hb dX7_isReadInto_157 rfl (lv_at hl 0 rfl) ?_
          refine zGet (ci := 7) (C := RX7) (F := TX7) (N := 6) (v := .int (gt_13 0 4)) hx hb hts hiX7 hown hK hP 0 4 3 rfl rfl (by decide) rfl rfl rfl dX7_isReadInto_158 ?_
          refine lv_if_ne (tgt := 168) hx hb dX7_isReadInto_161 (by decide) (fun hc => ?_) (fun hc => ?_)
          · replace hf := zIf_f hc hf
            refine lv_iconst (v := 0) hx hb dX7_isReadInto_168 (by decide) ?_
            obtain ⟨q1, q2, q3⟩ := zI3 hf
            subst q1
            subst q2
            subst q3
            exact zRetZ hQ hx hb hr hlocks hA0 hK hP hD hS (by decide) rfl dX7_isReadInto_169
          · replace hf := zIf_t hc hf
            refine lv_iconst (v := 1) hx hb dX7_isReadInto_164 (by decide) ?_
            refine lv_goto (tgt := 169) hx hb dX7_isReadInto_165 (by decide) ?_
            obtain ⟨q1, q2, q3⟩ := zI3 hf
            subst q1
            subst q2
            subst q3
            exact zRetZ hQ hx hb hr hlocks hA0 hK hP hD hS (by decide) rfl dX7_isReadInto_169
        have hE53_145 : ∀ (gt_15 : zM) (gw_16 : zM) , ex = (.inr (gt_15, gw_16)) → ∀ (H : Heap) (locs : List Loc) (ls : Array Slot), va_P D vwCl (wX7 T hgt gt_15 ++ wX8 T hgw gw_16) H → va_D A (wX7 T hgt gt_15 ++ wX8 T hgw gw_16) → va_S A s.heap H locs → lv_has ls 4 [] → W p l e rX7_isReadInto s m args below meth c H locs 0 0 Q (F0 m 145 ls []) := by
          intro gt_15 gw_16 hex H locs ls hP hD hS hl
          have hf := zSmR hex hf
          have hf := zEx2 rfl hf
          refine lv_iconst (v := 0) hx hb dX7_isReadInto_145 (by decide) ?_
          obtain ⟨q1, q2, q3⟩ := zI3 hf
          subst q1
          subst q2
          subst q3
          exact zRetZ hQ hx hb hr hlocks hA0 hK hP hD hS (by decide) rfl dX7_isReadInto_146
        refine zLpS3 (body := fX7_isReadInto_L53) (b := ex) (fun (v10 : Int32) (gt_11 : zM) (gw_12 : zM) => ∀ (H : Heap) (locs : List Loc) (ls : Array Slot), va_P D vwCl (wX7 T hgt gt_11 ++ wX8 T hgw gw_12) H → va_D A (wX7 T hgt gt_11 ++ wX8 T hgw gw_12) → va_S A s.heap H locs → lv_has ls 4 [(0, .ref (hgt 0)), (1, .ref (hgw 0)), (2, .int v10)] → W p l e rX7_isReadInto s m args below meth c H locs 0 0 Q (F0 m 53 ls [])) ?_ zFU 0 gt_9 gw_6 hlp H locs ls hP hD hS (lv_sub hl [1, 2, 0] rfl)
        intro v10 gt_11 gw_12 z hf hzz H locs ls hP hD hS hl
        unfold fX7_isReadInto_L53 at hf
        replace hf := zUk3 hf
        refine lv_iload_n hx hb dX7_isReadInto_53 rfl (lv_at hl 2 rfl) ?_
        refine lv_sipush (v := 200) hx hb dX7_isReadInto_54 (by decide) ?_
        refine lv_icmp_ge (tgt := 157) hx hb dX7_isReadInto_57 (by decide) (fun hc => ?_) (fun hc => ?_)
        · replace hf := zIf_t hc hf
          cases hf
          exact hE53_157 gt_11 gw_12 hzz.symm H locs ls hP hD hS (lv_sub hl [0] rfl)
        · replace hf := zIf_f hc hf
          refine lv_aload_n hx hb dX7_isReadInto_60 rfl (lv_at hl 0 rfl) ?_
          refine zGet (ci := 7) (C := RX7) (F := TX7) (N := 6) (v := .int (gt_11 0 4)) hx hb hts hiX7 hown hK hP 0 4 3 rfl rfl (by decide) rfl rfl rfl dX7_isReadInto_61 ?_
          refine lv_if_eq (tgt := 157) hx hb dX7_isReadInto_64 (by decide) (fun hc => ?_) (fun hc => ?_)
          · replace hf := zIf_t hc hf
            cases hf
            exact hE53_157 gt_11 gw_12 hzz.symm H locs ls hP hD hS (lv_sub hl [0] rfl)
          · replace hf := zIf_f hc hf
            refine lv_aload_n hx hb dX7_isReadInto_67 rfl (lv_at hl 0 rfl) ?_
            refine va_ldcS hx hb hown (hX.2.2.2.2.2 1 (54, "tie") rfl) dX7_isReadInto_68 ?_
            obtain ⟨v17, hc70, hf⟩ := zB1_ok hf
            refine zCallVJI (wr := wX8 T hgw gw_12) (ws' := wX7 T hgt gt_11 ++ wX8 T hgw gw_12) [.ref (X.2.1 1)] ⟨hx, hb, hml, hown, hts⟩ (pX7_isWord l D T X hgt H.size gt_11 1 v17 hc70) (cwV 1 hts gX7_isReadInto_X7_isWord rfl rfl rfl (by decide +kernel) ⟨Nat.le_of_ble_eq_true rfl, Nat.le_of_ble_eq_true rfl⟩) hK hP hD hS hA hX [0, 1] [2, 3, 4, 5, 6, 7, 8, 9, 10, 11, 12] [11, 12, 0, 1, 2, 3, 4, 5, 6, 7, 8, 9, 10] rfl rfl rfl rfl 0 rfl rfl rfl hl.1 rfl (Nat.le_of_ble_eq_true rfl) dX7_isReadInto_70 ⟨Nat.zero_le _, Nat.zero_le _⟩ (fun H locs hP hD hS => ?_)
            have hJ140 : ∀ (v18 : Int32) (gt_19 : zM) (gw_20 : zM) (H : Heap) (locs : List Loc) (ls : Array Slot), fX7_isReadInto_L53J140 v10 v18 gt_19 gw_20 = some z → va_P D vwCl (wX7 T hgt gt_19 ++ wX8 T hgw gw_20) H → va_D A (wX7 T hgt gt_19 ++ wX8 T hgw gw_20) → va_S A s.heap H locs → lv_has ls 4 [(0, .ref (hgt 0)), (1, .ref (hgw 0)), (2, .int v10)] → W p l e rX7_isReadInto s m args below meth c H locs 0 0 Q (F0 m 140 ls [.int v18]) := by
              intro v18 gt_19 gw_20 H locs ls hf hP hD hS hl
              unfold fX7_isReadInto_L53J140 at hf
              refine lv_istore_n (lv' := [(3, .int v18), (0, .ref (hgt 0)), (1, .ref (hgw 0)), (2, .int v10)]) hx hb dX7_isReadInto_140 rfl hl (by decide) rfl (fun ls hl => ?_)
              refine lv_iload_n hx hb dX7_isReadInto_141 rfl (lv_at hl 0 rfl) ?_
              refine lv_if_ne (tgt := 147) hx hb dX7_isReadInto_142 (by decide) (fun hc => ?_) (fun hc => ?_)
              · replace hf := zIf_f hc hf
                refine lv_aload_n hx hb dX7_isReadInto_147 rfl (lv_at hl 1 rfl) ?_
                obtain ⟨gt_21, hc148, hf⟩ := zB1_ok hf
                refine zCallVJV (wr := wX8 T hgw gw_20) (ws' := wX7 T hgt gt_21 ++ wX8 T hgw gw_20) [] ⟨hx, hb, hml, hown, hts⟩ (pX7_step l D T X hgt H.size gt_19 gt_21 hc148) (cwV 0 hts gX7_isReadInto_X7_step rfl rfl rfl (by decide +kernel) ⟨Nat.le_of_ble_eq_true rfl, Nat.le_of_ble_eq_true rfl⟩) hK hP hD hS hA hX [0, 1] [2, 3, 4, 5, 6, 7, 8, 9, 10, 11, 12] [11, 12, 0, 1, 2, 3, 4, 5, 6, 7, 8, 9, 10] rfl rfl rfl rfl 0 rfl rfl rfl hl.1 rfl (Nat.le_of_ble_eq_true rfl) dX7_isReadInto_148 ⟨Nat.zero_le _, Nat.zero_le _⟩ (fun H locs hP hD hS => ?_)
                obtain ⟨v22, ev22⟩ : ∃ y : Int32, y = v10 + 1 := ⟨_, rfl⟩
                replace hf := zLt_at ev22 hf
                refine lv_iinc (v := v22) (lv' := [(2, .int v22), (3, .int v18), (0, .ref (hgt 0)), (1, .ref (hgw 0))]) hx hb dX7_isReadInto_151 hl (k := 3) rfl (by rw [ev22]; rfl) (by decide) rfl (fun ls hl => ?_)
                refine lv_goto (tgt := 53) hx hb dX7_isReadInto_154 (by decide) ?_
                cases hf
                exact hzz H locs ls hP hD hS (lv_sub hl [2, 3, 0] rfl)
              · replace hf := zIf_t hc hf
                cases hf
                exact hE53_145 gt_19 gw_20 hzz.symm H locs ls hP hD hS (lv_sub hl [] rfl)
            refine lv_if_eq (tgt := 84) hx hb dX7_isReadInto_73 (by decide) (fun hc => ?_) (fun hc => ?_)
            · replace hf := zIf_t hc hf
              refine lv_aload_n hx hb dX7_isReadInto_84 rfl (lv_at hl 0 rfl) ?_
              refine va_ldcS hx hb hown (hX.2.2.2.2.2 5 (60, "first") rfl) dX7_isReadInto_85 ?_
              obtain ⟨v23, hc87, hf⟩ := zB1_ok hf
              refine zCallVJI (wr := wX8 T hgw gw_12) (ws' := wX7 T hgt gt_11 ++ wX8 T hgw gw_12) [.ref (X.2.1 5)] ⟨hx, hb, hml, hown, hts⟩ (pX7_isWord l D T X hgt H.size gt_11 5 v23 hc87) (cwV 1 hts gX7_isReadInto_X7_isWord rfl rfl rfl (by decide +kernel) ⟨Nat.le_of_ble_eq_true rfl, Nat.le_of_ble_eq_true rfl⟩) hK hP hD hS hA hX [0, 1] [2, 3, 4, 5, 6, 7, 8, 9, 10, 11, 12] [11, 12, 0, 1, 2, 3, 4, 5, 6, 7, 8, 9, 10] rfl rfl rfl rfl 0 rfl rfl rfl hl.1 rfl (Nat.le_of_ble_eq_true rfl) dX7_isReadInto_87 ⟨Nat.zero_le _, Nat.zero_le _⟩ (fun H locs hP hD hS => ?_)
              refine lv_if_eq (tgt := 101) hx hb dX7_isReadInto_90 (by decide) (fun hc => ?_) (fun hc => ?_)
              · replace hf := zIf_t hc hf
                refine lv_aload_n hx hb dX7_isReadInto_101 rfl (lv_at hl 0 rfl) ?_
                refine va_ldcS hx hb hown (hX.2.2.2.2.2 7 (65, "seat") rfl) dX7_isReadInto_102 ?_
                obtain ⟨v24, hc104, hf⟩ := zB1_ok hf
                refine zCallVJI (wr := wX8 T hgw gw_12) (ws' := wX7 T hgt gt_11 ++ wX8 T hgw gw_12) [.ref (X.2.1 7)] ⟨hx, hb, hml, hown, hts⟩ (pX7_isWord l D T X hgt H.size gt_11 7 v24 hc104) (cwV 1 hts gX7_isReadInto_X7_isWord rfl rfl rfl (by decide +kernel) ⟨Nat.le_of_ble_eq_true rfl, Nat.le_of_ble_eq_true rfl⟩) hK hP hD hS hA hX [0, 1] [2, 3, 4, 5, 6, 7, 8, 9, 10, 11, 12] [11, 12, 0, 1, 2, 3, 4, 5, 6, 7, 8, 9, 10] rfl rfl rfl rfl 0 rfl rfl rfl hl.1 rfl (Nat.le_of_ble_eq_true rfl) dX7_isReadInto_104 ⟨Nat.zero_le _, Nat.zero_le _⟩ (fun H locs hP hD hS => ?_)
                refine lv_if_eq (tgt := 118) hx hb dX7_isReadInto_107 (by decide) (fun hc => ?_) (fun hc => ?_)
                · replace hf := zIf_t hc hf
                  refine lv_aload_n hx hb dX7_isReadInto_118 rfl (lv_at hl 0 rfl) ?_
                  refine va_ldcS hx hb hown (hX.2.2.2.2.2 9 (70, "late") rfl) dX7_isReadInto_119 ?_
                  obtain ⟨v25, hc121, hf⟩ := zB1_ok hf
                  refine zCallVJI (wr := wX8 T hgw gw_12) (ws' := wX7 T hgt gt_11 ++ wX8 T hgw gw_12) [.ref (X.2.1 9)] ⟨hx, hb, hml, hown, hts⟩ (pX7_isWord l D T X hgt H.size gt_11 9 v25 hc121) (cwV 1 hts gX7_isReadInto_X7_isWord rfl rfl rfl (by decide +kernel) ⟨Nat.le_of_ble_eq_true rfl, Nat.le_of_ble_eq_true rfl⟩) hK hP hD hS hA hX [0, 1] [2, 3, 4, 5, 6, 7, 8, 9, 10, 11, 12] [11, 12, 0, 1, 2, 3, 4, 5, 6, 7, 8, 9, 10] rfl rfl rfl rfl 0 rfl rfl rfl hl.1 rfl (Nat.le_of_ble_eq_true rfl) dX7_isReadInto_121 ⟨Nat.zero_le _, Nat.zero_le _⟩ (fun H locs hP hD hS => ?_)
                  have hJ139 : ∀ (gt_26 : zM) (gw_27 : zM) (H : Heap) (locs : List Loc) (ls : Array Slot), fX7_isReadInto_L53J139 v10 gt_26 gw_27 = some z → va_P D vwCl (wX7 T hgt gt_26 ++ wX8 T hgw gw_27) H → va_D A (wX7 T hgt gt_26 ++ wX8 T hgw gw_27) → va_S A s.heap H locs → lv_has ls 4 [(0, .ref (hgt 0)), (1, .ref (hgw 0)), (2, .int v10)] → W p l e rX7_isReadInto s m args below meth c H locs 0 0 Q (F0 m 139 ls []) := by
                    intro gt_26 gw_27 H locs ls hf hP hD hS hl
                    unfold fX7_isReadInto_L53J139 at hf
                    refine lv_iconst (v := 0) hx hb dX7_isReadInto_139 (by decide) ?_
                    exact hJ140 0 gt_26 gw_27 H locs ls hf hP hD hS hl
                  refine lv_if_eq (tgt := 139) hx hb dX7_isReadInto_124 (by decide) (fun hc => ?_) (fun hc => ?_)
                  · replace hf := zIf_t hc hf
                    exact hJ139 gt_11 gw_12 H locs ls hf hP hD hS hl
                  · replace hf := zIf_f hc hf
                    refine lv_aload_n hx hb dX7_isReadInto_127 rfl (lv_at hl 0 rfl) ?_
                    refine lv_aload_n hx hb dX7_isReadInto_128 rfl (lv_at hl 1 rfl) ?_
                    obtain ⟨v28, gt_29, gw_30, hc129, hf⟩ := zB3_ok hf
                    refine zCallVEI [.ref (hgw 0)] ⟨hx, hb, hml, hown, hts⟩ (pX7_isLatePiece l D T X hgt hgw H.size gt_11 gw_12 v28 gt_29 gw_30 hc129) (cwV 1 hts gX7_isReadInto_X7_isLatePiece rfl rfl rfl (by decide +kernel) ⟨Nat.le_of_ble_eq_true rfl, Nat.le_of_ble_eq_true rfl⟩) hK hP hD hS hA hX 0 rfl rfl rfl hl.1 rfl (Nat.le_of_ble_eq_true rfl) dX7_isReadInto_129 ⟨Nat.zero_le _, Nat.zero_le _⟩ (fun H locs hP hD hS => ?_)
                    refine lv_if_eq (tgt := 139) hx hb dX7_isReadInto_132 (by decide) (fun hc => ?_) (fun hc => ?_)
                    · replace hf := zIf_t hc hf
                      exact hJ139 gt_29 gw_30 H locs ls hf hP hD hS hl
                    · replace hf := zIf_f hc hf
                      refine lv_iconst (v := 1) hx hb dX7_isReadInto_135 (by decide) ?_
                      refine lv_goto (tgt := 140) hx hb dX7_isReadInto_136 (by decide) ?_
                      exact hJ140 1 gt_29 gw_30 H locs ls hf hP hD hS hl
                · replace hf := zIf_f hc hf
                  refine lv_aload_n hx hb dX7_isReadInto_110 rfl (lv_at hl 0 rfl) ?_
                  refine lv_aload_n hx hb dX7_isReadInto_111 rfl (lv_at hl 1 rfl) ?_
                  obtain ⟨v31, gt_32, gw_33, hc112, hf⟩ := zB3_ok hf
                  refine zCallVEI [.ref (hgw 0)] ⟨hx, hb, hml, hown, hts⟩ (pX7_isSeatPiece l D T X hgt hgw H.size gt_11 gw_12 v31 gt_32 gw_33 hc112) (cwV 1 hts gX7_isReadInto_X7_isSeatPiece rfl rfl rfl (by decide +kernel) ⟨Nat.le_of_ble_eq_true rfl, Nat.le_of_ble_eq_true rfl⟩) hK hP hD hS hA hX 0 rfl rfl rfl hl.1 rfl (Nat.le_of_ble_eq_true rfl) dX7_isReadInto_112 ⟨Nat.zero_le _, Nat.zero_le _⟩ (fun H locs hP hD hS => ?_)
                  refine lv_goto (tgt := 140) hx hb dX7_isReadInto_115 (by decide) ?_
                  exact hJ140 v31 gt_32 gw_33 H locs ls hf hP hD hS hl
              · replace hf := zIf_f hc hf
                refine lv_aload_n hx hb dX7_isReadInto_93 rfl (lv_at hl 0 rfl) ?_
                refine lv_aload_n hx hb dX7_isReadInto_94 rfl (lv_at hl 1 rfl) ?_
                obtain ⟨v34, gt_35, gw_36, hc95, hf⟩ := zB3_ok hf
                refine zCallVEI [.ref (hgw 0)] ⟨hx, hb, hml, hown, hts⟩ (pX7_isFirstPiece l D T X hgt hgw H.size gt_11 gw_12 v34 gt_35 gw_36 hc95) (cwV 1 hts gX7_isReadInto_X7_isFirstPiece rfl rfl rfl (by decide +kernel) ⟨Nat.le_of_ble_eq_true rfl, Nat.le_of_ble_eq_true rfl⟩) hK hP hD hS hA hX 0 rfl rfl rfl hl.1 rfl (Nat.le_of_ble_eq_true rfl) dX7_isReadInto_95 ⟨Nat.zero_le _, Nat.zero_le _⟩ (fun H locs hP hD hS => ?_)
                refine lv_goto (tgt := 140) hx hb dX7_isReadInto_98 (by decide) ?_
                exact hJ140 v34 gt_35 gw_36 H locs ls hf hP hD hS hl
            · replace hf := zIf_f hc hf
              refine lv_aload_n hx hb dX7_isReadInto_76 rfl (lv_at hl 0 rfl) ?_
              refine lv_aload_n hx hb dX7_isReadInto_77 rfl (lv_at hl 1 rfl) ?_
              obtain ⟨v37, gt_38, gw_39, hc78, hf⟩ := zB3_ok hf
              refine zCallVEI [.ref (hgw 0)] ⟨hx, hb, hml, hown, hts⟩ (pX7_isTiePiece l D T X hgt hgw H.size gt_11 gw_12 v37 gt_38 gw_39 hc78) (cwV 1 hts gX7_isReadInto_X7_isTiePiece rfl rfl rfl (by decide +kernel) ⟨Nat.le_of_ble_eq_true rfl, Nat.le_of_ble_eq_true rfl⟩) hK hP hD hS hA hX 0 rfl rfl rfl hl.1 rfl (Nat.le_of_ble_eq_true rfl) dX7_isReadInto_78 ⟨Nat.zero_le _, Nat.zero_le _⟩ (fun H locs hP hD hS => ?_)
              refine lv_goto (tgt := 140) hx hb dX7_isReadInto_81 (by decide) ?_
              exact hJ140 v37 gt_38 gw_39 H locs ls hf hP hD hS hl
      · replace hf := zIf_t hc hf
        refine lv_iconst (v := 0) hx hb dX7_isReadInto_45 (by decide) ?_
        obtain ⟨q1, q2, q3⟩ := zI3 hf
        subst q1
        subst q2
        subst q3
        exact zRetZ hQ hx hb hr hlocks hA0 hK hP hD hS (by decide) rfl dX7_isReadInto_46
    · replace hf := zIf_t hc hf
      refine lv_iconst (v := 0) hx hb dX7_isReadInto_28 (by decide) ?_
      obtain ⟨q1, q2, q3⟩ := zI3 hf
      subst q1
      subst q2
      subst q3
      exact zRetZ hQ hx hb hr hlocks hA0 hK hP hD hS (by decide) rfl dX7_isReadInto_29
set_option maxHeartbeats 4000000 in
set_option maxRecDepth 100000 in
theorem pX8_become (l : Launch) (D : va_G) (T : Nat → ClassId) (X : zFP) (hgw : Nat → Nat) (hgwo : Nat → Nat) (sz : Nat) (gw : zM) (gwo : zM) (ngw : zM) (hf : fX8_become gw gwo = some ngw) : Met l yX8_become wsX8_become rX8_become (zPre D T X [.ref (hgw 0), .ref (hgwo 0)] (wX8 T hgw gw ++ wX8 T hgwo gwo) sz) (zQv D T (wX8 T hgw ngw ++ wX8 T hgwo gwo) (wX8 T hgw gw ++ wX8 T hgwo gwo) sz) 0 0 (va_A (wX8 T hgw gw ++ wX8 T hgwo gwo) sz) := by
  unfold fX8_become at hf
  refine zStart [(0, .ref (hgw 0)), (1, .ref (hgwo 0))] (by decide) rfl (Nat.le_of_ble_eq_true rfl) rfl ?_
  intro p e s m args below meth c A Q ls hx hb hr hml hown hlocks hts hsz hA0 hQ hA hK hX hP hD hS hl
  replace hown : s.vm.findClass RX8 = some m.cls := hown
  have hH := hsz
  have hiX8 : ∀ w ∈ u_ws RX8 TX8 14, w ∈ wsX8_become := fun w h => List.mem_cons_of_mem _ (List.mem_append_right _ (h))
  obtain ⟨H, hHe⟩ : ∃ H : Heap, H = s.heap := ⟨_, rfl⟩
  obtain ⟨locs, hLe⟩ : ∃ L : List Loc, L = [] := ⟨_, rfl⟩
  replace hP : va_P D vwCl (wX8 T hgw gw ++ wX8 T hgwo gwo) H := by rw [hHe]; exact hP
  replace hS : va_S A s.heap H locs := by rw [hHe, hLe]; exact hS
  suffices hgo : W p l e rX8_become s m args below meth c H locs 0 0 Q (F0 m 0 ls []) by rw [hHe, hLe] at hgo; exact hgo
  clear hHe hLe
  refine lv_aload_n hx hb dX8_become_0 rfl (lv_at hl 0 rfl) ?_
  refine lv_aload_n hx hb dX8_become_1 rfl (lv_at hl 1 rfl) ?_
  refine zGet (ci := 8) (C := RX8) (F := TX8) (N := 14) (v := .int (gwo 0 0)) hx hb hts hiX8 hown hK hP 11 0 1 rfl rfl (by decide) rfl rfl rfl dX8_become_2 ?_
  refine lv_topi (fun v1 ev1 => ?_)
  replace hf := zLt_at ev1 hf
  refine zPut (ci := 8) (C := RX8) (F := TX8) (N := 14) (x := v1) (w := gw) hx hb hts hiX8 tyX8 tyX8_ok nmX8 hown hK hP hD hS (fun g => wX8 T hgw g ++ wX8 T hgwo gwo) 0 0 1 rfl rfl (by decide) rfl rfl rfl ⟨rfl, rfl⟩ (Nat.le_of_ble_eq_true rfl) rfl dX8_become_5 (fun gw_2 egw_2 H locs hP hD hS => ?_)
  replace hP : va_P D vwCl (wX8 T hgw gw_2 ++ wX8 T hgwo gwo) H := hP
  replace hD : va_D A (wX8 T hgw gw_2 ++ wX8 T hgwo gwo) := hD
  replace hf := zLt_at egw_2 hf
  refine lv_aload_n hx hb dX8_become_8 rfl (lv_at hl 0 rfl) ?_
  refine lv_aload_n hx hb dX8_become_9 rfl (lv_at hl 1 rfl) ?_
  refine zGet (ci := 8) (C := RX8) (F := TX8) (N := 14) (v := .int (gwo 0 3)) hx hb hts hiX8 hown hK hP 11 3 2 rfl rfl (by decide) rfl rfl rfl dX8_become_10 ?_
  refine lv_topi (fun v3 ev3 => ?_)
  replace hf := zLt_at ev3 hf
  refine zPut (ci := 8) (C := RX8) (F := TX8) (N := 14) (x := v3) (w := gw_2) hx hb hts hiX8 tyX8 tyX8_ok nmX8 hown hK hP hD hS (fun g => wX8 T hgw g ++ wX8 T hgwo gwo) 0 3 2 rfl rfl (by decide) rfl rfl rfl ⟨rfl, rfl⟩ (Nat.le_of_ble_eq_true rfl) rfl dX8_become_13 (fun gw_4 egw_4 H locs hP hD hS => ?_)
  replace hP : va_P D vwCl (wX8 T hgw gw_4 ++ wX8 T hgwo gwo) H := hP
  replace hD : va_D A (wX8 T hgw gw_4 ++ wX8 T hgwo gwo) := hD
  replace hf := zLt_at egw_4 hf
  refine lv_aload_n hx hb dX8_become_16 rfl (lv_at hl 0 rfl) ?_
  refine lv_aload_n hx hb dX8_become_17 rfl (lv_at hl 1 rfl) ?_
  refine zGet (ci := 8) (C := RX8) (F := TX8) (N := 14) (v := .int (gwo 0 9)) hx hb hts hiX8 hown hK hP 11 9 3 rfl rfl (by decide) rfl rfl rfl dX8_become_18 ?_
  refine lv_topi (fun v5 ev5 => ?_)
  replace hf := zLt_at ev5 hf
  refine zPut (ci := 8) (C := RX8) (F := TX8) (N := 14) (x := v5) (w := gw_4) hx hb hts hiX8 tyX8 tyX8_ok nmX8 hown hK hP hD hS (fun g => wX8 T hgw g ++ wX8 T hgwo gwo) 0 9 3 rfl rfl (by decide) rfl rfl rfl ⟨rfl, rfl⟩ (Nat.le_of_ble_eq_true rfl) rfl dX8_become_21 (fun gw_6 egw_6 H locs hP hD hS => ?_)
  replace hP : va_P D vwCl (wX8 T hgw gw_6 ++ wX8 T hgwo gwo) H := hP
  replace hD : va_D A (wX8 T hgw gw_6 ++ wX8 T hgwo gwo) := hD
  replace hf := zLt_at egw_6 hf
  refine lv_aload_n hx hb dX8_become_24 rfl (lv_at hl 0 rfl) ?_
  refine lv_aload_n hx hb dX8_become_25 rfl (lv_at hl 1 rfl) ?_
  refine zGet (ci := 8) (C := RX8) (F := TX8) (N := 14) (v := .int (gwo 0 13)) hx hb hts hiX8 hown hK hP 11 13 4 rfl rfl (by decide) rfl rfl rfl dX8_become_26 ?_
  refine lv_topi (fun v7 ev7 => ?_)
  replace hf := zLt_at ev7 hf
  refine zPut (ci := 8) (C := RX8) (F := TX8) (N := 14) (x := v7) (w := gw_6) hx hb hts hiX8 tyX8 tyX8_ok nmX8 hown hK hP hD hS (fun g => wX8 T hgw g ++ wX8 T hgwo gwo) 0 13 4 rfl rfl (by decide) rfl rfl rfl ⟨rfl, rfl⟩ (Nat.le_of_ble_eq_true rfl) rfl dX8_become_29 (fun gw_8 egw_8 H locs hP hD hS => ?_)
  replace hP : va_P D vwCl (wX8 T hgw gw_8 ++ wX8 T hgwo gwo) H := hP
  replace hD : va_D A (wX8 T hgw gw_8 ++ wX8 T hgwo gwo) := hD
  replace hf := zLt_at egw_8 hf
  refine lv_aload_n hx hb dX8_become_32 rfl (lv_at hl 1 rfl) ?_
  refine zGet (ci := 8) (C := RX8) (F := TX8) (N := 14) (v := .ref (hgwo 1)) hx hb hts hiX8 hown hK hP 11 1 5 rfl rfl (by decide) rfl rfl rfl dX8_become_33 ?_
  refine lv_iconst (v := 0) hx hb dX8_become_36 (by decide) ?_
  refine lv_aload_n hx hb dX8_become_37 rfl (lv_at hl 0 rfl) ?_
  refine zGet (ci := 8) (C := RX8) (F := TX8) (N := 14) (v := .ref (hgw 1)) hx hb hts hiX8 hown hK hP 0 1 5 rfl rfl (by decide) rfl rfl rfl dX8_become_38 ?_
  refine lv_iconst (v := 0) hx hb dX8_become_41 (by decide) ?_
  refine lv_bipush (v := 10) hx hb dX8_become_42 (by decide) ?_
  refine zCpy (w := gw_8) hx hb hml hl.1 hown hts 6 7 8 9 rfl rfl rfl rfl hK hP hD hS (fun g => wX8 T hgw g ++ wX8 T hgwo gwo) 12 1 0 1 10 rfl rfl rfl rfl (by decide) (by decide) (by decide) (fun _ _ => rfl) (Nat.le_of_ble_eq_true rfl) (Nat.le_of_ble_eq_true rfl) rfl dX8_become_44 (fun gw_9 egw_9 H locs hP hD hS => ?_)
  replace hP : va_P D vwCl (wX8 T hgw gw_9 ++ wX8 T hgwo gwo) H := hP
  replace hD : va_D A (wX8 T hgw gw_9 ++ wX8 T hgwo gwo) := hD
  replace hf := zLt_at egw_9 hf
  refine lv_aload_n hx hb dX8_become_47 rfl (lv_at hl 1 rfl) ?_
  refine zGet (ci := 8) (C := RX8) (F := TX8) (N := 14) (v := .ref (hgwo 2)) hx hb hts hiX8 hown hK hP 11 2 10 rfl rfl (by decide) rfl rfl rfl dX8_become_48 ?_
  refine lv_iconst (v := 0) hx hb dX8_become_51 (by decide) ?_
  refine lv_aload_n hx hb dX8_become_52 rfl (lv_at hl 0 rfl) ?_
  refine zGet (ci := 8) (C := RX8) (F := TX8) (N := 14) (v := .ref (hgw 2)) hx hb hts hiX8 hown hK hP 0 2 10 rfl rfl (by decide) rfl rfl rfl dX8_become_53 ?_
  refine lv_iconst (v := 0) hx hb dX8_become_56 (by decide) ?_
  refine lv_bipush (v := 10) hx hb dX8_become_57 (by decide) ?_
  refine zCpy (w := gw_9) hx hb hml hl.1 hown hts 6 7 8 9 rfl rfl rfl rfl hK hP hD hS (fun g => wX8 T hgw g ++ wX8 T hgwo gwo) 13 2 0 2 10 rfl rfl rfl rfl (by decide) (by decide) (by decide) (fun _ _ => rfl) (Nat.le_of_ble_eq_true rfl) (Nat.le_of_ble_eq_true rfl) rfl dX8_become_59 (fun gw_10 egw_10 H locs hP hD hS => ?_)
  replace hP : va_P D vwCl (wX8 T hgw gw_10 ++ wX8 T hgwo gwo) H := hP
  replace hD : va_D A (wX8 T hgw gw_10 ++ wX8 T hgwo gwo) := hD
  replace hf := zLt_at egw_10 hf
  refine lv_aload_n hx hb dX8_become_62 rfl (lv_at hl 1 rfl) ?_
  refine zGet (ci := 8) (C := RX8) (F := TX8) (N := 14) (v := .ref (hgwo 3)) hx hb hts hiX8 hown hK hP 11 4 11 rfl rfl (by decide) rfl rfl rfl dX8_become_63 ?_
  refine lv_iconst (v := 0) hx hb dX8_become_66 (by decide) ?_
  refine lv_aload_n hx hb dX8_become_67 rfl (lv_at hl 0 rfl) ?_
  refine zGet (ci := 8) (C := RX8) (F := TX8) (N := 14) (v := .ref (hgw 3)) hx hb hts hiX8 hown hK hP 0 4 11 rfl rfl (by decide) rfl rfl rfl dX8_become_68 ?_
  refine lv_iconst (v := 0) hx hb dX8_become_71 (by decide) ?_
  refine lv_bipush (v := 14) hx hb dX8_become_72 (by decide) ?_
  refine zCpy (w := gw_10) hx hb hml hl.1 hown hts 6 7 8 9 rfl rfl rfl rfl hK hP hD hS (fun g => wX8 T hgw g ++ wX8 T hgwo gwo) 14 3 0 3 14 rfl rfl rfl rfl (by decide) (by decide) (by decide) (fun _ _ => rfl) (Nat.le_of_ble_eq_true rfl) (Nat.le_of_ble_eq_true rfl) rfl dX8_become_74 (fun gw_11 egw_11 H locs hP hD hS => ?_)
  replace hP : va_P D vwCl (wX8 T hgw gw_11 ++ wX8 T hgwo gwo) H := hP
  replace hD : va_D A (wX8 T hgw gw_11 ++ wX8 T hgwo gwo) := hD
  replace hf := zLt_at egw_11 hf
  refine lv_aload_n hx hb dX8_become_77 rfl (lv_at hl 1 rfl) ?_
  refine zGet (ci := 8) (C := RX8) (F := TX8) (N := 14) (v := .ref (hgwo 4)) hx hb hts hiX8 hown hK hP 11 5 12 rfl rfl (by decide) rfl rfl rfl dX8_become_78 ?_
  refine lv_iconst (v := 0) hx hb dX8_become_81 (by decide) ?_
  refine lv_aload_n hx hb dX8_become_82 rfl (lv_at hl 0 rfl) ?_
  refine zGet (ci := 8) (C := RX8) (F := TX8) (N := 14) (v := .ref (hgw 4)) hx hb hts hiX8 hown hK hP 0 5 12 rfl rfl (by decide) rfl rfl rfl dX8_become_83 ?_
  refine lv_iconst (v := 0) hx hb dX8_become_86 (by decide) ?_
  refine lv_bipush (v := 14) hx hb dX8_become_87 (by decide) ?_
  refine zCpy (w := gw_11) hx hb hml hl.1 hown hts 6 7 8 9 rfl rfl rfl rfl hK hP hD hS (fun g => wX8 T hgw g ++ wX8 T hgwo gwo) 15 4 0 4 14 rfl rfl rfl rfl (by decide) (by decide) (by decide) (fun _ _ => rfl) (Nat.le_of_ble_eq_true rfl) (Nat.le_of_ble_eq_true rfl) rfl dX8_become_89 (fun gw_12 egw_12 H locs hP hD hS => ?_)
  replace hP : va_P D vwCl (wX8 T hgw gw_12 ++ wX8 T hgwo gwo) H := hP
  replace hD : va_D A (wX8 T hgw gw_12 ++ wX8 T hgwo gwo) := hD
  replace hf := zLt_at egw_12 hf
  refine lv_aload_n hx hb dX8_become_92 rfl (lv_at hl 1 rfl) ?_
  refine zGet (ci := 8) (C := RX8) (F := TX8) (N := 14) (v := .ref (hgwo 5)) hx hb hts hiX8 hown hK hP 11 6 13 rfl rfl (by decide) rfl rfl rfl dX8_become_93 ?_
  refine lv_iconst (v := 0) hx hb dX8_become_96 (by decide) ?_
  refine lv_aload_n hx hb dX8_become_97 rfl (lv_at hl 0 rfl) ?_
  refine zGet (ci := 8) (C := RX8) (F := TX8) (N := 14) (v := .ref (hgw 5)) hx hb hts hiX8 hown hK hP 0 6 13 rfl rfl (by decide) rfl rfl rfl dX8_become_98 ?_
  refine lv_iconst (v := 0) hx hb dX8_become_101 (by decide) ?_
  refine lv_bipush (v := 14) hx hb dX8_become_102 (by decide) ?_
  refine zCpy (w := gw_12) hx hb hml hl.1 hown hts 6 7 8 9 rfl rfl rfl rfl hK hP hD hS (fun g => wX8 T hgw g ++ wX8 T hgwo gwo) 16 5 0 5 14 rfl rfl rfl rfl (by decide) (by decide) (by decide) (fun _ _ => rfl) (Nat.le_of_ble_eq_true rfl) (Nat.le_of_ble_eq_true rfl) rfl dX8_become_104 (fun gw_13 egw_13 H locs hP hD hS => ?_)
  replace hP : va_P D vwCl (wX8 T hgw gw_13 ++ wX8 T hgwo gwo) H := hP
  replace hD : va_D A (wX8 T hgw gw_13 ++ wX8 T hgwo gwo) := hD
  replace hf := zLt_at egw_13 hf
  refine lv_aload_n hx hb dX8_become_107 rfl (lv_at hl 1 rfl) ?_
  refine zGet (ci := 8) (C := RX8) (F := TX8) (N := 14) (v := .ref (hgwo 6)) hx hb hts hiX8 hown hK hP 11 7 14 rfl rfl (by decide) rfl rfl rfl dX8_become_108 ?_
  refine lv_iconst (v := 0) hx hb dX8_become_111 (by decide) ?_
  refine lv_aload_n hx hb dX8_become_112 rfl (lv_at hl 0 rfl) ?_
  refine zGet (ci := 8) (C := RX8) (F := TX8) (N := 14) (v := .ref (hgw 6)) hx hb hts hiX8 hown hK hP 0 7 14 rfl rfl (by decide) rfl rfl rfl dX8_become_113 ?_
  refine lv_iconst (v := 0) hx hb dX8_become_116 (by decide) ?_
  refine lv_bipush (v := 14) hx hb dX8_become_117 (by decide) ?_
  refine zCpy (w := gw_13) hx hb hml hl.1 hown hts 6 7 8 9 rfl rfl rfl rfl hK hP hD hS (fun g => wX8 T hgw g ++ wX8 T hgwo gwo) 17 6 0 6 14 rfl rfl rfl rfl (by decide) (by decide) (by decide) (fun _ _ => rfl) (Nat.le_of_ble_eq_true rfl) (Nat.le_of_ble_eq_true rfl) rfl dX8_become_119 (fun gw_14 egw_14 H locs hP hD hS => ?_)
  replace hP : va_P D vwCl (wX8 T hgw gw_14 ++ wX8 T hgwo gwo) H := hP
  replace hD : va_D A (wX8 T hgw gw_14 ++ wX8 T hgwo gwo) := hD
  replace hf := zLt_at egw_14 hf
  refine lv_aload_n hx hb dX8_become_122 rfl (lv_at hl 1 rfl) ?_
  refine zGet (ci := 8) (C := RX8) (F := TX8) (N := 14) (v := .ref (hgwo 7)) hx hb hts hiX8 hown hK hP 11 8 15 rfl rfl (by decide) rfl rfl rfl dX8_become_123 ?_
  refine lv_iconst (v := 0) hx hb dX8_become_126 (by decide) ?_
  refine lv_aload_n hx hb dX8_become_127 rfl (lv_at hl 0 rfl) ?_
  refine zGet (ci := 8) (C := RX8) (F := TX8) (N := 14) (v := .ref (hgw 7)) hx hb hts hiX8 hown hK hP 0 8 15 rfl rfl (by decide) rfl rfl rfl dX8_become_128 ?_
  refine lv_iconst (v := 0) hx hb dX8_become_131 (by decide) ?_
  refine lv_bipush (v := 14) hx hb dX8_become_132 (by decide) ?_
  obtain ⟨hg, hf⟩ := zGd_ok hf
  refine zCpy (w := gw_14) hx hb hml hl.1 hown hts 6 7 8 9 rfl rfl rfl rfl hK hP hD hS (fun g => wX8 T hgw g ++ wX8 T hgwo gwo) 18 7 2 7 14 rfl rfl rfl rfl (by decide) (by decide) (by decide) (zAllB_ok hg) (Nat.le_of_ble_eq_true rfl) (Nat.le_of_ble_eq_true rfl) rfl dX8_become_134 (fun gw_15 egw_15 H locs hP hD hS => ?_)
  replace hP : va_P D vwCl (wX8 T hgw gw_15 ++ wX8 T hgwo gwo) H := hP
  replace hD : va_D A (wX8 T hgw gw_15 ++ wX8 T hgwo gwo) := hD
  replace hf := zLt_at egw_15 hf
  refine lv_aload_n hx hb dX8_become_137 rfl (lv_at hl 1 rfl) ?_
  refine zGet (ci := 8) (C := RX8) (F := TX8) (N := 14) (v := .ref (hgwo 8)) hx hb hts hiX8 hown hK hP 11 10 16 rfl rfl (by decide) rfl rfl rfl dX8_become_138 ?_
  refine lv_iconst (v := 0) hx hb dX8_become_141 (by decide) ?_
  refine lv_aload_n hx hb dX8_become_142 rfl (lv_at hl 0 rfl) ?_
  refine zGet (ci := 8) (C := RX8) (F := TX8) (N := 14) (v := .ref (hgw 8)) hx hb hts hiX8 hown hK hP 0 10 16 rfl rfl (by decide) rfl rfl rfl dX8_become_143 ?_
  refine lv_iconst (v := 0) hx hb dX8_become_146 (by decide) ?_
  refine lv_bipush (v := 8) hx hb dX8_become_147 (by decide) ?_
  refine zCpy (w := gw_15) hx hb hml hl.1 hown hts 6 7 8 9 rfl rfl rfl rfl hK hP hD hS (fun g => wX8 T hgw g ++ wX8 T hgwo gwo) 19 8 0 8 8 rfl rfl rfl rfl (by decide) (by decide) (by decide) (fun _ _ => rfl) (Nat.le_of_ble_eq_true rfl) (Nat.le_of_ble_eq_true rfl) rfl dX8_become_149 (fun gw_16 egw_16 H locs hP hD hS => ?_)
  replace hP : va_P D vwCl (wX8 T hgw gw_16 ++ wX8 T hgwo gwo) H := hP
  replace hD : va_D A (wX8 T hgw gw_16 ++ wX8 T hgwo gwo) := hD
  replace hf := zLt_at egw_16 hf
  refine lv_aload_n hx hb dX8_become_152 rfl (lv_at hl 1 rfl) ?_
  refine zGet (ci := 8) (C := RX8) (F := TX8) (N := 14) (v := .ref (hgwo 9)) hx hb hts hiX8 hown hK hP 11 11 17 rfl rfl (by decide) rfl rfl rfl dX8_become_153 ?_
  refine lv_iconst (v := 0) hx hb dX8_become_156 (by decide) ?_
  refine lv_aload_n hx hb dX8_become_157 rfl (lv_at hl 0 rfl) ?_
  refine zGet (ci := 8) (C := RX8) (F := TX8) (N := 14) (v := .ref (hgw 9)) hx hb hts hiX8 hown hK hP 0 11 17 rfl rfl (by decide) rfl rfl rfl dX8_become_158 ?_
  refine lv_iconst (v := 0) hx hb dX8_become_161 (by decide) ?_
  refine lv_bipush (v := 8) hx hb dX8_become_162 (by decide) ?_
  refine zCpy (w := gw_16) hx hb hml hl.1 hown hts 6 7 8 9 rfl rfl rfl rfl hK hP hD hS (fun g => wX8 T hgw g ++ wX8 T hgwo gwo) 20 9 0 9 8 rfl rfl rfl rfl (by decide) (by decide) (by decide) (fun _ _ => rfl) (Nat.le_of_ble_eq_true rfl) (Nat.le_of_ble_eq_true rfl) rfl dX8_become_164 (fun gw_17 egw_17 H locs hP hD hS => ?_)
  replace hP : va_P D vwCl (wX8 T hgw gw_17 ++ wX8 T hgwo gwo) H := hP
  replace hD : va_D A (wX8 T hgw gw_17 ++ wX8 T hgwo gwo) := hD
  replace hf := zLt_at egw_17 hf
  refine lv_aload_n hx hb dX8_become_167 rfl (lv_at hl 1 rfl) ?_
  refine zGet (ci := 8) (C := RX8) (F := TX8) (N := 14) (v := .ref (hgwo 10)) hx hb hts hiX8 hown hK hP 11 12 18 rfl rfl (by decide) rfl rfl rfl dX8_become_168 ?_
  refine lv_iconst (v := 0) hx hb dX8_become_171 (by decide) ?_
  refine lv_aload_n hx hb dX8_become_172 rfl (lv_at hl 0 rfl) ?_
  refine zGet (ci := 8) (C := RX8) (F := TX8) (N := 14) (v := .ref (hgw 10)) hx hb hts hiX8 hown hK hP 0 12 18 rfl rfl (by decide) rfl rfl rfl dX8_become_173 ?_
  refine lv_iconst (v := 0) hx hb dX8_become_176 (by decide) ?_
  refine lv_bipush (v := 8) hx hb dX8_become_177 (by decide) ?_
  refine zCpy (w := gw_17) hx hb hml hl.1 hown hts 6 7 8 9 rfl rfl rfl rfl hK hP hD hS (fun g => wX8 T hgw g ++ wX8 T hgwo gwo) 21 10 0 10 8 rfl rfl rfl rfl (by decide) (by decide) (by decide) (fun _ _ => rfl) (Nat.le_of_ble_eq_true rfl) (Nat.le_of_ble_eq_true rfl) rfl dX8_become_179 (fun gw_18 egw_18 H locs hP hD hS => ?_)
  replace hP : va_P D vwCl (wX8 T hgw gw_18 ++ wX8 T hgwo gwo) H := hP
  replace hD : va_D A (wX8 T hgw gw_18 ++ wX8 T hgwo gwo) := hD
  replace hf := zLt_at egw_18 hf
  obtain ⟨q1, -⟩ := zI1 hf
  subst q1
  exact zRetV hQ hx hb hr hlocks hA0 hK hP hD hS dX8_become_182
set_option maxHeartbeats 4000000 in
set_option maxRecDepth 100000 in
theorem pX8_hasPerson (l : Launch) (D : va_G) (T : Nat → ClassId) (X : zFP) (hgw : Nat → Nat) (sz : Nat) (gw : zM) (a1 : Int32) (r : Int32) (hf : fX8_hasPerson gw a1 = some r) : Met l yX8_hasPerson wsX8_hasPerson rX8_hasPerson (zPre D T X [.ref (hgw 0), .int a1] (wX8 T hgw gw) sz) (zQi D T r (wX8 T hgw gw) (wX8 T hgw gw) sz) 0 0 (va_A (wX8 T hgw gw) sz) := by
  unfold fX8_hasPerson at hf
  refine zStart [(0, .ref (hgw 0)), (1, .int a1)] (by decide) rfl (Nat.le_of_ble_eq_true rfl) rfl ?_
  intro p e s m args below meth c A Q ls hx hb hr hml hown hlocks hts hsz hA0 hQ hA hK hX hP hD hS hl
  replace hown : s.vm.findClass RX8 = some m.cls := hown
  have hH := hsz
  have hiX8 : ∀ w ∈ u_ws RX8 TX8 14, w ∈ wsX8_hasPerson := fun w h => List.mem_cons_of_mem _ (List.mem_append_right _ (h))
  obtain ⟨H, hHe⟩ : ∃ H : Heap, H = s.heap := ⟨_, rfl⟩
  obtain ⟨locs, hLe⟩ : ∃ L : List Loc, L = [] := ⟨_, rfl⟩
  replace hP : va_P D vwCl (wX8 T hgw gw) H := by rw [hHe]; exact hP
  replace hS : va_S A s.heap H locs := by rw [hHe, hLe]; exact hS
  suffices hgo : W p l e rX8_hasPerson s m args below meth c H locs 0 0 Q (F0 m 0 ls []) by rw [hHe, hLe] at hgo; exact hgo
  clear hHe hLe
  refine lv_iload_n hx hb dX8_hasPerson_0 rfl (lv_at hl 1 rfl) ?_
  refine lv_if_lt (tgt := 16) hx hb dX8_hasPerson_1 (by decide) (fun hc => ?_) (fun hc => ?_)
  · replace hf := zIf_t hc hf
    refine lv_iconst (v := 0) hx hb dX8_hasPerson_16 (by decide) ?_
    obtain ⟨q1, -⟩ := zI1 hf
    subst q1
    exact zRetZ hQ hx hb hr hlocks hA0 hK hP hD hS (by decide) rfl dX8_hasPerson_17
  · replace hf := zIf_f hc hf
    refine lv_iload_n hx hb dX8_hasPerson_4 rfl (lv_at hl 1 rfl) ?_
    refine lv_aload_n hx hb dX8_hasPerson_5 rfl (lv_at hl 0 rfl) ?_
    refine zGet (ci := 8) (C := RX8) (F := TX8) (N := 14) (v := .int (gw 0 0)) hx hb hts hiX8 hown hK hP 0 0 1 rfl rfl (by decide) rfl rfl rfl dX8_hasPerson_6 ?_
    refine lv_icmp_ge (tgt := 16) hx hb dX8_hasPerson_9 (by decide) (fun hc => ?_) (fun hc => ?_)
    · replace hf := zIf_t hc hf
      refine lv_iconst (v := 0) hx hb dX8_hasPerson_16 (by decide) ?_
      obtain ⟨q1, -⟩ := zI1 hf
      subst q1
      exact zRetZ hQ hx hb hr hlocks hA0 hK hP hD hS (by decide) rfl dX8_hasPerson_17
    · replace hf := zIf_f hc hf
      refine lv_iconst (v := 1) hx hb dX8_hasPerson_12 (by decide) ?_
      refine lv_goto (tgt := 17) hx hb dX8_hasPerson_13 (by decide) ?_
      obtain ⟨q1, -⟩ := zI1 hf
      subst q1
      exact zRetZ hQ hx hb hr hlocks hA0 hK hP hD hS (by decide) rfl dX8_hasPerson_17
set_option maxHeartbeats 4000000 in
set_option maxRecDepth 100000 in
theorem pX8_hasTie (l : Launch) (D : va_G) (T : Nat → ClassId) (X : zFP) (hgw : Nat → Nat) (sz : Nat) (gw : zM) (a1 : Int32) (r : Int32) (hf : fX8_hasTie gw a1 = some r) : Met l yX8_hasTie wsX8_hasTie rX8_hasTie (zPre D T X [.ref (hgw 0), .int a1] (wX8 T hgw gw) sz) (zQi D T r (wX8 T hgw gw) (wX8 T hgw gw) sz) 0 0 (va_A (wX8 T hgw gw) sz) := by
  unfold fX8_hasTie at hf
  refine zStart [(0, .ref (hgw 0)), (1, .int a1)] (by decide) rfl (Nat.le_of_ble_eq_true rfl) rfl ?_
  intro p e s m args below meth c A Q ls hx hb hr hml hown hlocks hts hsz hA0 hQ hA hK hX hP hD hS hl
  replace hown : s.vm.findClass RX8 = some m.cls := hown
  have hH := hsz
  have hiX8 : ∀ w ∈ u_ws RX8 TX8 14, w ∈ wsX8_hasTie := fun w h => List.mem_cons_of_mem _ (List.mem_append_right _ (h))
  obtain ⟨H, hHe⟩ : ∃ H : Heap, H = s.heap := ⟨_, rfl⟩
  obtain ⟨locs, hLe⟩ : ∃ L : List Loc, L = [] := ⟨_, rfl⟩
  replace hP : va_P D vwCl (wX8 T hgw gw) H := by rw [hHe]; exact hP
  replace hS : va_S A s.heap H locs := by rw [hHe, hLe]; exact hS
  suffices hgo : W p l e rX8_hasTie s m args below meth c H locs 0 0 Q (F0 m 0 ls []) by rw [hHe, hLe] at hgo; exact hgo
  clear hHe hLe
  refine lv_iload_n hx hb dX8_hasTie_0 rfl (lv_at hl 1 rfl) ?_
  refine lv_if_lt (tgt := 16) hx hb dX8_hasTie_1 (by decide) (fun hc => ?_) (fun hc => ?_)
  · replace hf := zIf_t hc hf
    refine lv_iconst (v := 0) hx hb dX8_hasTie_16 (by decide) ?_
    obtain ⟨q1, -⟩ := zI1 hf
    subst q1
    exact zRetZ hQ hx hb hr hlocks hA0 hK hP hD hS (by decide) rfl dX8_hasTie_17
  · replace hf := zIf_f hc hf
    refine lv_iload_n hx hb dX8_hasTie_4 rfl (lv_at hl 1 rfl) ?_
    refine lv_aload_n hx hb dX8_hasTie_5 rfl (lv_at hl 0 rfl) ?_
    refine zGet (ci := 8) (C := RX8) (F := TX8) (N := 14) (v := .int (gw 0 3)) hx hb hts hiX8 hown hK hP 0 3 1 rfl rfl (by decide) rfl rfl rfl dX8_hasTie_6 ?_
    refine lv_icmp_ge (tgt := 16) hx hb dX8_hasTie_9 (by decide) (fun hc => ?_) (fun hc => ?_)
    · replace hf := zIf_t hc hf
      refine lv_iconst (v := 0) hx hb dX8_hasTie_16 (by decide) ?_
      obtain ⟨q1, -⟩ := zI1 hf
      subst q1
      exact zRetZ hQ hx hb hr hlocks hA0 hK hP hD hS (by decide) rfl dX8_hasTie_17
    · replace hf := zIf_f hc hf
      refine lv_iconst (v := 1) hx hb dX8_hasTie_12 (by decide) ?_
      refine lv_goto (tgt := 17) hx hb dX8_hasTie_13 (by decide) ?_
      obtain ⟨q1, -⟩ := zI1 hf
      subst q1
      exact zRetZ hQ hx hb hr hlocks hA0 hK hP hD hS (by decide) rfl dX8_hasTie_17
set_option maxHeartbeats 4000000 in
set_option maxRecDepth 100000 in
theorem pX8_hasCut (l : Launch) (D : va_G) (T : Nat → ClassId) (X : zFP) (hgw : Nat → Nat) (sz : Nat) (gw : zM) (a1 : Int32) (r : Int32) (hf : fX8_hasCut gw a1 = some r) : Met l yX8_hasCut wsX8_hasCut rX8_hasCut (zPre D T X [.ref (hgw 0), .int a1] (wX8 T hgw gw) sz) (zQi D T r (wX8 T hgw gw) (wX8 T hgw gw) sz) 0 0 (va_A (wX8 T hgw gw) sz) := by
  unfold fX8_hasCut at hf
  refine zStart [(0, .ref (hgw 0)), (1, .int a1)] (by decide) rfl (Nat.le_of_ble_eq_true rfl) rfl ?_
  intro p e s m args below meth c A Q ls hx hb hr hml hown hlocks hts hsz hA0 hQ hA hK hX hP hD hS hl
  replace hown : s.vm.findClass RX8 = some m.cls := hown
  have hH := hsz
  have hiX8 : ∀ w ∈ u_ws RX8 TX8 14, w ∈ wsX8_hasCut := fun w h => List.mem_cons_of_mem _ (List.mem_append_right _ (h))
  obtain ⟨H, hHe⟩ : ∃ H : Heap, H = s.heap := ⟨_, rfl⟩
  obtain ⟨locs, hLe⟩ : ∃ L : List Loc, L = [] := ⟨_, rfl⟩
  replace hP : va_P D vwCl (wX8 T hgw gw) H := by rw [hHe]; exact hP
  replace hS : va_S A s.heap H locs := by rw [hHe, hLe]; exact hS
  suffices hgo : W p l e rX8_hasCut s m args below meth c H locs 0 0 Q (F0 m 0 ls []) by rw [hHe, hLe] at hgo; exact hgo
  clear hHe hLe
  refine lv_iload_n hx hb dX8_hasCut_0 rfl (lv_at hl 1 rfl) ?_
  refine lv_if_lt (tgt := 16) hx hb dX8_hasCut_1 (by decide) (fun hc => ?_) (fun hc => ?_)
  · replace hf := zIf_t hc hf
    refine lv_iconst (v := 0) hx hb dX8_hasCut_16 (by decide) ?_
    obtain ⟨q1, -⟩ := zI1 hf
    subst q1
    exact zRetZ hQ hx hb hr hlocks hA0 hK hP hD hS (by decide) rfl dX8_hasCut_17
  · replace hf := zIf_f hc hf
    refine lv_iload_n hx hb dX8_hasCut_4 rfl (lv_at hl 1 rfl) ?_
    refine lv_aload_n hx hb dX8_hasCut_5 rfl (lv_at hl 0 rfl) ?_
    refine zGet (ci := 8) (C := RX8) (F := TX8) (N := 14) (v := .int (gw 0 9)) hx hb hts hiX8 hown hK hP 0 9 1 rfl rfl (by decide) rfl rfl rfl dX8_hasCut_6 ?_
    refine lv_icmp_ge (tgt := 16) hx hb dX8_hasCut_9 (by decide) (fun hc => ?_) (fun hc => ?_)
    · replace hf := zIf_t hc hf
      refine lv_iconst (v := 0) hx hb dX8_hasCut_16 (by decide) ?_
      obtain ⟨q1, -⟩ := zI1 hf
      subst q1
      exact zRetZ hQ hx hb hr hlocks hA0 hK hP hD hS (by decide) rfl dX8_hasCut_17
    · replace hf := zIf_f hc hf
      refine lv_iconst (v := 1) hx hb dX8_hasCut_12 (by decide) ?_
      refine lv_goto (tgt := 17) hx hb dX8_hasCut_13 (by decide) ?_
      obtain ⟨q1, -⟩ := zI1 hf
      subst q1
      exact zRetZ hQ hx hb hr hlocks hA0 hK hP hD hS (by decide) rfl dX8_hasCut_17
set_option maxHeartbeats 4000000 in
set_option maxRecDepth 100000 in
theorem pX8_hasSet (l : Launch) (D : va_G) (T : Nat → ClassId) (X : zFP) (hgw : Nat → Nat) (sz : Nat) (gw : zM) (a1 : Int32) (r : Int32) (hf : fX8_hasSet gw a1 = some r) : Met l yX8_hasSet wsX8_hasSet rX8_hasSet (zPre D T X [.ref (hgw 0), .int a1] (wX8 T hgw gw) sz) (zQi D T r (wX8 T hgw gw) (wX8 T hgw gw) sz) 0 0 (va_A (wX8 T hgw gw) sz) := by
  unfold fX8_hasSet at hf
  refine zStart [(0, .ref (hgw 0)), (1, .int a1)] (by decide) rfl (Nat.le_of_ble_eq_true rfl) rfl ?_
  intro p e s m args below meth c A Q ls hx hb hr hml hown hlocks hts hsz hA0 hQ hA hK hX hP hD hS hl
  replace hown : s.vm.findClass RX8 = some m.cls := hown
  have hH := hsz
  obtain ⟨H, hHe⟩ : ∃ H : Heap, H = s.heap := ⟨_, rfl⟩
  obtain ⟨locs, hLe⟩ : ∃ L : List Loc, L = [] := ⟨_, rfl⟩
  replace hP : va_P D vwCl (wX8 T hgw gw) H := by rw [hHe]; exact hP
  replace hS : va_S A s.heap H locs := by rw [hHe, hLe]; exact hS
  suffices hgo : W p l e rX8_hasSet s m args below meth c H locs 0 0 Q (F0 m 0 ls []) by rw [hHe, hLe] at hgo; exact hgo
  clear hHe hLe
  refine lv_iload_n hx hb dX8_hasSet_0 rfl (lv_at hl 1 rfl) ?_
  refine lv_if_lt (tgt := 16) hx hb dX8_hasSet_1 (by decide) (fun hc => ?_) (fun hc => ?_)
  · replace hf := zIf_t hc hf
    refine lv_iconst (v := 0) hx hb dX8_hasSet_16 (by decide) ?_
    obtain ⟨q1, -⟩ := zI1 hf
    subst q1
    exact zRetZ hQ hx hb hr hlocks hA0 hK hP hD hS (by decide) rfl dX8_hasSet_17
  · replace hf := zIf_f hc hf
    refine lv_iload_n hx hb dX8_hasSet_4 rfl (lv_at hl 1 rfl) ?_
    refine lv_aload_n hx hb dX8_hasSet_5 rfl (lv_at hl 0 rfl) ?_
    obtain ⟨v1, hc6, hf⟩ := zB1_ok hf
    refine zCallVEI [] ⟨hx, hb, hml, hown, hts⟩ (pX8_everybody l D T X hgw H.size gw v1 hc6) (cwV 0 hts gX8_hasSet_X8_everybody rfl rfl rfl (by decide +kernel) ⟨Nat.le_of_ble_eq_true rfl, Nat.le_of_ble_eq_true rfl⟩) hK hP hD hS hA hX 0 rfl rfl rfl hl.1 rfl (Nat.le_of_ble_eq_true rfl) dX8_hasSet_6 ⟨Nat.zero_le _, Nat.zero_le _⟩ (fun H locs hP hD hS => ?_)
    refine lv_icmp_gt (tgt := 16) hx hb dX8_hasSet_9 (by decide) (fun hc => ?_) (fun hc => ?_)
    · replace hf := zIf_t hc hf
      refine lv_iconst (v := 0) hx hb dX8_hasSet_16 (by decide) ?_
      obtain ⟨q1, -⟩ := zI1 hf
      subst q1
      exact zRetZ hQ hx hb hr hlocks hA0 hK hP hD hS (by decide) rfl dX8_hasSet_17
    · replace hf := zIf_f hc hf
      refine lv_iconst (v := 1) hx hb dX8_hasSet_12 (by decide) ?_
      refine lv_goto (tgt := 17) hx hb dX8_hasSet_13 (by decide) ?_
      obtain ⟨q1, -⟩ := zI1 hf
      subst q1
      exact zRetZ hQ hx hb hr hlocks hA0 hK hP hD hS (by decide) rfl dX8_hasSet_17
set_option maxHeartbeats 4000000 in
set_option maxRecDepth 100000 in
theorem pX8_howManyShow (l : Launch) (D : va_G) (T : Nat → ClassId) (X : zFP) (hgw : Nat → Nat) (sz : Nat) (gw : zM) (r : Int32) (hf : fX8_howManyShow gw = some r) : Met l yX8_howManyShow wsX8_howManyShow rX8_howManyShow (zPre D T X [.ref (hgw 0)] (wX8 T hgw gw) sz) (zQi D T r (wX8 T hgw gw) (wX8 T hgw gw) sz) 0 0 (va_A (wX8 T hgw gw) sz) := by
  unfold fX8_howManyShow at hf
  refine zStart [(0, .ref (hgw 0))] (by decide) rfl (Nat.le_of_ble_eq_true rfl) rfl ?_
  intro p e s m args below meth c A Q ls hx hb hr hml hown hlocks hts hsz hA0 hQ hA hK hX hP hD hS hl
  replace hown : s.vm.findClass RX8 = some m.cls := hown
  have hH := hsz
  have hiX8 : ∀ w ∈ u_ws RX8 TX8 14, w ∈ wsX8_howManyShow := fun w h => List.mem_cons_of_mem _ (List.mem_append_right _ (h))
  obtain ⟨H, hHe⟩ : ∃ H : Heap, H = s.heap := ⟨_, rfl⟩
  obtain ⟨locs, hLe⟩ : ∃ L : List Loc, L = [] := ⟨_, rfl⟩
  replace hP : va_P D vwCl (wX8 T hgw gw) H := by rw [hHe]; exact hP
  replace hS : va_S A s.heap H locs := by rw [hHe, hLe]; exact hS
  suffices hgo : W p l e rX8_howManyShow s m args below meth c H locs 0 0 Q (F0 m 0 ls []) by rw [hHe, hLe] at hgo; exact hgo
  clear hHe hLe
  refine lv_iconst (v := 0) hx hb dX8_howManyShow_0 (by decide) ?_
  refine lv_istore_n (lv' := [(1, .int 0), (0, .ref (hgw 0))]) hx hb dX8_howManyShow_1 rfl hl (by decide) rfl (fun ls hl => ?_)
  refine lv_iconst (v := 0) hx hb dX8_howManyShow_2 (by decide) ?_
  refine lv_istore_n (lv' := [(2, .int 0), (1, .int 0), (0, .ref (hgw 0))]) hx hb dX8_howManyShow_3 rfl hl (by decide) rfl (fun ls hl => ?_)
  obtain ⟨ex, hlp, hf⟩ := zB1_ok hf
  have hE4_30 : ∀ (v3 : Int32) , ex = v3 → ∀ (H : Heap) (locs : List Loc) (ls : Array Slot), va_P D vwCl (wX8 T hgw gw) H → va_D A (wX8 T hgw gw) → va_S A s.heap H locs → lv_has ls 3 [(1, .int v3)] → W p l e rX8_howManyShow s m args below meth c H locs 0 0 Q (F0 m 30 ls []) := by
    intro v3 hex H locs ls hP hD hS hl
    have hf := zEx1 hex hf
    refine lv_iload_n hx hb dX8_howManyShow_30 rfl (lv_at hl 0 rfl) ?_
    obtain ⟨q1, -⟩ := zI1 hf
    subst q1
    exact zRetI hQ hx hb hr hlocks hA0 hK hP hD hS rfl dX8_howManyShow_31
  refine zLpS2 (body := (fX8_howManyShow_L4 gw)) (b := ex) (fun (v1 : Int32) (v2 : Int32) => ∀ (H : Heap) (locs : List Loc) (ls : Array Slot), va_P D vwCl (wX8 T hgw gw) H → va_D A (wX8 T hgw gw) → va_S A s.heap H locs → lv_has ls 3 [(0, .ref (hgw 0)), (1, .int v1), (2, .int v2)] → W p l e rX8_howManyShow s m args below meth c H locs 0 0 Q (F0 m 4 ls [])) ?_ zFU 0 0 hlp H locs ls hP hD hS (lv_sub hl [2, 1, 0] rfl)
  intro v1 v2 z hf hzz H locs ls hP hD hS hl
  unfold fX8_howManyShow_L4 at hf
  replace hf := zUk2 hf
  refine lv_iload_n hx hb dX8_howManyShow_4 rfl (lv_at hl 2 rfl) ?_
  refine lv_aload_n hx hb dX8_howManyShow_5 rfl (lv_at hl 0 rfl) ?_
  refine zGet (ci := 8) (C := RX8) (F := TX8) (N := 14) (v := .int (gw 0 0)) hx hb hts hiX8 hown hK hP 0 0 1 rfl rfl (by decide) rfl rfl rfl dX8_howManyShow_6 ?_
  refine lv_icmp_ge (tgt := 30) hx hb dX8_howManyShow_9 (by decide) (fun hc => ?_) (fun hc => ?_)
  · replace hf := zIf_t hc hf
    cases hf
    exact hE4_30 v1 hzz.symm H locs ls hP hD hS (lv_sub hl [1] rfl)
  · replace hf := zIf_f hc hf
    refine lv_aload_n hx hb dX8_howManyShow_12 rfl (lv_at hl 0 rfl) ?_
    refine zGet (ci := 8) (C := RX8) (F := TX8) (N := 14) (v := .ref (hgw 2)) hx hb hts hiX8 hown hK hP 0 2 2 rfl rfl (by decide) rfl rfl rfl dX8_howManyShow_13 ?_
    refine lv_iload_n hx hb dX8_howManyShow_16 rfl (lv_at hl 2 rfl) ?_
    obtain ⟨hg, hf⟩ := zGd_ok hf
    refine zAldI hx hb hK hP 2 rfl hg dX8_howManyShow_17 (fun v4 ev4 => ?_)
    replace hf := zLt_at ev4 hf
    have hJ24 : ∀ (v5 : Int32) (H : Heap) (locs : List Loc) (ls : Array Slot), fX8_howManyShow_L4J24 v2 v5 = some z → va_P D vwCl (wX8 T hgw gw) H → va_D A (wX8 T hgw gw) → va_S A s.heap H locs → lv_has ls 3 [(0, .ref (hgw 0)), (1, .int v5), (2, .int v2)] → W p l e rX8_howManyShow s m args below meth c H locs 0 0 Q (F0 m 24 ls []) := by
      intro v5 H locs ls hf hP hD hS hl
      unfold fX8_howManyShow_L4J24 at hf
      obtain ⟨v6, ev6⟩ : ∃ y : Int32, y = v2 + 1 := ⟨_, rfl⟩
      replace hf := zLt_at ev6 hf
      refine lv_iinc (v := v6) (lv' := [(2, .int v6), (0, .ref (hgw 0)), (1, .int v5)]) hx hb dX8_howManyShow_24 hl (k := 2) rfl (by rw [ev6]; rfl) (by decide) rfl (fun ls hl => ?_)
      refine lv_goto (tgt := 4) hx hb dX8_howManyShow_27 (by decide) ?_
      cases hf
      exact hzz H locs ls hP hD hS (lv_sub hl [1, 2, 0] rfl)
    refine lv_if_lt (tgt := 24) hx hb dX8_howManyShow_18 (by decide) (fun hc => ?_) (fun hc => ?_)
    · replace hf := zIf_t hc hf
      exact hJ24 v1 H locs ls hf hP hD hS hl
    · replace hf := zIf_f hc hf
      obtain ⟨v7, ev7⟩ : ∃ y : Int32, y = v1 + 1 := ⟨_, rfl⟩
      replace hf := zLt_at ev7 hf
      refine lv_iinc (v := v7) (lv' := [(1, .int v7), (0, .ref (hgw 0)), (2, .int v2)]) hx hb dX8_howManyShow_21 hl (k := 1) rfl (by rw [ev7]; rfl) (by decide) rfl (fun ls hl => ?_)
      exact hJ24 v7 H locs ls hf hP hD hS (lv_sub hl [1, 0, 2] rfl)
set_option maxHeartbeats 4000000 in
set_option maxRecDepth 100000 in
theorem pX8_kindAbove (l : Launch) (D : va_G) (T : Nat → ClassId) (X : zFP) (sz : Nat) (a1 : Int32) (r : Int32) (hf : fX8_kindAbove a1 = some r) : Met l yX8_kindAbove wsX8_kindAbove rX8_kindAbove (zPre D T X [.int a1] ([]) sz) (zQi D T r ([]) ([]) sz) 0 0 (va_A ([]) sz) := by
  unfold fX8_kindAbove at hf
  refine zStart [(0, .int a1)] (by decide) rfl (Nat.le_of_ble_eq_true rfl) rfl ?_
  intro p e s m args below meth c A Q ls hx hb hr hml hown hlocks hts hsz hA0 hQ hA hK hX hP hD hS hl
  replace hown : s.vm.findClass RX8 = some m.cls := hown
  have hH := hsz
  obtain ⟨H, hHe⟩ : ∃ H : Heap, H = s.heap := ⟨_, rfl⟩
  obtain ⟨locs, hLe⟩ : ∃ L : List Loc, L = [] := ⟨_, rfl⟩
  replace hP : va_P D vwCl ([]) H := by rw [hHe]; exact hP
  replace hS : va_S A s.heap H locs := by rw [hHe, hLe]; exact hS
  suffices hgo : W p l e rX8_kindAbove s m args below meth c H locs 0 0 Q (F0 m 0 ls []) by rw [hHe, hLe] at hgo; exact hgo
  clear hHe hLe
  refine lv_iload_n hx hb dX8_kindAbove_0 rfl (lv_at hl 0 rfl) ?_
  refine lv_if_le (tgt := 20) hx hb dX8_kindAbove_1 (by decide) (fun hc => ?_) (fun hc => ?_)
  · replace hf := zIf_t hc hf
    refine lv_iconst (v := (-1)) hx hb dX8_kindAbove_20 (by decide) ?_
    obtain ⟨q1, -⟩ := zI1 hf
    subst q1
    exact zRetI hQ hx hb hr hlocks hA0 hK hP hD hS rfl dX8_kindAbove_21
  · replace hf := zIf_f hc hf
    refine lv_iload_n hx hb dX8_kindAbove_4 rfl (lv_at hl 0 rfl) ?_
    refine va_gets hx hb hX.1 hS hown (hts _ (List.mem_of_getElem? (i := 1) rfl)) (fun _ h => h) dX8_kindAbove_5 ?_
    refine va_tlen (v := 7) hx hb hX.2.1 hS rfl dX8_kindAbove_8 ?_
    refine lv_icmp_ge (tgt := 20) hx hb dX8_kindAbove_9 (by decide) (fun hc => ?_) (fun hc => ?_)
    · replace hf := zIf_t hc hf
      refine lv_iconst (v := (-1)) hx hb dX8_kindAbove_20 (by decide) ?_
      obtain ⟨q1, -⟩ := zI1 hf
      subst q1
      exact zRetI hQ hx hb hr hlocks hA0 hK hP hD hS rfl dX8_kindAbove_21
    · replace hf := zIf_f hc hf
      refine va_gets hx hb hX.1 hS hown (hts _ (List.mem_of_getElem? (i := 1) rfl)) (fun _ h => h) dX8_kindAbove_12 ?_
      refine lv_iload_n hx hb dX8_kindAbove_15 rfl (lv_at hl 0 rfl) ?_
      obtain ⟨hg, hf⟩ := zGd_ok hf
      refine va_ti (v := .int (zKaI a1.toNatClampNeg)) hx hb hX.2.1 hS (zIn_ok hg) rfl dX8_kindAbove_16 ?_
      refine lv_topi (fun v1 ev1 => ?_)
      replace hf := zLt_at ev1 hf
      refine lv_goto (tgt := 21) hx hb dX8_kindAbove_17 (by decide) ?_
      obtain ⟨q1, -⟩ := zI1 hf
      subst q1
      exact zRetI hQ hx hb hr hlocks hA0 hK hP hD hS rfl dX8_kindAbove_21
set_option maxHeartbeats 4000000 in
set_option maxRecDepth 100000 in
theorem pX8_isUnder (l : Launch) (D : va_G) (T : Nat → ClassId) (X : zFP) (sz : Nat) (a1 : Int32) (a2 : Int32) (r : Int32) (hf : fX8_isUnder a1 a2 = some r) : Met l yX8_isUnder wsX8_isUnder rX8_isUnder (zPre D T X [.int a1, .int a2] ([]) sz) (zQi D T r ([]) ([]) sz) 0 0 (va_A ([]) sz) := by
  unfold fX8_isUnder at hf
  refine zStart [(0, .int a1), (1, .int a2)] (by decide) rfl (Nat.le_of_ble_eq_true rfl) rfl ?_
  intro p e s m args below meth c A Q ls hx hb hr hml hown hlocks hts hsz hA0 hQ hA hK hX hP hD hS hl
  replace hown : s.vm.findClass RX8 = some m.cls := hown
  have hH := hsz
  obtain ⟨H, hHe⟩ : ∃ H : Heap, H = s.heap := ⟨_, rfl⟩
  obtain ⟨locs, hLe⟩ : ∃ L : List Loc, L = [] := ⟨_, rfl⟩
  replace hP : va_P D vwCl ([]) H := by rw [hHe]; exact hP
  replace hS : va_S A s.heap H locs := by rw [hHe, hLe]; exact hS
  suffices hgo : W p l e rX8_isUnder s m args below meth c H locs 0 0 Q (F0 m 0 ls []) by rw [hHe, hLe] at hgo; exact hgo
  clear hHe hLe
  refine lv_iload_n hx hb dX8_isUnder_0 rfl (lv_at hl 0 rfl) ?_
  refine lv_istore_n (lv' := [(2, .int a1), (0, .int a1), (1, .int a2)]) hx hb dX8_isUnder_1 rfl hl (by decide) rfl (fun ls hl => ?_)
  refine lv_iconst (v := 0) hx hb dX8_isUnder_2 (by decide) ?_
  refine lv_istore_n (lv' := [(3, .int 0), (2, .int a1), (0, .int a1), (1, .int a2)]) hx hb dX8_isUnder_3 rfl hl (by decide) rfl (fun ls hl => ?_)
  obtain ⟨ex, hlp, hf⟩ := zB1_ok hf
  have hE4_34 : ex = (.inl ()) → ∀ (H : Heap) (locs : List Loc) (ls : Array Slot), va_P D vwCl ([]) H → va_D A ([]) → va_S A s.heap H locs → lv_has ls 4 [] → W p l e rX8_isUnder s m args below meth c H locs 0 0 Q (F0 m 34 ls []) := by
    intro hex H locs ls hP hD hS hl
    have hf := zExL0 hex hf
    refine lv_iconst (v := 0) hx hb dX8_isUnder_34 (by decide) ?_
    obtain ⟨q1, -⟩ := zI1 hf
    subst q1
    exact zRetZ hQ hx hb hr hlocks hA0 hK hP hD hS (by decide) rfl dX8_isUnder_35
  have hE4_21 : ex = (.inr ()) → ∀ (H : Heap) (locs : List Loc) (ls : Array Slot), va_P D vwCl ([]) H → va_D A ([]) → va_S A s.heap H locs → lv_has ls 4 [] → W p l e rX8_isUnder s m args below meth c H locs 0 0 Q (F0 m 21 ls []) := by
    intro hex H locs ls hP hD hS hl
    have hf := zSmR hex hf
    have hf := zEx0 rfl hf
    refine lv_iconst (v := 1) hx hb dX8_isUnder_21 (by decide) ?_
    obtain ⟨q1, -⟩ := zI1 hf
    subst q1
    exact zRetZ hQ hx hb hr hlocks hA0 hK hP hD hS (by decide) rfl dX8_isUnder_22
  refine zLpS2 (body := (fX8_isUnder_L4 a2)) (b := ex) (fun (v1 : Int32) (v2 : Int32) => ∀ (H : Heap) (locs : List Loc) (ls : Array Slot), va_P D vwCl ([]) H → va_D A ([]) → va_S A s.heap H locs → lv_has ls 4 [(1, .int a2), (2, .int v1), (3, .int v2)] → W p l e rX8_isUnder s m args below meth c H locs 0 0 Q (F0 m 4 ls [])) ?_ zFU a1 0 hlp H locs ls hP hD hS (lv_sub hl [3, 1, 0] rfl)
  intro v1 v2 z hf hzz H locs ls hP hD hS hl
  unfold fX8_isUnder_L4 at hf
  replace hf := zUk2 hf
  refine lv_iload_n hx hb dX8_isUnder_4 rfl (lv_at hl 2 rfl) ?_
  refine va_gets hx hb hX.1 hS hown (hts _ (List.mem_of_getElem? (i := 1) rfl)) (fun _ h => h) dX8_isUnder_5 ?_
  refine va_tlen (v := 7) hx hb hX.2.1 hS rfl dX8_isUnder_8 ?_
  refine lv_icmp_ge (tgt := 34) hx hb dX8_isUnder_9 (by decide) (fun hc => ?_) (fun hc => ?_)
  · replace hf := zIf_t hc hf
    cases hf
    exact hE4_34 hzz.symm H locs ls hP hD hS (lv_sub hl [] rfl)
  · replace hf := zIf_f hc hf
    refine lv_iload_n hx hb dX8_isUnder_12 rfl (lv_at hl 1 rfl) ?_
    refine lv_if_lt (tgt := 34) hx hb dX8_isUnder_13 (by decide) (fun hc => ?_) (fun hc => ?_)
    · replace hf := zIf_t hc hf
      cases hf
      exact hE4_34 hzz.symm H locs ls hP hD hS (lv_sub hl [] rfl)
    · replace hf := zIf_f hc hf
      refine lv_iload_n hx hb dX8_isUnder_16 rfl (lv_at hl 1 rfl) ?_
      refine lv_iload_n hx hb dX8_isUnder_17 rfl (lv_at hl 0 rfl) ?_
      refine lv_icmp_ne (tgt := 23) hx hb dX8_isUnder_18 (by decide) (fun hc => ?_) (fun hc => ?_)
      · replace hf := zIf_f hc hf
        refine lv_iload_n hx hb dX8_isUnder_23 rfl (lv_at hl 1 rfl) ?_
        obtain ⟨v3, hc24, hf⟩ := zB1_ok hf
        refine zCallS0I [.int v1] ⟨hx, hb, hml, hown, hts⟩ (pX8_kindAbove l D T X H.size v1 v3 hc24) (va_cwS 1 hts gX8_isUnder_X8_kindAbove rfl rfl rfl (by decide +kernel) ⟨Nat.le_of_ble_eq_true rfl, Nat.le_of_ble_eq_true rfl⟩) hK hP hD hS hA hX rfl hl.1 rfl (Nat.le_of_ble_eq_true rfl) dX8_isUnder_24 ⟨Nat.zero_le _, Nat.zero_le _⟩ (fun H locs hP hD hS => ?_)
        refine lv_istore_n (lv' := [(2, .int v3), (1, .int a2), (3, .int v2)]) hx hb dX8_isUnder_27 rfl hl (by decide) rfl (fun ls hl => ?_)
        obtain ⟨v4, ev4⟩ : ∃ y : Int32, y = v2 + 1 := ⟨_, rfl⟩
        replace hf := zLt_at ev4 hf
        refine lv_iinc (v := v4) (lv' := [(3, .int v4), (2, .int v3), (1, .int a2)]) hx hb dX8_isUnder_28 hl (k := 2) rfl (by rw [ev4]; rfl) (by decide) rfl (fun ls hl => ?_)
        refine lv_goto (tgt := 4) hx hb dX8_isUnder_31 (by decide) ?_
        cases hf
        exact hzz H locs ls hP hD hS (lv_sub hl [2, 1, 0] rfl)
      · replace hf := zIf_t hc hf
        cases hf
        exact hE4_21 hzz.symm H locs ls hP hD hS (lv_sub hl [] rfl)
set_option maxHeartbeats 4000000 in
set_option maxRecDepth 100000 in
theorem pX9_feed (l : Launch) (D : va_G) (T : Nat → ClassId) (X : zFP) (ad : Nat → Nat → Nat) (sz : Nat) (gx : zM) (gt : zM) (a1 : Int64) (a2 : Int32) (r : Int32) (ngt : zM) (hf : fX9_feed gx gt a1 a2 = some (r, ngt)) : Met l yX9_feed wsX9_feed rX9_feed (zPre D T X [.ref (ad 0 0), .long a1, .int a2] (wX9 T ad gx ++ wX7 T (ad 4) gt) sz) (zQi D T r (wX9 T ad gx ++ wX7 T (ad 4) ngt) (wX9 T ad gx ++ wX7 T (ad 4) gt) sz) 0 0 (va_A (wX9 T ad gx ++ wX7 T (ad 4) gt) sz) := by
  unfold fX9_feed at hf
  refine zStart [(0, .ref (ad 0 0)), (1, .long a1), (3, .int a2)] (by decide) rfl (Nat.le_of_ble_eq_true rfl) rfl ?_
  intro p e s m args below meth c A Q ls hx hb hr hml hown hlocks hts hsz hA0 hQ hA hK hX hP hD hS hl
  replace hown : s.vm.findClass RX9 = some m.cls := hown
  have hH := hsz
  have hiX7 : ∀ w ∈ u_ws RX7 TX7 6, w ∈ wsX9_feed := fun w h => List.mem_cons_of_mem _ (List.mem_append_right _ (h))
  have hiX9 : ∀ w ∈ u_ws RX9 TX9 12, w ∈ wsX9_feed := fun w h => List.mem_cons_of_mem _ (List.mem_append_left _ (List.mem_append_right _ (h)))
  obtain ⟨H, hHe⟩ : ∃ H : Heap, H = s.heap := ⟨_, rfl⟩
  obtain ⟨locs, hLe⟩ : ∃ L : List Loc, L = [] := ⟨_, rfl⟩
  replace hP : va_P D vwCl (wX9 T ad gx ++ wX7 T (ad 4) gt) H := by rw [hHe]; exact hP
  replace hS : va_S A s.heap H locs := by rw [hHe, hLe]; exact hS
  suffices hgo : W p l e rX9_feed s m args below meth c H locs 0 0 Q (F0 m 0 ls []) by rw [hHe, hLe] at hgo; exact hgo
  clear hHe hLe
  refine lv_iload_n hx hb dX9_feed_0 rfl (lv_at hl 2 rfl) ?_
  refine lv_iconst (v := 1) hx hb dX9_feed_1 (by decide) ?_
  refine lv_icmp_lt (tgt := 11) hx hb dX9_feed_2 (by decide) (fun hc => ?_) (fun hc => ?_)
  · replace hf := zIf_t hc hf
    refine lv_iconst (v := (-1)) hx hb dX9_feed_11 (by decide) ?_
    obtain ⟨q1, q2⟩ := zI2 hf
    subst q1
    subst q2
    exact zRetI hQ hx hb hr hlocks hA0 hK hP hD hS rfl dX9_feed_12
  · replace hf := zIf_f hc hf
    refine lv_iload_n hx hb dX9_feed_5 rfl (lv_at hl 2 rfl) ?_
    refine lv_bipush (v := 8) hx hb dX9_feed_6 (by decide) ?_
    refine lv_icmp_le (tgt := 13) hx hb dX9_feed_8 (by decide) (fun hc => ?_) (fun hc => ?_)
    · replace hf := zIf_t hc hf
      refine lv_aload_n hx hb dX9_feed_13 rfl (lv_at hl 0 rfl) ?_
      refine zGet (ci := 9) (C := RX9) (F := TX9) (N := 12) (v := .ref (ad 4 0)) hx hb hts hiX9 hown hK hP 0 4 1 rfl rfl (by decide) rfl rfl rfl dX9_feed_14 ?_
      refine lv_lload_n hx hb dX9_feed_17 rfl (lv_at hl 1 rfl) ?_
      refine lv_iload_n hx hb dX9_feed_18 rfl (lv_at hl 2 rfl) ?_
      obtain ⟨v1, gt_2, hc19, hf⟩ := zB2_ok hf
      refine zCallVJI (wr := wX9 T ad gx) (ws' := wX9 T ad gx ++ wX7 T (ad 4) gt_2) [.long a1, .int a2] ⟨hx, hb, hml, hown, hts⟩ (pX7_take l D T X (ad 4) H.size gt a1 a2 v1 gt_2 hc19) (cwV 2 hts gX9_feed_X7_take rfl rfl rfl (by decide +kernel) ⟨Nat.le_of_ble_eq_true rfl, Nat.le_of_ble_eq_true rfl⟩) hK hP hD hS hA hX [1, 2] [0] [0, 1, 2] rfl rfl rfl rfl 0 rfl rfl rfl hl.1 rfl (Nat.le_of_ble_eq_true rfl) dX9_feed_19 ⟨Nat.zero_le _, Nat.zero_le _⟩ (fun H locs hP hD hS => ?_)
      refine lv_if_eq (tgt := 35) hx hb dX9_feed_22 (by decide) (fun hc => ?_) (fun hc => ?_)
      · replace hf := zIf_t hc hf
        refine lv_bipush (v := (-2)) hx hb dX9_feed_35 (by decide) ?_
        obtain ⟨q1, q2⟩ := zI2 hf
        subst q1
        subst q2
        exact zRetI hQ hx hb hr hlocks hA0 hK hP hD hS rfl dX9_feed_37
      · replace hf := zIf_f hc hf
        refine lv_aload_n hx hb dX9_feed_25 rfl (lv_at hl 0 rfl) ?_
        refine zGet (ci := 9) (C := RX9) (F := TX9) (N := 12) (v := .ref (ad 4 0)) hx hb hts hiX9 hown hK hP 0 4 1 rfl rfl (by decide) rfl rfl rfl dX9_feed_26 ?_
        refine zGet (ci := 7) (C := RX7) (F := TX7) (N := 6) (v := .int (gt_2 0 1)) hx hb hts hiX7 hown hK hP 1 1 2 rfl rfl (by decide) rfl rfl rfl dX9_feed_29 ?_
        refine lv_goto (tgt := 37) hx hb dX9_feed_32 (by decide) ?_
        obtain ⟨q1, q2⟩ := zI2 hf
        subst q1
        subst q2
        exact zRetI hQ hx hb hr hlocks hA0 hK hP hD hS rfl dX9_feed_37
    · replace hf := zIf_f hc hf
      refine lv_iconst (v := (-1)) hx hb dX9_feed_11 (by decide) ?_
      obtain ⟨q1, q2⟩ := zI2 hf
      subst q1
      subst q2
      exact zRetI hQ hx hb hr hlocks hA0 hK hP hD hS rfl dX9_feed_12
set_option maxHeartbeats 4000000 in
set_option maxRecDepth 100000 in
theorem pX9_works (l : Launch) (D : va_G) (T : Nat → ClassId) (X : zFP) (ad : Nat → Nat → Nat) (sz : Nat) (gx : zM) (gow : zM) (god : zM) (gt : zM) (gr : zM) (r : Int32) (ngow : zM) (ngod : zM) (ngt : zM) (ngr : zM) (hf : fX9_works gx gow god gt gr = some (r, ngow, ngod, ngt, ngr)) : Met l yX9_works wsX9_works rX9_works (zPre D T X [.ref (ad 0 0)] (wX9 T ad gx ++ wX8 T (ad 1) gow ++ wX8 T (ad 2) god ++ wX7 T (ad 4) gt ++ wX5 T (ad 9) gr) sz) (zQi D T r (wX9 T ad gx ++ wX8 T (ad 1) ngow ++ wX8 T (ad 2) ngod ++ wX7 T (ad 4) ngt ++ wX5 T (ad 9) ngr) (wX9 T ad gx ++ wX8 T (ad 1) gow ++ wX8 T (ad 2) god ++ wX7 T (ad 4) gt ++ wX5 T (ad 9) gr) sz) 0 0 (va_A (wX9 T ad gx ++ wX8 T (ad 1) gow ++ wX8 T (ad 2) god ++ wX7 T (ad 4) gt ++ wX5 T (ad 9) gr) sz) := by
  unfold fX9_works at hf
  refine zStart [(0, .ref (ad 0 0))] (by decide) rfl (Nat.le_of_ble_eq_true rfl) rfl ?_
  intro p e s m args below meth c A Q ls hx hb hr hml hown hlocks hts hsz hA0 hQ hA hK hX hP hD hS hl
  replace hown : s.vm.findClass RX9 = some m.cls := hown
  have hH := hsz
  have hiX5 : ∀ w ∈ u_ws RX5 TX5 2, w ∈ wsX9_works := fun w h => List.mem_cons_of_mem _ (List.mem_append_right _ (h))
  have hiX7 : ∀ w ∈ u_ws RX7 TX7 6, w ∈ wsX9_works := fun w h => List.mem_cons_of_mem _ (List.mem_append_left _ (List.mem_append_left _ (List.mem_append_right _ (h))))
  have hiX8 : ∀ w ∈ u_ws RX8 TX8 14, w ∈ wsX9_works := fun w h => List.mem_cons_of_mem _ (List.mem_append_left _ (List.mem_append_right _ (h)))
  have hiX9 : ∀ w ∈ u_ws RX9 TX9 12, w ∈ wsX9_works := fun w h => List.mem_cons_of_mem _ (List.mem_append_left _ (List.mem_append_left _ (List.mem_append_left _ (List.mem_append_right _ (h)))))
  obtain ⟨H, hHe⟩ : ∃ H : Heap, H = s.heap := ⟨_, rfl⟩
  obtain ⟨locs, hLe⟩ : ∃ L : List Loc, L = [] := ⟨_, rfl⟩
  replace hP : va_P D vwCl (wX9 T ad gx ++ wX8 T (ad 1) gow ++ wX8 T (ad 2) god ++ wX7 T (ad 4) gt ++ wX5 T (ad 9) gr) H := by rw [hHe]; exact hP
  replace hS : va_S A s.heap H locs := by rw [hHe, hLe]; exact hS
  suffices hgo : W p l e rX9_works s m args below meth c H locs 0 0 Q (F0 m 0 ls []) by rw [hHe, hLe] at hgo; exact hgo
  clear hHe hLe
  refine lv_aload_n hx hb dX9_works_0 rfl (lv_at hl 0 rfl) ?_
  refine zGet (ci := 9) (C := RX9) (F := TX9) (N := 12) (v := .ref (ad 4 0)) hx hb hts hiX9 hown hK hP 0 4 1 rfl rfl (by decide) rfl rfl rfl dX9_works_1 ?_
  refine lv_aload_n hx hb dX9_works_4 rfl (lv_at hl 0 rfl) ?_
  refine zGet (ci := 9) (C := RX9) (F := TX9) (N := 12) (v := .ref (ad 2 0)) hx hb hts hiX9 hown hK hP 0 1 2 rfl rfl (by decide) rfl rfl rfl dX9_works_5 ?_
  obtain ⟨v1, gt_2, god_3, hc8, hf⟩ := zB3_ok hf
  refine zCallVJI (wr := wX9 T ad gx ++ wX8 T (ad 1) gow ++ wX5 T (ad 9) gr) (ws' := wX9 T ad gx ++ wX8 T (ad 1) gow ++ wX8 T (ad 2) god_3 ++ wX7 T (ad 4) gt_2 ++ wX5 T (ad 9) gr) [.ref (ad 2 0)] ⟨hx, hb, hml, hown, hts⟩ (pX7_isReadInto l D T X (ad 4) (ad 2) H.size gt god v1 gt_2 god_3 hc8) (cwV 1 hts gX9_works_X7_isReadInto rfl rfl rfl (by decide +kernel) ⟨Nat.le_of_ble_eq_true rfl, Nat.le_of_ble_eq_true rfl⟩) hK hP hD hS hA hX [23, 24, 12, 13, 14, 15, 16, 17, 18, 19, 20, 21, 22] [0, 1, 2, 3, 4, 5, 6, 7, 8, 9, 10, 11, 25, 26, 27, 28, 29, 30, 31, 32, 33, 34, 35, 36] [0, 1, 2, 3, 4, 5, 6, 7, 8, 9, 10, 11, 26, 27, 28, 29, 30, 31, 32, 33, 34, 35, 36, 24, 25, 12, 13, 14, 15, 16, 17, 18, 19, 20, 21, 22, 23] rfl rfl rfl rfl 0 rfl rfl rfl hl.1 rfl (Nat.le_of_ble_eq_true rfl) dX9_works_8 ⟨Nat.zero_le _, Nat.zero_le _⟩ (fun H locs hP hD hS => ?_)
  refine lv_istore_n (lv' := [(1, .int v1), (0, .ref (ad 0 0))]) hx hb dX9_works_11 rfl hl (by decide) rfl (fun ls hl => ?_)
  refine lv_aload_n hx hb dX9_works_12 rfl (lv_at hl 1 rfl) ?_
  refine zGet (ci := 9) (C := RX9) (F := TX9) (N := 12) (v := .ref (ad 4 0)) hx hb hts hiX9 hown hK hP 0 4 1 rfl rfl (by decide) rfl rfl rfl dX9_works_13 ?_
  refine lv_iconst (v := 0) hx hb dX9_works_16 (by decide) ?_
  refine zPut (ci := 7) (C := RX7) (F := TX7) (N := 6) (x := 0) (w := gt_2) hx hb hts hiX7 tyX7 tyX7_ok nmX7 hown hK hP hD hS (fun g => wX9 T ad gx ++ wX8 T (ad 1) gow ++ wX8 T (ad 2) god_3 ++ wX7 T (ad 4) g ++ wX5 T (ad 9) gr) 23 1 3 rfl rfl (by decide) rfl rfl rfl ⟨rfl, rfl⟩ (Nat.le_of_ble_eq_true rfl) rfl dX9_works_17 (fun gt_4 egt_4 H locs hP hD hS => ?_)
  replace hP : va_P D vwCl (wX9 T ad gx ++ wX8 T (ad 1) gow ++ wX8 T (ad 2) god_3 ++ wX7 T (ad 4) gt_4 ++ wX5 T (ad 9) gr) H := hP
  replace hD : va_D A (wX9 T ad gx ++ wX8 T (ad 1) gow ++ wX8 T (ad 2) god_3 ++ wX7 T (ad 4) gt_4 ++ wX5 T (ad 9) gr) := hD
  replace hf := zLt_at egt_4 hf
  refine lv_iload_n hx hb dX9_works_20 rfl (lv_at hl 0 rfl) ?_
  refine lv_if_ne (tgt := 35) hx hb dX9_works_21 (by decide) (fun hc => ?_) (fun hc => ?_)
  · replace hf := zIf_f hc hf
    refine lv_aload_n hx hb dX9_works_35 rfl (lv_at hl 1 rfl) ?_
    refine zGet (ci := 9) (C := RX9) (F := TX9) (N := 12) (v := .ref (ad 2 0)) hx hb hts hiX9 hown hK hP 0 1 2 rfl rfl (by decide) rfl rfl rfl dX9_works_36 ?_
    refine lv_aload_n hx hb dX9_works_39 rfl (lv_at hl 1 rfl) ?_
    refine zGet (ci := 9) (C := RX9) (F := TX9) (N := 12) (v := .ref (ad 1 0)) hx hb hts hiX9 hown hK hP 0 0 5 rfl rfl (by decide) rfl rfl rfl dX9_works_40 ?_
    refine zGet (ci := 8) (C := RX8) (F := TX8) (N := 14) (v := .int (gow 0 13)) hx hb hts hiX8 hown hK hP 1 13 6 rfl rfl (by decide) rfl rfl rfl dX9_works_43 ?_
    refine lv_topi (fun v5 ev5 => ?_)
    replace hf := zLt_at ev5 hf
    refine zPut (ci := 8) (C := RX8) (F := TX8) (N := 14) (x := v5) (w := god_3) hx hb hts hiX8 tyX8 tyX8_ok nmX8 hown hK hP hD hS (fun g => wX9 T ad gx ++ wX8 T (ad 1) gow ++ wX8 T (ad 2) g ++ wX7 T (ad 4) gt_4 ++ wX5 T (ad 9) gr) 12 13 6 rfl rfl (by decide) rfl rfl rfl ⟨rfl, rfl⟩ (Nat.le_of_ble_eq_true rfl) rfl dX9_works_46 (fun god_6 egod_6 H locs hP hD hS => ?_)
    replace hP : va_P D vwCl (wX9 T ad gx ++ wX8 T (ad 1) gow ++ wX8 T (ad 2) god_6 ++ wX7 T (ad 4) gt_4 ++ wX5 T (ad 9) gr) H := hP
    replace hD : va_D A (wX9 T ad gx ++ wX8 T (ad 1) gow ++ wX8 T (ad 2) god_6 ++ wX7 T (ad 4) gt_4 ++ wX5 T (ad 9) gr) := hD
    replace hf := zLt_at egod_6 hf
    refine lv_aload_n hx hb dX9_works_49 rfl (lv_at hl 1 rfl) ?_
    refine zGet (ci := 9) (C := RX9) (F := TX9) (N := 12) (v := .ref (ad 1 0)) hx hb hts hiX9 hown hK hP 0 0 5 rfl rfl (by decide) rfl rfl rfl dX9_works_50 ?_
    refine lv_aload_n hx hb dX9_works_53 rfl (lv_at hl 1 rfl) ?_
    refine zGet (ci := 9) (C := RX9) (F := TX9) (N := 12) (v := .ref (ad 2 0)) hx hb hts hiX9 hown hK hP 0 1 2 rfl rfl (by decide) rfl rfl rfl dX9_works_54 ?_
    obtain ⟨gow_7, hc57, hf⟩ := zB1_ok hf
    refine zCallVJV (wr := wX9 T ad gx ++ wX7 T (ad 4) gt_4 ++ wX5 T (ad 9) gr) (ws' := wX9 T ad gx ++ wX8 T (ad 1) gow_7 ++ wX8 T (ad 2) god_6 ++ wX7 T (ad 4) gt_4 ++ wX5 T (ad 9) gr) [.ref (ad 2 0)] ⟨hx, hb, hml, hown, hts⟩ (pX8_become l D T X (ad 1) (ad 2) H.size gow god_6 gow_7 hc57) (cwV 1 hts gX9_works_X8_become rfl rfl rfl (by decide +kernel) ⟨Nat.le_of_ble_eq_true rfl, Nat.le_of_ble_eq_true rfl⟩) hK hP hD hS hA hX [1, 2, 3, 4, 5, 6, 7, 8, 9, 10, 11, 12, 13, 14, 15, 16, 17, 18, 19, 20, 21, 22] [0, 23, 24, 25, 26, 27, 28, 29, 30, 31, 32, 33, 34, 35, 36] [0, 15, 16, 17, 18, 19, 20, 21, 22, 23, 24, 25, 26, 27, 28, 29, 30, 31, 32, 33, 34, 35, 36, 1, 2, 3, 4, 5, 6, 7, 8, 9, 10, 11, 12, 13, 14] rfl rfl rfl rfl 0 rfl rfl rfl hl.1 rfl (Nat.le_of_ble_eq_true rfl) dX9_works_57 ⟨Nat.zero_le _, Nat.zero_le _⟩ (fun H locs hP hD hS => ?_)
    refine lv_aload_n hx hb dX9_works_60 rfl (lv_at hl 1 rfl) ?_
    refine zGet (ci := 9) (C := RX9) (F := TX9) (N := 12) (v := .ref (ad 9 0)) hx hb hts hiX9 hown hK hP 0 9 7 rfl rfl (by decide) rfl rfl rfl dX9_works_61 ?_
    refine lv_iconst (v := 0) hx hb dX9_works_64 (by decide) ?_
    refine zPut (ci := 5) (C := RX5) (F := TX5) (N := 2) (x := 0) (w := gr) hx hb hts hiX5 tyX5 tyX5_ok nmX5 hown hK hP hD hS (fun g => wX9 T ad gx ++ wX8 T (ad 1) gow_7 ++ wX8 T (ad 2) god_6 ++ wX7 T (ad 4) gt_4 ++ wX5 T (ad 9) g) 25 1 8 rfl rfl (by decide) rfl rfl rfl ⟨rfl, rfl⟩ (Nat.le_of_ble_eq_true rfl) rfl dX9_works_65 (fun gr_8 egr_8 H locs hP hD hS => ?_)
    replace hP : va_P D vwCl (wX9 T ad gx ++ wX8 T (ad 1) gow_7 ++ wX8 T (ad 2) god_6 ++ wX7 T (ad 4) gt_4 ++ wX5 T (ad 9) gr_8) H := hP
    replace hD : va_D A (wX9 T ad gx ++ wX8 T (ad 1) gow_7 ++ wX8 T (ad 2) god_6 ++ wX7 T (ad 4) gt_4 ++ wX5 T (ad 9) gr_8) := hD
    replace hf := zLt_at egr_8 hf
    refine lv_aload_n hx hb dX9_works_68 rfl (lv_at hl 1 rfl) ?_
    refine zGet (ci := 9) (C := RX9) (F := TX9) (N := 12) (v := .ref (ad 1 0)) hx hb hts hiX9 hown hK hP 0 0 5 rfl rfl (by decide) rfl rfl rfl dX9_works_69 ?_
    refine zGet (ci := 8) (C := RX8) (F := TX8) (N := 14) (v := .int (gow_7 0 3)) hx hb hts hiX8 hown hK hP 1 3 9 rfl rfl (by decide) rfl rfl rfl dX9_works_72 ?_
    obtain ⟨q1, q2, q3, q4, q5⟩ := zI5 hf
    subst q1
    subst q2
    subst q3
    subst q4
    subst q5
    exact zRetI hQ hx hb hr hlocks hA0 hK hP hD hS rfl dX9_works_75
  · replace hf := zIf_t hc hf
    refine lv_bipush (v := (-100)) hx hb dX9_works_24 (by decide) ?_
    refine lv_aload_n hx hb dX9_works_26 rfl (lv_at hl 1 rfl) ?_
    refine zGet (ci := 9) (C := RX9) (F := TX9) (N := 12) (v := .ref (ad 4 0)) hx hb hts hiX9 hown hK hP 0 4 1 rfl rfl (by decide) rfl rfl rfl dX9_works_27 ?_
    refine zGet (ci := 7) (C := RX7) (F := TX7) (N := 6) (v := .int (gt_4 0 2)) hx hb hts hiX7 hown hK hP 23 2 4 rfl rfl (by decide) rfl rfl rfl dX9_works_30 ?_
    refine lv_isub hx hb dX9_works_33 ?_
    obtain ⟨q1, q2, q3, q4, q5⟩ := zI5 hf
    subst q1
    subst q2
    subst q3
    subst q4
    subst q5
    exact zRetI hQ hx hb hr hlocks hA0 hK hP hD hS rfl dX9_works_34
set_option maxHeartbeats 4000000 in
set_option maxRecDepth 100000 in
theorem pX9_people (l : Launch) (D : va_G) (T : Nat → ClassId) (X : zFP) (ad : Nat → Nat → Nat) (sz : Nat) (gx : zM) (gow : zM) (gr : zM) (a1 : Int32) (r : Int32) (ngow : zM) (ngr : zM) (hf : fX9_people gx gow gr a1 = some (r, ngow, ngr)) : Met l yX9_people wsX9_people rX9_people (zPre D T X [.ref (ad 0 0), .int a1] (wX9 T ad gx ++ wX8 T (ad 1) gow ++ wX5 T (ad 9) gr) sz) (zQi D T r (wX9 T ad gx ++ wX8 T (ad 1) ngow ++ wX5 T (ad 9) ngr) (wX9 T ad gx ++ wX8 T (ad 1) gow ++ wX5 T (ad 9) gr) sz) 0 0 (va_A (wX9 T ad gx ++ wX8 T (ad 1) gow ++ wX5 T (ad 9) gr) sz) := by
  unfold fX9_people at hf
  refine zStart [(0, .ref (ad 0 0)), (1, .int a1)] (by decide) rfl (Nat.le_of_ble_eq_true rfl) rfl ?_
  intro p e s m args below meth c A Q ls hx hb hr hml hown hlocks hts hsz hA0 hQ hA hK hX hP hD hS hl
  replace hown : s.vm.findClass RX9 = some m.cls := hown
  have hH := hsz
  have hiX5 : ∀ w ∈ u_ws RX5 TX5 2, w ∈ wsX9_people := fun w h => List.mem_cons_of_mem _ (List.mem_append_left _ (List.mem_append_right _ (h)))
  have hiX9 : ∀ w ∈ u_ws RX9 TX9 12, w ∈ wsX9_people := fun w h => List.mem_cons_of_mem _ (List.mem_append_left _ (List.mem_append_left _ (List.mem_append_right _ (h))))
  obtain ⟨H, hHe⟩ : ∃ H : Heap, H = s.heap := ⟨_, rfl⟩
  obtain ⟨locs, hLe⟩ : ∃ L : List Loc, L = [] := ⟨_, rfl⟩
  replace hP : va_P D vwCl (wX9 T ad gx ++ wX8 T (ad 1) gow ++ wX5 T (ad 9) gr) H := by rw [hHe]; exact hP
  replace hS : va_S A s.heap H locs := by rw [hHe, hLe]; exact hS
  suffices hgo : W p l e rX9_people s m args below meth c H locs 0 0 Q (F0 m 0 ls []) by rw [hHe, hLe] at hgo; exact hgo
  clear hHe hLe
  refine lv_iload_n hx hb dX9_people_0 rfl (lv_at hl 1 rfl) ?_
  refine lv_iconst (v := 1) hx hb dX9_people_1 (by decide) ?_
  refine lv_icmp_lt (tgt := 11) hx hb dX9_people_2 (by decide) (fun hc => ?_) (fun hc => ?_)
  · replace hf := zIf_t hc hf
    refine lv_iconst (v := (-1)) hx hb dX9_people_11 (by decide) ?_
    obtain ⟨q1, q2, q3⟩ := zI3 hf
    subst q1
    subst q2
    subst q3
    exact zRetI hQ hx hb hr hlocks hA0 hK hP hD hS rfl dX9_people_12
  · replace hf := zIf_f hc hf
    refine lv_iload_n hx hb dX9_people_5 rfl (lv_at hl 1 rfl) ?_
    refine lv_bipush (v := 10) hx hb dX9_people_6 (by decide) ?_
    refine lv_icmp_le (tgt := 13) hx hb dX9_people_8 (by decide) (fun hc => ?_) (fun hc => ?_)
    · replace hf := zIf_t hc hf
      refine lv_aload_n hx hb dX9_people_13 rfl (lv_at hl 0 rfl) ?_
      refine zGet (ci := 9) (C := RX9) (F := TX9) (N := 12) (v := .ref (ad 1 0)) hx hb hts hiX9 hown hK hP 0 0 1 rfl rfl (by decide) rfl rfl rfl dX9_people_14 ?_
      refine lv_iload_n hx hb dX9_people_17 rfl (lv_at hl 1 rfl) ?_
      obtain ⟨gow_1, hc18, hf⟩ := zB1_ok hf
      refine zCallVJV (wr := wX9 T ad gx ++ wX5 T (ad 9) gr) (ws' := wX9 T ad gx ++ wX8 T (ad 1) gow_1 ++ wX5 T (ad 9) gr) [.int a1] ⟨hx, hb, hml, hown, hts⟩ (pX8_startWith l D T X (ad 1) H.size gow a1 gow_1 hc18) (cwV 1 hts gX9_people_X8_startWith rfl rfl rfl (by decide +kernel) ⟨Nat.le_of_ble_eq_true rfl, Nat.le_of_ble_eq_true rfl⟩) hK hP hD hS hA hX [1, 2, 3, 4, 5, 6, 7, 8, 9, 10, 11] [0, 12, 13, 14, 15, 16, 17, 18, 19, 20, 21, 22, 23] [0, 13, 14, 15, 16, 17, 18, 19, 20, 21, 22, 23, 1, 2, 3, 4, 5, 6, 7, 8, 9, 10, 11, 12] rfl rfl rfl rfl 0 rfl rfl rfl hl.1 rfl (Nat.le_of_ble_eq_true rfl) dX9_people_18 ⟨Nat.zero_le _, Nat.zero_le _⟩ (fun H locs hP hD hS => ?_)
      refine lv_aload_n hx hb dX9_people_21 rfl (lv_at hl 0 rfl) ?_
      refine zGet (ci := 9) (C := RX9) (F := TX9) (N := 12) (v := .ref (ad 9 0)) hx hb hts hiX9 hown hK hP 0 9 2 rfl rfl (by decide) rfl rfl rfl dX9_people_22 ?_
      refine lv_iconst (v := 0) hx hb dX9_people_25 (by decide) ?_
      refine zPut (ci := 5) (C := RX5) (F := TX5) (N := 2) (x := 0) (w := gr) hx hb hts hiX5 tyX5 tyX5_ok nmX5 hown hK hP hD hS (fun g => wX9 T ad gx ++ wX8 T (ad 1) gow_1 ++ wX5 T (ad 9) g) 12 1 3 rfl rfl (by decide) rfl rfl rfl ⟨rfl, rfl⟩ (Nat.le_of_ble_eq_true rfl) rfl dX9_people_26 (fun gr_2 egr_2 H locs hP hD hS => ?_)
      replace hP : va_P D vwCl (wX9 T ad gx ++ wX8 T (ad 1) gow_1 ++ wX5 T (ad 9) gr_2) H := hP
      replace hD : va_D A (wX9 T ad gx ++ wX8 T (ad 1) gow_1 ++ wX5 T (ad 9) gr_2) := hD
      replace hf := zLt_at egr_2 hf
      refine lv_iload_n hx hb dX9_people_29 rfl (lv_at hl 1 rfl) ?_
      obtain ⟨q1, q2, q3⟩ := zI3 hf
      subst q1
      subst q2
      subst q3
      exact zRetI hQ hx hb hr hlocks hA0 hK hP hD hS rfl dX9_people_30
    · replace hf := zIf_f hc hf
      refine lv_iconst (v := (-1)) hx hb dX9_people_11 (by decide) ?_
      obtain ⟨q1, q2, q3⟩ := zI3 hf
      subst q1
      subst q2
      subst q3
      exact zRetI hQ hx hb hr hlocks hA0 hK hP hD hS rfl dX9_people_12
set_option maxHeartbeats 4000000 in
set_option maxRecDepth 100000 in
theorem pX9_isPair (l : Launch) (D : va_G) (T : Nat → ClassId) (X : zFP) (ad : Nat → Nat → Nat) (sz : Nat) (gx : zM) (gow : zM) (a1 : Int32) (a2 : Int32) (r : Int32) (hf : fX9_isPair gx gow a1 a2 = some r) : Met l yX9_isPair wsX9_isPair rX9_isPair (zPre D T X [.ref (ad 0 0), .int a1, .int a2] (wX9 T ad gx ++ wX8 T (ad 1) gow) sz) (zQi D T r (wX9 T ad gx ++ wX8 T (ad 1) gow) (wX9 T ad gx ++ wX8 T (ad 1) gow) sz) 0 0 (va_A (wX9 T ad gx ++ wX8 T (ad 1) gow) sz) := by
  unfold fX9_isPair at hf
  refine zStart [(0, .ref (ad 0 0)), (1, .int a1), (2, .int a2)] (by decide) rfl (Nat.le_of_ble_eq_true rfl) rfl ?_
  intro p e s m args below meth c A Q ls hx hb hr hml hown hlocks hts hsz hA0 hQ hA hK hX hP hD hS hl
  replace hown : s.vm.findClass RX9 = some m.cls := hown
  have hH := hsz
  have hiX9 : ∀ w ∈ u_ws RX9 TX9 12, w ∈ wsX9_isPair := fun w h => List.mem_cons_of_mem _ (List.mem_append_left _ (List.mem_append_right _ (h)))
  obtain ⟨H, hHe⟩ : ∃ H : Heap, H = s.heap := ⟨_, rfl⟩
  obtain ⟨locs, hLe⟩ : ∃ L : List Loc, L = [] := ⟨_, rfl⟩
  replace hP : va_P D vwCl (wX9 T ad gx ++ wX8 T (ad 1) gow) H := by rw [hHe]; exact hP
  replace hS : va_S A s.heap H locs := by rw [hHe, hLe]; exact hS
  suffices hgo : W p l e rX9_isPair s m args below meth c H locs 0 0 Q (F0 m 0 ls []) by rw [hHe, hLe] at hgo; exact hgo
  clear hHe hLe
  refine lv_aload_n hx hb dX9_isPair_0 rfl (lv_at hl 0 rfl) ?_
  refine zGet (ci := 9) (C := RX9) (F := TX9) (N := 12) (v := .ref (ad 1 0)) hx hb hts hiX9 hown hK hP 0 0 1 rfl rfl (by decide) rfl rfl rfl dX9_isPair_1 ?_
  refine lv_iload_n hx hb dX9_isPair_4 rfl (lv_at hl 1 rfl) ?_
  obtain ⟨v1, hc5, hf⟩ := zB1_ok hf
  refine zCallVJI (wr := wX9 T ad gx) (ws' := wX9 T ad gx ++ wX8 T (ad 1) gow) [.int a1] ⟨hx, hb, hml, hown, hts⟩ (pX8_hasPerson l D T X (ad 1) H.size gow a1 v1 hc5) (cwV 1 hts gX9_isPair_X8_hasPerson rfl rfl rfl (by decide +kernel) ⟨Nat.le_of_ble_eq_true rfl, Nat.le_of_ble_eq_true rfl⟩) hK hP hD hS hA hX [1, 2, 3, 4, 5, 6, 7, 8, 9, 10, 11] [0] [0, 1, 2, 3, 4, 5, 6, 7, 8, 9, 10, 11] rfl rfl rfl rfl 0 rfl rfl rfl hl.1 rfl (Nat.le_of_ble_eq_true rfl) dX9_isPair_5 ⟨Nat.zero_le _, Nat.zero_le _⟩ (fun H locs hP hD hS => ?_)
  refine lv_if_eq (tgt := 31) hx hb dX9_isPair_8 (by decide) (fun hc => ?_) (fun hc => ?_)
  · replace hf := zIf_t hc hf
    refine lv_iconst (v := 0) hx hb dX9_isPair_31 (by decide) ?_
    obtain ⟨q1, -⟩ := zI1 hf
    subst q1
    exact zRetZ hQ hx hb hr hlocks hA0 hK hP hD hS (by decide) rfl dX9_isPair_32
  · replace hf := zIf_f hc hf
    refine lv_aload_n hx hb dX9_isPair_11 rfl (lv_at hl 0 rfl) ?_
    refine zGet (ci := 9) (C := RX9) (F := TX9) (N := 12) (v := .ref (ad 1 0)) hx hb hts hiX9 hown hK hP 0 0 1 rfl rfl (by decide) rfl rfl rfl dX9_isPair_12 ?_
    refine lv_iload_n hx hb dX9_isPair_15 rfl (lv_at hl 2 rfl) ?_
    obtain ⟨v2, hc16, hf⟩ := zB1_ok hf
    refine zCallVJI (wr := wX9 T ad gx) (ws' := wX9 T ad gx ++ wX8 T (ad 1) gow) [.int a2] ⟨hx, hb, hml, hown, hts⟩ (pX8_hasPerson l D T X (ad 1) H.size gow a2 v2 hc16) (cwV 1 hts gX9_isPair_X8_hasPerson rfl rfl rfl (by decide +kernel) ⟨Nat.le_of_ble_eq_true rfl, Nat.le_of_ble_eq_true rfl⟩) hK hP hD hS hA hX [1, 2, 3, 4, 5, 6, 7, 8, 9, 10, 11] [0] [0, 1, 2, 3, 4, 5, 6, 7, 8, 9, 10, 11] rfl rfl rfl rfl 0 rfl rfl rfl hl.1 rfl (Nat.le_of_ble_eq_true rfl) dX9_isPair_16 ⟨Nat.zero_le _, Nat.zero_le _⟩ (fun H locs hP hD hS => ?_)
    refine lv_if_eq (tgt := 31) hx hb dX9_isPair_19 (by decide) (fun hc => ?_) (fun hc => ?_)
    · replace hf := zIf_t hc hf
      refine lv_iconst (v := 0) hx hb dX9_isPair_31 (by decide) ?_
      obtain ⟨q1, -⟩ := zI1 hf
      subst q1
      exact zRetZ hQ hx hb hr hlocks hA0 hK hP hD hS (by decide) rfl dX9_isPair_32
    · replace hf := zIf_f hc hf
      refine lv_iload_n hx hb dX9_isPair_22 rfl (lv_at hl 1 rfl) ?_
      refine lv_iload_n hx hb dX9_isPair_23 rfl (lv_at hl 2 rfl) ?_
      refine lv_icmp_eq (tgt := 31) hx hb dX9_isPair_24 (by decide) (fun hc => ?_) (fun hc => ?_)
      · replace hf := zIf_t hc hf
        refine lv_iconst (v := 0) hx hb dX9_isPair_31 (by decide) ?_
        obtain ⟨q1, -⟩ := zI1 hf
        subst q1
        exact zRetZ hQ hx hb hr hlocks hA0 hK hP hD hS (by decide) rfl dX9_isPair_32
      · replace hf := zIf_f hc hf
        refine lv_iconst (v := 1) hx hb dX9_isPair_27 (by decide) ?_
        refine lv_goto (tgt := 32) hx hb dX9_isPair_28 (by decide) ?_
        obtain ⟨q1, -⟩ := zI1 hf
        subst q1
        exact zRetZ hQ hx hb hr hlocks hA0 hK hP hD hS (by decide) rfl dX9_isPair_32
set_option maxHeartbeats 4000000 in
set_option maxRecDepth 100000 in
theorem pX9_tie (l : Launch) (D : va_G) (T : Nat → ClassId) (X : zFP) (ad : Nat → Nat → Nat) (sz : Nat) (gx : zM) (gow : zM) (a1 : Int32) (a2 : Int32) (a3 : Int32) (a4 : Int32) (a5 : Int32) (r : Int32) (ngow : zM) (hf : fX9_tie gx gow a1 a2 a3 a4 a5 = some (r, ngow)) : Met l yX9_tie wsX9_tie rX9_tie (zPre D T X [.ref (ad 0 0), .int a1, .int a2, .int a3, .int a4, .int a5] (wX9 T ad gx ++ wX8 T (ad 1) gow) sz) (zQi D T r (wX9 T ad gx ++ wX8 T (ad 1) ngow) (wX9 T ad gx ++ wX8 T (ad 1) gow) sz) 0 0 (va_A (wX9 T ad gx ++ wX8 T (ad 1) gow) sz) := by
  unfold fX9_tie at hf
  refine zStart [(0, .ref (ad 0 0)), (1, .int a1), (2, .int a2), (3, .int a3), (4, .int a4), (5, .int a5)] (by decide) rfl (Nat.le_of_ble_eq_true rfl) rfl ?_
  intro p e s m args below meth c A Q ls hx hb hr hml hown hlocks hts hsz hA0 hQ hA hK hX hP hD hS hl
  replace hown : s.vm.findClass RX9 = some m.cls := hown
  have hH := hsz
  have hiX8 : ∀ w ∈ u_ws RX8 TX8 14, w ∈ wsX9_tie := fun w h => List.mem_cons_of_mem _ (List.mem_append_right _ (h))
  have hiX9 : ∀ w ∈ u_ws RX9 TX9 12, w ∈ wsX9_tie := fun w h => List.mem_cons_of_mem _ (List.mem_append_left _ (List.mem_append_right _ (h)))
  obtain ⟨H, hHe⟩ : ∃ H : Heap, H = s.heap := ⟨_, rfl⟩
  obtain ⟨locs, hLe⟩ : ∃ L : List Loc, L = [] := ⟨_, rfl⟩
  replace hP : va_P D vwCl (wX9 T ad gx ++ wX8 T (ad 1) gow) H := by rw [hHe]; exact hP
  replace hS : va_S A s.heap H locs := by rw [hHe, hLe]; exact hS
  suffices hgo : W p l e rX9_tie s m args below meth c H locs 0 0 Q (F0 m 0 ls []) by rw [hHe, hLe] at hgo; exact hgo
  clear hHe hLe
  refine lv_aload_n hx hb dX9_tie_0 rfl (lv_at hl 0 rfl) ?_
  refine lv_iload_n hx hb dX9_tie_1 rfl (lv_at hl 1 rfl) ?_
  refine lv_iload_n hx hb dX9_tie_2 rfl (lv_at hl 2 rfl) ?_
  obtain ⟨v1, hc3, hf⟩ := zB1_ok hf
  refine zCallVEI [.int a1, .int a2] ⟨hx, hb, hml, hown, hts⟩ (pX9_isPair l D T X ad H.size gx gow a1 a2 v1 hc3) (cwV 2 hts gX9_tie_X9_isPair rfl rfl rfl (by decide +kernel) ⟨Nat.le_of_ble_eq_true rfl, Nat.le_of_ble_eq_true rfl⟩) hK hP hD hS hA hX 0 rfl rfl rfl hl.1 rfl (Nat.le_of_ble_eq_true rfl) dX9_tie_3 ⟨Nat.zero_le _, Nat.zero_le _⟩ (fun H locs hP hD hS => ?_)
  refine lv_if_eq (tgt := 31) hx hb dX9_tie_6 (by decide) (fun hc => ?_) (fun hc => ?_)
  · replace hf := zIf_t hc hf
    refine lv_iconst (v := (-1)) hx hb dX9_tie_31 (by decide) ?_
    obtain ⟨q1, q2⟩ := zI2 hf
    subst q1
    subst q2
    exact zRetI hQ hx hb hr hlocks hA0 hK hP hD hS rfl dX9_tie_32
  · replace hf := zIf_f hc hf
    refine lv_iload_n hx hb dX9_tie_9 rfl (lv_at hl 3 rfl) ?_
    refine lv_if_lt (tgt := 31) hx hb dX9_tie_10 (by decide) (fun hc => ?_) (fun hc => ?_)
    · replace hf := zIf_t hc hf
      refine lv_iconst (v := (-1)) hx hb dX9_tie_31 (by decide) ?_
      obtain ⟨q1, q2⟩ := zI2 hf
      subst q1
      subst q2
      exact zRetI hQ hx hb hr hlocks hA0 hK hP hD hS rfl dX9_tie_32
    · replace hf := zIf_f hc hf
      refine lv_iload_n hx hb dX9_tie_13 rfl (lv_at hl 3 rfl) ?_
      refine lv_bipush (v := 99) hx hb dX9_tie_14 (by decide) ?_
      refine lv_icmp_gt (tgt := 31) hx hb dX9_tie_16 (by decide) (fun hc => ?_) (fun hc => ?_)
      · replace hf := zIf_t hc hf
        refine lv_iconst (v := (-1)) hx hb dX9_tie_31 (by decide) ?_
        obtain ⟨q1, q2⟩ := zI2 hf
        subst q1
        subst q2
        exact zRetI hQ hx hb hr hlocks hA0 hK hP hD hS rfl dX9_tie_32
      · replace hf := zIf_f hc hf
        refine lv_iload hx hb dX9_tie_19 (lv_at hl 4 rfl) ?_
        refine lv_iconst (v := 1) hx hb dX9_tie_21 (by decide) ?_
        refine lv_icmp_lt (tgt := 31) hx hb dX9_tie_22 (by decide) (fun hc => ?_) (fun hc => ?_)
        · replace hf := zIf_t hc hf
          refine lv_iconst (v := (-1)) hx hb dX9_tie_31 (by decide) ?_
          obtain ⟨q1, q2⟩ := zI2 hf
          subst q1
          subst q2
          exact zRetI hQ hx hb hr hlocks hA0 hK hP hD hS rfl dX9_tie_32
        · replace hf := zIf_f hc hf
          refine lv_iload hx hb dX9_tie_25 (lv_at hl 4 rfl) ?_
          refine lv_iconst (v := 4) hx hb dX9_tie_27 (by decide) ?_
          refine lv_icmp_le (tgt := 33) hx hb dX9_tie_28 (by decide) (fun hc => ?_) (fun hc => ?_)
          · replace hf := zIf_t hc hf
            refine lv_aload_n hx hb dX9_tie_33 rfl (lv_at hl 0 rfl) ?_
            refine zGet (ci := 9) (C := RX9) (F := TX9) (N := 12) (v := .ref (ad 1 0)) hx hb hts hiX9 hown hK hP 0 0 1 rfl rfl (by decide) rfl rfl rfl dX9_tie_34 ?_
            refine zGet (ci := 8) (C := RX8) (F := TX8) (N := 14) (v := .int (gow 0 3)) hx hb hts hiX8 hown hK hP 1 3 2 rfl rfl (by decide) rfl rfl rfl dX9_tie_37 ?_
            refine lv_bipush (v := 14) hx hb dX9_tie_40 (by decide) ?_
            refine lv_icmp_lt (tgt := 48) hx hb dX9_tie_42 (by decide) (fun hc => ?_) (fun hc => ?_)
            · replace hf := zIf_t hc hf
              refine lv_aload_n hx hb dX9_tie_48 rfl (lv_at hl 0 rfl) ?_
              refine zGet (ci := 9) (C := RX9) (F := TX9) (N := 12) (v := .ref (ad 1 0)) hx hb hts hiX9 hown hK hP 0 0 1 rfl rfl (by decide) rfl rfl rfl dX9_tie_49 ?_
              refine lv_iload_n hx hb dX9_tie_52 rfl (lv_at hl 1 rfl) ?_
              refine lv_iload_n hx hb dX9_tie_53 rfl (lv_at hl 2 rfl) ?_
              obtain ⟨v2, hc54, hf⟩ := zB1_ok hf
              refine zCallVJI (wr := wX9 T ad gx) (ws' := wX9 T ad gx ++ wX8 T (ad 1) gow) [.int a1, .int a2] ⟨hx, hb, hml, hown, hts⟩ (pX8_tieBetween l D T X (ad 1) H.size gow a1 a2 v2 hc54) (cwV 2 hts gX9_tie_X8_tieBetween rfl rfl rfl (by decide +kernel) ⟨Nat.le_of_ble_eq_true rfl, Nat.le_of_ble_eq_true rfl⟩) hK hP hD hS hA hX [1, 2, 3, 4, 5, 6, 7, 8, 9, 10, 11] [0] [0, 1, 2, 3, 4, 5, 6, 7, 8, 9, 10, 11] rfl rfl rfl rfl 0 rfl rfl rfl hl.1 rfl (Nat.le_of_ble_eq_true rfl) dX9_tie_54 ⟨Nat.zero_le _, Nat.zero_le _⟩ (fun H locs hP hD hS => ?_)
              refine lv_if_lt (tgt := 63) hx hb dX9_tie_57 (by decide) (fun hc => ?_) (fun hc => ?_)
              · replace hf := zIf_t hc hf
                refine lv_aload_n hx hb dX9_tie_63 rfl (lv_at hl 0 rfl) ?_
                refine zGet (ci := 9) (C := RX9) (F := TX9) (N := 12) (v := .ref (ad 1 0)) hx hb hts hiX9 hown hK hP 0 0 1 rfl rfl (by decide) rfl rfl rfl dX9_tie_64 ?_
                refine lv_iload_n hx hb dX9_tie_67 rfl (lv_at hl 1 rfl) ?_
                refine lv_iload_n hx hb dX9_tie_68 rfl (lv_at hl 2 rfl) ?_
                obtain ⟨v3, gow_4, hc69, hf⟩ := zB2_ok hf
                refine zCallVJI (wr := wX9 T ad gx) (ws' := wX9 T ad gx ++ wX8 T (ad 1) gow_4) [.int a1, .int a2] ⟨hx, hb, hml, hown, hts⟩ (pX8_addTie l D T X (ad 1) H.size gow a1 a2 v3 gow_4 hc69) (cwV 2 hts gX9_tie_X8_addTie rfl rfl rfl (by decide +kernel) ⟨Nat.le_of_ble_eq_true rfl, Nat.le_of_ble_eq_true rfl⟩) hK hP hD hS hA hX [1, 2, 3, 4, 5, 6, 7, 8, 9, 10, 11] [0] [0, 1, 2, 3, 4, 5, 6, 7, 8, 9, 10, 11] rfl rfl rfl rfl 0 rfl rfl rfl hl.1 rfl (Nat.le_of_ble_eq_true rfl) dX9_tie_69 ⟨Nat.zero_le _, Nat.zero_le _⟩ (fun H locs hP hD hS => ?_)
                refine lv_istore (lv' := [(6, .int v3), (0, .ref (ad 0 0)), (1, .int a1), (2, .int a2), (3, .int a3), (4, .int a4), (5, .int a5)]) hx hb dX9_tie_72 hl (by decide) rfl (fun ls hl => ?_)
                refine lv_aload_n hx hb dX9_tie_74 rfl (lv_at hl 1 rfl) ?_
                refine zGet (ci := 9) (C := RX9) (F := TX9) (N := 12) (v := .ref (ad 1 0)) hx hb hts hiX9 hown hK hP 0 0 1 rfl rfl (by decide) rfl rfl rfl dX9_tie_75 ?_
                refine zGet (ci := 8) (C := RX8) (F := TX8) (N := 14) (v := .ref (ad 1 5)) hx hb hts hiX8 hown hK hP 1 6 3 rfl rfl (by decide) rfl rfl rfl dX9_tie_78 ?_
                refine lv_iload hx hb dX9_tie_81 (lv_at hl 0 rfl) ?_
                refine lv_iload_n hx hb dX9_tie_83 rfl (lv_at hl 4 rfl) ?_
                obtain ⟨hg, hf⟩ := zGd_ok hf
                refine zAstI (w := gow_4) hx hb hK hP hD hS (fun g => wX9 T ad gx ++ wX8 T (ad 1) g) 6 5 rfl hg rfl dX9_tie_84 (fun gow_5 egow_5 H locs hP hD hS => ?_)
                replace hP : va_P D vwCl (wX9 T ad gx ++ wX8 T (ad 1) gow_5) H := hP
                replace hD : va_D A (wX9 T ad gx ++ wX8 T (ad 1) gow_5) := hD
                replace hf := zLt_at egow_5 hf
                refine lv_aload_n hx hb dX9_tie_85 rfl (lv_at hl 1 rfl) ?_
                refine zGet (ci := 9) (C := RX9) (F := TX9) (N := 12) (v := .ref (ad 1 0)) hx hb hts hiX9 hown hK hP 0 0 1 rfl rfl (by decide) rfl rfl rfl dX9_tie_86 ?_
                refine zGet (ci := 8) (C := RX8) (F := TX8) (N := 14) (v := .ref (ad 1 6)) hx hb hts hiX8 hown hK hP 1 7 4 rfl rfl (by decide) rfl rfl rfl dX9_tie_89 ?_
                refine lv_iload hx hb dX9_tie_92 (lv_at hl 0 rfl) ?_
                refine lv_iload hx hb dX9_tie_94 (lv_at hl 5 rfl) ?_
                obtain ⟨hg, hf⟩ := zGd_ok hf
                refine zAstI (w := gow_5) hx hb hK hP hD hS (fun g => wX9 T ad gx ++ wX8 T (ad 1) g) 7 6 rfl hg rfl dX9_tie_96 (fun gow_6 egow_6 H locs hP hD hS => ?_)
                replace hP : va_P D vwCl (wX9 T ad gx ++ wX8 T (ad 1) gow_6) H := hP
                replace hD : va_D A (wX9 T ad gx ++ wX8 T (ad 1) gow_6) := hD
                replace hf := zLt_at egow_6 hf
                refine lv_aload_n hx hb dX9_tie_97 rfl (lv_at hl 1 rfl) ?_
                refine zGet (ci := 9) (C := RX9) (F := TX9) (N := 12) (v := .ref (ad 1 0)) hx hb hts hiX9 hown hK hP 0 0 1 rfl rfl (by decide) rfl rfl rfl dX9_tie_98 ?_
                refine zGet (ci := 8) (C := RX8) (F := TX8) (N := 14) (v := .ref (ad 1 7)) hx hb hts hiX8 hown hK hP 1 8 5 rfl rfl (by decide) rfl rfl rfl dX9_tie_101 ?_
                refine lv_iload hx hb dX9_tie_104 (lv_at hl 0 rfl) ?_
                refine lv_iload hx hb dX9_tie_106 (lv_at hl 6 rfl) ?_
                obtain ⟨hg, hf⟩ := zGd_ok hf
                refine zAstZ (w := gow_6) hx hb hK hP hD hS (fun g => wX9 T ad gx ++ wX8 T (ad 1) g) 8 7 rfl hg rfl dX9_tie_108 (fun gow_7 egow_7 H locs hP hD hS => ?_)
                replace hP : va_P D vwCl (wX9 T ad gx ++ wX8 T (ad 1) gow_7) H := hP
                replace hD : va_D A (wX9 T ad gx ++ wX8 T (ad 1) gow_7) := hD
                replace hf := zLt_at egow_7 hf
                refine lv_iload hx hb dX9_tie_109 (lv_at hl 0 rfl) ?_
                obtain ⟨q1, q2⟩ := zI2 hf
                subst q1
                subst q2
                exact zRetI hQ hx hb hr hlocks hA0 hK hP hD hS rfl dX9_tie_111
              · replace hf := zIf_f hc hf
                refine lv_bipush (v := (-4)) hx hb dX9_tie_60 (by decide) ?_
                obtain ⟨q1, q2⟩ := zI2 hf
                subst q1
                subst q2
                exact zRetI hQ hx hb hr hlocks hA0 hK hP hD hS rfl dX9_tie_62
            · replace hf := zIf_f hc hf
              refine lv_bipush (v := (-2)) hx hb dX9_tie_45 (by decide) ?_
              obtain ⟨q1, q2⟩ := zI2 hf
              subst q1
              subst q2
              exact zRetI hQ hx hb hr hlocks hA0 hK hP hD hS rfl dX9_tie_47
          · replace hf := zIf_f hc hf
            refine lv_iconst (v := (-1)) hx hb dX9_tie_31 (by decide) ?_
            obtain ⟨q1, q2⟩ := zI2 hf
            subst q1
            subst q2
            exact zRetI hQ hx hb hr hlocks hA0 hK hP hD hS rfl dX9_tie_32
