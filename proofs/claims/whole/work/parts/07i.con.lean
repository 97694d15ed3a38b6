-- X10_meet X10_tell X10_isShelf X10_lacksSort X10_best X10_sheet X10_put X10_item X10_isHeld X10_shelf X10_kindOn X10_isUnder X10_taken X10_ran X10_plainParts X10_tableParts X10_partsIt X10_plainCosts X10_tieCosts X10_plainShares X10_sharesIt X10_costsIt X10_plainTells X10_tableTells X10_tellsIt X10_act X10_trace X10_many
set_option maxHeartbeats 4000000 in
set_option maxRecDepth 100000 in
theorem pX10_meet (l : Launch) (D : va_G) (T : Nat → ClassId) (X : zFP) (hgm : Nat → Nat) (sz : Nat) (gm : zM) (gml : zL) (a1 : Int32) (a2 : Int32) (r : Int32) (hf : fX10_meet gm gml a1 a2 = some r) : Met l yX10_meet wsX10_meet rX10_meet (zPre D T X [.ref (hgm 0), .int a1, .int a2] (wX10 T hgm gm gml) sz) (zQi D T r (wX10 T hgm gm gml) (wX10 T hgm gm gml) sz) 0 0 (va_A (wX10 T hgm gm gml) sz) := by
  unfold fX10_meet at hf
  refine zStart [(0, .ref (hgm 0)), (1, .int a1), (2, .int a2)] (by decide) rfl (Nat.le_of_ble_eq_true rfl) rfl ?_
  intro p e s m args below meth c A Q ls hx hb hr hml hown hlocks hts hsz hA0 hQ hA hK hX hP hD hS hl
  replace hown : s.vm.findClass RX10 = some m.cls := hown
  have hH := hsz
  obtain ⟨H, hHe⟩ : ∃ H : Heap, H = s.heap := ⟨_, rfl⟩
  obtain ⟨locs, hLe⟩ : ∃ L : List Loc, L = [] := ⟨_, rfl⟩
  replace hP : va_P D vwCl (wX10 T hgm gm gml) H := by rw [hHe]; exact hP
  replace hS : va_S A s.heap H locs := by rw [hHe, hLe]; exact hS
  suffices hgo : W p l e rX10_meet s m args below meth c H locs 0 0 Q (F0 m 0 ls []) by rw [hHe, hLe] at hgo; exact hgo
  clear hHe hLe
  refine lv_iload_n hx hb dX10_meet_0 rfl (lv_at hl 1 rfl) ?_
  refine lv_iconst (v := 1) hx hb dX10_meet_1 (by decide) ?_
  refine lv_aload_n hx hb dX10_meet_2 rfl (lv_at hl 0 rfl) ?_
  obtain ⟨v1, hc3, hf⟩ := zB1_ok hf
  refine zCallVEI [] ⟨hx, hb, hml, hown, hts⟩ (pX10_all l D T X hgm H.size gm gml v1 hc3) (cwV 0 hts gX10_meet_X10_all rfl rfl rfl (by decide +kernel) ⟨Nat.le_of_ble_eq_true rfl, Nat.le_of_ble_eq_true rfl⟩) hK hP hD hS hA hX 0 rfl rfl rfl hl.1 rfl (Nat.le_of_ble_eq_true rfl) dX10_meet_3 ⟨Nat.zero_le _, Nat.zero_le _⟩ (fun H locs hP hD hS => ?_)
  obtain ⟨v2, hc6, hf⟩ := zB1_ok hf
  refine zCallS0I [.int a1, .int 1, .int v1] ⟨hx, hb, hml, hown, hts⟩ (pX10_in l D T X H.size a1 1 v1 v2 hc6) (va_cwS 3 hts gX10_meet_X10_in rfl rfl rfl (by decide +kernel) ⟨Nat.le_of_ble_eq_true rfl, Nat.le_of_ble_eq_true rfl⟩) hK hP hD hS hA hX rfl hl.1 rfl (Nat.le_of_ble_eq_true rfl) dX10_meet_6 ⟨Nat.zero_le _, Nat.zero_le _⟩ (fun H locs hP hD hS => ?_)
  refine lv_if_eq (tgt := 19) hx hb dX10_meet_9 (by decide) (fun hc => ?_) (fun hc => ?_)
  · replace hf := zIf_t hc hf
    refine lv_iconst (v := (-1)) hx hb dX10_meet_19 (by decide) ?_
    obtain ⟨q1, -⟩ := zI1 hf
    subst q1
    exact zRetI hQ hx hb hr hlocks hA0 hK hP hD hS rfl dX10_meet_20
  · replace hf := zIf_f hc hf
    refine lv_iload_n hx hb dX10_meet_12 rfl (lv_at hl 2 rfl) ?_
    obtain ⟨v3, hc13, hf⟩ := zB1_ok hf
    refine zCallS0I [.int a2] ⟨hx, hb, hml, hown, hts⟩ (pX10_isSide l D T X H.size a2 v3 hc13) (va_cwS 1 hts gX10_meet_X10_isSide rfl rfl rfl (by decide +kernel) ⟨Nat.le_of_ble_eq_true rfl, Nat.le_of_ble_eq_true rfl⟩) hK hP hD hS hA hX rfl hl.1 rfl (Nat.le_of_ble_eq_true rfl) dX10_meet_13 ⟨Nat.zero_le _, Nat.zero_le _⟩ (fun H locs hP hD hS => ?_)
    refine lv_if_ne (tgt := 21) hx hb dX10_meet_16 (by decide) (fun hc => ?_) (fun hc => ?_)
    · replace hf := zIf_f hc hf
      refine lv_aload_n hx hb dX10_meet_21 rfl (lv_at hl 0 rfl) ?_
      refine lv_iconst (v := 0) hx hb dX10_meet_22 (by decide) ?_
      obtain ⟨v4, hc23, hf⟩ := zB1_ok hf
      refine zCallVEI [.int 0] ⟨hx, hb, hml, hown, hts⟩ (pX10_openOn l D T X hgm H.size gm gml 0 v4 hc23) (cwV 1 hts gX10_meet_X10_openOn rfl rfl rfl (by decide +kernel) ⟨Nat.le_of_ble_eq_true rfl, Nat.le_of_ble_eq_true rfl⟩) hK hP hD hS hA hX 0 rfl rfl rfl hl.1 rfl (Nat.le_of_ble_eq_true rfl) dX10_meet_23 ⟨Nat.zero_le _, Nat.zero_le _⟩ (fun H locs hP hD hS => ?_)
      refine lv_istore_n (lv' := [(3, .int v4), (0, .ref (hgm 0)), (1, .int a1), (2, .int a2)]) hx hb dX10_meet_26 rfl hl (by decide) rfl (fun ls hl => ?_)
      refine lv_bipush (v := (-3)) hx hb dX10_meet_27 (by decide) ?_
      refine lv_istore (lv' := [(4, .int (-3)), (3, .int v4), (0, .ref (hgm 0)), (1, .int a1), (2, .int a2)]) hx hb dX10_meet_29 hl (by decide) rfl (fun ls hl => ?_)
      refine lv_iload_n hx hb dX10_meet_31 rfl (lv_at hl 3 rfl) ?_
      refine lv_istore (lv' := [(5, .int a1), (4, .int (-3)), (3, .int v4), (0, .ref (hgm 0)), (1, .int a1), (2, .int a2)]) hx hb dX10_meet_32 hl (by decide) rfl (fun ls hl => ?_)
      obtain ⟨ex, hlp, hf⟩ := zB1_ok hf
      have hE34_118 : ∀ (v7 : Int32) , ex = v7 → ∀ (H : Heap) (locs : List Loc) (ls : Array Slot), va_P D vwCl (wX10 T hgm gm gml) H → va_D A (wX10 T hgm gm gml) → va_S A s.heap H locs → lv_has ls 7 [(2, .int a2), (4, .int v7)] → W p l e rX10_meet s m args below meth c H locs 0 0 Q (F0 m 118 ls []) := by
        intro v7 hex H locs ls hP hD hS hl
        have hf := zEx1 hex hf
        refine lv_iload hx hb dX10_meet_118 (lv_at hl 1 rfl) ?_
        refine lv_if_ge (tgt := 128) hx hb dX10_meet_120 (by decide) (fun hc => ?_) (fun hc => ?_)
        · replace hf := zIf_t hc hf
          refine lv_iload_n hx hb dX10_meet_128 rfl (lv_at hl 0 rfl) ?_
          refine lv_if_ne (tgt := 140) hx hb dX10_meet_129 (by decide) (fun hc => ?_) (fun hc => ?_)
          · replace hf := zIf_f hc hf
            refine lv_iload hx hb dX10_meet_140 (lv_at hl 1 rfl) ?_
            obtain ⟨q1, -⟩ := zI1 hf
            subst q1
            exact zRetI hQ hx hb hr hlocks hA0 hK hP hD hS rfl dX10_meet_142
          · replace hf := zIf_t hc hf
            refine lv_iload hx hb dX10_meet_132 (lv_at hl 1 rfl) ?_
            obtain ⟨v17, hc134, hf⟩ := zB1_ok hf
            refine zCallS0I [.int v7] ⟨hx, hb, hml, hown, hts⟩ (pX10_ones l D T X H.size v7 v17 hc134) (va_cwS 1 hts gX10_meet_X10_ones rfl rfl rfl (by decide +kernel) ⟨Nat.le_of_ble_eq_true rfl, Nat.le_of_ble_eq_true rfl⟩) hK hP hD hS hA hX rfl hl.1 rfl (Nat.le_of_ble_eq_true rfl) dX10_meet_134 ⟨Nat.zero_le _, Nat.zero_le _⟩ (fun H locs hP hD hS => ?_)
            refine lv_goto (tgt := 142) hx hb dX10_meet_137 (by decide) ?_
            obtain ⟨q1, -⟩ := zI1 hf
            subst q1
            exact zRetI hQ hx hb hr hlocks hA0 hK hP hD hS rfl dX10_meet_142
        · replace hf := zIf_f hc hf
          refine lv_bipush (v := (-3)) hx hb dX10_meet_123 (by decide) ?_
          refine lv_goto (tgt := 142) hx hb dX10_meet_125 (by decide) ?_
          obtain ⟨q1, -⟩ := zI1 hf
          subst q1
          exact zRetI hQ hx hb hr hlocks hA0 hK hP hD hS rfl dX10_meet_142
      refine zLpS2 (body := (fX10_meet_L34 a1 gm gml v4)) (b := ex) (fun (v5 : Int32) (v6 : Int32) => ∀ (H : Heap) (locs : List Loc) (ls : Array Slot), va_P D vwCl (wX10 T hgm gm gml) H → va_D A (wX10 T hgm gm gml) → va_S A s.heap H locs → lv_has ls 7 [(0, .ref (hgm 0)), (1, .int a1), (2, .int a2), (3, .int v4), (4, .int v5), (5, .int v6)] → W p l e rX10_meet s m args below meth c H locs 0 0 Q (F0 m 34 ls [])) ?_ zFU (-3) a1 hlp H locs ls hP hD hS (lv_sub hl [3, 4, 5, 2, 1, 0] rfl)
      intro v5 v6 z hf hzz H locs ls hP hD hS hl
      unfold fX10_meet_L34 at hf
      replace hf := zUk2 hf
      refine lv_iload hx hb dX10_meet_34 (lv_at hl 5 rfl) ?_
      refine lv_aload_n hx hb dX10_meet_36 rfl (lv_at hl 0 rfl) ?_
      obtain ⟨v8, hc37, hf⟩ := zB1_ok hf
      refine zCallVEI [] ⟨hx, hb, hml, hown, hts⟩ (pX10_all l D T X hgm H.size gm gml v8 hc37) (cwV 0 hts gX10_meet_X10_all rfl rfl rfl (by decide +kernel) ⟨Nat.le_of_ble_eq_true rfl, Nat.le_of_ble_eq_true rfl⟩) hK hP hD hS hA hX 0 rfl rfl rfl hl.1 rfl (Nat.le_of_ble_eq_true rfl) dX10_meet_37 ⟨Nat.zero_le _, Nat.zero_le _⟩ (fun H locs hP hD hS => ?_)
      refine lv_icmp_gt (tgt := 118) hx hb dX10_meet_40 (by decide) (fun hc => ?_) (fun hc => ?_)
      · replace hf := zIf_t hc hf
        cases hf
        exact hE34_118 v5 hzz.symm H locs ls hP hD hS (lv_sub hl [2, 4] rfl)
      · replace hf := zIf_f hc hf
        refine lv_iload hx hb dX10_meet_43 (lv_at hl 5 rfl) ?_
        refine lv_iload_n hx hb dX10_meet_45 rfl (lv_at hl 1 rfl) ?_
        refine lv_iand hx hb dX10_meet_46 ?_
        refine lv_iload_n hx hb dX10_meet_47 rfl (lv_at hl 1 rfl) ?_
        have hJ83 : ∀ (v9 : Int32) (H : Heap) (locs : List Loc) (ls : Array Slot), fX10_meet_L34J83 gm gml v4 v5 v6 v9 = some z → va_P D vwCl (wX10 T hgm gm gml) H → va_D A (wX10 T hgm gm gml) → va_S A s.heap H locs → lv_has ls 7 [(0, .ref (hgm 0)), (1, .int a1), (2, .int a2), (3, .int v4), (4, .int v5), (5, .int v6)] → W p l e rX10_meet s m args below meth c H locs 0 0 Q (F0 m 83 ls [.int v9]) := by
          intro v9 H locs ls hf hP hD hS hl
          unfold fX10_meet_L34J83 at hf
          refine lv_istore (lv' := [(6, .int v9), (0, .ref (hgm 0)), (1, .int a1), (2, .int a2), (3, .int v4), (4, .int v5), (5, .int v6)]) hx hb dX10_meet_83 hl (by decide) rfl (fun ls hl => ?_)
          refine lv_iload hx hb dX10_meet_85 (lv_at hl 0 rfl) ?_
          have hJ112 : ∀ (v10 : Int32) (H : Heap) (locs : List Loc) (ls : Array Slot), fX10_meet_L34J112 v6 v10 = some z → va_P D vwCl (wX10 T hgm gm gml) H → va_D A (wX10 T hgm gm gml) → va_S A s.heap H locs → lv_has ls 7 [(0, .ref (hgm 0)), (1, .int a1), (2, .int a2), (3, .int v4), (4, .int v10), (5, .int v6)] → W p l e rX10_meet s m args below meth c H locs 0 0 Q (F0 m 112 ls []) := by
            intro v10 H locs ls hf hP hD hS hl
            unfold fX10_meet_L34J112 at hf
            obtain ⟨v11, ev11⟩ : ∃ y : Int32, y = v6 + 1 := ⟨_, rfl⟩
            replace hf := zLt_at ev11 hf
            refine lv_iinc (v := v11) (lv' := [(5, .int v11), (0, .ref (hgm 0)), (1, .int a1), (2, .int a2), (3, .int v4), (4, .int v10)]) hx hb dX10_meet_112 hl (k := 5) rfl (by rw [ev11]; rfl) (by decide) rfl (fun ls hl => ?_)
            refine lv_goto (tgt := 34) hx hb dX10_meet_115 (by decide) ?_
            cases hf
            exact hzz H locs ls hP hD hS (lv_sub hl [1, 2, 3, 4, 5, 0] rfl)
          refine lv_if_eq (tgt := 112) hx hb dX10_meet_87 (by decide) (fun hc => ?_) (fun hc => ?_)
          · replace hf := zIf_t hc hf
            exact hJ112 v5 H locs ls hf hP hD hS (lv_sub hl [1, 2, 3, 4, 5, 6] rfl)
          · replace hf := zIf_f hc hf
            refine lv_aload_n hx hb dX10_meet_90 rfl (lv_at hl 1 rfl) ?_
            refine lv_iload hx hb dX10_meet_91 (lv_at hl 6 rfl) ?_
            refine lv_iload hx hb dX10_meet_93 (lv_at hl 6 rfl) ?_
            refine lv_ineg hx hb dX10_meet_95 ?_
            refine lv_iand hx hb dX10_meet_96 ?_
            refine lv_iload_n hx hb dX10_meet_97 rfl (lv_at hl 4 rfl) ?_
            refine lv_iload hx hb dX10_meet_98 (lv_at hl 6 rfl) ?_
            obtain ⟨v12, hc100, hf⟩ := zB1_ok hf
            refine zCallVEI [.int (v6 &&& (-v6)), .int v4, .int v6] ⟨hx, hb, hml, hown, hts⟩ (pX10_joinedBy l D T X hgm H.size gm gml (v6 &&& (-v6)) v4 v6 v12 hc100) (cwV 3 hts gX10_meet_X10_joinedBy rfl rfl rfl (by decide +kernel) ⟨Nat.le_of_ble_eq_true rfl, Nat.le_of_ble_eq_true rfl⟩) hK hP hD hS hA hX 0 rfl rfl rfl hl.1 rfl (Nat.le_of_ble_eq_true rfl) dX10_meet_100 ⟨Nat.zero_le _, Nat.zero_le _⟩ (fun H locs hP hD hS => ?_)
            refine lv_iload hx hb dX10_meet_103 (lv_at hl 6 rfl) ?_
            refine lv_icmp_ne (tgt := 112) hx hb dX10_meet_105 (by decide) (fun hc => ?_) (fun hc => ?_)
            · replace hf := zIf_f hc hf
              exact hJ112 v5 H locs ls hf hP hD hS (lv_sub hl [1, 2, 3, 4, 5, 6] rfl)
            · replace hf := zIf_t hc hf
              refine lv_iload hx hb dX10_meet_108 (lv_at hl 6 rfl) ?_
              refine lv_istore (lv' := [(4, .int v6), (6, .int v9), (0, .ref (hgm 0)), (1, .int a1), (2, .int a2), (3, .int v4), (5, .int v6)]) hx hb dX10_meet_110 hl (by decide) rfl (fun ls hl => ?_)
              exact hJ112 v6 H locs ls hf hP hD hS (lv_sub hl [2, 3, 4, 5, 0, 6] rfl)
        have hJ82 : ∀ (H : Heap) (locs : List Loc) (ls : Array Slot), fX10_meet_L34J82 gm gml v4 v5 v6 = some z → va_P D vwCl (wX10 T hgm gm gml) H → va_D A (wX10 T hgm gm gml) → va_S A s.heap H locs → lv_has ls 7 [(0, .ref (hgm 0)), (1, .int a1), (2, .int a2), (3, .int v4), (4, .int v5), (5, .int v6)] → W p l e rX10_meet s m args below meth c H locs 0 0 Q (F0 m 82 ls []) := by
          intro H locs ls hf hP hD hS hl
          unfold fX10_meet_L34J82 at hf
          refine lv_iconst (v := 0) hx hb dX10_meet_82 (by decide) ?_
          exact hJ83 0 H locs ls hf hP hD hS hl
        refine lv_icmp_ne (tgt := 82) hx hb dX10_meet_48 (by decide) (fun hc => ?_) (fun hc => ?_)
        · replace hf := zIf_f hc hf
          exact hJ82 H locs ls hf hP hD hS hl
        · replace hf := zIf_t hc hf
          refine lv_iload hx hb dX10_meet_51 (lv_at hl 4 rfl) ?_
          have hJ78 : ∀ (H : Heap) (locs : List Loc) (ls : Array Slot), fX10_meet_L34J78 gm gml v4 v5 v6 = some z → va_P D vwCl (wX10 T hgm gm gml) H → va_D A (wX10 T hgm gm gml) → va_S A s.heap H locs → lv_has ls 7 [(0, .ref (hgm 0)), (1, .int a1), (2, .int a2), (3, .int v4), (4, .int v5), (5, .int v6)] → W p l e rX10_meet s m args below meth c H locs 0 0 Q (F0 m 78 ls []) := by
            intro H locs ls hf hP hD hS hl
            unfold fX10_meet_L34J78 at hf
            refine lv_iconst (v := 1) hx hb dX10_meet_78 (by decide) ?_
            refine lv_goto (tgt := 83) hx hb dX10_meet_79 (by decide) ?_
            exact hJ83 1 H locs ls hf hP hD hS hl
          refine lv_if_lt (tgt := 78) hx hb dX10_meet_53 (by decide) (fun hc => ?_) (fun hc => ?_)
          · replace hf := zIf_t hc hf
            exact hJ78 H locs ls hf hP hD hS hl
          · replace hf := zIf_f hc hf
            refine lv_iload hx hb dX10_meet_56 (lv_at hl 5 rfl) ?_
            obtain ⟨v13, hc58, hf⟩ := zB1_ok hf
            refine zCallS0I [.int v6] ⟨hx, hb, hml, hown, hts⟩ (pX10_ones l D T X H.size v6 v13 hc58) (va_cwS 1 hts gX10_meet_X10_ones rfl rfl rfl (by decide +kernel) ⟨Nat.le_of_ble_eq_true rfl, Nat.le_of_ble_eq_true rfl⟩) hK hP hD hS hA hX rfl hl.1 rfl (Nat.le_of_ble_eq_true rfl) dX10_meet_58 ⟨Nat.zero_le _, Nat.zero_le _⟩ (fun H locs hP hD hS => ?_)
            refine lv_iload hx hb dX10_meet_61 (lv_at hl 4 rfl) ?_
            have hJ72 : ∀ (v14 : Int32) (v15 : Int32) (H : Heap) (locs : List Loc) (ls : Array Slot), fX10_meet_L34J72 gm gml v4 v5 v6 v14 v15 = some z → va_P D vwCl (wX10 T hgm gm gml) H → va_D A (wX10 T hgm gm gml) → va_S A s.heap H locs → lv_has ls 7 [(0, .ref (hgm 0)), (1, .int a1), (2, .int a2), (3, .int v4), (4, .int v5), (5, .int v6)] → W p l e rX10_meet s m args below meth c H locs 0 0 Q (F0 m 72 ls [.int v14, .int v15]) := by
              intro v14 v15 H locs ls hf hP hD hS hl
              unfold fX10_meet_L34J72 at hf
              obtain ⟨v16, hc72, hf⟩ := zB1_ok hf
              refine zCallS0I [.int v14] ⟨hx, hb, hml, hown, hts⟩ (pX10_ones l D T X H.size v14 v16 hc72) (va_cwS 1 hts gX10_meet_X10_ones rfl rfl rfl (by decide +kernel) ⟨Nat.le_of_ble_eq_true rfl, Nat.le_of_ble_eq_true rfl⟩) hK hP hD hS hA hX rfl hl.1 rfl (Nat.le_of_ble_eq_true rfl) dX10_meet_72 ⟨Nat.zero_le _, Nat.zero_le _⟩ (fun H locs hP hD hS => ?_)
              refine lv_icmp_ge (tgt := 82) hx hb dX10_meet_75 (by decide) (fun hc => ?_) (fun hc => ?_)
              · replace hf := zIf_t hc hf
                exact hJ82 H locs ls hf hP hD hS hl
              · replace hf := zIf_f hc hf
                exact hJ78 H locs ls hf hP hD hS hl
            refine lv_if_ge (tgt := 70) hx hb dX10_meet_63 (by decide) (fun hc => ?_) (fun hc => ?_)
            · replace hf := zIf_t hc hf
              refine lv_iload hx hb dX10_meet_70 (lv_at hl 4 rfl) ?_
              exact hJ72 v5 v13 H locs ls hf hP hD hS hl
            · replace hf := zIf_f hc hf
              refine lv_iconst (v := 0) hx hb dX10_meet_66 (by decide) ?_
              refine lv_goto (tgt := 72) hx hb dX10_meet_67 (by decide) ?_
              exact hJ72 0 v13 H locs ls hf hP hD hS hl
    · replace hf := zIf_t hc hf
      refine lv_iconst (v := (-1)) hx hb dX10_meet_19 (by decide) ?_
      obtain ⟨q1, -⟩ := zI1 hf
      subst q1
      exact zRetI hQ hx hb hr hlocks hA0 hK hP hD hS rfl dX10_meet_20
set_option maxHeartbeats 4000000 in
set_option maxRecDepth 100000 in
theorem pX10_tell (l : Launch) (D : va_G) (T : Nat → ClassId) (X : zFP) (hgm : Nat → Nat) (sz : Nat) (gm : zM) (gml : zL) (a1 : Int32) (a2 : Int32) (r : Int32) (ngm : zM) (hf : fX10_tell gm gml a1 a2 = some (r, ngm)) : Met l yX10_tell wsX10_tell rX10_tell (zPre D T X [.ref (hgm 0), .int a1, .int a2] (wX10 T hgm gm gml) sz) (zQi D T r (wX10 T hgm ngm gml) (wX10 T hgm gm gml) sz) 0 0 (va_A (wX10 T hgm gm gml) sz) := by
  unfold fX10_tell at hf
  refine zStart [(0, .ref (hgm 0)), (1, .int a1), (2, .int a2)] (by decide) rfl (Nat.le_of_ble_eq_true rfl) rfl ?_
  intro p e s m args below meth c A Q ls hx hb hr hml hown hlocks hts hsz hA0 hQ hA hK hX hP hD hS hl
  replace hown : s.vm.findClass RX10 = some m.cls := hown
  have hH := hsz
  have hiX10 : ∀ w ∈ u_ws RX10 TX10 54, w ∈ wsX10_tell := fun w h => List.mem_cons_of_mem _ (List.mem_append_right _ (h))
  obtain ⟨H, hHe⟩ : ∃ H : Heap, H = s.heap := ⟨_, rfl⟩
  obtain ⟨locs, hLe⟩ : ∃ L : List Loc, L = [] := ⟨_, rfl⟩
  replace hP : va_P D vwCl (wX10 T hgm gm gml) H := by rw [hHe]; exact hP
  replace hS : va_S A s.heap H locs := by rw [hHe, hLe]; exact hS
  suffices hgo : W p l e rX10_tell s m args below meth c H locs 0 0 Q (F0 m 0 ls []) by rw [hHe, hLe] at hgo; exact hgo
  clear hHe hLe
  refine lv_iload_n hx hb dX10_tell_0 rfl (lv_at hl 1 rfl) ?_
  refine lv_iconst (v := 0) hx hb dX10_tell_1 (by decide) ?_
  refine lv_bipush (v := 100) hx hb dX10_tell_2 (by decide) ?_
  obtain ⟨v1, hc4, hf⟩ := zB1_ok hf
  refine zCallS0I [.int a1, .int 0, .int 100] ⟨hx, hb, hml, hown, hts⟩ (pX10_in l D T X H.size a1 0 100 v1 hc4) (va_cwS 3 hts gX10_tell_X10_in rfl rfl rfl (by decide +kernel) ⟨Nat.le_of_ble_eq_true rfl, Nat.le_of_ble_eq_true rfl⟩) hK hP hD hS hA hX rfl hl.1 rfl (Nat.le_of_ble_eq_true rfl) dX10_tell_4 ⟨Nat.zero_le _, Nat.zero_le _⟩ (fun H locs hP hD hS => ?_)
  refine lv_if_eq (tgt := 17) hx hb dX10_tell_7 (by decide) (fun hc => ?_) (fun hc => ?_)
  · replace hf := zIf_t hc hf
    refine lv_iconst (v := (-1)) hx hb dX10_tell_17 (by decide) ?_
    obtain ⟨q1, q2⟩ := zI2 hf
    subst q1
    subst q2
    exact zRetI hQ hx hb hr hlocks hA0 hK hP hD hS rfl dX10_tell_18
  · replace hf := zIf_f hc hf
    refine lv_iload_n hx hb dX10_tell_10 rfl (lv_at hl 2 rfl) ?_
    obtain ⟨v2, hc11, hf⟩ := zB1_ok hf
    refine zCallS0I [.int a2] ⟨hx, hb, hml, hown, hts⟩ (pX10_isSide l D T X H.size a2 v2 hc11) (va_cwS 1 hts gX10_tell_X10_isSide rfl rfl rfl (by decide +kernel) ⟨Nat.le_of_ble_eq_true rfl, Nat.le_of_ble_eq_true rfl⟩) hK hP hD hS hA hX rfl hl.1 rfl (Nat.le_of_ble_eq_true rfl) dX10_tell_11 ⟨Nat.zero_le _, Nat.zero_le _⟩ (fun H locs hP hD hS => ?_)
    refine lv_if_ne (tgt := 19) hx hb dX10_tell_14 (by decide) (fun hc => ?_) (fun hc => ?_)
    · replace hf := zIf_f hc hf
      refine lv_iconst (v := 0) hx hb dX10_tell_19 (by decide) ?_
      refine lv_istore_n (lv' := [(3, .int 0), (0, .ref (hgm 0)), (1, .int a1), (2, .int a2)]) hx hb dX10_tell_20 rfl hl (by decide) rfl (fun ls hl => ?_)
      obtain ⟨ex, hlp, hf⟩ := zB1_ok hf
      have hE21_54 : ∀ (gm_5 : zM) , ex = gm_5 → ∀ (H : Heap) (locs : List Loc) (ls : Array Slot), va_P D vwCl (wX10 T hgm gm_5 gml) H → va_D A (wX10 T hgm gm_5 gml) → va_S A s.heap H locs → lv_has ls 7 [(0, .ref (hgm 0)), (2, .int a2)] → W p l e rX10_tell s m args below meth c H locs 0 0 Q (F0 m 54 ls []) := by
        intro gm_5 hex H locs ls hP hD hS hl
        have hf := zEx1 hex hf
        refine lv_iconst (v := (-1)) hx hb dX10_tell_54 (by decide) ?_
        refine lv_istore_n (lv' := [(3, .int (-1)), (0, .ref (hgm 0)), (2, .int a2)]) hx hb dX10_tell_55 rfl hl (by decide) rfl (fun ls hl => ?_)
        refine lv_iconst (v := 1) hx hb dX10_tell_56 (by decide) ?_
        refine lv_istore (lv' := [(4, .int 1), (3, .int (-1)), (0, .ref (hgm 0)), (2, .int a2)]) hx hb dX10_tell_57 hl (by decide) rfl (fun ls hl => ?_)
        obtain ⟨ex, hlp, hf⟩ := zB1_ok hf
        have hE59_154 : ∀ (v12 : Int32) , ex = v12 → ∀ (H : Heap) (locs : List Loc) (ls : Array Slot), va_P D vwCl (wX10 T hgm gm_5 gml) H → va_D A (wX10 T hgm gm_5 gml) → va_S A s.heap H locs → lv_has ls 7 [(2, .int a2), (3, .int v12)] → W p l e rX10_tell s m args below meth c H locs 0 0 Q (F0 m 154 ls []) := by
          intro v12 hex H locs ls hP hD hS hl
          have hf := zEx1 hex hf
          refine lv_iload_n hx hb dX10_tell_154 rfl (lv_at hl 0 rfl) ?_
          refine lv_if_ne (tgt := 165) hx hb dX10_tell_155 (by decide) (fun hc => ?_) (fun hc => ?_)
          · replace hf := zIf_f hc hf
            refine lv_iload_n hx hb dX10_tell_165 rfl (lv_at hl 1 rfl) ?_
            obtain ⟨q1, q2⟩ := zI2 hf
            subst q1
            subst q2
            exact zRetI hQ hx hb hr hlocks hA0 hK hP hD hS rfl dX10_tell_166
          · replace hf := zIf_t hc hf
            refine lv_iload_n hx hb dX10_tell_158 rfl (lv_at hl 1 rfl) ?_
            obtain ⟨v27, hc159, hf⟩ := zB1_ok hf
            refine zCallS0I [.int v12] ⟨hx, hb, hml, hown, hts⟩ (pX10_ones l D T X H.size v12 v27 hc159) (va_cwS 1 hts gX10_tell_X10_ones rfl rfl rfl (by decide +kernel) ⟨Nat.le_of_ble_eq_true rfl, Nat.le_of_ble_eq_true rfl⟩) hK hP hD hS hA hX rfl hl.1 rfl (Nat.le_of_ble_eq_true rfl) dX10_tell_159 ⟨Nat.zero_le _, Nat.zero_le _⟩ (fun H locs hP hD hS => ?_)
            refine lv_goto (tgt := 166) hx hb dX10_tell_162 (by decide) ?_
            obtain ⟨q1, q2⟩ := zI2 hf
            subst q1
            subst q2
            exact zRetI hQ hx hb hr hlocks hA0 hK hP hD hS rfl dX10_tell_166
        refine zLpS2 (body := (fX10_tell_L59 gml gm_5)) (b := ex) (fun (v10 : Int32) (v11 : Int32) => ∀ (H : Heap) (locs : List Loc) (ls : Array Slot), va_P D vwCl (wX10 T hgm gm_5 gml) H → va_D A (wX10 T hgm gm_5 gml) → va_S A s.heap H locs → lv_has ls 7 [(0, .ref (hgm 0)), (2, .int a2), (3, .int v10), (4, .int v11)] → W p l e rX10_tell s m args below meth c H locs 0 0 Q (F0 m 59 ls [])) ?_ zFU (-1) 1 hlp H locs ls hP hD hS (lv_sub hl [2, 3, 1, 0] rfl)
        intro v10 v11 z hf hzz H locs ls hP hD hS hl
        unfold fX10_tell_L59 at hf
        replace hf := zUk2 hf
        refine lv_iload hx hb dX10_tell_59 (lv_at hl 3 rfl) ?_
        refine lv_aload_n hx hb dX10_tell_61 rfl (lv_at hl 0 rfl) ?_
        obtain ⟨v13, hc62, hf⟩ := zB1_ok hf
        refine zCallVEI [] ⟨hx, hb, hml, hown, hts⟩ (pX10_all l D T X hgm H.size gm_5 gml v13 hc62) (cwV 0 hts gX10_tell_X10_all rfl rfl rfl (by decide +kernel) ⟨Nat.le_of_ble_eq_true rfl, Nat.le_of_ble_eq_true rfl⟩) hK hP hD hS hA hX 0 rfl rfl rfl hl.1 rfl (Nat.le_of_ble_eq_true rfl) dX10_tell_62 ⟨Nat.zero_le _, Nat.zero_le _⟩ (fun H locs hP hD hS => ?_)
        refine lv_icmp_gt (tgt := 154) hx hb dX10_tell_65 (by decide) (fun hc => ?_) (fun hc => ?_)
        · replace hf := zIf_t hc hf
          cases hf
          exact hE59_154 v10 hzz.symm H locs ls hP hD hS (lv_sub hl [1, 2] rfl)
        · replace hf := zIf_f hc hf
          refine lv_iconst (v := 0) hx hb dX10_tell_68 (by decide) ?_
          refine lv_istore (lv' := [(5, .int 0), (0, .ref (hgm 0)), (2, .int a2), (3, .int v10), (4, .int v11)]) hx hb dX10_tell_69 hl (by decide) rfl (fun ls hl => ?_)
          refine lv_iconst (v := 0) hx hb dX10_tell_71 (by decide) ?_
          refine lv_istore (lv' := [(6, .int 0), (5, .int 0), (0, .ref (hgm 0)), (2, .int a2), (3, .int v10), (4, .int v11)]) hx hb dX10_tell_72 hl (by decide) rfl (fun ls hl => ?_)
          obtain ⟨ex, hlp, hf⟩ := zB1_ok hf
          have hE74_116 : ∀ (v16 : Int32) , ex = v16 → ∀ (H : Heap) (locs : List Loc) (ls : Array Slot), va_P D vwCl (wX10 T hgm gm_5 gml) H → va_D A (wX10 T hgm gm_5 gml) → va_S A s.heap H locs → lv_has ls 7 [(0, .ref (hgm 0)), (2, .int a2), (3, .int v10), (4, .int v11), (5, .int v16)] → W p l e rX10_tell s m args below meth c H locs 0 0 Q (F0 m 116 ls []) := by
            intro v16 hex H locs ls hP hD hS hl
            have hf := zEx1 hex hf
            refine lv_iload hx hb dX10_tell_116 (lv_at hl 4 rfl) ?_
            refine lv_aload_n hx hb dX10_tell_118 rfl (lv_at hl 0 rfl) ?_
            obtain ⟨v22, hc119, hf⟩ := zB1_ok hf
            refine zCallVEI [] ⟨hx, hb, hml, hown, hts⟩ (pX10_all l D T X hgm H.size gm_5 gml v22 hc119) (cwV 0 hts gX10_tell_X10_all rfl rfl rfl (by decide +kernel) ⟨Nat.le_of_ble_eq_true rfl, Nat.le_of_ble_eq_true rfl⟩) hK hP hD hS hA hX 0 rfl rfl rfl hl.1 rfl (Nat.le_of_ble_eq_true rfl) dX10_tell_119 ⟨Nat.zero_le _, Nat.zero_le _⟩ (fun H locs hP hD hS => ?_)
            have hJ147 : ∀ (v23 : Int32) (H : Heap) (locs : List Loc) (ls : Array Slot), fX10_tell_L59J147 v11 v23 = some z → va_P D vwCl (wX10 T hgm gm_5 gml) H → va_D A (wX10 T hgm gm_5 gml) → va_S A s.heap H locs → lv_has ls 7 [(0, .ref (hgm 0)), (2, .int a2), (4, .int v11)] → W p l e rX10_tell s m args below meth c H locs 0 0 Q (F0 m 147 ls [.int v23]) := by
              intro v23 H locs ls hf hP hD hS hl
              unfold fX10_tell_L59J147 at hf
              refine lv_istore_n (lv' := [(3, .int v23), (0, .ref (hgm 0)), (2, .int a2), (4, .int v11)]) hx hb dX10_tell_147 rfl hl (by decide) rfl (fun ls hl => ?_)
              obtain ⟨v24, ev24⟩ : ∃ y : Int32, y = v11 + 1 := ⟨_, rfl⟩
              replace hf := zLt_at ev24 hf
              refine lv_iinc (v := v24) (lv' := [(4, .int v24), (3, .int v23), (0, .ref (hgm 0)), (2, .int a2)]) hx hb dX10_tell_148 hl (k := 3) rfl (by rw [ev24]; rfl) (by decide) rfl (fun ls hl => ?_)
              refine lv_goto (tgt := 59) hx hb dX10_tell_151 (by decide) ?_
              cases hf
              exact hzz H locs ls hP hD hS (lv_sub hl [2, 3, 1, 0] rfl)
            have hJ146 : ∀ (H : Heap) (locs : List Loc) (ls : Array Slot), fX10_tell_L59J146 v10 v11 = some z → va_P D vwCl (wX10 T hgm gm_5 gml) H → va_D A (wX10 T hgm gm_5 gml) → va_S A s.heap H locs → lv_has ls 7 [(0, .ref (hgm 0)), (2, .int a2), (3, .int v10), (4, .int v11)] → W p l e rX10_tell s m args below meth c H locs 0 0 Q (F0 m 146 ls []) := by
              intro H locs ls hf hP hD hS hl
              unfold fX10_tell_L59J146 at hf
              refine lv_iload_n hx hb dX10_tell_146 rfl (lv_at hl 2 rfl) ?_
              exact hJ147 v10 H locs ls hf hP hD hS (lv_sub hl [0, 1, 3] rfl)
            refine lv_icmp_ne (tgt := 146) hx hb dX10_tell_122 (by decide) (fun hc => ?_) (fun hc => ?_)
            · replace hf := zIf_f hc hf
              exact hJ146 H locs ls hf hP hD hS (lv_sub hl [0, 1, 2, 3] rfl)
            · replace hf := zIf_t hc hf
              refine lv_iload_n hx hb dX10_tell_125 rfl (lv_at hl 2 rfl) ?_
              have hJ141 : ∀ (H : Heap) (locs : List Loc) (ls : Array Slot), fX10_tell_L59J141 v11 = some z → va_P D vwCl (wX10 T hgm gm_5 gml) H → va_D A (wX10 T hgm gm_5 gml) → va_S A s.heap H locs → lv_has ls 7 [(0, .ref (hgm 0)), (2, .int a2), (4, .int v11)] → W p l e rX10_tell s m args below meth c H locs 0 0 Q (F0 m 141 ls []) := by
                intro H locs ls hf hP hD hS hl
                unfold fX10_tell_L59J141 at hf
                refine lv_iload hx hb dX10_tell_141 (lv_at hl 2 rfl) ?_
                refine lv_goto (tgt := 147) hx hb dX10_tell_143 (by decide) ?_
                exact hJ147 v11 H locs ls hf hP hD hS hl
              refine lv_if_lt (tgt := 141) hx hb dX10_tell_126 (by decide) (fun hc => ?_) (fun hc => ?_)
              · replace hf := zIf_t hc hf
                exact hJ141 H locs ls hf hP hD hS (lv_sub hl [0, 1, 3] rfl)
              · replace hf := zIf_f hc hf
                refine lv_iload hx hb dX10_tell_129 (lv_at hl 3 rfl) ?_
                obtain ⟨v25, hc131, hf⟩ := zB1_ok hf
                refine zCallS0I [.int v11] ⟨hx, hb, hml, hown, hts⟩ (pX10_ones l D T X H.size v11 v25 hc131) (va_cwS 1 hts gX10_tell_X10_ones rfl rfl rfl (by decide +kernel) ⟨Nat.le_of_ble_eq_true rfl, Nat.le_of_ble_eq_true rfl⟩) hK hP hD hS hA hX rfl hl.1 rfl (Nat.le_of_ble_eq_true rfl) dX10_tell_131 ⟨Nat.zero_le _, Nat.zero_le _⟩ (fun H locs hP hD hS => ?_)
                refine lv_iload_n hx hb dX10_tell_134 rfl (lv_at hl 2 rfl) ?_
                obtain ⟨v26, hc135, hf⟩ := zB1_ok hf
                refine zCallS0I [.int v10] ⟨hx, hb, hml, hown, hts⟩ (pX10_ones l D T X H.size v10 v26 hc135) (va_cwS 1 hts gX10_tell_X10_ones rfl rfl rfl (by decide +kernel) ⟨Nat.le_of_ble_eq_true rfl, Nat.le_of_ble_eq_true rfl⟩) hK hP hD hS hA hX rfl hl.1 rfl (Nat.le_of_ble_eq_true rfl) dX10_tell_135 ⟨Nat.zero_le _, Nat.zero_le _⟩ (fun H locs hP hD hS => ?_)
                refine lv_icmp_ge (tgt := 146) hx hb dX10_tell_138 (by decide) (fun hc => ?_) (fun hc => ?_)
                · replace hf := zIf_t hc hf
                  exact hJ146 H locs ls hf hP hD hS (lv_sub hl [0, 1, 2, 3] rfl)
                · replace hf := zIf_f hc hf
                  exact hJ141 H locs ls hf hP hD hS (lv_sub hl [0, 1, 3] rfl)
          refine zLpS2 (body := (fX10_tell_L74 gm_5 v11)) (b := ex) (fun (v14 : Int32) (v15 : Int32) => ∀ (H : Heap) (locs : List Loc) (ls : Array Slot), va_P D vwCl (wX10 T hgm gm_5 gml) H → va_D A (wX10 T hgm gm_5 gml) → va_S A s.heap H locs → lv_has ls 7 [(0, .ref (hgm 0)), (2, .int a2), (3, .int v10), (4, .int v11), (5, .int v14), (6, .int v15)] → W p l e rX10_tell s m args below meth c H locs 0 0 Q (F0 m 74 ls [])) ?_ zFU 0 0 hlp H locs ls hP hD hS (lv_sub hl [2, 3, 4, 5, 1, 0] rfl)
          intro v14 v15 z hf hzz H locs ls hP hD hS hl
          unfold fX10_tell_L74 at hf
          replace hf := zUk2 hf
          refine lv_iload hx hb dX10_tell_74 (lv_at hl 5 rfl) ?_
          refine lv_aload_n hx hb dX10_tell_76 rfl (lv_at hl 0 rfl) ?_
          refine zGet (ci := 10) (C := RX10) (F := TX10) (N := 54) (v := .int (gm_5 0 0)) hx hb hts hiX10 hown hK hP 0 0 1 rfl rfl (by decide) rfl rfl rfl dX10_tell_77 ?_
          refine lv_icmp_ge (tgt := 116) hx hb dX10_tell_80 (by decide) (fun hc => ?_) (fun hc => ?_)
          · replace hf := zIf_t hc hf
            cases hf
            exact hE74_116 v14 hzz.symm H locs ls hP hD hS (lv_sub hl [0, 1, 2, 3, 4] rfl)
          · replace hf := zIf_f hc hf
            refine lv_iload hx hb dX10_tell_83 (lv_at hl 4 rfl) ?_
            refine lv_iload hx hb dX10_tell_85 (lv_at hl 3 rfl) ?_
            refine lv_iload hx hb dX10_tell_87 (lv_at hl 5 rfl) ?_
            refine lv_ishr hx hb dX10_tell_89 ?_
            refine lv_iconst (v := 1) hx hb dX10_tell_90 (by decide) ?_
            refine lv_iand hx hb dX10_tell_91 ?_
            refine lv_iconst (v := 1) hx hb dX10_tell_92 (by decide) ?_
            have hJ107 : ∀ (v17 : Int32) (v18 : Int32) (H : Heap) (locs : List Loc) (ls : Array Slot), fX10_tell_L74J107 v15 v17 v18 = some z → va_P D vwCl (wX10 T hgm gm_5 gml) H → va_D A (wX10 T hgm gm_5 gml) → va_S A s.heap H locs → lv_has ls 7 [(0, .ref (hgm 0)), (2, .int a2), (3, .int v10), (4, .int v11), (6, .int v15)] → W p l e rX10_tell s m args below meth c H locs 0 0 Q (F0 m 107 ls [.int v17, .int v18]) := by
              intro v17 v18 H locs ls hf hP hD hS hl
              unfold fX10_tell_L74J107 at hf
              refine lv_ior hx hb dX10_tell_107 ?_
              refine lv_topi (fun v19 ev19 => ?_)
              replace hf := zLt_at ev19 hf
              refine lv_istore (lv' := [(5, .int v19), (0, .ref (hgm 0)), (2, .int a2), (3, .int v10), (4, .int v11), (6, .int v15)]) hx hb dX10_tell_108 hl (by decide) rfl (fun ls hl => ?_)
              obtain ⟨v20, ev20⟩ : ∃ y : Int32, y = v15 + 1 := ⟨_, rfl⟩
              replace hf := zLt_at ev20 hf
              refine lv_iinc (v := v20) (lv' := [(6, .int v20), (5, .int v19), (0, .ref (hgm 0)), (2, .int a2), (3, .int v10), (4, .int v11)]) hx hb dX10_tell_110 hl (k := 5) rfl (by rw [ev20]; rfl) (by decide) rfl (fun ls hl => ?_)
              refine lv_goto (tgt := 74) hx hb dX10_tell_113 (by decide) ?_
              cases hf
              exact hzz H locs ls hP hD hS (lv_sub hl [2, 3, 4, 5, 1, 0] rfl)
            refine lv_icmp_ne (tgt := 106) hx hb dX10_tell_93 (by decide) (fun hc => ?_) (fun hc => ?_)
            · replace hf := zIf_f hc hf
              refine lv_iconst (v := 0) hx hb dX10_tell_106 (by decide) ?_
              exact hJ107 0 v14 H locs ls hf hP hD hS (lv_sub hl [0, 1, 2, 3, 5] rfl)
            · replace hf := zIf_t hc hf
              refine lv_aload_n hx hb dX10_tell_96 rfl (lv_at hl 0 rfl) ?_
              refine zGet (ci := 10) (C := RX10) (F := TX10) (N := 54) (v := .ref (hgm 17)) hx hb hts hiX10 hown hK hP 0 37 2 rfl rfl (by decide) rfl rfl rfl dX10_tell_97 ?_
              refine lv_iload hx hb dX10_tell_100 (lv_at hl 5 rfl) ?_
              obtain ⟨hg, hf⟩ := zGd_ok hf
              refine zAldI hx hb hK hP 17 rfl hg dX10_tell_102 (fun v21 ev21 => ?_)
              replace hf := zLt_at ev21 hf
              refine lv_goto (tgt := 107) hx hb dX10_tell_103 (by decide) ?_
              exact hJ107 v21 v14 H locs ls hf hP hD hS (lv_sub hl [0, 1, 2, 3, 5] rfl)
      refine zLpS2 (body := (fX10_tell_L21 a1 gml)) (b := ex) (fun (v3 : Int32) (gm_4 : zM) => ∀ (H : Heap) (locs : List Loc) (ls : Array Slot), va_P D vwCl (wX10 T hgm gm_4 gml) H → va_D A (wX10 T hgm gm_4 gml) → va_S A s.heap H locs → lv_has ls 7 [(0, .ref (hgm 0)), (1, .int a1), (2, .int a2), (3, .int v3)] → W p l e rX10_tell s m args below meth c H locs 0 0 Q (F0 m 21 ls [])) ?_ zFU 0 gm hlp H locs ls hP hD hS (lv_sub hl [1, 2, 3, 0] rfl)
      intro v3 gm_4 z hf hzz H locs ls hP hD hS hl
      unfold fX10_tell_L21 at hf
      replace hf := zUk2 hf
      refine lv_iload_n hx hb dX10_tell_21 rfl (lv_at hl 3 rfl) ?_
      refine lv_aload_n hx hb dX10_tell_22 rfl (lv_at hl 0 rfl) ?_
      refine zGet (ci := 10) (C := RX10) (F := TX10) (N := 54) (v := .int (gm_4 0 0)) hx hb hts hiX10 hown hK hP 0 0 1 rfl rfl (by decide) rfl rfl rfl dX10_tell_23 ?_
      refine lv_icmp_ge (tgt := 54) hx hb dX10_tell_26 (by decide) (fun hc => ?_) (fun hc => ?_)
      · replace hf := zIf_t hc hf
        cases hf
        exact hE21_54 gm_4 hzz.symm H locs ls hP hD hS (lv_sub hl [0, 2] rfl)
      · replace hf := zIf_f hc hf
        refine lv_aload_n hx hb dX10_tell_29 rfl (lv_at hl 0 rfl) ?_
        refine lv_iconst (v := 1) hx hb dX10_tell_30 (by decide) ?_
        refine lv_iload_n hx hb dX10_tell_31 rfl (lv_at hl 3 rfl) ?_
        refine lv_ishl hx hb dX10_tell_32 ?_
        obtain ⟨gm_6, hc33, hf⟩ := zB1_ok hf
        refine zCallVEV [.int ((1 : Int32) <<< (v3 &&& 31))] ⟨hx, hb, hml, hown, hts⟩ (pX10_findDays l D T X hgm H.size gm_4 gml ((1 : Int32) <<< (v3 &&& 31)) gm_6 hc33) (cwV 1 hts gX10_tell_X10_findDays rfl rfl rfl (by decide +kernel) ⟨Nat.le_of_ble_eq_true rfl, Nat.le_of_ble_eq_true rfl⟩) hK hP hD hS hA hX 0 rfl rfl rfl hl.1 rfl (Nat.le_of_ble_eq_true rfl) dX10_tell_33 ⟨Nat.zero_le _, Nat.zero_le _⟩ (fun H locs hP hD hS => ?_)
        refine lv_aload_n hx hb dX10_tell_36 rfl (lv_at hl 0 rfl) ?_
        refine zGet (ci := 10) (C := RX10) (F := TX10) (N := 54) (v := .ref (hgm 17)) hx hb hts hiX10 hown hK hP 0 37 2 rfl rfl (by decide) rfl rfl rfl dX10_tell_37 ?_
        refine lv_iload_n hx hb dX10_tell_40 rfl (lv_at hl 3 rfl) ?_
        refine lv_aload_n hx hb dX10_tell_41 rfl (lv_at hl 0 rfl) ?_
        refine zGet (ci := 10) (C := RX10) (F := TX10) (N := 54) (v := .ref (hgm 13)) hx hb hts hiX10 hown hK hP 0 32 3 rfl rfl (by decide) rfl rfl rfl dX10_tell_42 ?_
        refine lv_iload_n hx hb dX10_tell_45 rfl (lv_at hl 1 rfl) ?_
        obtain ⟨hg, hf⟩ := zGd_ok hf
        refine zAldI hx hb hK hP 13 rfl hg dX10_tell_46 (fun v7 ev7 => ?_)
        replace hf := zLt_at ev7 hf
        obtain ⟨hg, hf⟩ := zGd_ok hf
        refine zAstI (w := gm_6) hx hb hK hP hD hS (fun g => wX10 T hgm g gml) 17 17 rfl hg rfl dX10_tell_47 (fun gm_8 egm_8 H locs hP hD hS => ?_)
        replace hP : va_P D vwCl (wX10 T hgm gm_8 gml) H := hP
        replace hD : va_D A (wX10 T hgm gm_8 gml) := hD
        replace hf := zLt_at egm_8 hf
        obtain ⟨v9, ev9⟩ : ∃ y : Int32, y = v3 + 1 := ⟨_, rfl⟩
        replace hf := zLt_at ev9 hf
        refine lv_iinc (v := v9) (lv' := [(3, .int v9), (0, .ref (hgm 0)), (1, .int a1), (2, .int a2)]) hx hb dX10_tell_48 hl (k := 3) rfl (by rw [ev9]; rfl) (by decide) rfl (fun ls hl => ?_)
        refine lv_goto (tgt := 21) hx hb dX10_tell_51 (by decide) ?_
        cases hf
        exact hzz H locs ls hP hD hS (lv_sub hl [1, 2, 3, 0] rfl)
    · replace hf := zIf_t hc hf
      refine lv_iconst (v := (-1)) hx hb dX10_tell_17 (by decide) ?_
      obtain ⟨q1, q2⟩ := zI2 hf
      subst q1
      subst q2
      exact zRetI hQ hx hb hr hlocks hA0 hK hP hD hS rfl dX10_tell_18
set_option maxHeartbeats 4000000 in
set_option maxRecDepth 100000 in
theorem pX10_isShelf (l : Launch) (D : va_G) (T : Nat → ClassId) (X : zFP) (sz : Nat) (a1 : Int32) (r : Int32) (hf : fX10_isShelf a1 = some r) : Met l yX10_isShelf wsX10_isShelf rX10_isShelf (zPre D T X [.int a1] ([]) sz) (zQi D T r ([]) ([]) sz) 0 0 (va_A ([]) sz) := by
  unfold fX10_isShelf at hf
  refine zStart [(0, .int a1)] (by decide) rfl (Nat.le_of_ble_eq_true rfl) rfl ?_
  intro p e s m args below meth c A Q ls hx hb hr hml hown hlocks hts hsz hA0 hQ hA hK hX hP hD hS hl
  replace hown : s.vm.findClass RX10 = some m.cls := hown
  have hH := hsz
  obtain ⟨H, hHe⟩ : ∃ H : Heap, H = s.heap := ⟨_, rfl⟩
  obtain ⟨locs, hLe⟩ : ∃ L : List Loc, L = [] := ⟨_, rfl⟩
  replace hP : va_P D vwCl ([]) H := by rw [hHe]; exact hP
  replace hS : va_S A s.heap H locs := by rw [hHe, hLe]; exact hS
  suffices hgo : W p l e rX10_isShelf s m args below meth c H locs 0 0 Q (F0 m 0 ls []) by rw [hHe, hLe] at hgo; exact hgo
  clear hHe hLe
  refine lv_iload_n hx hb dX10_isShelf_0 rfl (lv_at hl 0 rfl) ?_
  refine lv_iconst (v := 0) hx hb dX10_isShelf_1 (by decide) ?_
  refine lv_iconst (v := 3) hx hb dX10_isShelf_2 (by decide) ?_
  obtain ⟨v1, hc3, hf⟩ := zB1_ok hf
  refine zCallS0I [.int a1, .int 0, .int 3] ⟨hx, hb, hml, hown, hts⟩ (pX10_in l D T X H.size a1 0 3 v1 hc3) (va_cwS 3 hts gX10_isShelf_X10_in rfl rfl rfl (by decide +kernel) ⟨Nat.le_of_ble_eq_true rfl, Nat.le_of_ble_eq_true rfl⟩) hK hP hD hS hA hX rfl hl.1 rfl (Nat.le_of_ble_eq_true rfl) dX10_isShelf_3 ⟨Nat.zero_le _, Nat.zero_le _⟩ (fun H locs hP hD hS => ?_)
  obtain ⟨hg, hf⟩ := zGd_ok hf
  obtain ⟨q1, -⟩ := zI1 hf
  subst q1
  exact zRetZ hQ hx hb hr hlocks hA0 hK hP hD hS hg rfl dX10_isShelf_6
set_option maxHeartbeats 4000000 in
set_option maxRecDepth 100000 in
theorem pX10_lacksSort (l : Launch) (D : va_G) (T : Nat → ClassId) (X : zFP) (hgm : Nat → Nat) (sz : Nat) (gm : zM) (gml : zL) (a1 : Int32) (a2 : Int32) (r : Int32) (hf : fX10_lacksSort gm gml a1 a2 = some r) : Met l yX10_lacksSort wsX10_lacksSort rX10_lacksSort (zPre D T X [.ref (hgm 0), .int a1, .int a2] (wX10 T hgm gm gml) sz) (zQi D T r (wX10 T hgm gm gml) (wX10 T hgm gm gml) sz) 0 0 (va_A (wX10 T hgm gm gml) sz) := by
  unfold fX10_lacksSort at hf
  refine zStart [(0, .ref (hgm 0)), (1, .int a1), (2, .int a2)] (by decide) rfl (Nat.le_of_ble_eq_true rfl) rfl ?_
  intro p e s m args below meth c A Q ls hx hb hr hml hown hlocks hts hsz hA0 hQ hA hK hX hP hD hS hl
  replace hown : s.vm.findClass RX10 = some m.cls := hown
  have hH := hsz
  have hiX10 : ∀ w ∈ u_ws RX10 TX10 54, w ∈ wsX10_lacksSort := fun w h => List.mem_cons_of_mem _ (List.mem_append_right _ (h))
  obtain ⟨H, hHe⟩ : ∃ H : Heap, H = s.heap := ⟨_, rfl⟩
  obtain ⟨locs, hLe⟩ : ∃ L : List Loc, L = [] := ⟨_, rfl⟩
  replace hP : va_P D vwCl (wX10 T hgm gm gml) H := by rw [hHe]; exact hP
  replace hS : va_S A s.heap H locs := by rw [hHe, hLe]; exact hS
  suffices hgo : W p l e rX10_lacksSort s m args below meth c H locs 0 0 Q (F0 m 0 ls []) by rw [hHe, hLe] at hgo; exact hgo
  clear hHe hLe
  refine lv_aload_n hx hb dX10_lacksSort_0 rfl (lv_at hl 0 rfl) ?_
  refine zGet (ci := 10) (C := RX10) (F := TX10) (N := 54) (v := .ref (hgm 18)) hx hb hts hiX10 hown hK hP 0 38 1 rfl rfl (by decide) rfl rfl rfl dX10_lacksSort_1 ?_
  refine lv_iload_n hx hb dX10_lacksSort_4 rfl (lv_at hl 1 rfl) ?_
  obtain ⟨hg, hf⟩ := zGd_ok hf
  refine zAldI hx hb hK hP 18 rfl hg dX10_lacksSort_5 (fun v1 ev1 => ?_)
  replace hf := zLt_at ev1 hf
  refine lv_if_ge (tgt := 14) hx hb dX10_lacksSort_6 (by decide) (fun hc => ?_) (fun hc => ?_)
  · replace hf := zIf_t hc hf
    refine lv_aload_n hx hb dX10_lacksSort_14 rfl (lv_at hl 0 rfl) ?_
    refine zGet (ci := 10) (C := RX10) (F := TX10) (N := 54) (v := .ref (hgm 18)) hx hb hts hiX10 hown hK hP 0 38 1 rfl rfl (by decide) rfl rfl rfl dX10_lacksSort_15 ?_
    refine lv_iload_n hx hb dX10_lacksSort_18 rfl (lv_at hl 1 rfl) ?_
    obtain ⟨hg, hf⟩ := zGd_ok hf
    refine zAldI hx hb hK hP 18 rfl hg dX10_lacksSort_19 (fun v2 ev2 => ?_)
    replace hf := zLt_at ev2 hf
    refine lv_iload_n hx hb dX10_lacksSort_20 rfl (lv_at hl 2 rfl) ?_
    refine lv_icmp_eq (tgt := 29) hx hb dX10_lacksSort_21 (by decide) (fun hc => ?_) (fun hc => ?_)
    · replace hf := zIf_t hc hf
      refine lv_iconst (v := 0) hx hb dX10_lacksSort_29 (by decide) ?_
      obtain ⟨q1, -⟩ := zI1 hf
      subst q1
      exact zRetI hQ hx hb hr hlocks hA0 hK hP hD hS rfl dX10_lacksSort_30
    · replace hf := zIf_f hc hf
      refine lv_bipush (v := (-13)) hx hb dX10_lacksSort_24 (by decide) ?_
      refine lv_goto (tgt := 30) hx hb dX10_lacksSort_26 (by decide) ?_
      obtain ⟨q1, -⟩ := zI1 hf
      subst q1
      exact zRetI hQ hx hb hr hlocks hA0 hK hP hD hS rfl dX10_lacksSort_30
  · replace hf := zIf_f hc hf
    refine lv_bipush (v := (-11)) hx hb dX10_lacksSort_9 (by decide) ?_
    refine lv_goto (tgt := 30) hx hb dX10_lacksSort_11 (by decide) ?_
    obtain ⟨q1, -⟩ := zI1 hf
    subst q1
    exact zRetI hQ hx hb hr hlocks hA0 hK hP hD hS rfl dX10_lacksSort_30
set_option maxHeartbeats 4000000 in
set_option maxRecDepth 100000 in
theorem pX10_best (l : Launch) (D : va_G) (T : Nat → ClassId) (X : zFP) (hgm : Nat → Nat) (sz : Nat) (gm : zM) (gml : zL) (a1 : Int32) (a2 : Int32) (r : Int32) (ngm : zM) (hf : fX10_best gm gml a1 a2 = some (r, ngm)) : Met l yX10_best wsX10_best rX10_best (zPre D T X [.ref (hgm 0), .int a1, .int a2] (wX10 T hgm gm gml) sz) (zQi D T r (wX10 T hgm ngm gml) (wX10 T hgm gm gml) sz) 0 0 (va_A (wX10 T hgm gm gml) sz) := by
  unfold fX10_best at hf
  refine zStart [(0, .ref (hgm 0)), (1, .int a1), (2, .int a2)] (by decide) rfl (Nat.le_of_ble_eq_true rfl) rfl ?_
  intro p e s m args below meth c A Q ls hx hb hr hml hown hlocks hts hsz hA0 hQ hA hK hX hP hD hS hl
  replace hown : s.vm.findClass RX10 = some m.cls := hown
  have hH := hsz
  have hiX10 : ∀ w ∈ u_ws RX10 TX10 54, w ∈ wsX10_best := fun w h => List.mem_cons_of_mem _ (List.mem_append_right _ (h))
  obtain ⟨H, hHe⟩ : ∃ H : Heap, H = s.heap := ⟨_, rfl⟩
  obtain ⟨locs, hLe⟩ : ∃ L : List Loc, L = [] := ⟨_, rfl⟩
  replace hP : va_P D vwCl (wX10 T hgm gm gml) H := by rw [hHe]; exact hP
  replace hS : va_S A s.heap H locs := by rw [hHe, hLe]; exact hS
  suffices hgo : W p l e rX10_best s m args below meth c H locs 0 0 Q (F0 m 0 ls []) by rw [hHe, hLe] at hgo; exact hgo
  clear hHe hLe
  refine lv_iload_n hx hb dX10_best_0 rfl (lv_at hl 1 rfl) ?_
  obtain ⟨v1, hc1, hf⟩ := zB1_ok hf
  refine zCallS0I [.int a1] ⟨hx, hb, hml, hown, hts⟩ (pX10_isShelf l D T X H.size a1 v1 hc1) (va_cwS 1 hts gX10_best_X10_isShelf rfl rfl rfl (by decide +kernel) ⟨Nat.le_of_ble_eq_true rfl, Nat.le_of_ble_eq_true rfl⟩) hK hP hD hS hA hX rfl hl.1 rfl (Nat.le_of_ble_eq_true rfl) dX10_best_1 ⟨Nat.zero_le _, Nat.zero_le _⟩ (fun H locs hP hD hS => ?_)
  refine lv_if_eq (tgt := 14) hx hb dX10_best_4 (by decide) (fun hc => ?_) (fun hc => ?_)
  · replace hf := zIf_t hc hf
    refine lv_iconst (v := (-1)) hx hb dX10_best_14 (by decide) ?_
    obtain ⟨q1, q2⟩ := zI2 hf
    subst q1
    subst q2
    exact zRetI hQ hx hb hr hlocks hA0 hK hP hD hS rfl dX10_best_15
  · replace hf := zIf_f hc hf
    refine lv_iload_n hx hb dX10_best_7 rfl (lv_at hl 2 rfl) ?_
    obtain ⟨v2, hc8, hf⟩ := zB1_ok hf
    refine zCallS0I [.int a2] ⟨hx, hb, hml, hown, hts⟩ (pX10_isSide l D T X H.size a2 v2 hc8) (va_cwS 1 hts gX10_best_X10_isSide rfl rfl rfl (by decide +kernel) ⟨Nat.le_of_ble_eq_true rfl, Nat.le_of_ble_eq_true rfl⟩) hK hP hD hS hA hX rfl hl.1 rfl (Nat.le_of_ble_eq_true rfl) dX10_best_8 ⟨Nat.zero_le _, Nat.zero_le _⟩ (fun H locs hP hD hS => ?_)
    refine lv_if_ne (tgt := 16) hx hb dX10_best_11 (by decide) (fun hc => ?_) (fun hc => ?_)
    · replace hf := zIf_f hc hf
      refine lv_aload_n hx hb dX10_best_16 rfl (lv_at hl 0 rfl) ?_
      refine lv_iload_n hx hb dX10_best_17 rfl (lv_at hl 1 rfl) ?_
      refine lv_iconst (v := 2) hx hb dX10_best_18 (by decide) ?_
      obtain ⟨v3, hc19, hf⟩ := zB1_ok hf
      refine zCallVEI [.int a1, .int 2] ⟨hx, hb, hml, hown, hts⟩ (pX10_lacksSort l D T X hgm H.size gm gml a1 2 v3 hc19) (cwV 2 hts gX10_best_X10_lacksSort rfl rfl rfl (by decide +kernel) ⟨Nat.le_of_ble_eq_true rfl, Nat.le_of_ble_eq_true rfl⟩) hK hP hD hS hA hX 0 rfl rfl rfl hl.1 rfl (Nat.le_of_ble_eq_true rfl) dX10_best_19 ⟨Nat.zero_le _, Nat.zero_le _⟩ (fun H locs hP hD hS => ?_)
      refine lv_istore_n (lv' := [(3, .int v3), (0, .ref (hgm 0)), (1, .int a1), (2, .int a2)]) hx hb dX10_best_22 rfl hl (by decide) rfl (fun ls hl => ?_)
      refine lv_iload_n hx hb dX10_best_23 rfl (lv_at hl 0 rfl) ?_
      refine lv_if_eq (tgt := 29) hx hb dX10_best_24 (by decide) (fun hc => ?_) (fun hc => ?_)
      · replace hf := zIf_t hc hf
        refine lv_aload_n hx hb dX10_best_29 rfl (lv_at hl 1 rfl) ?_
        refine lv_iconst (v := 0) hx hb dX10_best_30 (by decide) ?_
        obtain ⟨v4, hc31, hf⟩ := zB1_ok hf
        refine zCallVEI [.int 0] ⟨hx, hb, hml, hown, hts⟩ (pX10_openOn l D T X hgm H.size gm gml 0 v4 hc31) (cwV 1 hts gX10_best_X10_openOn rfl rfl rfl (by decide +kernel) ⟨Nat.le_of_ble_eq_true rfl, Nat.le_of_ble_eq_true rfl⟩) hK hP hD hS hA hX 0 rfl rfl rfl hl.1 rfl (Nat.le_of_ble_eq_true rfl) dX10_best_31 ⟨Nat.zero_le _, Nat.zero_le _⟩ (fun H locs hP hD hS => ?_)
        refine lv_istore (lv' := [(4, .int v4), (3, .int v3), (0, .ref (hgm 0)), (1, .int a1), (2, .int a2)]) hx hb dX10_best_34 hl (by decide) rfl (fun ls hl => ?_)
        refine lv_bipush (v := (-3)) hx hb dX10_best_36 (by decide) ?_
        refine lv_istore (lv' := [(5, .int (-3)), (4, .int v4), (3, .int v3), (0, .ref (hgm 0)), (1, .int a1), (2, .int a2)]) hx hb dX10_best_38 hl (by decide) rfl (fun ls hl => ?_)
        refine lv_iconst (v := 0) hx hb dX10_best_40 (by decide) ?_
        refine lv_istore (lv' := [(6, .int 0), (5, .int (-3)), (4, .int v4), (3, .int v3), (0, .ref (hgm 0)), (1, .int a1), (2, .int a2)]) hx hb dX10_best_41 hl (by decide) rfl (fun ls hl => ?_)
        refine lv_iconst (v := 0) hx hb dX10_best_43 (by decide) ?_
        refine lv_istore (lv' := [(7, .int 0), (6, .int 0), (5, .int (-3)), (4, .int v4), (3, .int v3), (0, .ref (hgm 0)), (1, .int a1), (2, .int a2)]) hx hb dX10_best_44 hl (by decide) rfl (fun ls hl => ?_)
        obtain ⟨ex, hlp, hf⟩ := zB1_ok hf
        have hE46_111 : ∀ (v9 : Int32) (v10 : Int32) (gm_11 : zM) , ex = (v9, v10, gm_11) → ∀ (H : Heap) (locs : List Loc) (ls : Array Slot), va_P D vwCl (wX10 T hgm gm_11 gml) H → va_D A (wX10 T hgm gm_11 gml) → va_S A s.heap H locs → lv_has ls 9 [(2, .int a2), (5, .int v9), (6, .int v10)] → W p l e rX10_best s m args below meth c H locs 0 0 Q (F0 m 111 ls []) := by
          intro v9 v10 gm_11 hex H locs ls hP hD hS hl
          have hf := zEx3 hex hf
          refine lv_iload hx hb dX10_best_111 (lv_at hl 1 rfl) ?_
          refine lv_if_ge (tgt := 121) hx hb dX10_best_113 (by decide) (fun hc => ?_) (fun hc => ?_)
          · replace hf := zIf_t hc hf
            refine lv_iload_n hx hb dX10_best_121 rfl (lv_at hl 0 rfl) ?_
            refine lv_if_ne (tgt := 130) hx hb dX10_best_122 (by decide) (fun hc => ?_) (fun hc => ?_)
            · replace hf := zIf_f hc hf
              refine lv_iload hx hb dX10_best_130 (lv_at hl 2 rfl) ?_
              obtain ⟨q1, q2⟩ := zI2 hf
              subst q1
              subst q2
              exact zRetI hQ hx hb hr hlocks hA0 hK hP hD hS rfl dX10_best_132
            · replace hf := zIf_t hc hf
              refine lv_iload hx hb dX10_best_125 (lv_at hl 1 rfl) ?_
              refine lv_goto (tgt := 132) hx hb dX10_best_127 (by decide) ?_
              obtain ⟨q1, q2⟩ := zI2 hf
              subst q1
              subst q2
              exact zRetI hQ hx hb hr hlocks hA0 hK hP hD hS rfl dX10_best_132
          · replace hf := zIf_f hc hf
            refine lv_bipush (v := (-3)) hx hb dX10_best_116 (by decide) ?_
            refine lv_goto (tgt := 132) hx hb dX10_best_118 (by decide) ?_
            obtain ⟨q1, q2⟩ := zI2 hf
            subst q1
            subst q2
            exact zRetI hQ hx hb hr hlocks hA0 hK hP hD hS rfl dX10_best_132
        refine zLpS4 (body := (fX10_best_L46 a1 gml v4)) (b := ex) (fun (v5 : Int32) (v6 : Int32) (v7 : Int32) (gm_8 : zM) => ∀ (H : Heap) (locs : List Loc) (ls : Array Slot), va_P D vwCl (wX10 T hgm gm_8 gml) H → va_D A (wX10 T hgm gm_8 gml) → va_S A s.heap H locs → lv_has ls 9 [(0, .ref (hgm 0)), (1, .int a1), (2, .int a2), (4, .int v4), (5, .int v5), (6, .int v6), (7, .int v7)] → W p l e rX10_best s m args below meth c H locs 0 0 Q (F0 m 46 ls [])) ?_ zFU (-3) 0 0 gm hlp H locs ls hP hD hS (lv_sub hl [5, 6, 7, 3, 2, 1, 0] rfl)
        intro v5 v6 v7 gm_8 z hf hzz H locs ls hP hD hS hl
        unfold fX10_best_L46 at hf
        replace hf := zUk4 hf
        refine lv_iload hx hb dX10_best_46 (lv_at hl 6 rfl) ?_
        refine lv_aload_n hx hb dX10_best_48 rfl (lv_at hl 0 rfl) ?_
        refine zGet (ci := 10) (C := RX10) (F := TX10) (N := 54) (v := .ref (hgm 19)) hx hb hts hiX10 hown hK hP 0 39 1 rfl rfl (by decide) rfl rfl rfl dX10_best_49 ?_
        refine lv_iload_n hx hb dX10_best_52 rfl (lv_at hl 1 rfl) ?_
        obtain ⟨hg, hf⟩ := zGd_ok hf
        refine zAldI hx hb hK hP 19 rfl hg dX10_best_53 (fun v12 ev12 => ?_)
        replace hf := zLt_at ev12 hf
        refine lv_icmp_ge (tgt := 111) hx hb dX10_best_54 (by decide) (fun hc => ?_) (fun hc => ?_)
        · replace hf := zIf_t hc hf
          cases hf
          exact hE46_111 v5 v6 gm_8 hzz.symm H locs ls hP hD hS (lv_sub hl [2, 4, 5] rfl)
        · replace hf := zIf_f hc hf
          refine lv_aload_n hx hb dX10_best_57 rfl (lv_at hl 0 rfl) ?_
          refine lv_iload hx hb dX10_best_58 (lv_at hl 3 rfl) ?_
          refine lv_aload_n hx hb dX10_best_60 rfl (lv_at hl 0 rfl) ?_
          refine zGet (ci := 10) (C := RX10) (F := TX10) (N := 54) (v := .ref (hgm 20)) hx hb hts hiX10 hown hK hP 0 40 2 rfl rfl (by decide) rfl rfl rfl dX10_best_61 ?_
          refine lv_bipush (v := 40) hx hb dX10_best_64 (by decide) ?_
          refine lv_iload_n hx hb dX10_best_66 rfl (lv_at hl 1 rfl) ?_
          refine lv_imul hx hb dX10_best_67 ?_
          refine lv_iload hx hb dX10_best_68 (lv_at hl 6 rfl) ?_
          refine lv_iadd hx hb dX10_best_70 ?_
          obtain ⟨hg, hf⟩ := zGd_ok hf
          refine zAldL hx hb hK hP 20 rfl hg dX10_best_71 (fun v13 ev13 => ?_)
          replace hf := zLt_at ev13 hf
          refine lv_l2i hx hb dX10_best_72 rfl ?_
          refine lv_iconst (v := (-1)) hx hb dX10_best_73 (by decide) ?_
          refine lv_ixor hx hb dX10_best_74 ?_
          refine lv_iand hx hb dX10_best_75 ?_
          refine lv_aload_n hx hb dX10_best_76 rfl (lv_at hl 0 rfl) ?_
          obtain ⟨v14, hc77, hf⟩ := zB1_ok hf
          refine zCallVEI [] ⟨hx, hb, hml, hown, hts⟩ (pX10_all l D T X hgm H.size gm_8 gml v14 hc77) (cwV 0 hts gX10_best_X10_all rfl rfl rfl (by decide +kernel) ⟨Nat.le_of_ble_eq_true rfl, Nat.le_of_ble_eq_true rfl⟩) hK hP hD hS hA hX 0 rfl rfl rfl hl.1 rfl (Nat.le_of_ble_eq_true rfl) dX10_best_77 ⟨Nat.zero_le _, Nat.zero_le _⟩ (fun H locs hP hD hS => ?_)
          obtain ⟨v15, gm_16, hc80, hf⟩ := zB2_ok hf
          refine zCallVEI [.int (v4 &&& ((v13.toInt32) ^^^ (-1))), .int v14] ⟨hx, hb, hml, hown, hts⟩ (pX10_greatest l D T X hgm H.size gm_8 gml (v4 &&& ((v13.toInt32) ^^^ (-1))) v14 v15 gm_16 hc80) (cwV 2 hts gX10_best_X10_greatest rfl rfl rfl (by decide +kernel) ⟨Nat.le_of_ble_eq_true rfl, Nat.le_of_ble_eq_true rfl⟩) hK hP hD hS hA hX 0 rfl rfl rfl hl.1 rfl (Nat.le_of_ble_eq_true rfl) dX10_best_80 ⟨Nat.zero_le _, Nat.zero_le _⟩ (fun H locs hP hD hS => ?_)
          refine lv_istore (lv' := [(8, .int v15), (0, .ref (hgm 0)), (1, .int a1), (2, .int a2), (4, .int v4), (5, .int v5), (6, .int v6), (7, .int v7)]) hx hb dX10_best_83 hl (by decide) rfl (fun ls hl => ?_)
          refine lv_iload hx hb dX10_best_85 (lv_at hl 5 rfl) ?_
          have hJ105 : ∀ (v17 : Int32) (v18 : Int32) (H : Heap) (locs : List Loc) (ls : Array Slot), fX10_best_L46J105 v7 gm_16 v17 v18 = some z → va_P D vwCl (wX10 T hgm gm_16 gml) H → va_D A (wX10 T hgm gm_16 gml) → va_S A s.heap H locs → lv_has ls 9 [(0, .ref (hgm 0)), (1, .int a1), (2, .int a2), (4, .int v4), (5, .int v17), (6, .int v18), (7, .int v7)] → W p l e rX10_best s m args below meth c H locs 0 0 Q (F0 m 105 ls []) := by
            intro v17 v18 H locs ls hf hP hD hS hl
            unfold fX10_best_L46J105 at hf
            obtain ⟨v19, ev19⟩ : ∃ y : Int32, y = v7 + 1 := ⟨_, rfl⟩
            replace hf := zLt_at ev19 hf
            refine lv_iinc (v := v19) (lv' := [(7, .int v19), (0, .ref (hgm 0)), (1, .int a1), (2, .int a2), (4, .int v4), (5, .int v17), (6, .int v18)]) hx hb dX10_best_105 hl (k := 6) rfl (by rw [ev19]; rfl) (by decide) rfl (fun ls hl => ?_)
            refine lv_goto (tgt := 46) hx hb dX10_best_108 (by decide) ?_
            cases hf
            exact hzz H locs ls hP hD hS (lv_sub hl [1, 2, 3, 4, 5, 6, 0] rfl)
          have hJ97 : ∀ (H : Heap) (locs : List Loc) (ls : Array Slot), fX10_best_L46J97 v7 v15 gm_16 = some z → va_P D vwCl (wX10 T hgm gm_16 gml) H → va_D A (wX10 T hgm gm_16 gml) → va_S A s.heap H locs → lv_has ls 9 [(0, .ref (hgm 0)), (1, .int a1), (2, .int a2), (4, .int v4), (7, .int v7), (8, .int v15)] → W p l e rX10_best s m args below meth c H locs 0 0 Q (F0 m 97 ls []) := by
            intro H locs ls hf hP hD hS hl
            unfold fX10_best_L46J97 at hf
            refine lv_iload hx hb dX10_best_97 (lv_at hl 4 rfl) ?_
            refine lv_istore (lv' := [(5, .int v7), (0, .ref (hgm 0)), (1, .int a1), (2, .int a2), (4, .int v4), (7, .int v7), (8, .int v15)]) hx hb dX10_best_99 hl (by decide) rfl (fun ls hl => ?_)
            refine lv_iload hx hb dX10_best_101 (lv_at hl 6 rfl) ?_
            refine lv_istore (lv' := [(6, .int v15), (5, .int v7), (0, .ref (hgm 0)), (1, .int a1), (2, .int a2), (4, .int v4), (7, .int v7), (8, .int v15)]) hx hb dX10_best_103 hl (by decide) rfl (fun ls hl => ?_)
            exact hJ105 v7 v15 H locs ls hf hP hD hS (lv_sub hl [2, 3, 4, 5, 1, 0, 6] rfl)
          refine lv_if_lt (tgt := 97) hx hb dX10_best_87 (by decide) (fun hc => ?_) (fun hc => ?_)
          · replace hf := zIf_t hc hf
            exact hJ97 H locs ls hf hP hD hS (lv_sub hl [1, 2, 3, 4, 7, 0] rfl)
          · replace hf := zIf_f hc hf
            refine lv_iload hx hb dX10_best_90 (lv_at hl 0 rfl) ?_
            refine lv_iload hx hb dX10_best_92 (lv_at hl 6 rfl) ?_
            refine lv_icmp_ge (tgt := 105) hx hb dX10_best_94 (by decide) (fun hc => ?_) (fun hc => ?_)
            · replace hf := zIf_t hc hf
              exact hJ105 v5 v6 H locs ls hf hP hD hS (lv_sub hl [1, 2, 3, 4, 5, 6, 7] rfl)
            · replace hf := zIf_f hc hf
              exact hJ97 H locs ls hf hP hD hS (lv_sub hl [1, 2, 3, 4, 7, 0] rfl)
      · replace hf := zIf_f hc hf
        refine lv_iload_n hx hb dX10_best_27 rfl (lv_at hl 0 rfl) ?_
        obtain ⟨q1, q2⟩ := zI2 hf
        subst q1
        subst q2
        exact zRetI hQ hx hb hr hlocks hA0 hK hP hD hS rfl dX10_best_28
    · replace hf := zIf_t hc hf
      refine lv_iconst (v := (-1)) hx hb dX10_best_14 (by decide) ?_
      obtain ⟨q1, q2⟩ := zI2 hf
      subst q1
      subst q2
      exact zRetI hQ hx hb hr hlocks hA0 hK hP hD hS rfl dX10_best_15
set_option maxHeartbeats 4000000 in
set_option maxRecDepth 100000 in
theorem pX10_sheet (l : Launch) (D : va_G) (T : Nat → ClassId) (X : zFP) (hgm : Nat → Nat) (sz : Nat) (gm : zM) (gml : zL) (a1 : Int32) (a2 : Int32) (a3 : Int32) (r : Int32) (ngm : zM) (ngml : zL) (hf : fX10_sheet gm gml a1 a2 a3 = some (r, ngm, ngml)) : Met l yX10_sheet wsX10_sheet rX10_sheet (zPre D T X [.ref (hgm 0), .int a1, .int a2, .int a3] (wX10 T hgm gm gml) sz) (zQi D T r (wX10 T hgm ngm ngml) (wX10 T hgm gm gml) sz) 0 0 (va_A (wX10 T hgm gm gml) sz) := by
  unfold fX10_sheet at hf
  refine zStart [(0, .ref (hgm 0)), (1, .int a1), (2, .int a2), (3, .int a3)] (by decide) rfl (Nat.le_of_ble_eq_true rfl) rfl ?_
  intro p e s m args below meth c A Q ls hx hb hr hml hown hlocks hts hsz hA0 hQ hA hK hX hP hD hS hl
  replace hown : s.vm.findClass RX10 = some m.cls := hown
  have hH := hsz
  have hiX10 : ∀ w ∈ u_ws RX10 TX10 54, w ∈ wsX10_sheet := fun w h => List.mem_cons_of_mem _ (List.mem_append_right _ (h))
  obtain ⟨H, hHe⟩ : ∃ H : Heap, H = s.heap := ⟨_, rfl⟩
  obtain ⟨locs, hLe⟩ : ∃ L : List Loc, L = [] := ⟨_, rfl⟩
  replace hP : va_P D vwCl (wX10 T hgm gm gml) H := by rw [hHe]; exact hP
  replace hS : va_S A s.heap H locs := by rw [hHe, hLe]; exact hS
  suffices hgo : W p l e rX10_sheet s m args below meth c H locs 0 0 Q (F0 m 0 ls []) by rw [hHe, hLe] at hgo; exact hgo
  clear hHe hLe
  refine lv_iload_n hx hb dX10_sheet_0 rfl (lv_at hl 1 rfl) ?_
  obtain ⟨v1, hc1, hf⟩ := zB1_ok hf
  refine zCallS0I [.int a1] ⟨hx, hb, hml, hown, hts⟩ (pX10_isShelf l D T X H.size a1 v1 hc1) (va_cwS 1 hts gX10_sheet_X10_isShelf rfl rfl rfl (by decide +kernel) ⟨Nat.le_of_ble_eq_true rfl, Nat.le_of_ble_eq_true rfl⟩) hK hP hD hS hA hX rfl hl.1 rfl (Nat.le_of_ble_eq_true rfl) dX10_sheet_1 ⟨Nat.zero_le _, Nat.zero_le _⟩ (fun H locs hP hD hS => ?_)
  refine lv_if_eq (tgt := 26) hx hb dX10_sheet_4 (by decide) (fun hc => ?_) (fun hc => ?_)
  · replace hf := zIf_t hc hf
    refine lv_iconst (v := (-1)) hx hb dX10_sheet_26 (by decide) ?_
    obtain ⟨q1, q2, q3⟩ := zI3 hf
    subst q1
    subst q2
    subst q3
    exact zRetI hQ hx hb hr hlocks hA0 hK hP hD hS rfl dX10_sheet_27
  · replace hf := zIf_f hc hf
    refine lv_iload_n hx hb dX10_sheet_7 rfl (lv_at hl 2 rfl) ?_
    refine lv_iconst (v := (-1)) hx hb dX10_sheet_8 (by decide) ?_
    refine lv_iconst (v := 3) hx hb dX10_sheet_9 (by decide) ?_
    obtain ⟨v2, hc10, hf⟩ := zB1_ok hf
    refine zCallS0I [.int a2, .int (-1), .int 3] ⟨hx, hb, hml, hown, hts⟩ (pX10_in l D T X H.size a2 (-1) 3 v2 hc10) (va_cwS 3 hts gX10_sheet_X10_in rfl rfl rfl (by decide +kernel) ⟨Nat.le_of_ble_eq_true rfl, Nat.le_of_ble_eq_true rfl⟩) hK hP hD hS hA hX rfl hl.1 rfl (Nat.le_of_ble_eq_true rfl) dX10_sheet_10 ⟨Nat.zero_le _, Nat.zero_le _⟩ (fun H locs hP hD hS => ?_)
    refine lv_if_eq (tgt := 26) hx hb dX10_sheet_13 (by decide) (fun hc => ?_) (fun hc => ?_)
    · replace hf := zIf_t hc hf
      refine lv_iconst (v := (-1)) hx hb dX10_sheet_26 (by decide) ?_
      obtain ⟨q1, q2, q3⟩ := zI3 hf
      subst q1
      subst q2
      subst q3
      exact zRetI hQ hx hb hr hlocks hA0 hK hP hD hS rfl dX10_sheet_27
    · replace hf := zIf_f hc hf
      refine lv_iload_n hx hb dX10_sheet_16 rfl (lv_at hl 2 rfl) ?_
      have hJ28 : ∀ (H : Heap) (locs : List Loc) (ls : Array Slot), fX10_sheet_J28 a1 a2 a3 gm gml = some (r, ngm, ngml) → va_P D vwCl (wX10 T hgm gm gml) H → va_D A (wX10 T hgm gm gml) → va_S A s.heap H locs → lv_has ls 5 [(0, .ref (hgm 0)), (1, .int a1), (2, .int a2), (3, .int a3)] → W p l e rX10_sheet s m args below meth c H locs 0 0 Q (F0 m 28 ls []) := by
        intro H locs ls hf hP hD hS hl
        unfold fX10_sheet_J28 at hf
        refine lv_iload_n hx hb dX10_sheet_28 rfl (lv_at hl 2 rfl) ?_
        have hJ39 : ∀ (H : Heap) (locs : List Loc) (ls : Array Slot), fX10_sheet_J39 a1 a2 a3 gm gml = some (r, ngm, ngml) → va_P D vwCl (wX10 T hgm gm gml) H → va_D A (wX10 T hgm gm gml) → va_S A s.heap H locs → lv_has ls 5 [(0, .ref (hgm 0)), (1, .int a1), (2, .int a2), (3, .int a3)] → W p l e rX10_sheet s m args below meth c H locs 0 0 Q (F0 m 39 ls []) := by
          intro H locs ls hf hP hD hS hl
          unfold fX10_sheet_J39 at hf
          refine lv_aload_n hx hb dX10_sheet_39 rfl (lv_at hl 0 rfl) ?_
          refine zGet (ci := 10) (C := RX10) (F := TX10) (N := 54) (v := .ref (hgm 18)) hx hb hts hiX10 hown hK hP 0 38 1 rfl rfl (by decide) rfl rfl rfl dX10_sheet_40 ?_
          refine lv_iload_n hx hb dX10_sheet_43 rfl (lv_at hl 1 rfl) ?_
          refine lv_iload_n hx hb dX10_sheet_44 rfl (lv_at hl 2 rfl) ?_
          obtain ⟨hg, hf⟩ := zGd_ok hf
          refine zAstI (w := gm) hx hb hK hP hD hS (fun g => wX10 T hgm g gml) 18 18 rfl hg rfl dX10_sheet_45 (fun gm_3 egm_3 H locs hP hD hS => ?_)
          replace hP : va_P D vwCl (wX10 T hgm gm_3 gml) H := hP
          replace hD : va_D A (wX10 T hgm gm_3 gml) := hD
          replace hf := zLt_at egm_3 hf
          refine lv_aload_n hx hb dX10_sheet_46 rfl (lv_at hl 0 rfl) ?_
          refine zGet (ci := 10) (C := RX10) (F := TX10) (N := 54) (v := .ref (hgm 19)) hx hb hts hiX10 hown hK hP 0 39 2 rfl rfl (by decide) rfl rfl rfl dX10_sheet_47 ?_
          refine lv_iload_n hx hb dX10_sheet_50 rfl (lv_at hl 1 rfl) ?_
          refine lv_iload_n hx hb dX10_sheet_51 rfl (lv_at hl 2 rfl) ?_
          have hJ60 : ∀ (v4 : Int32) (v5 : Int32) (H : Heap) (locs : List Loc) (ls : Array Slot), fX10_sheet_J60 a1 gml gm_3 v4 v5 = some (r, ngm, ngml) → va_P D vwCl (wX10 T hgm gm_3 gml) H → va_D A (wX10 T hgm gm_3 gml) → va_S A s.heap H locs → lv_has ls 5 [(0, .ref (hgm 0)), (1, .int a1)] → W p l e rX10_sheet s m args below meth c H locs 0 0 Q (F0 m 60 ls [.int v4, .int v5, .ref (hgm 19)]) := by
            intro v4 v5 H locs ls hf hP hD hS hl
            unfold fX10_sheet_J60 at hf
            obtain ⟨hg, hf⟩ := zGd_ok hf
            refine zAstI (w := gm_3) hx hb hK hP hD hS (fun g => wX10 T hgm g gml) 19 19 rfl hg rfl dX10_sheet_60 (fun gm_6 egm_6 H locs hP hD hS => ?_)
            replace hP : va_P D vwCl (wX10 T hgm gm_6 gml) H := hP
            replace hD : va_D A (wX10 T hgm gm_6 gml) := hD
            replace hf := zLt_at egm_6 hf
            refine lv_iconst (v := 0) hx hb dX10_sheet_61 (by decide) ?_
            refine lv_istore (lv' := [(4, .int 0), (0, .ref (hgm 0)), (1, .int a1)]) hx hb dX10_sheet_62 hl (by decide) rfl (fun ls hl => ?_)
            obtain ⟨ex, hlp, hf⟩ := zB1_ok hf
            have hE64_90 : ∀ (gmL_9 : zL) , ex = gmL_9 → ∀ (H : Heap) (locs : List Loc) (ls : Array Slot), va_P D vwCl (wX10 T hgm gm_6 gmL_9) H → va_D A (wX10 T hgm gm_6 gmL_9) → va_S A s.heap H locs → lv_has ls 5 [] → W p l e rX10_sheet s m args below meth c H locs 0 0 Q (F0 m 90 ls []) := by
              intro gmL_9 hex H locs ls hP hD hS hl
              have hf := zEx1 hex hf
              refine lv_iconst (v := 1) hx hb dX10_sheet_90 (by decide) ?_
              obtain ⟨q1, q2, q3⟩ := zI3 hf
              subst q1
              subst q2
              subst q3
              exact zRetI hQ hx hb hr hlocks hA0 hK hP hD hS rfl dX10_sheet_91
            refine zLpS2 (body := (fX10_sheet_L64 a1)) (b := ex) (fun (v7 : Int32) (gmL_8 : zL) => ∀ (H : Heap) (locs : List Loc) (ls : Array Slot), va_P D vwCl (wX10 T hgm gm_6 gmL_8) H → va_D A (wX10 T hgm gm_6 gmL_8) → va_S A s.heap H locs → lv_has ls 5 [(0, .ref (hgm 0)), (1, .int a1), (4, .int v7)] → W p l e rX10_sheet s m args below meth c H locs 0 0 Q (F0 m 64 ls [])) ?_ zFU 0 gml hlp H locs ls hP hD hS (lv_sub hl [1, 2, 0] rfl)
            intro v7 gmL_8 z hf hzz H locs ls hP hD hS hl
            unfold fX10_sheet_L64 at hf
            replace hf := zUk2 hf
            refine lv_iload hx hb dX10_sheet_64 (lv_at hl 2 rfl) ?_
            refine lv_bipush (v := 40) hx hb dX10_sheet_66 (by decide) ?_
            refine lv_icmp_ge (tgt := 90) hx hb dX10_sheet_68 (by decide) (fun hc => ?_) (fun hc => ?_)
            · replace hf := zIf_t hc hf
              cases hf
              exact hE64_90 gmL_8 hzz.symm H locs ls hP hD hS (lv_sub hl [] rfl)
            · replace hf := zIf_f hc hf
              refine lv_aload_n hx hb dX10_sheet_71 rfl (lv_at hl 0 rfl) ?_
              refine zGet (ci := 10) (C := RX10) (F := TX10) (N := 54) (v := .ref (hgm 20)) hx hb hts hiX10 hown hK hP 0 40 3 rfl rfl (by decide) rfl rfl rfl dX10_sheet_72 ?_
              refine lv_bipush (v := 40) hx hb dX10_sheet_75 (by decide) ?_
              refine lv_iload_n hx hb dX10_sheet_77 rfl (lv_at hl 1 rfl) ?_
              refine lv_imul hx hb dX10_sheet_78 ?_
              refine lv_iload hx hb dX10_sheet_79 (lv_at hl 2 rfl) ?_
              refine lv_iadd hx hb dX10_sheet_81 ?_
              refine lv_lconst (v := 0) hx hb dX10_sheet_82 (by decide) ?_
              obtain ⟨hg, hf⟩ := zGd_ok hf
              refine zAstL (w := gmL_8) hx hb hK hP hD hS (fun g => wX10 T hgm gm_6 g) 20 20 rfl hg rfl dX10_sheet_83 (fun gmL_10 egmL_10 H locs hP hD hS => ?_)
              replace hP : va_P D vwCl (wX10 T hgm gm_6 gmL_10) H := hP
              replace hD : va_D A (wX10 T hgm gm_6 gmL_10) := hD
              replace hf := zLt_at egmL_10 hf
              obtain ⟨v11, ev11⟩ : ∃ y : Int32, y = v7 + 1 := ⟨_, rfl⟩
              replace hf := zLt_at ev11 hf
              refine lv_iinc (v := v11) (lv' := [(4, .int v11), (0, .ref (hgm 0)), (1, .int a1)]) hx hb dX10_sheet_84 hl (k := 2) rfl (by rw [ev11]; rfl) (by decide) rfl (fun ls hl => ?_)
              refine lv_goto (tgt := 64) hx hb dX10_sheet_87 (by decide) ?_
              cases hf
              exact hzz H locs ls hP hD hS (lv_sub hl [1, 2, 0] rfl)
          refine lv_if_ge (tgt := 59) hx hb dX10_sheet_52 (by decide) (fun hc => ?_) (fun hc => ?_)
          · replace hf := zIf_t hc hf
            refine lv_iload_n hx hb dX10_sheet_59 rfl (lv_at hl 3 rfl) ?_
            exact hJ60 a3 a1 H locs ls hf hP hD hS (lv_sub hl [0, 1] rfl)
          · replace hf := zIf_f hc hf
            refine lv_iconst (v := 0) hx hb dX10_sheet_55 (by decide) ?_
            refine lv_goto (tgt := 60) hx hb dX10_sheet_56 (by decide) ?_
            exact hJ60 0 a1 H locs ls hf hP hD hS (lv_sub hl [0, 1] rfl)
        refine lv_if_lt (tgt := 39) hx hb dX10_sheet_29 (by decide) (fun hc => ?_) (fun hc => ?_)
        · replace hf := zIf_t hc hf
          exact hJ39 H locs ls hf hP hD hS hl
        · replace hf := zIf_f hc hf
          refine lv_iload_n hx hb dX10_sheet_32 rfl (lv_at hl 3 rfl) ?_
          refine lv_if_ge (tgt := 39) hx hb dX10_sheet_33 (by decide) (fun hc => ?_) (fun hc => ?_)
          · replace hf := zIf_t hc hf
            exact hJ39 H locs ls hf hP hD hS hl
          · replace hf := zIf_f hc hf
            refine lv_bipush (v := (-14)) hx hb dX10_sheet_36 (by decide) ?_
            obtain ⟨q1, q2, q3⟩ := zI3 hf
            subst q1
            subst q2
            subst q3
            exact zRetI hQ hx hb hr hlocks hA0 hK hP hD hS rfl dX10_sheet_38
      refine lv_if_lt (tgt := 28) hx hb dX10_sheet_17 (by decide) (fun hc => ?_) (fun hc => ?_)
      · replace hf := zIf_t hc hf
        exact hJ28 H locs ls hf hP hD hS hl
      · replace hf := zIf_f hc hf
        refine lv_iload_n hx hb dX10_sheet_20 rfl (lv_at hl 3 rfl) ?_
        refine lv_bipush (v := 40) hx hb dX10_sheet_21 (by decide) ?_
        refine lv_icmp_le (tgt := 28) hx hb dX10_sheet_23 (by decide) (fun hc => ?_) (fun hc => ?_)
        · replace hf := zIf_t hc hf
          exact hJ28 H locs ls hf hP hD hS hl
        · replace hf := zIf_f hc hf
          refine lv_iconst (v := (-1)) hx hb dX10_sheet_26 (by decide) ?_
          obtain ⟨q1, q2, q3⟩ := zI3 hf
          subst q1
          subst q2
          subst q3
          exact zRetI hQ hx hb hr hlocks hA0 hK hP hD hS rfl dX10_sheet_27
set_option maxHeartbeats 4000000 in
set_option maxRecDepth 100000 in
theorem pX10_put (l : Launch) (D : va_G) (T : Nat → ClassId) (X : zFP) (hgm : Nat → Nat) (sz : Nat) (gm : zM) (gml : zL) (a1 : Int32) (a2 : Int32) (a3 : Int32) (r : Int32) (ngml : zL) (hf : fX10_put gm gml a1 a2 a3 = some (r, ngml)) : Met l yX10_put wsX10_put rX10_put (zPre D T X [.ref (hgm 0), .int a1, .int a2, .int a3] (wX10 T hgm gm gml) sz) (zQi D T r (wX10 T hgm gm ngml) (wX10 T hgm gm gml) sz) 0 0 (va_A (wX10 T hgm gm gml) sz) := by
  unfold fX10_put at hf
  refine zStart [(0, .ref (hgm 0)), (1, .int a1), (2, .int a2), (3, .int a3)] (by decide) rfl (Nat.le_of_ble_eq_true rfl) rfl ?_
  intro p e s m args below meth c A Q ls hx hb hr hml hown hlocks hts hsz hA0 hQ hA hK hX hP hD hS hl
  replace hown : s.vm.findClass RX10 = some m.cls := hown
  have hH := hsz
  have hiX10 : ∀ w ∈ u_ws RX10 TX10 54, w ∈ wsX10_put := fun w h => List.mem_cons_of_mem _ (List.mem_append_right _ (h))
  obtain ⟨H, hHe⟩ : ∃ H : Heap, H = s.heap := ⟨_, rfl⟩
  obtain ⟨locs, hLe⟩ : ∃ L : List Loc, L = [] := ⟨_, rfl⟩
  replace hP : va_P D vwCl (wX10 T hgm gm gml) H := by rw [hHe]; exact hP
  replace hS : va_S A s.heap H locs := by rw [hHe, hLe]; exact hS
  suffices hgo : W p l e rX10_put s m args below meth c H locs 0 0 Q (F0 m 0 ls []) by rw [hHe, hLe] at hgo; exact hgo
  clear hHe hLe
  refine lv_iload_n hx hb dX10_put_0 rfl (lv_at hl 1 rfl) ?_
  obtain ⟨v1, hc1, hf⟩ := zB1_ok hf
  refine zCallS0I [.int a1] ⟨hx, hb, hml, hown, hts⟩ (pX10_isShelf l D T X H.size a1 v1 hc1) (va_cwS 1 hts gX10_put_X10_isShelf rfl rfl rfl (by decide +kernel) ⟨Nat.le_of_ble_eq_true rfl, Nat.le_of_ble_eq_true rfl⟩) hK hP hD hS hA hX rfl hl.1 rfl (Nat.le_of_ble_eq_true rfl) dX10_put_1 ⟨Nat.zero_le _, Nat.zero_le _⟩ (fun H locs hP hD hS => ?_)
  refine lv_if_ne (tgt := 9) hx hb dX10_put_4 (by decide) (fun hc => ?_) (fun hc => ?_)
  · replace hf := zIf_f hc hf
    refine lv_aload_n hx hb dX10_put_9 rfl (lv_at hl 0 rfl) ?_
    refine zGet (ci := 10) (C := RX10) (F := TX10) (N := 54) (v := .ref (hgm 18)) hx hb hts hiX10 hown hK hP 0 38 1 rfl rfl (by decide) rfl rfl rfl dX10_put_10 ?_
    refine lv_iload_n hx hb dX10_put_13 rfl (lv_at hl 1 rfl) ?_
    obtain ⟨hg, hf⟩ := zGd_ok hf
    refine zAldI hx hb hK hP 18 rfl hg dX10_put_14 (fun v2 ev2 => ?_)
    replace hf := zLt_at ev2 hf
    refine lv_if_ge (tgt := 21) hx hb dX10_put_15 (by decide) (fun hc => ?_) (fun hc => ?_)
    · replace hf := zIf_t hc hf
      refine lv_iload_n hx hb dX10_put_21 rfl (lv_at hl 2 rfl) ?_
      refine lv_iconst (v := 0) hx hb dX10_put_22 (by decide) ?_
      refine lv_aload_n hx hb dX10_put_23 rfl (lv_at hl 0 rfl) ?_
      refine zGet (ci := 10) (C := RX10) (F := TX10) (N := 54) (v := .ref (hgm 19)) hx hb hts hiX10 hown hK hP 0 39 2 rfl rfl (by decide) rfl rfl rfl dX10_put_24 ?_
      refine lv_iload_n hx hb dX10_put_27 rfl (lv_at hl 1 rfl) ?_
      obtain ⟨hg, hf⟩ := zGd_ok hf
      refine zAldI hx hb hK hP 19 rfl hg dX10_put_28 (fun v3 ev3 => ?_)
      replace hf := zLt_at ev3 hf
      refine lv_iconst (v := 1) hx hb dX10_put_29 (by decide) ?_
      refine lv_isub hx hb dX10_put_30 ?_
      obtain ⟨v4, hc31, hf⟩ := zB1_ok hf
      refine zCallS0I [.int a2, .int 0, .int (v3 - 1)] ⟨hx, hb, hml, hown, hts⟩ (pX10_in l D T X H.size a2 0 (v3 - 1) v4 hc31) (va_cwS 3 hts gX10_put_X10_in rfl rfl rfl (by decide +kernel) ⟨Nat.le_of_ble_eq_true rfl, Nat.le_of_ble_eq_true rfl⟩) hK hP hD hS hA hX rfl hl.1 rfl (Nat.le_of_ble_eq_true rfl) dX10_put_31 ⟨Nat.zero_le _, Nat.zero_le _⟩ (fun H locs hP hD hS => ?_)
      refine lv_if_ne (tgt := 40) hx hb dX10_put_34 (by decide) (fun hc => ?_) (fun hc => ?_)
      · replace hf := zIf_f hc hf
        refine lv_aload_n hx hb dX10_put_40 rfl (lv_at hl 0 rfl) ?_
        refine zGet (ci := 10) (C := RX10) (F := TX10) (N := 54) (v := .ref (hgm 20)) hx hb hts hiX10 hown hK hP 0 40 3 rfl rfl (by decide) rfl rfl rfl dX10_put_41 ?_
        refine lv_bipush (v := 40) hx hb dX10_put_44 (by decide) ?_
        refine lv_iload_n hx hb dX10_put_46 rfl (lv_at hl 1 rfl) ?_
        refine lv_imul hx hb dX10_put_47 ?_
        refine lv_iload_n hx hb dX10_put_48 rfl (lv_at hl 2 rfl) ?_
        refine lv_iadd hx hb dX10_put_49 ?_
        refine lv_aload_n hx hb dX10_put_50 rfl (lv_at hl 0 rfl) ?_
        refine zGet (ci := 10) (C := RX10) (F := TX10) (N := 54) (v := .ref (hgm 18)) hx hb hts hiX10 hown hK hP 0 38 1 rfl rfl (by decide) rfl rfl rfl dX10_put_51 ?_
        refine lv_iload_n hx hb dX10_put_54 rfl (lv_at hl 1 rfl) ?_
        obtain ⟨hg, hf⟩ := zGd_ok hf
        refine zAldI hx hb hK hP 18 rfl hg dX10_put_55 (fun v5 ev5 => ?_)
        replace hf := zLt_at ev5 hf
        have hJ83 : ∀ (v6 : Int64) (v7 : Int32) (H : Heap) (locs : List Loc) (ls : Array Slot), fX10_put_J83 gml v6 v7 = some (r, ngml) → va_P D vwCl (wX10 T hgm gm gml) H → va_D A (wX10 T hgm gm gml) → va_S A s.heap H locs → lv_has ls 4 [] → W p l e rX10_put s m args below meth c H locs 0 0 Q (F0 m 83 ls [.long v6, .int v7, .ref (hgm 20)]) := by
          intro v6 v7 H locs ls hf hP hD hS hl
          unfold fX10_put_J83 at hf
          obtain ⟨hg, hf⟩ := zGd_ok hf
          refine zAstL (w := gml) hx hb hK hP hD hS (fun g => wX10 T hgm gm g) 20 20 rfl hg rfl dX10_put_83 (fun gmL_8 egmL_8 H locs hP hD hS => ?_)
          replace hP : va_P D vwCl (wX10 T hgm gm gmL_8) H := hP
          replace hD : va_D A (wX10 T hgm gm gmL_8) := hD
          replace hf := zLt_at egmL_8 hf
          refine lv_iconst (v := 1) hx hb dX10_put_84 (by decide) ?_
          obtain ⟨q1, q2⟩ := zI2 hf
          subst q1
          subst q2
          exact zRetI hQ hx hb hr hlocks hA0 hK hP hD hS rfl dX10_put_85
        refine lv_if_ne (tgt := 65) hx hb dX10_put_56 (by decide) (fun hc => ?_) (fun hc => ?_)
        · replace hf := zIf_f hc hf
          refine lv_aload_n hx hb dX10_put_65 rfl (lv_at hl 0 rfl) ?_
          refine zGet (ci := 10) (C := RX10) (F := TX10) (N := 54) (v := .ref (hgm 18)) hx hb hts hiX10 hown hK hP 0 38 1 rfl rfl (by decide) rfl rfl rfl dX10_put_66 ?_
          refine lv_iload_n hx hb dX10_put_69 rfl (lv_at hl 1 rfl) ?_
          obtain ⟨hg, hf⟩ := zGd_ok hf
          refine zAldI hx hb hK hP 18 rfl hg dX10_put_70 (fun v9 ev9 => ?_)
          replace hf := zLt_at ev9 hf
          refine lv_iconst (v := 1) hx hb dX10_put_71 (by decide) ?_
          refine lv_icmp_ne (tgt := 81) hx hb dX10_put_72 (by decide) (fun hc => ?_) (fun hc => ?_)
          · replace hf := zIf_f hc hf
            refine lv_iload_n hx hb dX10_put_81 rfl (lv_at hl 3 rfl) ?_
            refine lv_i2l hx hb dX10_put_82 rfl ?_
            exact hJ83 (a3.toInt64) ((40 * a1) + a2) H locs ls hf hP hD hS (lv_sub hl [] rfl)
          · replace hf := zIf_t hc hf
            refine lv_iload_n hx hb dX10_put_75 rfl (lv_at hl 3 rfl) ?_
            refine lv_i2s hx hb dX10_put_76 rfl ?_
            refine lv_i2l hx hb dX10_put_77 rfl ?_
            refine lv_goto (tgt := 83) hx hb dX10_put_78 (by decide) ?_
            exact hJ83 ((a3.toInt16.toInt32).toInt64) ((40 * a1) + a2) H locs ls hf hP hD hS (lv_sub hl [] rfl)
        · replace hf := zIf_t hc hf
          refine lv_iload_n hx hb dX10_put_59 rfl (lv_at hl 3 rfl) ?_
          refine lv_i2b hx hb dX10_put_60 rfl ?_
          refine lv_i2l hx hb dX10_put_61 rfl ?_
          refine lv_goto (tgt := 83) hx hb dX10_put_62 (by decide) ?_
          exact hJ83 ((a3.toInt8.toInt32).toInt64) ((40 * a1) + a2) H locs ls hf hP hD hS (lv_sub hl [] rfl)
      · replace hf := zIf_t hc hf
        refine lv_bipush (v := (-12)) hx hb dX10_put_37 (by decide) ?_
        obtain ⟨q1, q2⟩ := zI2 hf
        subst q1
        subst q2
        exact zRetI hQ hx hb hr hlocks hA0 hK hP hD hS rfl dX10_put_39
    · replace hf := zIf_f hc hf
      refine lv_bipush (v := (-11)) hx hb dX10_put_18 (by decide) ?_
      obtain ⟨q1, q2⟩ := zI2 hf
      subst q1
      subst q2
      exact zRetI hQ hx hb hr hlocks hA0 hK hP hD hS rfl dX10_put_20
  · replace hf := zIf_t hc hf
    refine lv_iconst (v := (-1)) hx hb dX10_put_7 (by decide) ?_
    obtain ⟨q1, q2⟩ := zI2 hf
    subst q1
    subst q2
    exact zRetI hQ hx hb hr hlocks hA0 hK hP hD hS rfl dX10_put_8
set_option maxHeartbeats 4000000 in
set_option maxRecDepth 100000 in
theorem pX10_item (l : Launch) (D : va_G) (T : Nat → ClassId) (X : zFP) (hgm : Nat → Nat) (sz : Nat) (gm : zM) (gml : zL) (a1 : Int32) (a2 : Int32) (a3 : Int32) (r : Int32) (hf : fX10_item gm gml a1 a2 a3 = some r) : Met l yX10_item wsX10_item rX10_item (zPre D T X [.ref (hgm 0), .int a1, .int a2, .int a3] (wX10 T hgm gm gml) sz) (zQi D T r (wX10 T hgm gm gml) (wX10 T hgm gm gml) sz) 0 0 (va_A (wX10 T hgm gm gml) sz) := by
  unfold fX10_item at hf
  refine zStart [(0, .ref (hgm 0)), (1, .int a1), (2, .int a2), (3, .int a3)] (by decide) rfl (Nat.le_of_ble_eq_true rfl) rfl ?_
  intro p e s m args below meth c A Q ls hx hb hr hml hown hlocks hts hsz hA0 hQ hA hK hX hP hD hS hl
  replace hown : s.vm.findClass RX10 = some m.cls := hown
  have hH := hsz
  have hiX10 : ∀ w ∈ u_ws RX10 TX10 54, w ∈ wsX10_item := fun w h => List.mem_cons_of_mem _ (List.mem_append_right _ (h))
  obtain ⟨H, hHe⟩ : ∃ H : Heap, H = s.heap := ⟨_, rfl⟩
  obtain ⟨locs, hLe⟩ : ∃ L : List Loc, L = [] := ⟨_, rfl⟩
  replace hP : va_P D vwCl (wX10 T hgm gm gml) H := by rw [hHe]; exact hP
  replace hS : va_S A s.heap H locs := by rw [hHe, hLe]; exact hS
  suffices hgo : W p l e rX10_item s m args below meth c H locs 0 0 Q (F0 m 0 ls []) by rw [hHe, hLe] at hgo; exact hgo
  clear hHe hLe
  refine lv_iload_n hx hb dX10_item_0 rfl (lv_at hl 1 rfl) ?_
  obtain ⟨v1, hc1, hf⟩ := zB1_ok hf
  refine zCallS0I [.int a1] ⟨hx, hb, hml, hown, hts⟩ (pX10_isShelf l D T X H.size a1 v1 hc1) (va_cwS 1 hts gX10_item_X10_isShelf rfl rfl rfl (by decide +kernel) ⟨Nat.le_of_ble_eq_true rfl, Nat.le_of_ble_eq_true rfl⟩) hK hP hD hS hA hX rfl hl.1 rfl (Nat.le_of_ble_eq_true rfl) dX10_item_1 ⟨Nat.zero_le _, Nat.zero_le _⟩ (fun H locs hP hD hS => ?_)
  refine lv_if_eq (tgt := 16) hx hb dX10_item_4 (by decide) (fun hc => ?_) (fun hc => ?_)
  · replace hf := zIf_t hc hf
    refine lv_iconst (v := (-1)) hx hb dX10_item_16 (by decide) ?_
    obtain ⟨q1, -⟩ := zI1 hf
    subst q1
    exact zRetI hQ hx hb hr hlocks hA0 hK hP hD hS rfl dX10_item_17
  · replace hf := zIf_f hc hf
    refine lv_iload_n hx hb dX10_item_7 rfl (lv_at hl 2 rfl) ?_
    refine lv_iconst (v := 0) hx hb dX10_item_8 (by decide) ?_
    refine lv_iconst (v := 3) hx hb dX10_item_9 (by decide) ?_
    obtain ⟨v2, hc10, hf⟩ := zB1_ok hf
    refine zCallS0I [.int a2, .int 0, .int 3] ⟨hx, hb, hml, hown, hts⟩ (pX10_in l D T X H.size a2 0 3 v2 hc10) (va_cwS 3 hts gX10_item_X10_in rfl rfl rfl (by decide +kernel) ⟨Nat.le_of_ble_eq_true rfl, Nat.le_of_ble_eq_true rfl⟩) hK hP hD hS hA hX rfl hl.1 rfl (Nat.le_of_ble_eq_true rfl) dX10_item_10 ⟨Nat.zero_le _, Nat.zero_le _⟩ (fun H locs hP hD hS => ?_)
    refine lv_if_ne (tgt := 18) hx hb dX10_item_13 (by decide) (fun hc => ?_) (fun hc => ?_)
    · replace hf := zIf_f hc hf
      refine lv_aload_n hx hb dX10_item_18 rfl (lv_at hl 0 rfl) ?_
      refine lv_iload_n hx hb dX10_item_19 rfl (lv_at hl 1 rfl) ?_
      refine lv_iload_n hx hb dX10_item_20 rfl (lv_at hl 2 rfl) ?_
      obtain ⟨v3, hc21, hf⟩ := zB1_ok hf
      refine zCallVEI [.int a1, .int a2] ⟨hx, hb, hml, hown, hts⟩ (pX10_lacksSort l D T X hgm H.size gm gml a1 a2 v3 hc21) (cwV 2 hts gX10_item_X10_lacksSort rfl rfl rfl (by decide +kernel) ⟨Nat.le_of_ble_eq_true rfl, Nat.le_of_ble_eq_true rfl⟩) hK hP hD hS hA hX 0 rfl rfl rfl hl.1 rfl (Nat.le_of_ble_eq_true rfl) dX10_item_21 ⟨Nat.zero_le _, Nat.zero_le _⟩ (fun H locs hP hD hS => ?_)
      refine lv_istore (lv' := [(4, .int v3), (0, .ref (hgm 0)), (1, .int a1), (2, .int a2), (3, .int a3)]) hx hb dX10_item_24 hl (by decide) rfl (fun ls hl => ?_)
      refine lv_iload hx hb dX10_item_26 (lv_at hl 0 rfl) ?_
      refine lv_if_eq (tgt := 34) hx hb dX10_item_28 (by decide) (fun hc => ?_) (fun hc => ?_)
      · replace hf := zIf_t hc hf
        refine lv_iload_n hx hb dX10_item_34 rfl (lv_at hl 4 rfl) ?_
        refine lv_iconst (v := 0) hx hb dX10_item_35 (by decide) ?_
        refine lv_aload_n hx hb dX10_item_36 rfl (lv_at hl 1 rfl) ?_
        refine zGet (ci := 10) (C := RX10) (F := TX10) (N := 54) (v := .ref (hgm 19)) hx hb hts hiX10 hown hK hP 0 39 1 rfl rfl (by decide) rfl rfl rfl dX10_item_37 ?_
        refine lv_iload_n hx hb dX10_item_40 rfl (lv_at hl 2 rfl) ?_
        obtain ⟨hg, hf⟩ := zGd_ok hf
        refine zAldI hx hb hK hP 19 rfl hg dX10_item_41 (fun v4 ev4 => ?_)
        replace hf := zLt_at ev4 hf
        refine lv_iconst (v := 1) hx hb dX10_item_42 (by decide) ?_
        refine lv_isub hx hb dX10_item_43 ?_
        obtain ⟨v5, hc44, hf⟩ := zB1_ok hf
        refine zCallS0I [.int a3, .int 0, .int (v4 - 1)] ⟨hx, hb, hml, hown, hts⟩ (pX10_in l D T X H.size a3 0 (v4 - 1) v5 hc44) (va_cwS 3 hts gX10_item_X10_in rfl rfl rfl (by decide +kernel) ⟨Nat.le_of_ble_eq_true rfl, Nat.le_of_ble_eq_true rfl⟩) hK hP hD hS hA hX rfl hl.1 rfl (Nat.le_of_ble_eq_true rfl) dX10_item_44 ⟨Nat.zero_le _, Nat.zero_le _⟩ (fun H locs hP hD hS => ?_)
        refine lv_if_eq (tgt := 65) hx hb dX10_item_47 (by decide) (fun hc => ?_) (fun hc => ?_)
        · replace hf := zIf_t hc hf
          refine lv_bipush (v := (-12)) hx hb dX10_item_65 (by decide) ?_
          obtain ⟨q1, -⟩ := zI1 hf
          subst q1
          exact zRetI hQ hx hb hr hlocks hA0 hK hP hD hS rfl dX10_item_67
        · replace hf := zIf_f hc hf
          refine lv_aload_n hx hb dX10_item_50 rfl (lv_at hl 1 rfl) ?_
          refine zGet (ci := 10) (C := RX10) (F := TX10) (N := 54) (v := .ref (hgm 20)) hx hb hts hiX10 hown hK hP 0 40 2 rfl rfl (by decide) rfl rfl rfl dX10_item_51 ?_
          refine lv_bipush (v := 40) hx hb dX10_item_54 (by decide) ?_
          refine lv_iload_n hx hb dX10_item_56 rfl (lv_at hl 2 rfl) ?_
          refine lv_imul hx hb dX10_item_57 ?_
          refine lv_iload_n hx hb dX10_item_58 rfl (lv_at hl 4 rfl) ?_
          refine lv_iadd hx hb dX10_item_59 ?_
          obtain ⟨hg, hf⟩ := zGd_ok hf
          refine zAldL hx hb hK hP 20 rfl hg dX10_item_60 (fun v6 ev6 => ?_)
          replace hf := zLt_at ev6 hf
          refine lv_l2i hx hb dX10_item_61 rfl ?_
          refine lv_goto (tgt := 67) hx hb dX10_item_62 (by decide) ?_
          obtain ⟨q1, -⟩ := zI1 hf
          subst q1
          exact zRetI hQ hx hb hr hlocks hA0 hK hP hD hS rfl dX10_item_67
      · replace hf := zIf_f hc hf
        refine lv_iload hx hb dX10_item_31 (lv_at hl 0 rfl) ?_
        obtain ⟨q1, -⟩ := zI1 hf
        subst q1
        exact zRetI hQ hx hb hr hlocks hA0 hK hP hD hS rfl dX10_item_33
    · replace hf := zIf_t hc hf
      refine lv_iconst (v := (-1)) hx hb dX10_item_16 (by decide) ?_
      obtain ⟨q1, -⟩ := zI1 hf
      subst q1
      exact zRetI hQ hx hb hr hlocks hA0 hK hP hD hS rfl dX10_item_17
set_option maxHeartbeats 4000000 in
set_option maxRecDepth 100000 in
theorem pX10_isHeld (l : Launch) (D : va_G) (T : Nat → ClassId) (X : zFP) (hgm : Nat → Nat) (sz : Nat) (gm : zM) (gml : zL) (a1 : Int32) (a2 : Int32) (r : Int32) (hf : fX10_isHeld gm gml a1 a2 = some r) : Met l yX10_isHeld wsX10_isHeld rX10_isHeld (zPre D T X [.ref (hgm 0), .int a1, .int a2] (wX10 T hgm gm gml) sz) (zQi D T r (wX10 T hgm gm gml) (wX10 T hgm gm gml) sz) 0 0 (va_A (wX10 T hgm gm gml) sz) := by
  unfold fX10_isHeld at hf
  refine zStart [(0, .ref (hgm 0)), (1, .int a1), (2, .int a2)] (by decide) rfl (Nat.le_of_ble_eq_true rfl) rfl ?_
  intro p e s m args below meth c A Q ls hx hb hr hml hown hlocks hts hsz hA0 hQ hA hK hX hP hD hS hl
  replace hown : s.vm.findClass RX10 = some m.cls := hown
  have hH := hsz
  obtain ⟨H, hHe⟩ : ∃ H : Heap, H = s.heap := ⟨_, rfl⟩
  obtain ⟨locs, hLe⟩ : ∃ L : List Loc, L = [] := ⟨_, rfl⟩
  replace hP : va_P D vwCl (wX10 T hgm gm gml) H := by rw [hHe]; exact hP
  replace hS : va_S A s.heap H locs := by rw [hHe, hLe]; exact hS
  suffices hgo : W p l e rX10_isHeld s m args below meth c H locs 0 0 Q (F0 m 0 ls []) by rw [hHe, hLe] at hgo; exact hgo
  clear hHe hLe
  refine lv_iload_n hx hb dX10_isHeld_0 rfl (lv_at hl 1 rfl) ?_
  refine lv_if_ne (tgt := 12) hx hb dX10_isHeld_1 (by decide) (fun hc => ?_) (fun hc => ?_)
  · replace hf := zIf_f hc hf
    refine lv_iload_n hx hb dX10_isHeld_12 rfl (lv_at hl 1 rfl) ?_
    refine lv_iconst (v := 1) hx hb dX10_isHeld_13 (by decide) ?_
    refine lv_icmp_ne (tgt := 24) hx hb dX10_isHeld_14 (by decide) (fun hc => ?_) (fun hc => ?_)
    · replace hf := zIf_f hc hf
      refine lv_iload_n hx hb dX10_isHeld_24 rfl (lv_at hl 1 rfl) ?_
      refine lv_iconst (v := 2) hx hb dX10_isHeld_25 (by decide) ?_
      refine lv_icmp_ne (tgt := 33) hx hb dX10_isHeld_26 (by decide) (fun hc => ?_) (fun hc => ?_)
      · replace hf := zIf_f hc hf
        refine lv_iconst (v := 0) hx hb dX10_isHeld_33 (by decide) ?_
        obtain ⟨q1, -⟩ := zI1 hf
        subst q1
        exact zRetZ hQ hx hb hr hlocks hA0 hK hP hD hS (by decide) rfl dX10_isHeld_34
      · replace hf := zIf_t hc hf
        refine lv_iconst (v := 1) hx hb dX10_isHeld_29 (by decide) ?_
        refine lv_goto (tgt := 34) hx hb dX10_isHeld_30 (by decide) ?_
        obtain ⟨q1, -⟩ := zI1 hf
        subst q1
        exact zRetZ hQ hx hb hr hlocks hA0 hK hP hD hS (by decide) rfl dX10_isHeld_34
    · replace hf := zIf_t hc hf
      refine lv_iload_n hx hb dX10_isHeld_17 rfl (lv_at hl 2 rfl) ?_
      obtain ⟨v1, hc18, hf⟩ := zB1_ok hf
      refine zCallS0I [.int a2] ⟨hx, hb, hml, hown, hts⟩ (pX10_isShelf l D T X H.size a2 v1 hc18) (va_cwS 1 hts gX10_isHeld_X10_isShelf rfl rfl rfl (by decide +kernel) ⟨Nat.le_of_ble_eq_true rfl, Nat.le_of_ble_eq_true rfl⟩) hK hP hD hS hA hX rfl hl.1 rfl (Nat.le_of_ble_eq_true rfl) dX10_isHeld_18 ⟨Nat.zero_le _, Nat.zero_le _⟩ (fun H locs hP hD hS => ?_)
      refine lv_goto (tgt := 34) hx hb dX10_isHeld_21 (by decide) ?_
      obtain ⟨hg, hf⟩ := zGd_ok hf
      obtain ⟨q1, -⟩ := zI1 hf
      subst q1
      exact zRetZ hQ hx hb hr hlocks hA0 hK hP hD hS hg rfl dX10_isHeld_34
  · replace hf := zIf_t hc hf
    refine lv_aload_n hx hb dX10_isHeld_4 rfl (lv_at hl 0 rfl) ?_
    refine lv_iload_n hx hb dX10_isHeld_5 rfl (lv_at hl 2 rfl) ?_
    obtain ⟨v2, hc6, hf⟩ := zB1_ok hf
    refine zCallVEI [.int a2] ⟨hx, hb, hml, hown, hts⟩ (pX10_isCut l D T X hgm H.size gm gml a2 v2 hc6) (cwV 1 hts gX10_isHeld_X10_isCut rfl rfl rfl (by decide +kernel) ⟨Nat.le_of_ble_eq_true rfl, Nat.le_of_ble_eq_true rfl⟩) hK hP hD hS hA hX 0 rfl rfl rfl hl.1 rfl (Nat.le_of_ble_eq_true rfl) dX10_isHeld_6 ⟨Nat.zero_le _, Nat.zero_le _⟩ (fun H locs hP hD hS => ?_)
    refine lv_goto (tgt := 34) hx hb dX10_isHeld_9 (by decide) ?_
    obtain ⟨hg, hf⟩ := zGd_ok hf
    obtain ⟨q1, -⟩ := zI1 hf
    subst q1
    exact zRetZ hQ hx hb hr hlocks hA0 hK hP hD hS hg rfl dX10_isHeld_34
set_option maxHeartbeats 4000000 in
set_option maxRecDepth 100000 in
theorem pX10_shelf (l : Launch) (D : va_G) (T : Nat → ClassId) (X : zFP) (hgm : Nat → Nat) (sz : Nat) (gm : zM) (gml : zL) (a1 : Int32) (a2 : Int32) (a3 : Int32) (r : Int32) (ngm : zM) (hf : fX10_shelf gm gml a1 a2 a3 = some (r, ngm)) : Met l yX10_shelf wsX10_shelf rX10_shelf (zPre D T X [.ref (hgm 0), .int a1, .int a2, .int a3] (wX10 T hgm gm gml) sz) (zQi D T r (wX10 T hgm ngm gml) (wX10 T hgm gm gml) sz) 0 0 (va_A (wX10 T hgm gm gml) sz) := by
  unfold fX10_shelf at hf
  refine zStart [(0, .ref (hgm 0)), (1, .int a1), (2, .int a2), (3, .int a3)] (by decide) rfl (Nat.le_of_ble_eq_true rfl) rfl ?_
  intro p e s m args below meth c A Q ls hx hb hr hml hown hlocks hts hsz hA0 hQ hA hK hX hP hD hS hl
  replace hown : s.vm.findClass RX10 = some m.cls := hown
  have hH := hsz
  have hiX10 : ∀ w ∈ u_ws RX10 TX10 54, w ∈ wsX10_shelf := fun w h => List.mem_cons_of_mem _ (List.mem_append_right _ (h))
  obtain ⟨H, hHe⟩ : ∃ H : Heap, H = s.heap := ⟨_, rfl⟩
  obtain ⟨locs, hLe⟩ : ∃ L : List Loc, L = [] := ⟨_, rfl⟩
  replace hP : va_P D vwCl (wX10 T hgm gm gml) H := by rw [hHe]; exact hP
  replace hS : va_S A s.heap H locs := by rw [hHe, hLe]; exact hS
  suffices hgo : W p l e rX10_shelf s m args below meth c H locs 0 0 Q (F0 m 0 ls []) by rw [hHe, hLe] at hgo; exact hgo
  clear hHe hLe
  refine lv_iload_n hx hb dX10_shelf_0 rfl (lv_at hl 1 rfl) ?_
  obtain ⟨v1, hc1, hf⟩ := zB1_ok hf
  refine zCallS0I [.int a1] ⟨hx, hb, hml, hown, hts⟩ (pX10_isShelf l D T X H.size a1 v1 hc1) (va_cwS 1 hts gX10_shelf_X10_isShelf rfl rfl rfl (by decide +kernel) ⟨Nat.le_of_ble_eq_true rfl, Nat.le_of_ble_eq_true rfl⟩) hK hP hD hS hA hX rfl hl.1 rfl (Nat.le_of_ble_eq_true rfl) dX10_shelf_1 ⟨Nat.zero_le _, Nat.zero_le _⟩ (fun H locs hP hD hS => ?_)
  refine lv_if_eq (tgt := 16) hx hb dX10_shelf_4 (by decide) (fun hc => ?_) (fun hc => ?_)
  · replace hf := zIf_t hc hf
    refine lv_iconst (v := (-1)) hx hb dX10_shelf_16 (by decide) ?_
    obtain ⟨q1, q2⟩ := zI2 hf
    subst q1
    subst q2
    exact zRetI hQ hx hb hr hlocks hA0 hK hP hD hS rfl dX10_shelf_17
  · replace hf := zIf_f hc hf
    refine lv_aload_n hx hb dX10_shelf_7 rfl (lv_at hl 0 rfl) ?_
    refine lv_iload_n hx hb dX10_shelf_8 rfl (lv_at hl 2 rfl) ?_
    refine lv_iload_n hx hb dX10_shelf_9 rfl (lv_at hl 3 rfl) ?_
    obtain ⟨v2, hc10, hf⟩ := zB1_ok hf
    refine zCallVEI [.int a2, .int a3] ⟨hx, hb, hml, hown, hts⟩ (pX10_isHeld l D T X hgm H.size gm gml a2 a3 v2 hc10) (cwV 2 hts gX10_shelf_X10_isHeld rfl rfl rfl (by decide +kernel) ⟨Nat.le_of_ble_eq_true rfl, Nat.le_of_ble_eq_true rfl⟩) hK hP hD hS hA hX 0 rfl rfl rfl hl.1 rfl (Nat.le_of_ble_eq_true rfl) dX10_shelf_10 ⟨Nat.zero_le _, Nat.zero_le _⟩ (fun H locs hP hD hS => ?_)
    refine lv_if_ne (tgt := 18) hx hb dX10_shelf_13 (by decide) (fun hc => ?_) (fun hc => ?_)
    · replace hf := zIf_f hc hf
      refine lv_aload_n hx hb dX10_shelf_18 rfl (lv_at hl 0 rfl) ?_
      refine zGet (ci := 10) (C := RX10) (F := TX10) (N := 54) (v := .ref (hgm 21)) hx hb hts hiX10 hown hK hP 0 41 1 rfl rfl (by decide) rfl rfl rfl dX10_shelf_19 ?_
      refine lv_iload_n hx hb dX10_shelf_22 rfl (lv_at hl 1 rfl) ?_
      refine lv_iload_n hx hb dX10_shelf_23 rfl (lv_at hl 2 rfl) ?_
      refine lv_iconst (v := 2) hx hb dX10_shelf_24 (by decide) ?_
      have hJ47 : ∀ (v3 : Int32) (v4 : Int32) (H : Heap) (locs : List Loc) (ls : Array Slot), fX10_shelf_J47 a1 a2 a3 gm v3 v4 = some (r, ngm) → va_P D vwCl (wX10 T hgm gm gml) H → va_D A (wX10 T hgm gm gml) → va_S A s.heap H locs → lv_has ls 4 [(0, .ref (hgm 0)), (1, .int a1), (2, .int a2), (3, .int a3)] → W p l e rX10_shelf s m args below meth c H locs 0 0 Q (F0 m 47 ls [.int v3, .int v4, .ref (hgm 21)]) := by
        intro v3 v4 H locs ls hf hP hD hS hl
        unfold fX10_shelf_J47 at hf
        obtain ⟨hg, hf⟩ := zGd_ok hf
        refine zAstI (w := gm) hx hb hK hP hD hS (fun g => wX10 T hgm g gml) 21 21 rfl hg rfl dX10_shelf_47 (fun gm_5 egm_5 H locs hP hD hS => ?_)
        replace hP : va_P D vwCl (wX10 T hgm gm_5 gml) H := hP
        replace hD : va_D A (wX10 T hgm gm_5 gml) := hD
        replace hf := zLt_at egm_5 hf
        refine lv_aload_n hx hb dX10_shelf_48 rfl (lv_at hl 0 rfl) ?_
        refine zGet (ci := 10) (C := RX10) (F := TX10) (N := 54) (v := .ref (hgm 22)) hx hb hts hiX10 hown hK hP 0 42 3 rfl rfl (by decide) rfl rfl rfl dX10_shelf_49 ?_
        refine lv_iload_n hx hb dX10_shelf_52 rfl (lv_at hl 1 rfl) ?_
        refine lv_iload_n hx hb dX10_shelf_53 rfl (lv_at hl 2 rfl) ?_
        refine lv_iconst (v := 1) hx hb dX10_shelf_54 (by decide) ?_
        have hJ68 : ∀ (v6 : Int32) (v7 : Int32) (H : Heap) (locs : List Loc) (ls : Array Slot), fX10_shelf_J68 a1 a2 a3 gm_5 v6 v7 = some (r, ngm) → va_P D vwCl (wX10 T hgm gm_5 gml) H → va_D A (wX10 T hgm gm_5 gml) → va_S A s.heap H locs → lv_has ls 4 [(0, .ref (hgm 0)), (1, .int a1), (2, .int a2), (3, .int a3)] → W p l e rX10_shelf s m args below meth c H locs 0 0 Q (F0 m 68 ls [.int v6, .int v7, .ref (hgm 22)]) := by
          intro v6 v7 H locs ls hf hP hD hS hl
          unfold fX10_shelf_J68 at hf
          obtain ⟨hg, hf⟩ := zGd_ok hf
          refine zAstI (w := gm_5) hx hb hK hP hD hS (fun g => wX10 T hgm g gml) 22 22 rfl hg rfl dX10_shelf_68 (fun gm_8 egm_8 H locs hP hD hS => ?_)
          replace hP : va_P D vwCl (wX10 T hgm gm_8 gml) H := hP
          replace hD : va_D A (wX10 T hgm gm_8 gml) := hD
          replace hf := zLt_at egm_8 hf
          refine lv_aload_n hx hb dX10_shelf_69 rfl (lv_at hl 0 rfl) ?_
          refine zGet (ci := 10) (C := RX10) (F := TX10) (N := 54) (v := .ref (hgm 23)) hx hb hts hiX10 hown hK hP 0 43 4 rfl rfl (by decide) rfl rfl rfl dX10_shelf_70 ?_
          refine lv_iload_n hx hb dX10_shelf_73 rfl (lv_at hl 1 rfl) ?_
          refine lv_iload_n hx hb dX10_shelf_74 rfl (lv_at hl 2 rfl) ?_
          refine lv_iconst (v := 1) hx hb dX10_shelf_75 (by decide) ?_
          have hJ89 : ∀ (v9 : Int32) (v10 : Int32) (H : Heap) (locs : List Loc) (ls : Array Slot), fX10_shelf_J89 gm_8 v9 v10 = some (r, ngm) → va_P D vwCl (wX10 T hgm gm_8 gml) H → va_D A (wX10 T hgm gm_8 gml) → va_S A s.heap H locs → lv_has ls 4 [] → W p l e rX10_shelf s m args below meth c H locs 0 0 Q (F0 m 89 ls [.int v9, .int v10, .ref (hgm 23)]) := by
            intro v9 v10 H locs ls hf hP hD hS hl
            unfold fX10_shelf_J89 at hf
            obtain ⟨hg, hf⟩ := zGd_ok hf
            refine zAstI (w := gm_8) hx hb hK hP hD hS (fun g => wX10 T hgm g gml) 23 23 rfl hg rfl dX10_shelf_89 (fun gm_11 egm_11 H locs hP hD hS => ?_)
            replace hP : va_P D vwCl (wX10 T hgm gm_11 gml) H := hP
            replace hD : va_D A (wX10 T hgm gm_11 gml) := hD
            replace hf := zLt_at egm_11 hf
            refine lv_iconst (v := 1) hx hb dX10_shelf_90 (by decide) ?_
            obtain ⟨q1, q2⟩ := zI2 hf
            subst q1
            subst q2
            exact zRetI hQ hx hb hr hlocks hA0 hK hP hD hS rfl dX10_shelf_91
          refine lv_icmp_ne (tgt := 88) hx hb dX10_shelf_76 (by decide) (fun hc => ?_) (fun hc => ?_)
          · replace hf := zIf_f hc hf
            refine lv_iconst (v := 0) hx hb dX10_shelf_88 (by decide) ?_
            exact hJ89 0 a1 H locs ls hf hP hD hS (lv_sub hl [] rfl)
          · replace hf := zIf_t hc hf
            refine lv_aload_n hx hb dX10_shelf_79 rfl (lv_at hl 0 rfl) ?_
            refine zGet (ci := 10) (C := RX10) (F := TX10) (N := 54) (v := .ref (hgm 19)) hx hb hts hiX10 hown hK hP 0 39 5 rfl rfl (by decide) rfl rfl rfl dX10_shelf_80 ?_
            refine lv_iload_n hx hb dX10_shelf_83 rfl (lv_at hl 3 rfl) ?_
            obtain ⟨hg, hf⟩ := zGd_ok hf
            refine zAldI hx hb hK hP 19 rfl hg dX10_shelf_84 (fun v12 ev12 => ?_)
            replace hf := zLt_at ev12 hf
            refine lv_goto (tgt := 89) hx hb dX10_shelf_85 (by decide) ?_
            exact hJ89 v12 a1 H locs ls hf hP hD hS (lv_sub hl [] rfl)
        refine lv_icmp_ne (tgt := 67) hx hb dX10_shelf_55 (by decide) (fun hc => ?_) (fun hc => ?_)
        · replace hf := zIf_f hc hf
          refine lv_iload_n hx hb dX10_shelf_67 rfl (lv_at hl 3 rfl) ?_
          exact hJ68 a3 a1 H locs ls hf hP hD hS hl
        · replace hf := zIf_t hc hf
          refine lv_aload_n hx hb dX10_shelf_58 rfl (lv_at hl 0 rfl) ?_
          refine zGet (ci := 10) (C := RX10) (F := TX10) (N := 54) (v := .ref (hgm 18)) hx hb hts hiX10 hown hK hP 0 38 2 rfl rfl (by decide) rfl rfl rfl dX10_shelf_59 ?_
          refine lv_iload_n hx hb dX10_shelf_62 rfl (lv_at hl 3 rfl) ?_
          obtain ⟨hg, hf⟩ := zGd_ok hf
          refine zAldI hx hb hK hP 18 rfl hg dX10_shelf_63 (fun v13 ev13 => ?_)
          replace hf := zLt_at ev13 hf
          refine lv_goto (tgt := 68) hx hb dX10_shelf_64 (by decide) ?_
          exact hJ68 v13 a1 H locs ls hf hP hD hS hl
      have hJ42 : ∀ (v14 : Int32) (H : Heap) (locs : List Loc) (ls : Array Slot), fX10_shelf_J42 a1 a2 a3 gm v14 = some (r, ngm) → va_P D vwCl (wX10 T hgm gm gml) H → va_D A (wX10 T hgm gm gml) → va_S A s.heap H locs → lv_has ls 4 [(0, .ref (hgm 0)), (1, .int a1), (2, .int a2), (3, .int a3)] → W p l e rX10_shelf s m args below meth c H locs 0 0 Q (F0 m 42 ls [.int v14, .ref (hgm 21)]) := by
        intro v14 H locs ls hf hP hD hS hl
        unfold fX10_shelf_J42 at hf
        refine lv_iconst (v := (-1)) hx hb dX10_shelf_42 (by decide) ?_
        refine lv_goto (tgt := 47) hx hb dX10_shelf_43 (by decide) ?_
        exact hJ47 (-1) v14 H locs ls hf hP hD hS hl
      refine lv_icmp_eq (tgt := 42) hx hb dX10_shelf_25 (by decide) (fun hc => ?_) (fun hc => ?_)
      · replace hf := zIf_t hc hf
        exact hJ42 a1 H locs ls hf hP hD hS hl
      · replace hf := zIf_f hc hf
        refine lv_iload_n hx hb dX10_shelf_28 rfl (lv_at hl 2 rfl) ?_
        refine lv_iconst (v := 1) hx hb dX10_shelf_29 (by decide) ?_
        have hJ46 : ∀ (v15 : Int32) (H : Heap) (locs : List Loc) (ls : Array Slot), fX10_shelf_J46 a1 a2 a3 gm v15 = some (r, ngm) → va_P D vwCl (wX10 T hgm gm gml) H → va_D A (wX10 T hgm gm gml) → va_S A s.heap H locs → lv_has ls 4 [(0, .ref (hgm 0)), (1, .int a1), (2, .int a2), (3, .int a3)] → W p l e rX10_shelf s m args below meth c H locs 0 0 Q (F0 m 46 ls [.int v15, .ref (hgm 21)]) := by
          intro v15 H locs ls hf hP hD hS hl
          unfold fX10_shelf_J46 at hf
          refine lv_iload_n hx hb dX10_shelf_46 rfl (lv_at hl 2 rfl) ?_
          exact hJ47 a2 v15 H locs ls hf hP hD hS hl
        refine lv_icmp_ne (tgt := 46) hx hb dX10_shelf_30 (by decide) (fun hc => ?_) (fun hc => ?_)
        · replace hf := zIf_f hc hf
          exact hJ46 a1 H locs ls hf hP hD hS hl
        · replace hf := zIf_t hc hf
          refine lv_aload_n hx hb dX10_shelf_33 rfl (lv_at hl 0 rfl) ?_
          refine zGet (ci := 10) (C := RX10) (F := TX10) (N := 54) (v := .ref (hgm 18)) hx hb hts hiX10 hown hK hP 0 38 2 rfl rfl (by decide) rfl rfl rfl dX10_shelf_34 ?_
          refine lv_iload_n hx hb dX10_shelf_37 rfl (lv_at hl 3 rfl) ?_
          obtain ⟨hg, hf⟩ := zGd_ok hf
          refine zAldI hx hb hK hP 18 rfl hg dX10_shelf_38 (fun v16 ev16 => ?_)
          replace hf := zLt_at ev16 hf
          refine lv_if_ge (tgt := 46) hx hb dX10_shelf_39 (by decide) (fun hc => ?_) (fun hc => ?_)
          · replace hf := zIf_t hc hf
            exact hJ46 a1 H locs ls hf hP hD hS hl
          · replace hf := zIf_f hc hf
            exact hJ42 a1 H locs ls hf hP hD hS hl
    · replace hf := zIf_t hc hf
      refine lv_iconst (v := (-1)) hx hb dX10_shelf_16 (by decide) ?_
      obtain ⟨q1, q2⟩ := zI2 hf
      subst q1
      subst q2
      exact zRetI hQ hx hb hr hlocks hA0 hK hP hD hS rfl dX10_shelf_17
set_option maxHeartbeats 4000000 in
set_option maxRecDepth 100000 in
theorem pX10_kindOn (l : Launch) (D : va_G) (T : Nat → ClassId) (X : zFP) (hgm : Nat → Nat) (sz : Nat) (gm : zM) (gml : zL) (a1 : Int32) (r : Int32) (hf : fX10_kindOn gm gml a1 = some r) : Met l yX10_kindOn wsX10_kindOn rX10_kindOn (zPre D T X [.ref (hgm 0), .int a1] (wX10 T hgm gm gml) sz) (zQi D T r (wX10 T hgm gm gml) (wX10 T hgm gm gml) sz) 0 0 (va_A (wX10 T hgm gm gml) sz) := by
  unfold fX10_kindOn at hf
  refine zStart [(0, .ref (hgm 0)), (1, .int a1)] (by decide) rfl (Nat.le_of_ble_eq_true rfl) rfl ?_
  intro p e s m args below meth c A Q ls hx hb hr hml hown hlocks hts hsz hA0 hQ hA hK hX hP hD hS hl
  replace hown : s.vm.findClass RX10 = some m.cls := hown
  have hH := hsz
  have hiX10 : ∀ w ∈ u_ws RX10 TX10 54, w ∈ wsX10_kindOn := fun w h => List.mem_cons_of_mem _ (List.mem_append_right _ (h))
  obtain ⟨H, hHe⟩ : ∃ H : Heap, H = s.heap := ⟨_, rfl⟩
  obtain ⟨locs, hLe⟩ : ∃ L : List Loc, L = [] := ⟨_, rfl⟩
  replace hP : va_P D vwCl (wX10 T hgm gm gml) H := by rw [hHe]; exact hP
  replace hS : va_S A s.heap H locs := by rw [hHe, hLe]; exact hS
  suffices hgo : W p l e rX10_kindOn s m args below meth c H locs 0 0 Q (F0 m 0 ls []) by rw [hHe, hLe] at hgo; exact hgo
  clear hHe hLe
  refine lv_aload_n hx hb dX10_kindOn_0 rfl (lv_at hl 0 rfl) ?_
  refine zGet (ci := 10) (C := RX10) (F := TX10) (N := 54) (v := .ref (hgm 21)) hx hb hts hiX10 hown hK hP 0 41 1 rfl rfl (by decide) rfl rfl rfl dX10_kindOn_1 ?_
  refine lv_iload_n hx hb dX10_kindOn_4 rfl (lv_at hl 1 rfl) ?_
  obtain ⟨hg, hf⟩ := zGd_ok hf
  refine zAldI hx hb hK hP 21 rfl hg dX10_kindOn_5 (fun v1 ev1 => ?_)
  replace hf := zLt_at ev1 hf
  refine lv_if_eq (tgt := 25) hx hb dX10_kindOn_6 (by decide) (fun hc => ?_) (fun hc => ?_)
  · replace hf := zIf_t hc hf
    refine lv_aload_n hx hb dX10_kindOn_25 rfl (lv_at hl 0 rfl) ?_
    refine lv_aload_n hx hb dX10_kindOn_26 rfl (lv_at hl 0 rfl) ?_
    refine zGet (ci := 10) (C := RX10) (F := TX10) (N := 54) (v := .ref (hgm 22)) hx hb hts hiX10 hown hK hP 0 42 2 rfl rfl (by decide) rfl rfl rfl dX10_kindOn_27 ?_
    refine lv_iload_n hx hb dX10_kindOn_30 rfl (lv_at hl 1 rfl) ?_
    obtain ⟨hg, hf⟩ := zGd_ok hf
    refine zAldI hx hb hK hP 22 rfl hg dX10_kindOn_31 (fun v2 ev2 => ?_)
    replace hf := zLt_at ev2 hf
    obtain ⟨v3, hc32, hf⟩ := zB1_ok hf
    refine zCallVEI [.int v2] ⟨hx, hb, hml, hown, hts⟩ (pX10_isCut l D T X hgm H.size gm gml v2 v3 hc32) (cwV 1 hts gX10_kindOn_X10_isCut rfl rfl rfl (by decide +kernel) ⟨Nat.le_of_ble_eq_true rfl, Nat.le_of_ble_eq_true rfl⟩) hK hP hD hS hA hX 0 rfl rfl rfl hl.1 rfl (Nat.le_of_ble_eq_true rfl) dX10_kindOn_32 ⟨Nat.zero_le _, Nat.zero_le _⟩ (fun H locs hP hD hS => ?_)
    refine lv_if_eq (tgt := 54) hx hb dX10_kindOn_35 (by decide) (fun hc => ?_) (fun hc => ?_)
    · replace hf := zIf_t hc hf
      refine lv_iconst (v := (-1)) hx hb dX10_kindOn_54 (by decide) ?_
      obtain ⟨q1, -⟩ := zI1 hf
      subst q1
      exact zRetI hQ hx hb hr hlocks hA0 hK hP hD hS rfl dX10_kindOn_55
    · replace hf := zIf_f hc hf
      refine lv_aload_n hx hb dX10_kindOn_38 rfl (lv_at hl 0 rfl) ?_
      refine zGet (ci := 10) (C := RX10) (F := TX10) (N := 54) (v := .ref (hgm 3)) hx hb hts hiX10 hown hK hP 0 5 3 rfl rfl (by decide) rfl rfl rfl dX10_kindOn_39 ?_
      refine lv_iconst (v := 3) hx hb dX10_kindOn_42 (by decide) ?_
      refine lv_aload_n hx hb dX10_kindOn_43 rfl (lv_at hl 0 rfl) ?_
      refine zGet (ci := 10) (C := RX10) (F := TX10) (N := 54) (v := .ref (hgm 22)) hx hb hts hiX10 hown hK hP 0 42 2 rfl rfl (by decide) rfl rfl rfl dX10_kindOn_44 ?_
      refine lv_iload_n hx hb dX10_kindOn_47 rfl (lv_at hl 1 rfl) ?_
      obtain ⟨hg, hf⟩ := zGd_ok hf
      refine zAldI hx hb hK hP 22 rfl hg dX10_kindOn_48 (fun v4 ev4 => ?_)
      replace hf := zLt_at ev4 hf
      refine lv_imul hx hb dX10_kindOn_49 ?_
      obtain ⟨hg, hf⟩ := zGd_ok hf
      refine zAldI hx hb hK hP 3 rfl hg dX10_kindOn_50 (fun v5 ev5 => ?_)
      replace hf := zLt_at ev5 hf
      refine lv_goto (tgt := 55) hx hb dX10_kindOn_51 (by decide) ?_
      obtain ⟨q1, -⟩ := zI1 hf
      subst q1
      exact zRetI hQ hx hb hr hlocks hA0 hK hP hD hS rfl dX10_kindOn_55
  · replace hf := zIf_f hc hf
    refine lv_aload_n hx hb dX10_kindOn_9 rfl (lv_at hl 0 rfl) ?_
    refine zGet (ci := 10) (C := RX10) (F := TX10) (N := 54) (v := .ref (hgm 21)) hx hb hts hiX10 hown hK hP 0 41 1 rfl rfl (by decide) rfl rfl rfl dX10_kindOn_10 ?_
    refine lv_iload_n hx hb dX10_kindOn_13 rfl (lv_at hl 1 rfl) ?_
    obtain ⟨hg, hf⟩ := zGd_ok hf
    refine zAldI hx hb hK hP 21 rfl hg dX10_kindOn_14 (fun v6 ev6 => ?_)
    replace hf := zLt_at ev6 hf
    refine lv_if_ge (tgt := 22) hx hb dX10_kindOn_15 (by decide) (fun hc => ?_) (fun hc => ?_)
    · replace hf := zIf_t hc hf
      refine lv_bipush (v := 9) hx hb dX10_kindOn_22 (by decide) ?_
      obtain ⟨q1, -⟩ := zI1 hf
      subst q1
      exact zRetI hQ hx hb hr hlocks hA0 hK hP hD hS rfl dX10_kindOn_24
    · replace hf := zIf_f hc hf
      refine lv_iconst (v := (-1)) hx hb dX10_kindOn_18 (by decide) ?_
      refine lv_goto (tgt := 24) hx hb dX10_kindOn_19 (by decide) ?_
      obtain ⟨q1, -⟩ := zI1 hf
      subst q1
      exact zRetI hQ hx hb hr hlocks hA0 hK hP hD hS rfl dX10_kindOn_24
set_option maxHeartbeats 4000000 in
set_option maxRecDepth 100000 in
theorem pX10_isUnder (l : Launch) (D : va_G) (T : Nat → ClassId) (X : zFP) (sz : Nat) (a1 : Int32) (a2 : Int32) (r : Int32) (hf : fX10_isUnder a1 a2 = some r) : Met l yX10_isUnder wsX10_isUnder rX10_isUnder (zPre D T X [.int a1, .int a2] ([]) sz) (zQi D T r ([]) ([]) sz) 0 0 (va_A ([]) sz) := by
  unfold fX10_isUnder at hf
  refine zStart [(0, .int a1), (1, .int a2)] (by decide) rfl (Nat.le_of_ble_eq_true rfl) rfl ?_
  intro p e s m args below meth c A Q ls hx hb hr hml hown hlocks hts hsz hA0 hQ hA hK hX hP hD hS hl
  replace hown : s.vm.findClass RX10 = some m.cls := hown
  have hH := hsz
  obtain ⟨H, hHe⟩ : ∃ H : Heap, H = s.heap := ⟨_, rfl⟩
  obtain ⟨locs, hLe⟩ : ∃ L : List Loc, L = [] := ⟨_, rfl⟩
  replace hP : va_P D vwCl ([]) H := by rw [hHe]; exact hP
  replace hS : va_S A s.heap H locs := by rw [hHe, hLe]; exact hS
  suffices hgo : W p l e rX10_isUnder s m args below meth c H locs 0 0 Q (F0 m 0 ls []) by rw [hHe, hLe] at hgo; exact hgo
  clear hHe hLe
  refine lv_iload_n hx hb dX10_isUnder_0 rfl (lv_at hl 1 rfl) ?_
  refine lv_if_eq (tgt := 44) hx hb dX10_isUnder_1 (by decide) (fun hc => ?_) (fun hc => ?_)
  · replace hf := zIf_t hc hf
    refine lv_iconst (v := 1) hx hb dX10_isUnder_44 (by decide) ?_
    refine lv_goto (tgt := 49) hx hb dX10_isUnder_45 (by decide) ?_
    obtain ⟨q1, -⟩ := zI1 hf
    subst q1
    exact zRetZ hQ hx hb hr hlocks hA0 hK hP hD hS (by decide) rfl dX10_isUnder_49
  · replace hf := zIf_f hc hf
    refine lv_iload_n hx hb dX10_isUnder_4 rfl (lv_at hl 1 rfl) ?_
    refine lv_iload_n hx hb dX10_isUnder_5 rfl (lv_at hl 0 rfl) ?_
    refine lv_icmp_eq (tgt := 44) hx hb dX10_isUnder_6 (by decide) (fun hc => ?_) (fun hc => ?_)
    · replace hf := zIf_t hc hf
      refine lv_iconst (v := 1) hx hb dX10_isUnder_44 (by decide) ?_
      refine lv_goto (tgt := 49) hx hb dX10_isUnder_45 (by decide) ?_
      obtain ⟨q1, -⟩ := zI1 hf
      subst q1
      exact zRetZ hQ hx hb hr hlocks hA0 hK hP hD hS (by decide) rfl dX10_isUnder_49
    · replace hf := zIf_f hc hf
      refine lv_iload_n hx hb dX10_isUnder_9 rfl (lv_at hl 1 rfl) ?_
      refine lv_iconst (v := 1) hx hb dX10_isUnder_10 (by decide) ?_
      have hJ19 : ∀ (H : Heap) (locs : List Loc) (ls : Array Slot), fX10_isUnder_J19 a1 a2 = some r → va_P D vwCl ([]) H → va_D A ([]) → va_S A s.heap H locs → lv_has ls 2 [(0, .int a1), (1, .int a2)] → W p l e rX10_isUnder s m args below meth c H locs 0 0 Q (F0 m 19 ls []) := by
        intro H locs ls hf hP hD hS hl
        unfold fX10_isUnder_J19 at hf
        refine lv_iload_n hx hb dX10_isUnder_19 rfl (lv_at hl 1 rfl) ?_
        refine lv_iconst (v := 2) hx hb dX10_isUnder_20 (by decide) ?_
        have hJ34 : ∀ (H : Heap) (locs : List Loc) (ls : Array Slot), fX10_isUnder_J34 a1 a2 = some r → va_P D vwCl ([]) H → va_D A ([]) → va_S A s.heap H locs → lv_has ls 2 [(0, .int a1), (1, .int a2)] → W p l e rX10_isUnder s m args below meth c H locs 0 0 Q (F0 m 34 ls []) := by
          intro H locs ls hf hP hD hS hl
          unfold fX10_isUnder_J34 at hf
          refine lv_iload_n hx hb dX10_isUnder_34 rfl (lv_at hl 1 rfl) ?_
          refine lv_iconst (v := 3) hx hb dX10_isUnder_35 (by decide) ?_
          refine lv_icmp_ne (tgt := 48) hx hb dX10_isUnder_36 (by decide) (fun hc => ?_) (fun hc => ?_)
          · replace hf := zIf_f hc hf
            refine lv_iconst (v := 0) hx hb dX10_isUnder_48 (by decide) ?_
            obtain ⟨q1, -⟩ := zI1 hf
            subst q1
            exact zRetZ hQ hx hb hr hlocks hA0 hK hP hD hS (by decide) rfl dX10_isUnder_49
          · replace hf := zIf_t hc hf
            refine lv_iload_n hx hb dX10_isUnder_39 rfl (lv_at hl 0 rfl) ?_
            refine lv_iconst (v := 5) hx hb dX10_isUnder_40 (by decide) ?_
            refine lv_icmp_ne (tgt := 48) hx hb dX10_isUnder_41 (by decide) (fun hc => ?_) (fun hc => ?_)
            · replace hf := zIf_f hc hf
              refine lv_iconst (v := 0) hx hb dX10_isUnder_48 (by decide) ?_
              obtain ⟨q1, -⟩ := zI1 hf
              subst q1
              exact zRetZ hQ hx hb hr hlocks hA0 hK hP hD hS (by decide) rfl dX10_isUnder_49
            · replace hf := zIf_t hc hf
              refine lv_iconst (v := 1) hx hb dX10_isUnder_44 (by decide) ?_
              refine lv_goto (tgt := 49) hx hb dX10_isUnder_45 (by decide) ?_
              obtain ⟨q1, -⟩ := zI1 hf
              subst q1
              exact zRetZ hQ hx hb hr hlocks hA0 hK hP hD hS (by decide) rfl dX10_isUnder_49
        refine lv_icmp_ne (tgt := 34) hx hb dX10_isUnder_21 (by decide) (fun hc => ?_) (fun hc => ?_)
        · replace hf := zIf_f hc hf
          exact hJ34 H locs ls hf hP hD hS hl
        · replace hf := zIf_t hc hf
          refine lv_iload_n hx hb dX10_isUnder_24 rfl (lv_at hl 0 rfl) ?_
          refine lv_iconst (v := 3) hx hb dX10_isUnder_25 (by decide) ?_
          refine lv_icmp_eq (tgt := 44) hx hb dX10_isUnder_26 (by decide) (fun hc => ?_) (fun hc => ?_)
          · replace hf := zIf_t hc hf
            refine lv_iconst (v := 1) hx hb dX10_isUnder_44 (by decide) ?_
            refine lv_goto (tgt := 49) hx hb dX10_isUnder_45 (by decide) ?_
            obtain ⟨q1, -⟩ := zI1 hf
            subst q1
            exact zRetZ hQ hx hb hr hlocks hA0 hK hP hD hS (by decide) rfl dX10_isUnder_49
          · replace hf := zIf_f hc hf
            refine lv_iload_n hx hb dX10_isUnder_29 rfl (lv_at hl 0 rfl) ?_
            refine lv_iconst (v := 5) hx hb dX10_isUnder_30 (by decide) ?_
            refine lv_icmp_eq (tgt := 44) hx hb dX10_isUnder_31 (by decide) (fun hc => ?_) (fun hc => ?_)
            · replace hf := zIf_t hc hf
              refine lv_iconst (v := 1) hx hb dX10_isUnder_44 (by decide) ?_
              refine lv_goto (tgt := 49) hx hb dX10_isUnder_45 (by decide) ?_
              obtain ⟨q1, -⟩ := zI1 hf
              subst q1
              exact zRetZ hQ hx hb hr hlocks hA0 hK hP hD hS (by decide) rfl dX10_isUnder_49
            · replace hf := zIf_f hc hf
              exact hJ34 H locs ls hf hP hD hS hl
      refine lv_icmp_ne (tgt := 19) hx hb dX10_isUnder_11 (by decide) (fun hc => ?_) (fun hc => ?_)
      · replace hf := zIf_f hc hf
        exact hJ19 H locs ls hf hP hD hS hl
      · replace hf := zIf_t hc hf
        refine lv_iload_n hx hb dX10_isUnder_14 rfl (lv_at hl 0 rfl) ?_
        refine lv_iconst (v := 4) hx hb dX10_isUnder_15 (by decide) ?_
        refine lv_icmp_eq (tgt := 44) hx hb dX10_isUnder_16 (by decide) (fun hc => ?_) (fun hc => ?_)
        · replace hf := zIf_t hc hf
          refine lv_iconst (v := 1) hx hb dX10_isUnder_44 (by decide) ?_
          refine lv_goto (tgt := 49) hx hb dX10_isUnder_45 (by decide) ?_
          obtain ⟨q1, -⟩ := zI1 hf
          subst q1
          exact zRetZ hQ hx hb hr hlocks hA0 hK hP hD hS (by decide) rfl dX10_isUnder_49
        · replace hf := zIf_f hc hf
          exact hJ19 H locs ls hf hP hD hS hl
set_option maxHeartbeats 4000000 in
set_option maxRecDepth 100000 in
theorem pX10_taken (l : Launch) (D : va_G) (T : Nat → ClassId) (X : zFP) (hgm : Nat → Nat) (sz : Nat) (gm : zM) (gml : zL) (a1 : Int32) (a2 : Int32) (r : Int32) (hf : fX10_taken gm gml a1 a2 = some r) : Met l yX10_taken wsX10_taken rX10_taken (zPre D T X [.ref (hgm 0), .int a1, .int a2] (wX10 T hgm gm gml) sz) (zQi D T r (wX10 T hgm gm gml) (wX10 T hgm gm gml) sz) 0 0 (va_A (wX10 T hgm gm gml) sz) := by
  unfold fX10_taken at hf
  refine zStart [(0, .ref (hgm 0)), (1, .int a1), (2, .int a2)] (by decide) rfl (Nat.le_of_ble_eq_true rfl) rfl ?_
  intro p e s m args below meth c A Q ls hx hb hr hml hown hlocks hts hsz hA0 hQ hA hK hX hP hD hS hl
  replace hown : s.vm.findClass RX10 = some m.cls := hown
  have hH := hsz
  have hiX10 : ∀ w ∈ u_ws RX10 TX10 54, w ∈ wsX10_taken := fun w h => List.mem_cons_of_mem _ (List.mem_append_right _ (h))
  obtain ⟨H, hHe⟩ : ∃ H : Heap, H = s.heap := ⟨_, rfl⟩
  obtain ⟨locs, hLe⟩ : ∃ L : List Loc, L = [] := ⟨_, rfl⟩
  replace hP : va_P D vwCl (wX10 T hgm gm gml) H := by rw [hHe]; exact hP
  replace hS : va_S A s.heap H locs := by rw [hHe, hLe]; exact hS
  suffices hgo : W p l e rX10_taken s m args below meth c H locs 0 0 Q (F0 m 0 ls []) by rw [hHe, hLe] at hgo; exact hgo
  clear hHe hLe
  refine lv_iload_n hx hb dX10_taken_0 rfl (lv_at hl 1 rfl) ?_
  obtain ⟨v1, hc1, hf⟩ := zB1_ok hf
  refine zCallS0I [.int a1] ⟨hx, hb, hml, hown, hts⟩ (pX10_isShelf l D T X H.size a1 v1 hc1) (va_cwS 1 hts gX10_taken_X10_isShelf rfl rfl rfl (by decide +kernel) ⟨Nat.le_of_ble_eq_true rfl, Nat.le_of_ble_eq_true rfl⟩) hK hP hD hS hA hX rfl hl.1 rfl (Nat.le_of_ble_eq_true rfl) dX10_taken_1 ⟨Nat.zero_le _, Nat.zero_le _⟩ (fun H locs hP hD hS => ?_)
  refine lv_if_eq (tgt := 28) hx hb dX10_taken_4 (by decide) (fun hc => ?_) (fun hc => ?_)
  · replace hf := zIf_t hc hf
    refine lv_iconst (v := (-1)) hx hb dX10_taken_28 (by decide) ?_
    obtain ⟨q1, -⟩ := zI1 hf
    subst q1
    exact zRetI hQ hx hb hr hlocks hA0 hK hP hD hS rfl dX10_taken_29
  · replace hf := zIf_f hc hf
    refine lv_iload_n hx hb dX10_taken_7 rfl (lv_at hl 2 rfl) ?_
    refine lv_iconst (v := 0) hx hb dX10_taken_8 (by decide) ?_
    refine lv_bipush (v := 6) hx hb dX10_taken_9 (by decide) ?_
    obtain ⟨v2, hc11, hf⟩ := zB1_ok hf
    refine zCallS0I [.int a2, .int 0, .int 6] ⟨hx, hb, hml, hown, hts⟩ (pX10_in l D T X H.size a2 0 6 v2 hc11) (va_cwS 3 hts gX10_taken_X10_in rfl rfl rfl (by decide +kernel) ⟨Nat.le_of_ble_eq_true rfl, Nat.le_of_ble_eq_true rfl⟩) hK hP hD hS hA hX rfl hl.1 rfl (Nat.le_of_ble_eq_true rfl) dX10_taken_11 ⟨Nat.zero_le _, Nat.zero_le _⟩ (fun H locs hP hD hS => ?_)
    have hJ30 : ∀ (H : Heap) (locs : List Loc) (ls : Array Slot), fX10_taken_J30 a1 a2 gm gml = some r → va_P D vwCl (wX10 T hgm gm gml) H → va_D A (wX10 T hgm gm gml) → va_S A s.heap H locs → lv_has ls 4 [(0, .ref (hgm 0)), (1, .int a1), (2, .int a2)] → W p l e rX10_taken s m args below meth c H locs 0 0 Q (F0 m 30 ls []) := by
      intro H locs ls hf hP hD hS hl
      unfold fX10_taken_J30 at hf
      refine lv_aload_n hx hb dX10_taken_30 rfl (lv_at hl 0 rfl) ?_
      refine lv_iload_n hx hb dX10_taken_31 rfl (lv_at hl 1 rfl) ?_
      obtain ⟨v3, hc32, hf⟩ := zB1_ok hf
      refine zCallVEI [.int a1] ⟨hx, hb, hml, hown, hts⟩ (pX10_kindOn l D T X hgm H.size gm gml a1 v3 hc32) (cwV 1 hts gX10_taken_X10_kindOn rfl rfl rfl (by decide +kernel) ⟨Nat.le_of_ble_eq_true rfl, Nat.le_of_ble_eq_true rfl⟩) hK hP hD hS hA hX 0 rfl rfl rfl hl.1 rfl (Nat.le_of_ble_eq_true rfl) dX10_taken_32 ⟨Nat.zero_le _, Nat.zero_le _⟩ (fun H locs hP hD hS => ?_)
      refine lv_istore_n (lv' := [(3, .int v3), (0, .ref (hgm 0)), (1, .int a1), (2, .int a2)]) hx hb dX10_taken_35 rfl hl (by decide) rfl (fun ls hl => ?_)
      refine lv_iload_n hx hb dX10_taken_36 rfl (lv_at hl 0 rfl) ?_
      refine lv_if_ge (tgt := 43) hx hb dX10_taken_37 (by decide) (fun hc => ?_) (fun hc => ?_)
      · replace hf := zIf_t hc hf
        refine lv_iload_n hx hb dX10_taken_43 rfl (lv_at hl 0 rfl) ?_
        refine lv_bipush (v := 9) hx hb dX10_taken_44 (by decide) ?_
        refine lv_icmp_ne (tgt := 74) hx hb dX10_taken_46 (by decide) (fun hc => ?_) (fun hc => ?_)
        · replace hf := zIf_f hc hf
          refine lv_iload_n hx hb dX10_taken_74 rfl (lv_at hl 3 rfl) ?_
          refine lv_bipush (v := 10) hx hb dX10_taken_75 (by decide) ?_
          refine lv_icmp_ge (tgt := 97) hx hb dX10_taken_77 (by decide) (fun hc => ?_) (fun hc => ?_)
          · replace hf := zIf_t hc hf
            refine lv_bipush (v := (-13)) hx hb dX10_taken_97 (by decide) ?_
            obtain ⟨q1, -⟩ := zI1 hf
            subst q1
            exact zRetI hQ hx hb hr hlocks hA0 hK hP hD hS rfl dX10_taken_99
          · replace hf := zIf_f hc hf
            refine lv_iload_n hx hb dX10_taken_80 rfl (lv_at hl 0 rfl) ?_
            refine lv_iload_n hx hb dX10_taken_81 rfl (lv_at hl 3 rfl) ?_
            obtain ⟨v4, hc82, hf⟩ := zB1_ok hf
            refine zCallS0I [.int v3, .int a2] ⟨hx, hb, hml, hown, hts⟩ (pX10_isUnder l D T X H.size v3 a2 v4 hc82) (va_cwS 2 hts gX10_taken_X10_isUnder rfl rfl rfl (by decide +kernel) ⟨Nat.le_of_ble_eq_true rfl, Nat.le_of_ble_eq_true rfl⟩) hK hP hD hS hA hX rfl hl.1 rfl (Nat.le_of_ble_eq_true rfl) dX10_taken_82 ⟨Nat.zero_le _, Nat.zero_le _⟩ (fun H locs hP hD hS => ?_)
            refine lv_if_eq (tgt := 97) hx hb dX10_taken_85 (by decide) (fun hc => ?_) (fun hc => ?_)
            · replace hf := zIf_t hc hf
              refine lv_bipush (v := (-13)) hx hb dX10_taken_97 (by decide) ?_
              obtain ⟨q1, -⟩ := zI1 hf
              subst q1
              exact zRetI hQ hx hb hr hlocks hA0 hK hP hD hS rfl dX10_taken_99
            · replace hf := zIf_f hc hf
              refine lv_aload_n hx hb dX10_taken_88 rfl (lv_at hl 1 rfl) ?_
              refine zGet (ci := 10) (C := RX10) (F := TX10) (N := 54) (v := .ref (hgm 22)) hx hb hts hiX10 hown hK hP 0 42 1 rfl rfl (by decide) rfl rfl rfl dX10_taken_89 ?_
              refine lv_iload_n hx hb dX10_taken_92 rfl (lv_at hl 2 rfl) ?_
              obtain ⟨hg, hf⟩ := zGd_ok hf
              refine zAldI hx hb hK hP 22 rfl hg dX10_taken_93 (fun v5 ev5 => ?_)
              replace hf := zLt_at ev5 hf
              refine lv_goto (tgt := 99) hx hb dX10_taken_94 (by decide) ?_
              obtain ⟨q1, -⟩ := zI1 hf
              subst q1
              exact zRetI hQ hx hb hr hlocks hA0 hK hP hD hS rfl dX10_taken_99
        · replace hf := zIf_t hc hf
          refine lv_iload_n hx hb dX10_taken_49 rfl (lv_at hl 3 rfl) ?_
          refine lv_bipush (v := 10) hx hb dX10_taken_50 (by decide) ?_
          refine lv_aload_n hx hb dX10_taken_52 rfl (lv_at hl 1 rfl) ?_
          refine zGet (ci := 10) (C := RX10) (F := TX10) (N := 54) (v := .ref (hgm 22)) hx hb hts hiX10 hown hK hP 0 42 1 rfl rfl (by decide) rfl rfl rfl dX10_taken_53 ?_
          refine lv_iload_n hx hb dX10_taken_56 rfl (lv_at hl 2 rfl) ?_
          obtain ⟨hg, hf⟩ := zGd_ok hf
          refine zAldI hx hb hK hP 22 rfl hg dX10_taken_57 (fun v6 ev6 => ?_)
          replace hf := zLt_at ev6 hf
          refine lv_iadd hx hb dX10_taken_58 ?_
          refine lv_icmp_ne (tgt := 71) hx hb dX10_taken_59 (by decide) (fun hc => ?_) (fun hc => ?_)
          · replace hf := zIf_f hc hf
            refine lv_bipush (v := (-13)) hx hb dX10_taken_71 (by decide) ?_
            obtain ⟨q1, -⟩ := zI1 hf
            subst q1
            exact zRetI hQ hx hb hr hlocks hA0 hK hP hD hS rfl dX10_taken_73
          · replace hf := zIf_t hc hf
            refine lv_aload_n hx hb dX10_taken_62 rfl (lv_at hl 1 rfl) ?_
            refine zGet (ci := 10) (C := RX10) (F := TX10) (N := 54) (v := .ref (hgm 23)) hx hb hts hiX10 hown hK hP 0 43 2 rfl rfl (by decide) rfl rfl rfl dX10_taken_63 ?_
            refine lv_iload_n hx hb dX10_taken_66 rfl (lv_at hl 2 rfl) ?_
            obtain ⟨hg, hf⟩ := zGd_ok hf
            refine zAldI hx hb hK hP 23 rfl hg dX10_taken_67 (fun v7 ev7 => ?_)
            replace hf := zLt_at ev7 hf
            refine lv_goto (tgt := 73) hx hb dX10_taken_68 (by decide) ?_
            obtain ⟨q1, -⟩ := zI1 hf
            subst q1
            exact zRetI hQ hx hb hr hlocks hA0 hK hP hD hS rfl dX10_taken_73
      · replace hf := zIf_f hc hf
        refine lv_bipush (v := (-11)) hx hb dX10_taken_40 (by decide) ?_
        obtain ⟨q1, -⟩ := zI1 hf
        subst q1
        exact zRetI hQ hx hb hr hlocks hA0 hK hP hD hS rfl dX10_taken_42
    refine lv_if_ne (tgt := 30) hx hb dX10_taken_14 (by decide) (fun hc => ?_) (fun hc => ?_)
    · replace hf := zIf_f hc hf
      exact hJ30 H locs ls hf hP hD hS hl
    · replace hf := zIf_t hc hf
      refine lv_iload_n hx hb dX10_taken_17 rfl (lv_at hl 2 rfl) ?_
      refine lv_bipush (v := 10) hx hb dX10_taken_18 (by decide) ?_
      refine lv_bipush (v := 13) hx hb dX10_taken_20 (by decide) ?_
      obtain ⟨v8, hc22, hf⟩ := zB1_ok hf
      refine zCallS0I [.int a2, .int 10, .int 13] ⟨hx, hb, hml, hown, hts⟩ (pX10_in l D T X H.size a2 10 13 v8 hc22) (va_cwS 3 hts gX10_taken_X10_in rfl rfl rfl (by decide +kernel) ⟨Nat.le_of_ble_eq_true rfl, Nat.le_of_ble_eq_true rfl⟩) hK hP hD hS hA hX rfl hl.1 rfl (Nat.le_of_ble_eq_true rfl) dX10_taken_22 ⟨Nat.zero_le _, Nat.zero_le _⟩ (fun H locs hP hD hS => ?_)
      refine lv_if_ne (tgt := 30) hx hb dX10_taken_25 (by decide) (fun hc => ?_) (fun hc => ?_)
      · replace hf := zIf_f hc hf
        exact hJ30 H locs ls hf hP hD hS hl
      · replace hf := zIf_t hc hf
        refine lv_iconst (v := (-1)) hx hb dX10_taken_28 (by decide) ?_
        obtain ⟨q1, -⟩ := zI1 hf
        subst q1
        exact zRetI hQ hx hb hr hlocks hA0 hK hP hD hS rfl dX10_taken_29
set_option maxHeartbeats 4000000 in
set_option maxRecDepth 100000 in
theorem pX10_ran (l : Launch) (D : va_G) (T : Nat → ClassId) (X : zFP) (hgm : Nat → Nat) (sz : Nat) (gm : zM) (gml : zL) (a1 : Int32) (ngm : zM) (hf : fX10_ran gm gml a1 = some ngm) : Met l yX10_ran wsX10_ran rX10_ran (zPre D T X [.ref (hgm 0), .int a1] (wX10 T hgm gm gml) sz) (zQv D T (wX10 T hgm ngm gml) (wX10 T hgm gm gml) sz) 0 0 (va_A (wX10 T hgm gm gml) sz) := by
  unfold fX10_ran at hf
  refine zStart [(0, .ref (hgm 0)), (1, .int a1)] (by decide) rfl (Nat.le_of_ble_eq_true rfl) rfl ?_
  intro p e s m args below meth c A Q ls hx hb hr hml hown hlocks hts hsz hA0 hQ hA hK hX hP hD hS hl
  replace hown : s.vm.findClass RX10 = some m.cls := hown
  have hH := hsz
  have hiX10 : ∀ w ∈ u_ws RX10 TX10 54, w ∈ wsX10_ran := fun w h => List.mem_cons_of_mem _ (List.mem_append_right _ (h))
  obtain ⟨H, hHe⟩ : ∃ H : Heap, H = s.heap := ⟨_, rfl⟩
  obtain ⟨locs, hLe⟩ : ∃ L : List Loc, L = [] := ⟨_, rfl⟩
  replace hP : va_P D vwCl (wX10 T hgm gm gml) H := by rw [hHe]; exact hP
  replace hS : va_S A s.heap H locs := by rw [hHe, hLe]; exact hS
  suffices hgo : W p l e rX10_ran s m args below meth c H locs 0 0 Q (F0 m 0 ls []) by rw [hHe, hLe] at hgo; exact hgo
  clear hHe hLe
  refine lv_aload_n hx hb dX10_ran_0 rfl (lv_at hl 0 rfl) ?_
  refine zGet (ci := 10) (C := RX10) (F := TX10) (N := 54) (v := .int (gm 0 48)) hx hb hts hiX10 hown hK hP 0 48 1 rfl rfl (by decide) rfl rfl rfl dX10_ran_1 ?_
  refine lv_bipush (v := 30) hx hb dX10_ran_4 (by decide) ?_
  refine lv_icmp_ge (tgt := 29) hx hb dX10_ran_6 (by decide) (fun hc => ?_) (fun hc => ?_)
  · replace hf := zIf_t hc hf
    obtain ⟨q1, -⟩ := zI1 hf
    subst q1
    exact zRetV hQ hx hb hr hlocks hA0 hK hP hD hS dX10_ran_29
  · replace hf := zIf_f hc hf
    refine lv_aload_n hx hb dX10_ran_9 rfl (lv_at hl 0 rfl) ?_
    refine zGet (ci := 10) (C := RX10) (F := TX10) (N := 54) (v := .ref (hgm 24)) hx hb hts hiX10 hown hK hP 0 47 2 rfl rfl (by decide) rfl rfl rfl dX10_ran_10 ?_
    refine lv_aload_n hx hb dX10_ran_13 rfl (lv_at hl 0 rfl) ?_
    refine zGet (ci := 10) (C := RX10) (F := TX10) (N := 54) (v := .int (gm 0 48)) hx hb hts hiX10 hown hK hP 0 48 1 rfl rfl (by decide) rfl rfl rfl dX10_ran_14 ?_
    refine lv_iload_n hx hb dX10_ran_17 rfl (lv_at hl 1 rfl) ?_
    obtain ⟨hg, hf⟩ := zGd_ok hf
    refine zAstI (w := gm) hx hb hK hP hD hS (fun g => wX10 T hgm g gml) 24 24 rfl hg rfl dX10_ran_18 (fun gm_1 egm_1 H locs hP hD hS => ?_)
    replace hP : va_P D vwCl (wX10 T hgm gm_1 gml) H := hP
    replace hD : va_D A (wX10 T hgm gm_1 gml) := hD
    replace hf := zLt_at egm_1 hf
    refine lv_aload_n hx hb dX10_ran_19 rfl (lv_at hl 0 rfl) ?_
    refine lv_dup hx hb dX10_ran_20 rfl ?_
    refine zGet (ci := 10) (C := RX10) (F := TX10) (N := 54) (v := .int (gm_1 0 48)) hx hb hts hiX10 hown hK hP 0 48 1 rfl rfl (by decide) rfl rfl rfl dX10_ran_21 ?_
    refine lv_iconst (v := 1) hx hb dX10_ran_24 (by decide) ?_
    refine lv_iadd hx hb dX10_ran_25 ?_
    refine lv_topi (fun v2 ev2 => ?_)
    replace hf := zLt_at ev2 hf
    refine zPut (ci := 10) (C := RX10) (F := TX10) (N := 54) (x := v2) (w := gm_1) hx hb hts hiX10 tyX10 tyX10_ok nmX10 hown hK hP hD hS (fun g => wX10 T hgm g gml) 0 48 1 rfl rfl (by decide) rfl rfl rfl ⟨rfl, rfl⟩ (Nat.le_of_ble_eq_true rfl) rfl dX10_ran_26 (fun gm_3 egm_3 H locs hP hD hS => ?_)
    replace hP : va_P D vwCl (wX10 T hgm gm_3 gml) H := hP
    replace hD : va_D A (wX10 T hgm gm_3 gml) := hD
    replace hf := zLt_at egm_3 hf
    obtain ⟨q1, -⟩ := zI1 hf
    subst q1
    exact zRetV hQ hx hb hr hlocks hA0 hK hP hD hS dX10_ran_29
set_option maxHeartbeats 4000000 in
set_option maxRecDepth 100000 in
theorem pX10_plainParts (l : Launch) (D : va_G) (T : Nat → ClassId) (X : zFP) (hgm : Nat → Nat) (sz : Nat) (gm : zM) (gml : zL) (a1 : Int32) (r : Int32) (ngm : zM) (hf : fX10_plainParts gm gml a1 = some (r, ngm)) : Met l yX10_plainParts wsX10_plainParts rX10_plainParts (zPre D T X [.ref (hgm 0), .int a1] (wX10 T hgm gm gml) sz) (zQi D T r (wX10 T hgm ngm gml) (wX10 T hgm gm gml) sz) 0 0 (va_A (wX10 T hgm gm gml) sz) := by
  unfold fX10_plainParts at hf
  refine zStart [(0, .ref (hgm 0)), (1, .int a1)] (by decide) rfl (Nat.le_of_ble_eq_true rfl) rfl ?_
  intro p e s m args below meth c A Q ls hx hb hr hml hown hlocks hts hsz hA0 hQ hA hK hX hP hD hS hl
  replace hown : s.vm.findClass RX10 = some m.cls := hown
  have hH := hsz
  have hiX10 : ∀ w ∈ u_ws RX10 TX10 54, w ∈ wsX10_plainParts := fun w h => List.mem_cons_of_mem _ (List.mem_append_right _ (h))
  obtain ⟨H, hHe⟩ : ∃ H : Heap, H = s.heap := ⟨_, rfl⟩
  obtain ⟨locs, hLe⟩ : ∃ L : List Loc, L = [] := ⟨_, rfl⟩
  replace hP : va_P D vwCl (wX10 T hgm gm gml) H := by rw [hHe]; exact hP
  replace hS : va_S A s.heap H locs := by rw [hHe, hLe]; exact hS
  suffices hgo : W p l e rX10_plainParts s m args below meth c H locs 0 0 Q (F0 m 0 ls []) by rw [hHe, hLe] at hgo; exact hgo
  clear hHe hLe
  refine lv_aload_n hx hb dX10_plainParts_0 rfl (lv_at hl 0 rfl) ?_
  refine lv_bipush (v := 10) hx hb dX10_plainParts_1 (by decide) ?_
  obtain ⟨gm_1, hc3, hf⟩ := zB1_ok hf
  refine zCallVEV [.int 10] ⟨hx, hb, hml, hown, hts⟩ (pX10_ran l D T X hgm H.size gm gml 10 gm_1 hc3) (cwV 1 hts gX10_plainParts_X10_ran rfl rfl rfl (by decide +kernel) ⟨Nat.le_of_ble_eq_true rfl, Nat.le_of_ble_eq_true rfl⟩) hK hP hD hS hA hX 0 rfl rfl rfl hl.1 rfl (Nat.le_of_ble_eq_true rfl) dX10_plainParts_3 ⟨Nat.zero_le _, Nat.zero_le _⟩ (fun H locs hP hD hS => ?_)
  refine lv_iload_n hx hb dX10_plainParts_6 rfl (lv_at hl 1 rfl) ?_
  refine lv_aload_n hx hb dX10_plainParts_7 rfl (lv_at hl 0 rfl) ?_
  refine zGet (ci := 10) (C := RX10) (F := TX10) (N := 54) (v := .int (gm_1 0 45)) hx hb hts hiX10 hown hK hP 0 45 1 rfl rfl (by decide) rfl rfl rfl dX10_plainParts_8 ?_
  refine lv_iadd hx hb dX10_plainParts_11 ?_
  obtain ⟨q1, q2⟩ := zI2 hf
  subst q1
  subst q2
  exact zRetI hQ hx hb hr hlocks hA0 hK hP hD hS rfl dX10_plainParts_12
set_option maxHeartbeats 4000000 in
set_option maxRecDepth 100000 in
theorem pX10_tableParts (l : Launch) (D : va_G) (T : Nat → ClassId) (X : zFP) (hgm : Nat → Nat) (sz : Nat) (gm : zM) (gml : zL) (a1 : Int32) (r : Int32) (ngm : zM) (hf : fX10_tableParts gm gml a1 = some (r, ngm)) : Met l yX10_tableParts wsX10_tableParts rX10_tableParts (zPre D T X [.ref (hgm 0), .int a1] (wX10 T hgm gm gml) sz) (zQi D T r (wX10 T hgm ngm gml) (wX10 T hgm gm gml) sz) 0 0 (va_A (wX10 T hgm gm gml) sz) := by
  unfold fX10_tableParts at hf
  refine zStart [(0, .ref (hgm 0)), (1, .int a1)] (by decide) rfl (Nat.le_of_ble_eq_true rfl) rfl ?_
  intro p e s m args below meth c A Q ls hx hb hr hml hown hlocks hts hsz hA0 hQ hA hK hX hP hD hS hl
  replace hown : s.vm.findClass RX10 = some m.cls := hown
  have hH := hsz
  obtain ⟨H, hHe⟩ : ∃ H : Heap, H = s.heap := ⟨_, rfl⟩
  obtain ⟨locs, hLe⟩ : ∃ L : List Loc, L = [] := ⟨_, rfl⟩
  replace hP : va_P D vwCl (wX10 T hgm gm gml) H := by rw [hHe]; exact hP
  replace hS : va_S A s.heap H locs := by rw [hHe, hLe]; exact hS
  suffices hgo : W p l e rX10_tableParts s m args below meth c H locs 0 0 Q (F0 m 0 ls []) by rw [hHe, hLe] at hgo; exact hgo
  clear hHe hLe
  refine lv_aload_n hx hb dX10_tableParts_0 rfl (lv_at hl 0 rfl) ?_
  refine lv_bipush (v := 30) hx hb dX10_tableParts_1 (by decide) ?_
  obtain ⟨gm_1, hc3, hf⟩ := zB1_ok hf
  refine zCallVEV [.int 30] ⟨hx, hb, hml, hown, hts⟩ (pX10_ran l D T X hgm H.size gm gml 30 gm_1 hc3) (cwV 1 hts gX10_tableParts_X10_ran rfl rfl rfl (by decide +kernel) ⟨Nat.le_of_ble_eq_true rfl, Nat.le_of_ble_eq_true rfl⟩) hK hP hD hS hA hX 0 rfl rfl rfl hl.1 rfl (Nat.le_of_ble_eq_true rfl) dX10_tableParts_3 ⟨Nat.zero_le _, Nat.zero_le _⟩ (fun H locs hP hD hS => ?_)
  refine lv_aload_n hx hb dX10_tableParts_6 rfl (lv_at hl 0 rfl) ?_
  refine lv_iload_n hx hb dX10_tableParts_7 rfl (lv_at hl 1 rfl) ?_
  obtain ⟨v2, gm_3, hc8, hf⟩ := zB2_ok hf
  refine zCallVEI [.int a1] ⟨hx, hb, hml, hown, hts⟩ (pX10_plainParts l D T X hgm H.size gm_1 gml a1 v2 gm_3 hc8) (cwV 1 hts gX10_tableParts_X10_plainParts rfl rfl rfl (by decide +kernel) ⟨Nat.le_of_ble_eq_true rfl, Nat.le_of_ble_eq_true rfl⟩) hK hP hD hS hA hX 0 rfl rfl rfl hl.1 rfl (Nat.le_of_ble_eq_true rfl) dX10_tableParts_8 ⟨Nat.zero_le _, Nat.zero_le _⟩ (fun H locs hP hD hS => ?_)
  refine lv_iconst (v := 3) hx hb dX10_tableParts_11 (by decide) ?_
  refine lv_imul hx hb dX10_tableParts_12 ?_
  obtain ⟨q1, q2⟩ := zI2 hf
  subst q1
  subst q2
  exact zRetI hQ hx hb hr hlocks hA0 hK hP hD hS rfl dX10_tableParts_13
set_option maxHeartbeats 4000000 in
set_option maxRecDepth 100000 in
theorem pX10_partsIt (l : Launch) (D : va_G) (T : Nat → ClassId) (X : zFP) (hgm : Nat → Nat) (sz : Nat) (gm : zM) (gml : zL) (a1 : Int32) (r : Int32) (ngm : zM) (hf : fX10_partsIt gm gml a1 = some (r, ngm)) : Met l yX10_partsIt wsX10_partsIt rX10_partsIt (zPre D T X [.ref (hgm 0), .int a1] (wX10 T hgm gm gml) sz) (zQi D T r (wX10 T hgm ngm gml) (wX10 T hgm gm gml) sz) 0 0 (va_A (wX10 T hgm gm gml) sz) := by
  unfold fX10_partsIt at hf
  refine zStart [(0, .ref (hgm 0)), (1, .int a1)] (by decide) rfl (Nat.le_of_ble_eq_true rfl) rfl ?_
  intro p e s m args below meth c A Q ls hx hb hr hml hown hlocks hts hsz hA0 hQ hA hK hX hP hD hS hl
  replace hown : s.vm.findClass RX10 = some m.cls := hown
  have hH := hsz
  have hiX10 : ∀ w ∈ u_ws RX10 TX10 54, w ∈ wsX10_partsIt := fun w h => List.mem_cons_of_mem _ (List.mem_append_right _ (h))
  obtain ⟨H, hHe⟩ : ∃ H : Heap, H = s.heap := ⟨_, rfl⟩
  obtain ⟨locs, hLe⟩ : ∃ L : List Loc, L = [] := ⟨_, rfl⟩
  replace hP : va_P D vwCl (wX10 T hgm gm gml) H := by rw [hHe]; exact hP
  replace hS : va_S A s.heap H locs := by rw [hHe, hLe]; exact hS
  suffices hgo : W p l e rX10_partsIt s m args below meth c H locs 0 0 Q (F0 m 0 ls []) by rw [hHe, hLe] at hgo; exact hgo
  clear hHe hLe
  refine lv_aload_n hx hb dX10_partsIt_0 rfl (lv_at hl 0 rfl) ?_
  refine zGet (ci := 10) (C := RX10) (F := TX10) (N := 54) (v := .int (gm 0 44)) hx hb hts hiX10 hown hK hP 0 44 1 rfl rfl (by decide) rfl rfl rfl dX10_partsIt_1 ?_
  refine lv_topi (fun v1 ev1 => ?_)
  replace hf := zLt_at ev1 hf
  refine zSw (x := v1) (k := 2) (fun hc => ?_) (fun hk2 => ?_)
  · replace hf := zIf_t hc hf
    refine lv_tableIn (off := 36) (tgt := 40) hx hb dX10_partsIt_4 (by rw [hc]; decide) (by rw [hc]; decide) (by rw [hc]; decide) (by decide) ?_
    refine lv_aload_n hx hb dX10_partsIt_40 rfl (lv_at hl 0 rfl) ?_
    refine lv_iload_n hx hb dX10_partsIt_41 rfl (lv_at hl 1 rfl) ?_
    obtain ⟨v2, gm_3, hc42, hf⟩ := zB2_ok hf
    refine zCallVEI [.int a1] ⟨hx, hb, hml, hown, hts⟩ (pX10_tableParts l D T X hgm H.size gm gml a1 v2 gm_3 hc42) (cwV 1 hts gX10_partsIt_X10_tableParts rfl rfl rfl (by decide +kernel) ⟨Nat.le_of_ble_eq_true rfl, Nat.le_of_ble_eq_true rfl⟩) hK hP hD hS hA hX 0 rfl rfl rfl hl.1 rfl (Nat.le_of_ble_eq_true rfl) dX10_partsIt_42 ⟨Nat.zero_le _, Nat.zero_le _⟩ (fun H locs hP hD hS => ?_)
    obtain ⟨q1, q2⟩ := zI2 hf
    subst q1
    subst q2
    exact zRetI hQ hx hb hr hlocks hA0 hK hP hD hS rfl dX10_partsIt_45
  replace hf := zIf_f hk2 hf
  refine zSw (x := v1) (k := 3) (fun hc => ?_) (fun hk3 => ?_)
  · replace hf := zIf_t hc hf
    refine lv_tableIn (off := 42) (tgt := 46) hx hb dX10_partsIt_4 (by rw [hc]; decide) (by rw [hc]; decide) (by rw [hc]; decide) (by decide) ?_
    refine lv_aload_n hx hb dX10_partsIt_46 rfl (lv_at hl 0 rfl) ?_
    refine lv_bipush (v := 41) hx hb dX10_partsIt_47 (by decide) ?_
    obtain ⟨gm_4, hc49, hf⟩ := zB1_ok hf
    refine zCallVEV [.int 41] ⟨hx, hb, hml, hown, hts⟩ (pX10_ran l D T X hgm H.size gm gml 41 gm_4 hc49) (cwV 1 hts gX10_partsIt_X10_ran rfl rfl rfl (by decide +kernel) ⟨Nat.le_of_ble_eq_true rfl, Nat.le_of_ble_eq_true rfl⟩) hK hP hD hS hA hX 0 rfl rfl rfl hl.1 rfl (Nat.le_of_ble_eq_true rfl) dX10_partsIt_49 ⟨Nat.zero_le _, Nat.zero_le _⟩ (fun H locs hP hD hS => ?_)
    refine lv_aload_n hx hb dX10_partsIt_52 rfl (lv_at hl 0 rfl) ?_
    refine lv_iload_n hx hb dX10_partsIt_53 rfl (lv_at hl 1 rfl) ?_
    obtain ⟨v5, gm_6, hc54, hf⟩ := zB2_ok hf
    refine zCallVEI [.int a1] ⟨hx, hb, hml, hown, hts⟩ (pX10_tableParts l D T X hgm H.size gm_4 gml a1 v5 gm_6 hc54) (cwV 1 hts gX10_partsIt_X10_tableParts rfl rfl rfl (by decide +kernel) ⟨Nat.le_of_ble_eq_true rfl, Nat.le_of_ble_eq_true rfl⟩) hK hP hD hS hA hX 0 rfl rfl rfl hl.1 rfl (Nat.le_of_ble_eq_true rfl) dX10_partsIt_54 ⟨Nat.zero_le _, Nat.zero_le _⟩ (fun H locs hP hD hS => ?_)
    refine lv_aload_n hx hb dX10_partsIt_57 rfl (lv_at hl 0 rfl) ?_
    refine zGet (ci := 10) (C := RX10) (F := TX10) (N := 54) (v := .int (gm_6 0 45)) hx hb hts hiX10 hown hK hP 0 45 2 rfl rfl (by decide) rfl rfl rfl dX10_partsIt_58 ?_
    refine lv_isub hx hb dX10_partsIt_61 ?_
    obtain ⟨q1, q2⟩ := zI2 hf
    subst q1
    subst q2
    exact zRetI hQ hx hb hr hlocks hA0 hK hP hD hS rfl dX10_partsIt_62
  replace hf := zIf_f hk3 hf
  refine zSw (x := v1) (k := 4) (fun hc => ?_) (fun hk4 => ?_)
  · replace hf := zIf_t hc hf
    refine lv_tableIn (off := 59) (tgt := 63) hx hb dX10_partsIt_4 (by rw [hc]; decide) (by rw [hc]; decide) (by rw [hc]; decide) (by decide) ?_
    refine lv_aload_n hx hb dX10_partsIt_63 rfl (lv_at hl 0 rfl) ?_
    refine lv_bipush (v := 50) hx hb dX10_partsIt_64 (by decide) ?_
    obtain ⟨gm_7, hc66, hf⟩ := zB1_ok hf
    refine zCallVEV [.int 50] ⟨hx, hb, hml, hown, hts⟩ (pX10_ran l D T X hgm H.size gm gml 50 gm_7 hc66) (cwV 1 hts gX10_partsIt_X10_ran rfl rfl rfl (by decide +kernel) ⟨Nat.le_of_ble_eq_true rfl, Nat.le_of_ble_eq_true rfl⟩) hK hP hD hS hA hX 0 rfl rfl rfl hl.1 rfl (Nat.le_of_ble_eq_true rfl) dX10_partsIt_66 ⟨Nat.zero_le _, Nat.zero_le _⟩ (fun H locs hP hD hS => ?_)
    refine lv_iconst (v := 0) hx hb dX10_partsIt_69 (by decide) ?_
    refine lv_aload_n hx hb dX10_partsIt_70 rfl (lv_at hl 0 rfl) ?_
    refine lv_iload_n hx hb dX10_partsIt_71 rfl (lv_at hl 1 rfl) ?_
    obtain ⟨v8, gm_9, hc72, hf⟩ := zB2_ok hf
    refine zCallVEI [.int a1] ⟨hx, hb, hml, hown, hts⟩ (pX10_plainParts l D T X hgm H.size gm_7 gml a1 v8 gm_9 hc72) (cwV 1 hts gX10_partsIt_X10_plainParts rfl rfl rfl (by decide +kernel) ⟨Nat.le_of_ble_eq_true rfl, Nat.le_of_ble_eq_true rfl⟩) hK hP hD hS hA hX 0 rfl rfl rfl hl.1 rfl (Nat.le_of_ble_eq_true rfl) dX10_partsIt_72 ⟨Nat.zero_le _, Nat.zero_le _⟩ (fun H locs hP hD hS => ?_)
    refine lv_isub hx hb dX10_partsIt_75 ?_
    obtain ⟨q1, q2⟩ := zI2 hf
    subst q1
    subst q2
    exact zRetI hQ hx hb hr hlocks hA0 hK hP hD hS rfl dX10_partsIt_76
  replace hf := zIf_f hk4 hf
  refine zSw (x := v1) (k := 5) (fun hc => ?_) (fun hk5 => ?_)
  · replace hf := zIf_t hc hf
    refine lv_tableIn (off := 42) (tgt := 46) hx hb dX10_partsIt_4 (by rw [hc]; decide) (by rw [hc]; decide) (by rw [hc]; decide) (by decide) ?_
    refine lv_aload_n hx hb dX10_partsIt_46 rfl (lv_at hl 0 rfl) ?_
    refine lv_bipush (v := 41) hx hb dX10_partsIt_47 (by decide) ?_
    obtain ⟨gm_10, hc49, hf⟩ := zB1_ok hf
    refine zCallVEV [.int 41] ⟨hx, hb, hml, hown, hts⟩ (pX10_ran l D T X hgm H.size gm gml 41 gm_10 hc49) (cwV 1 hts gX10_partsIt_X10_ran rfl rfl rfl (by decide +kernel) ⟨Nat.le_of_ble_eq_true rfl, Nat.le_of_ble_eq_true rfl⟩) hK hP hD hS hA hX 0 rfl rfl rfl hl.1 rfl (Nat.le_of_ble_eq_true rfl) dX10_partsIt_49 ⟨Nat.zero_le _, Nat.zero_le _⟩ (fun H locs hP hD hS => ?_)
    refine lv_aload_n hx hb dX10_partsIt_52 rfl (lv_at hl 0 rfl) ?_
    refine lv_iload_n hx hb dX10_partsIt_53 rfl (lv_at hl 1 rfl) ?_
    obtain ⟨v11, gm_12, hc54, hf⟩ := zB2_ok hf
    refine zCallVEI [.int a1] ⟨hx, hb, hml, hown, hts⟩ (pX10_tableParts l D T X hgm H.size gm_10 gml a1 v11 gm_12 hc54) (cwV 1 hts gX10_partsIt_X10_tableParts rfl rfl rfl (by decide +kernel) ⟨Nat.le_of_ble_eq_true rfl, Nat.le_of_ble_eq_true rfl⟩) hK hP hD hS hA hX 0 rfl rfl rfl hl.1 rfl (Nat.le_of_ble_eq_true rfl) dX10_partsIt_54 ⟨Nat.zero_le _, Nat.zero_le _⟩ (fun H locs hP hD hS => ?_)
    refine lv_aload_n hx hb dX10_partsIt_57 rfl (lv_at hl 0 rfl) ?_
    refine zGet (ci := 10) (C := RX10) (F := TX10) (N := 54) (v := .int (gm_12 0 45)) hx hb hts hiX10 hown hK hP 0 45 2 rfl rfl (by decide) rfl rfl rfl dX10_partsIt_58 ?_
    refine lv_isub hx hb dX10_partsIt_61 ?_
    obtain ⟨q1, q2⟩ := zI2 hf
    subst q1
    subst q2
    exact zRetI hQ hx hb hr hlocks hA0 hK hP hD hS rfl dX10_partsIt_62
  replace hf := zIf_f hk5 hf
  refine zSw (x := v1) (k := 6) (fun hc => ?_) (fun hk6 => ?_)
  · replace hf := zIf_t hc hf
    refine lv_tableIn (off := 73) (tgt := 77) hx hb dX10_partsIt_4 (by rw [hc]; decide) (by rw [hc]; decide) (by rw [hc]; decide) (by decide) ?_
    refine lv_aload_n hx hb dX10_partsIt_77 rfl (lv_at hl 0 rfl) ?_
    refine lv_bipush (v := 70) hx hb dX10_partsIt_78 (by decide) ?_
    obtain ⟨gm_13, hc80, hf⟩ := zB1_ok hf
    refine zCallVEV [.int 70] ⟨hx, hb, hml, hown, hts⟩ (pX10_ran l D T X hgm H.size gm gml 70 gm_13 hc80) (cwV 1 hts gX10_partsIt_X10_ran rfl rfl rfl (by decide +kernel) ⟨Nat.le_of_ble_eq_true rfl, Nat.le_of_ble_eq_true rfl⟩) hK hP hD hS hA hX 0 rfl rfl rfl hl.1 rfl (Nat.le_of_ble_eq_true rfl) dX10_partsIt_80 ⟨Nat.zero_le _, Nat.zero_le _⟩ (fun H locs hP hD hS => ?_)
    refine lv_aload_n hx hb dX10_partsIt_83 rfl (lv_at hl 0 rfl) ?_
    refine lv_iload_n hx hb dX10_partsIt_84 rfl (lv_at hl 1 rfl) ?_
    obtain ⟨v14, gm_15, hc85, hf⟩ := zB2_ok hf
    refine zCallVEI [.int a1] ⟨hx, hb, hml, hown, hts⟩ (pX10_plainParts l D T X hgm H.size gm_13 gml a1 v14 gm_15 hc85) (cwV 1 hts gX10_partsIt_X10_plainParts rfl rfl rfl (by decide +kernel) ⟨Nat.le_of_ble_eq_true rfl, Nat.le_of_ble_eq_true rfl⟩) hK hP hD hS hA hX 0 rfl rfl rfl hl.1 rfl (Nat.le_of_ble_eq_true rfl) dX10_partsIt_85 ⟨Nat.zero_le _, Nat.zero_le _⟩ (fun H locs hP hD hS => ?_)
    refine lv_aload_n hx hb dX10_partsIt_88 rfl (lv_at hl 0 rfl) ?_
    refine zGet (ci := 10) (C := RX10) (F := TX10) (N := 54) (v := .int (gm_15 0 46)) hx hb hts hiX10 hown hK hP 0 46 3 rfl rfl (by decide) rfl rfl rfl dX10_partsIt_89 ?_
    refine lv_ixor hx hb dX10_partsIt_92 ?_
    obtain ⟨q1, q2⟩ := zI2 hf
    subst q1
    subst q2
    exact zRetI hQ hx hb hr hlocks hA0 hK hP hD hS rfl dX10_partsIt_93
  replace hf := zIf_f hk6 hf
  refine lv_tableOut (tgt := 94) hx hb dX10_partsIt_4 (by have := zNe hk2 (z := 2) (by decide); have := zNe hk3 (z := 3) (by decide); have := zNe hk4 (z := 4) (by decide); have := zNe hk5 (z := 5) (by decide); have := zNe hk6 (z := 6) (by decide); omega) (by decide) ?_
  refine lv_aload_n hx hb dX10_partsIt_94 rfl (lv_at hl 0 rfl) ?_
  refine lv_iload_n hx hb dX10_partsIt_95 rfl (lv_at hl 1 rfl) ?_
  obtain ⟨v16, gm_17, hc96, hf⟩ := zB2_ok hf
  refine zCallVEI [.int a1] ⟨hx, hb, hml, hown, hts⟩ (pX10_plainParts l D T X hgm H.size gm gml a1 v16 gm_17 hc96) (cwV 1 hts gX10_partsIt_X10_plainParts rfl rfl rfl (by decide +kernel) ⟨Nat.le_of_ble_eq_true rfl, Nat.le_of_ble_eq_true rfl⟩) hK hP hD hS hA hX 0 rfl rfl rfl hl.1 rfl (Nat.le_of_ble_eq_true rfl) dX10_partsIt_96 ⟨Nat.zero_le _, Nat.zero_le _⟩ (fun H locs hP hD hS => ?_)
  obtain ⟨q1, q2⟩ := zI2 hf
  subst q1
  subst q2
  exact zRetI hQ hx hb hr hlocks hA0 hK hP hD hS rfl dX10_partsIt_99
set_option maxHeartbeats 4000000 in
set_option maxRecDepth 100000 in
theorem pX10_plainCosts (l : Launch) (D : va_G) (T : Nat → ClassId) (X : zFP) (hgm : Nat → Nat) (sz : Nat) (gm : zM) (gml : zL) (a1 : Int32) (r : Int32) (ngm : zM) (hf : fX10_plainCosts gm gml a1 = some (r, ngm)) : Met l yX10_plainCosts wsX10_plainCosts rX10_plainCosts (zPre D T X [.ref (hgm 0), .int a1] (wX10 T hgm gm gml) sz) (zQi D T r (wX10 T hgm ngm gml) (wX10 T hgm gm gml) sz) 0 0 (va_A (wX10 T hgm gm gml) sz) := by
  unfold fX10_plainCosts at hf
  refine zStart [(0, .ref (hgm 0)), (1, .int a1)] (by decide) rfl (Nat.le_of_ble_eq_true rfl) rfl ?_
  intro p e s m args below meth c A Q ls hx hb hr hml hown hlocks hts hsz hA0 hQ hA hK hX hP hD hS hl
  replace hown : s.vm.findClass RX10 = some m.cls := hown
  have hH := hsz
  obtain ⟨H, hHe⟩ : ∃ H : Heap, H = s.heap := ⟨_, rfl⟩
  obtain ⟨locs, hLe⟩ : ∃ L : List Loc, L = [] := ⟨_, rfl⟩
  replace hP : va_P D vwCl (wX10 T hgm gm gml) H := by rw [hHe]; exact hP
  replace hS : va_S A s.heap H locs := by rw [hHe, hLe]; exact hS
  suffices hgo : W p l e rX10_plainCosts s m args below meth c H locs 0 0 Q (F0 m 0 ls []) by rw [hHe, hLe] at hgo; exact hgo
  clear hHe hLe
  refine lv_aload_n hx hb dX10_plainCosts_0 rfl (lv_at hl 0 rfl) ?_
  refine lv_bipush (v := 11) hx hb dX10_plainCosts_1 (by decide) ?_
  obtain ⟨gm_1, hc3, hf⟩ := zB1_ok hf
  refine zCallVEV [.int 11] ⟨hx, hb, hml, hown, hts⟩ (pX10_ran l D T X hgm H.size gm gml 11 gm_1 hc3) (cwV 1 hts gX10_plainCosts_X10_ran rfl rfl rfl (by decide +kernel) ⟨Nat.le_of_ble_eq_true rfl, Nat.le_of_ble_eq_true rfl⟩) hK hP hD hS hA hX 0 rfl rfl rfl hl.1 rfl (Nat.le_of_ble_eq_true rfl) dX10_plainCosts_3 ⟨Nat.zero_le _, Nat.zero_le _⟩ (fun H locs hP hD hS => ?_)
  refine lv_aload_n hx hb dX10_plainCosts_6 rfl (lv_at hl 0 rfl) ?_
  refine lv_iload_n hx hb dX10_plainCosts_7 rfl (lv_at hl 1 rfl) ?_
  obtain ⟨v2, gm_3, hc8, hf⟩ := zB2_ok hf
  refine zCallVEI [.int a1] ⟨hx, hb, hml, hown, hts⟩ (pX10_partsIt l D T X hgm H.size gm_1 gml a1 v2 gm_3 hc8) (cwV 1 hts gX10_plainCosts_X10_partsIt rfl rfl rfl (by decide +kernel) ⟨Nat.le_of_ble_eq_true rfl, Nat.le_of_ble_eq_true rfl⟩) hK hP hD hS hA hX 0 rfl rfl rfl hl.1 rfl (Nat.le_of_ble_eq_true rfl) dX10_plainCosts_8 ⟨Nat.zero_le _, Nat.zero_le _⟩ (fun H locs hP hD hS => ?_)
  refine lv_iconst (v := 2) hx hb dX10_plainCosts_11 (by decide) ?_
  refine lv_imul hx hb dX10_plainCosts_12 ?_
  obtain ⟨q1, q2⟩ := zI2 hf
  subst q1
  subst q2
  exact zRetI hQ hx hb hr hlocks hA0 hK hP hD hS rfl dX10_plainCosts_13
set_option maxHeartbeats 4000000 in
set_option maxRecDepth 100000 in
theorem pX10_tieCosts (l : Launch) (D : va_G) (T : Nat → ClassId) (X : zFP) (hgm : Nat → Nat) (sz : Nat) (gm : zM) (gml : zL) (a1 : Int32) (r : Int32) (ngm : zM) (hf : fX10_tieCosts gm gml a1 = some (r, ngm)) : Met l yX10_tieCosts wsX10_tieCosts rX10_tieCosts (zPre D T X [.ref (hgm 0), .int a1] (wX10 T hgm gm gml) sz) (zQi D T r (wX10 T hgm ngm gml) (wX10 T hgm gm gml) sz) 0 0 (va_A (wX10 T hgm gm gml) sz) := by
  unfold fX10_tieCosts at hf
  refine zStart [(0, .ref (hgm 0)), (1, .int a1)] (by decide) rfl (Nat.le_of_ble_eq_true rfl) rfl ?_
  intro p e s m args below meth c A Q ls hx hb hr hml hown hlocks hts hsz hA0 hQ hA hK hX hP hD hS hl
  replace hown : s.vm.findClass RX10 = some m.cls := hown
  have hH := hsz
  have hiX10 : ∀ w ∈ u_ws RX10 TX10 54, w ∈ wsX10_tieCosts := fun w h => List.mem_cons_of_mem _ (List.mem_append_right _ (h))
  obtain ⟨H, hHe⟩ : ∃ H : Heap, H = s.heap := ⟨_, rfl⟩
  obtain ⟨locs, hLe⟩ : ∃ L : List Loc, L = [] := ⟨_, rfl⟩
  replace hP : va_P D vwCl (wX10 T hgm gm gml) H := by rw [hHe]; exact hP
  replace hS : va_S A s.heap H locs := by rw [hHe, hLe]; exact hS
  suffices hgo : W p l e rX10_tieCosts s m args below meth c H locs 0 0 Q (F0 m 0 ls []) by rw [hHe, hLe] at hgo; exact hgo
  clear hHe hLe
  refine lv_aload_n hx hb dX10_tieCosts_0 rfl (lv_at hl 0 rfl) ?_
  refine lv_bipush (v := 20) hx hb dX10_tieCosts_1 (by decide) ?_
  obtain ⟨gm_1, hc3, hf⟩ := zB1_ok hf
  refine zCallVEV [.int 20] ⟨hx, hb, hml, hown, hts⟩ (pX10_ran l D T X hgm H.size gm gml 20 gm_1 hc3) (cwV 1 hts gX10_tieCosts_X10_ran rfl rfl rfl (by decide +kernel) ⟨Nat.le_of_ble_eq_true rfl, Nat.le_of_ble_eq_true rfl⟩) hK hP hD hS hA hX 0 rfl rfl rfl hl.1 rfl (Nat.le_of_ble_eq_true rfl) dX10_tieCosts_3 ⟨Nat.zero_le _, Nat.zero_le _⟩ (fun H locs hP hD hS => ?_)
  refine lv_aload_n hx hb dX10_tieCosts_6 rfl (lv_at hl 0 rfl) ?_
  refine lv_iload_n hx hb dX10_tieCosts_7 rfl (lv_at hl 1 rfl) ?_
  obtain ⟨v2, gm_3, hc8, hf⟩ := zB2_ok hf
  refine zCallVEI [.int a1] ⟨hx, hb, hml, hown, hts⟩ (pX10_plainCosts l D T X hgm H.size gm_1 gml a1 v2 gm_3 hc8) (cwV 1 hts gX10_tieCosts_X10_plainCosts rfl rfl rfl (by decide +kernel) ⟨Nat.le_of_ble_eq_true rfl, Nat.le_of_ble_eq_true rfl⟩) hK hP hD hS hA hX 0 rfl rfl rfl hl.1 rfl (Nat.le_of_ble_eq_true rfl) dX10_tieCosts_8 ⟨Nat.zero_le _, Nat.zero_le _⟩ (fun H locs hP hD hS => ?_)
  refine lv_aload_n hx hb dX10_tieCosts_11 rfl (lv_at hl 0 rfl) ?_
  refine zGet (ci := 10) (C := RX10) (F := TX10) (N := 54) (v := .int (gm_3 0 46)) hx hb hts hiX10 hown hK hP 0 46 1 rfl rfl (by decide) rfl rfl rfl dX10_tieCosts_12 ?_
  refine lv_isub hx hb dX10_tieCosts_15 ?_
  obtain ⟨q1, q2⟩ := zI2 hf
  subst q1
  subst q2
  exact zRetI hQ hx hb hr hlocks hA0 hK hP hD hS rfl dX10_tieCosts_16
set_option maxHeartbeats 4000000 in
set_option maxRecDepth 100000 in
theorem pX10_plainShares (l : Launch) (D : va_G) (T : Nat → ClassId) (X : zFP) (hgm : Nat → Nat) (sz : Nat) (gm : zM) (gml : zL) (a1 : Int32) (r : Int32) (ngm : zM) (hf : fX10_plainShares gm gml a1 = some (r, ngm)) : Met l yX10_plainShares wsX10_plainShares rX10_plainShares (zPre D T X [.ref (hgm 0), .int a1] (wX10 T hgm gm gml) sz) (zQi D T r (wX10 T hgm ngm gml) (wX10 T hgm gm gml) sz) 0 0 (va_A (wX10 T hgm gm gml) sz) := by
  unfold fX10_plainShares at hf
  refine zStart [(0, .ref (hgm 0)), (1, .int a1)] (by decide) rfl (Nat.le_of_ble_eq_true rfl) rfl ?_
  intro p e s m args below meth c A Q ls hx hb hr hml hown hlocks hts hsz hA0 hQ hA hK hX hP hD hS hl
  replace hown : s.vm.findClass RX10 = some m.cls := hown
  have hH := hsz
  have hiX10 : ∀ w ∈ u_ws RX10 TX10 54, w ∈ wsX10_plainShares := fun w h => List.mem_cons_of_mem _ (List.mem_append_right _ (h))
  obtain ⟨H, hHe⟩ : ∃ H : Heap, H = s.heap := ⟨_, rfl⟩
  obtain ⟨locs, hLe⟩ : ∃ L : List Loc, L = [] := ⟨_, rfl⟩
  replace hP : va_P D vwCl (wX10 T hgm gm gml) H := by rw [hHe]; exact hP
  replace hS : va_S A s.heap H locs := by rw [hHe, hLe]; exact hS
  suffices hgo : W p l e rX10_plainShares s m args below meth c H locs 0 0 Q (F0 m 0 ls []) by rw [hHe, hLe] at hgo; exact hgo
  clear hHe hLe
  refine lv_aload_n hx hb dX10_plainShares_0 rfl (lv_at hl 0 rfl) ?_
  refine lv_bipush (v := 12) hx hb dX10_plainShares_1 (by decide) ?_
  obtain ⟨gm_1, hc3, hf⟩ := zB1_ok hf
  refine zCallVEV [.int 12] ⟨hx, hb, hml, hown, hts⟩ (pX10_ran l D T X hgm H.size gm gml 12 gm_1 hc3) (cwV 1 hts gX10_plainShares_X10_ran rfl rfl rfl (by decide +kernel) ⟨Nat.le_of_ble_eq_true rfl, Nat.le_of_ble_eq_true rfl⟩) hK hP hD hS hA hX 0 rfl rfl rfl hl.1 rfl (Nat.le_of_ble_eq_true rfl) dX10_plainShares_3 ⟨Nat.zero_le _, Nat.zero_le _⟩ (fun H locs hP hD hS => ?_)
  refine lv_aload_n hx hb dX10_plainShares_6 rfl (lv_at hl 0 rfl) ?_
  refine zGet (ci := 10) (C := RX10) (F := TX10) (N := 54) (v := .int (gm_1 0 46)) hx hb hts hiX10 hown hK hP 0 46 1 rfl rfl (by decide) rfl rfl rfl dX10_plainShares_7 ?_
  refine lv_aload_n hx hb dX10_plainShares_10 rfl (lv_at hl 0 rfl) ?_
  refine zGet (ci := 10) (C := RX10) (F := TX10) (N := 54) (v := .int (gm_1 0 45)) hx hb hts hiX10 hown hK hP 0 45 2 rfl rfl (by decide) rfl rfl rfl dX10_plainShares_11 ?_
  refine lv_icmp_ne (tgt := 24) hx hb dX10_plainShares_14 (by decide) (fun hc => ?_) (fun hc => ?_)
  · replace hf := zIf_f hc hf
    refine lv_iload_n hx hb dX10_plainShares_24 rfl (lv_at hl 1 rfl) ?_
    refine lv_aload_n hx hb dX10_plainShares_25 rfl (lv_at hl 0 rfl) ?_
    refine zGet (ci := 10) (C := RX10) (F := TX10) (N := 54) (v := .int (gm_1 0 46)) hx hb hts hiX10 hown hK hP 0 46 1 rfl rfl (by decide) rfl rfl rfl dX10_plainShares_26 ?_
    refine lv_aload_n hx hb dX10_plainShares_29 rfl (lv_at hl 0 rfl) ?_
    refine zGet (ci := 10) (C := RX10) (F := TX10) (N := 54) (v := .int (gm_1 0 45)) hx hb hts hiX10 hown hK hP 0 45 2 rfl rfl (by decide) rfl rfl rfl dX10_plainShares_30 ?_
    refine lv_isub hx hb dX10_plainShares_33 ?_
    obtain ⟨hg, hf⟩ := zGd_ok hf
    refine lv_idiv hx hb dX10_plainShares_34 (zNz_ok hg) ?_
    obtain ⟨q1, q2⟩ := zI2 hf
    subst q1
    subst q2
    exact zRetI hQ hx hb hr hlocks hA0 hK hP hD hS rfl dX10_plainShares_35
  · replace hf := zIf_t hc hf
    refine lv_aload_n hx hb dX10_plainShares_17 rfl (lv_at hl 0 rfl) ?_
    refine lv_iconst (v := 1) hx hb dX10_plainShares_18 (by decide) ?_
    refine zPut (ci := 10) (C := RX10) (F := TX10) (N := 54) (x := 1) (w := gm_1) hx hb hts hiX10 tyX10 tyX10_ok nmX10 hown hK hP hD hS (fun g => wX10 T hgm g gml) 0 49 3 rfl rfl (by decide) rfl rfl rfl (by decide) (Nat.le_of_ble_eq_true rfl) rfl dX10_plainShares_19 (fun gm_2 egm_2 H locs hP hD hS => ?_)
    replace hP : va_P D vwCl (wX10 T hgm gm_2 gml) H := hP
    replace hD : va_D A (wX10 T hgm gm_2 gml) := hD
    replace hf := zLt_at egm_2 hf
    refine lv_iconst (v := 0) hx hb dX10_plainShares_22 (by decide) ?_
    obtain ⟨q1, q2⟩ := zI2 hf
    subst q1
    subst q2
    exact zRetI hQ hx hb hr hlocks hA0 hK hP hD hS rfl dX10_plainShares_23
set_option maxHeartbeats 4000000 in
set_option maxRecDepth 100000 in
theorem pX10_sharesIt (l : Launch) (D : va_G) (T : Nat → ClassId) (X : zFP) (hgm : Nat → Nat) (sz : Nat) (gm : zM) (gml : zL) (a1 : Int32) (r : Int32) (ngm : zM) (hf : fX10_sharesIt gm gml a1 = some (r, ngm)) : Met l yX10_sharesIt wsX10_sharesIt rX10_sharesIt (zPre D T X [.ref (hgm 0), .int a1] (wX10 T hgm gm gml) sz) (zQi D T r (wX10 T hgm ngm gml) (wX10 T hgm gm gml) sz) 0 0 (va_A (wX10 T hgm gm gml) sz) := by
  unfold fX10_sharesIt at hf
  refine zStart [(0, .ref (hgm 0)), (1, .int a1)] (by decide) rfl (Nat.le_of_ble_eq_true rfl) rfl ?_
  intro p e s m args below meth c A Q ls hx hb hr hml hown hlocks hts hsz hA0 hQ hA hK hX hP hD hS hl
  replace hown : s.vm.findClass RX10 = some m.cls := hown
  have hH := hsz
  have hiX10 : ∀ w ∈ u_ws RX10 TX10 54, w ∈ wsX10_sharesIt := fun w h => List.mem_cons_of_mem _ (List.mem_append_right _ (h))
  obtain ⟨H, hHe⟩ : ∃ H : Heap, H = s.heap := ⟨_, rfl⟩
  obtain ⟨locs, hLe⟩ : ∃ L : List Loc, L = [] := ⟨_, rfl⟩
  replace hP : va_P D vwCl (wX10 T hgm gm gml) H := by rw [hHe]; exact hP
  replace hS : va_S A s.heap H locs := by rw [hHe, hLe]; exact hS
  suffices hgo : W p l e rX10_sharesIt s m args below meth c H locs 0 0 Q (F0 m 0 ls []) by rw [hHe, hLe] at hgo; exact hgo
  clear hHe hLe
  refine lv_aload_n hx hb dX10_sharesIt_0 rfl (lv_at hl 0 rfl) ?_
  refine zGet (ci := 10) (C := RX10) (F := TX10) (N := 54) (v := .int (gm 0 44)) hx hb hts hiX10 hown hK hP 0 44 1 rfl rfl (by decide) rfl rfl rfl dX10_sharesIt_1 ?_
  refine lv_iconst (v := 3) hx hb dX10_sharesIt_4 (by decide) ?_
  have hJ16 : ∀ (H : Heap) (locs : List Loc) (ls : Array Slot), fX10_sharesIt_J16 a1 gm gml = some (r, ngm) → va_P D vwCl (wX10 T hgm gm gml) H → va_D A (wX10 T hgm gm gml) → va_S A s.heap H locs → lv_has ls 3 [(0, .ref (hgm 0)), (1, .int a1)] → W p l e rX10_sharesIt s m args below meth c H locs 0 0 Q (F0 m 16 ls []) := by
    intro H locs ls hf hP hD hS hl
    unfold fX10_sharesIt_J16 at hf
    refine lv_aload_n hx hb dX10_sharesIt_16 rfl (lv_at hl 0 rfl) ?_
    refine lv_bipush (v := 40) hx hb dX10_sharesIt_17 (by decide) ?_
    obtain ⟨gm_1, hc19, hf⟩ := zB1_ok hf
    refine zCallVEV [.int 40] ⟨hx, hb, hml, hown, hts⟩ (pX10_ran l D T X hgm H.size gm gml 40 gm_1 hc19) (cwV 1 hts gX10_sharesIt_X10_ran rfl rfl rfl (by decide +kernel) ⟨Nat.le_of_ble_eq_true rfl, Nat.le_of_ble_eq_true rfl⟩) hK hP hD hS hA hX 0 rfl rfl rfl hl.1 rfl (Nat.le_of_ble_eq_true rfl) dX10_sharesIt_19 ⟨Nat.zero_le _, Nat.zero_le _⟩ (fun H locs hP hD hS => ?_)
    refine lv_aload_n hx hb dX10_sharesIt_22 rfl (lv_at hl 0 rfl) ?_
    refine lv_iload_n hx hb dX10_sharesIt_23 rfl (lv_at hl 1 rfl) ?_
    refine lv_iconst (v := 2) hx hb dX10_sharesIt_24 (by decide) ?_
    refine lv_iadd hx hb dX10_sharesIt_25 ?_
    obtain ⟨v2, gm_3, hc26, hf⟩ := zB2_ok hf
    refine zCallVEI [.int (a1 + 2)] ⟨hx, hb, hml, hown, hts⟩ (pX10_plainShares l D T X hgm H.size gm_1 gml (a1 + 2) v2 gm_3 hc26) (cwV 1 hts gX10_sharesIt_X10_plainShares rfl rfl rfl (by decide +kernel) ⟨Nat.le_of_ble_eq_true rfl, Nat.le_of_ble_eq_true rfl⟩) hK hP hD hS hA hX 0 rfl rfl rfl hl.1 rfl (Nat.le_of_ble_eq_true rfl) dX10_sharesIt_26 ⟨Nat.zero_le _, Nat.zero_le _⟩ (fun H locs hP hD hS => ?_)
    refine lv_iconst (v := 1) hx hb dX10_sharesIt_29 (by decide) ?_
    refine lv_ixor hx hb dX10_sharesIt_30 ?_
    obtain ⟨q1, q2⟩ := zI2 hf
    subst q1
    subst q2
    exact zRetI hQ hx hb hr hlocks hA0 hK hP hD hS rfl dX10_sharesIt_31
  refine lv_icmp_eq (tgt := 16) hx hb dX10_sharesIt_5 (by decide) (fun hc => ?_) (fun hc => ?_)
  · replace hf := zIf_t hc hf
    exact hJ16 H locs ls hf hP hD hS hl
  · replace hf := zIf_f hc hf
    refine lv_aload_n hx hb dX10_sharesIt_8 rfl (lv_at hl 0 rfl) ?_
    refine zGet (ci := 10) (C := RX10) (F := TX10) (N := 54) (v := .int (gm 0 44)) hx hb hts hiX10 hown hK hP 0 44 1 rfl rfl (by decide) rfl rfl rfl dX10_sharesIt_9 ?_
    refine lv_iconst (v := 5) hx hb dX10_sharesIt_12 (by decide) ?_
    refine lv_icmp_ne (tgt := 32) hx hb dX10_sharesIt_13 (by decide) (fun hc => ?_) (fun hc => ?_)
    · replace hf := zIf_f hc hf
      refine lv_aload_n hx hb dX10_sharesIt_32 rfl (lv_at hl 0 rfl) ?_
      refine zGet (ci := 10) (C := RX10) (F := TX10) (N := 54) (v := .int (gm 0 44)) hx hb hts hiX10 hown hK hP 0 44 1 rfl rfl (by decide) rfl rfl rfl dX10_sharesIt_33 ?_
      refine lv_bipush (v := 6) hx hb dX10_sharesIt_36 (by decide) ?_
      refine lv_icmp_ne (tgt := 75) hx hb dX10_sharesIt_38 (by decide) (fun hc => ?_) (fun hc => ?_)
      · replace hf := zIf_f hc hf
        refine lv_aload_n hx hb dX10_sharesIt_75 rfl (lv_at hl 0 rfl) ?_
        refine lv_iload_n hx hb dX10_sharesIt_76 rfl (lv_at hl 1 rfl) ?_
        obtain ⟨v4, gm_5, hc77, hf⟩ := zB2_ok hf
        refine zCallVEI [.int a1] ⟨hx, hb, hml, hown, hts⟩ (pX10_plainShares l D T X hgm H.size gm gml a1 v4 gm_5 hc77) (cwV 1 hts gX10_sharesIt_X10_plainShares rfl rfl rfl (by decide +kernel) ⟨Nat.le_of_ble_eq_true rfl, Nat.le_of_ble_eq_true rfl⟩) hK hP hD hS hA hX 0 rfl rfl rfl hl.1 rfl (Nat.le_of_ble_eq_true rfl) dX10_sharesIt_77 ⟨Nat.zero_le _, Nat.zero_le _⟩ (fun H locs hP hD hS => ?_)
        obtain ⟨q1, q2⟩ := zI2 hf
        subst q1
        subst q2
        exact zRetI hQ hx hb hr hlocks hA0 hK hP hD hS rfl dX10_sharesIt_80
      · replace hf := zIf_t hc hf
        refine lv_aload_n hx hb dX10_sharesIt_41 rfl (lv_at hl 0 rfl) ?_
        refine lv_bipush (v := 71) hx hb dX10_sharesIt_42 (by decide) ?_
        obtain ⟨gm_6, hc44, hf⟩ := zB1_ok hf
        refine zCallVEV [.int 71] ⟨hx, hb, hml, hown, hts⟩ (pX10_ran l D T X hgm H.size gm gml 71 gm_6 hc44) (cwV 1 hts gX10_sharesIt_X10_ran rfl rfl rfl (by decide +kernel) ⟨Nat.le_of_ble_eq_true rfl, Nat.le_of_ble_eq_true rfl⟩) hK hP hD hS hA hX 0 rfl rfl rfl hl.1 rfl (Nat.le_of_ble_eq_true rfl) dX10_sharesIt_44 ⟨Nat.zero_le _, Nat.zero_le _⟩ (fun H locs hP hD hS => ?_)
        refine lv_aload_n hx hb dX10_sharesIt_47 rfl (lv_at hl 0 rfl) ?_
        refine lv_iload_n hx hb dX10_sharesIt_48 rfl (lv_at hl 1 rfl) ?_
        obtain ⟨v7, gm_8, hc49, hf⟩ := zB2_ok hf
        refine zCallVEI [.int a1] ⟨hx, hb, hml, hown, hts⟩ (pX10_plainShares l D T X hgm H.size gm_6 gml a1 v7 gm_8 hc49) (cwV 1 hts gX10_sharesIt_X10_plainShares rfl rfl rfl (by decide +kernel) ⟨Nat.le_of_ble_eq_true rfl, Nat.le_of_ble_eq_true rfl⟩) hK hP hD hS hA hX 0 rfl rfl rfl hl.1 rfl (Nat.le_of_ble_eq_true rfl) dX10_sharesIt_49 ⟨Nat.zero_le _, Nat.zero_le _⟩ (fun H locs hP hD hS => ?_)
        refine lv_istore_n (lv' := [(2, .int v7), (0, .ref (hgm 0)), (1, .int a1)]) hx hb dX10_sharesIt_52 rfl hl (by decide) rfl (fun ls hl => ?_)
        refine lv_aload_n hx hb dX10_sharesIt_53 rfl (lv_at hl 1 rfl) ?_
        refine zGet (ci := 10) (C := RX10) (F := TX10) (N := 54) (v := .int (gm_8 0 49)) hx hb hts hiX10 hown hK hP 0 49 2 rfl rfl (by decide) rfl rfl rfl dX10_sharesIt_54 ?_
        refine lv_if_eq (tgt := 64) hx hb dX10_sharesIt_57 (by decide) (fun hc => ?_) (fun hc => ?_)
        · replace hf := zIf_t hc hf
          refine lv_iload_n hx hb dX10_sharesIt_64 rfl (lv_at hl 0 rfl) ?_
          refine lv_aload_n hx hb dX10_sharesIt_65 rfl (lv_at hl 1 rfl) ?_
          refine lv_aload_n hx hb dX10_sharesIt_66 rfl (lv_at hl 1 rfl) ?_
          refine zGet (ci := 10) (C := RX10) (F := TX10) (N := 54) (v := .int (gm_8 0 46)) hx hb hts hiX10 hown hK hP 0 46 3 rfl rfl (by decide) rfl rfl rfl dX10_sharesIt_67 ?_
          obtain ⟨v9, gm_10, hc70, hf⟩ := zB2_ok hf
          refine zCallVEI [.int (gm_8 0 46)] ⟨hx, hb, hml, hown, hts⟩ (pX10_partsIt l D T X hgm H.size gm_8 gml (gm_8 0 46) v9 gm_10 hc70) (cwV 1 hts gX10_sharesIt_X10_partsIt rfl rfl rfl (by decide +kernel) ⟨Nat.le_of_ble_eq_true rfl, Nat.le_of_ble_eq_true rfl⟩) hK hP hD hS hA hX 0 rfl rfl rfl hl.1 rfl (Nat.le_of_ble_eq_true rfl) dX10_sharesIt_70 ⟨Nat.zero_le _, Nat.zero_le _⟩ (fun H locs hP hD hS => ?_)
          refine lv_iadd hx hb dX10_sharesIt_73 ?_
          obtain ⟨q1, q2⟩ := zI2 hf
          subst q1
          subst q2
          exact zRetI hQ hx hb hr hlocks hA0 hK hP hD hS rfl dX10_sharesIt_74
        · replace hf := zIf_f hc hf
          refine lv_iconst (v := 0) hx hb dX10_sharesIt_60 (by decide) ?_
          refine lv_goto (tgt := 74) hx hb dX10_sharesIt_61 (by decide) ?_
          obtain ⟨q1, q2⟩ := zI2 hf
          subst q1
          subst q2
          exact zRetI hQ hx hb hr hlocks hA0 hK hP hD hS rfl dX10_sharesIt_74
    · replace hf := zIf_t hc hf
      exact hJ16 H locs ls hf hP hD hS hl
set_option maxHeartbeats 4000000 in
set_option maxRecDepth 100000 in
theorem pX10_costsIt (l : Launch) (D : va_G) (T : Nat → ClassId) (X : zFP) (hgm : Nat → Nat) (sz : Nat) (gm : zM) (gml : zL) (a1 : Int32) (r : Int32) (ngm : zM) (hf : fX10_costsIt gm gml a1 = some (r, ngm)) : Met l yX10_costsIt wsX10_costsIt rX10_costsIt (zPre D T X [.ref (hgm 0), .int a1] (wX10 T hgm gm gml) sz) (zQi D T r (wX10 T hgm ngm gml) (wX10 T hgm gm gml) sz) 0 0 (va_A (wX10 T hgm gm gml) sz) := by
  unfold fX10_costsIt at hf
  refine zStart [(0, .ref (hgm 0)), (1, .int a1)] (by decide) rfl (Nat.le_of_ble_eq_true rfl) rfl ?_
  intro p e s m args below meth c A Q ls hx hb hr hml hown hlocks hts hsz hA0 hQ hA hK hX hP hD hS hl
  replace hown : s.vm.findClass RX10 = some m.cls := hown
  have hH := hsz
  have hiX10 : ∀ w ∈ u_ws RX10 TX10 54, w ∈ wsX10_costsIt := fun w h => List.mem_cons_of_mem _ (List.mem_append_right _ (h))
  obtain ⟨H, hHe⟩ : ∃ H : Heap, H = s.heap := ⟨_, rfl⟩
  obtain ⟨locs, hLe⟩ : ∃ L : List Loc, L = [] := ⟨_, rfl⟩
  replace hP : va_P D vwCl (wX10 T hgm gm gml) H := by rw [hHe]; exact hP
  replace hS : va_S A s.heap H locs := by rw [hHe, hLe]; exact hS
  suffices hgo : W p l e rX10_costsIt s m args below meth c H locs 0 0 Q (F0 m 0 ls []) by rw [hHe, hLe] at hgo; exact hgo
  clear hHe hLe
  refine lv_iconst (v := 0) hx hb dX10_costsIt_0 (by decide) ?_
  refine lv_istore_n (lv' := [(2, .int 0), (0, .ref (hgm 0)), (1, .int a1)]) hx hb dX10_costsIt_1 rfl hl (by decide) rfl (fun ls hl => ?_)
  refine lv_aload_n hx hb dX10_costsIt_2 rfl (lv_at hl 1 rfl) ?_
  refine zGet (ci := 10) (C := RX10) (F := TX10) (N := 54) (v := .int (gm 0 44)) hx hb hts hiX10 hown hK hP 0 44 1 rfl rfl (by decide) rfl rfl rfl dX10_costsIt_3 ?_
  refine lv_topi (fun v1 ev1 => ?_)
  replace hf := zLt_at ev1 hf
  refine zSw (x := v1) (k := 1) (fun hc => ?_) (fun hk1 => ?_)
  · replace hf := zIf_t hc hf
    refine lv_tableIn (off := 34) (tgt := 40) hx hb dX10_costsIt_6 (by rw [hc]; decide) (by rw [hc]; decide) (by rw [hc]; decide) (by decide) ?_
    refine lv_aload_n hx hb dX10_costsIt_40 rfl (lv_at hl 1 rfl) ?_
    refine lv_iload_n hx hb dX10_costsIt_41 rfl (lv_at hl 2 rfl) ?_
    obtain ⟨v2, gm_3, hc42, hf⟩ := zB2_ok hf
    refine zCallVEI [.int a1] ⟨hx, hb, hml, hown, hts⟩ (pX10_tieCosts l D T X hgm H.size gm gml a1 v2 gm_3 hc42) (cwV 1 hts gX10_costsIt_X10_tieCosts rfl rfl rfl (by decide +kernel) ⟨Nat.le_of_ble_eq_true rfl, Nat.le_of_ble_eq_true rfl⟩) hK hP hD hS hA hX 0 rfl rfl rfl hl.1 rfl (Nat.le_of_ble_eq_true rfl) dX10_costsIt_42 ⟨Nat.zero_le _, Nat.zero_le _⟩ (fun H locs hP hD hS => ?_)
    obtain ⟨q1, q2⟩ := zI2 hf
    subst q1
    subst q2
    exact zRetI hQ hx hb hr hlocks hA0 hK hP hD hS rfl dX10_costsIt_45
  replace hf := zIf_f hk1 hf
  refine zSw (x := v1) (k := 4) (fun hc => ?_) (fun hk4 => ?_)
  · replace hf := zIf_t hc hf
    refine lv_tableIn (off := 40) (tgt := 46) hx hb dX10_costsIt_6 (by rw [hc]; decide) (by rw [hc]; decide) (by rw [hc]; decide) (by decide) ?_
    refine lv_aload_n hx hb dX10_costsIt_46 rfl (lv_at hl 1 rfl) ?_
    refine lv_bipush (v := 51) hx hb dX10_costsIt_47 (by decide) ?_
    obtain ⟨gm_4, hc49, hf⟩ := zB1_ok hf
    refine zCallVEV [.int 51] ⟨hx, hb, hml, hown, hts⟩ (pX10_ran l D T X hgm H.size gm gml 51 gm_4 hc49) (cwV 1 hts gX10_costsIt_X10_ran rfl rfl rfl (by decide +kernel) ⟨Nat.le_of_ble_eq_true rfl, Nat.le_of_ble_eq_true rfl⟩) hK hP hD hS hA hX 0 rfl rfl rfl hl.1 rfl (Nat.le_of_ble_eq_true rfl) dX10_costsIt_49 ⟨Nat.zero_le _, Nat.zero_le _⟩ (fun H locs hP hD hS => ?_)
    refine lv_aload_n hx hb dX10_costsIt_52 rfl (lv_at hl 1 rfl) ?_
    refine lv_iload_n hx hb dX10_costsIt_53 rfl (lv_at hl 2 rfl) ?_
    obtain ⟨v5, gm_6, hc54, hf⟩ := zB2_ok hf
    refine zCallVEI [.int a1] ⟨hx, hb, hml, hown, hts⟩ (pX10_tieCosts l D T X hgm H.size gm_4 gml a1 v5 gm_6 hc54) (cwV 1 hts gX10_costsIt_X10_tieCosts rfl rfl rfl (by decide +kernel) ⟨Nat.le_of_ble_eq_true rfl, Nat.le_of_ble_eq_true rfl⟩) hK hP hD hS hA hX 0 rfl rfl rfl hl.1 rfl (Nat.le_of_ble_eq_true rfl) dX10_costsIt_54 ⟨Nat.zero_le _, Nat.zero_le _⟩ (fun H locs hP hD hS => ?_)
    refine lv_istore_n (lv' := [(2, .int v5), (0, .ref (hgm 0)), (1, .int a1)]) hx hb dX10_costsIt_57 rfl hl (by decide) rfl (fun ls hl => ?_)
    refine lv_iload_n hx hb dX10_costsIt_58 rfl (lv_at hl 0 rfl) ?_
    refine lv_aload_n hx hb dX10_costsIt_59 rfl (lv_at hl 1 rfl) ?_
    refine lv_aload_n hx hb dX10_costsIt_60 rfl (lv_at hl 1 rfl) ?_
    refine zGet (ci := 10) (C := RX10) (F := TX10) (N := 54) (v := .int (gm_6 0 45)) hx hb hts hiX10 hown hK hP 0 45 2 rfl rfl (by decide) rfl rfl rfl dX10_costsIt_61 ?_
    obtain ⟨v7, gm_8, hc64, hf⟩ := zB2_ok hf
    refine zCallVEI [.int (gm_6 0 45)] ⟨hx, hb, hml, hown, hts⟩ (pX10_partsIt l D T X hgm H.size gm_6 gml (gm_6 0 45) v7 gm_8 hc64) (cwV 1 hts gX10_costsIt_X10_partsIt rfl rfl rfl (by decide +kernel) ⟨Nat.le_of_ble_eq_true rfl, Nat.le_of_ble_eq_true rfl⟩) hK hP hD hS hA hX 0 rfl rfl rfl hl.1 rfl (Nat.le_of_ble_eq_true rfl) dX10_costsIt_64 ⟨Nat.zero_le _, Nat.zero_le _⟩ (fun H locs hP hD hS => ?_)
    refine lv_iadd hx hb dX10_costsIt_67 ?_
    obtain ⟨q1, q2⟩ := zI2 hf
    subst q1
    subst q2
    exact zRetI hQ hx hb hr hlocks hA0 hK hP hD hS rfl dX10_costsIt_68
  replace hf := zIf_f hk4 hf
  refine zSw (x := v1) (k := 5) (fun hc => ?_) (fun hk5 => ?_)
  · replace hf := zIf_t hc hf
    refine lv_tableIn (off := 63) (tgt := 69) hx hb dX10_costsIt_6 (by rw [hc]; decide) (by rw [hc]; decide) (by rw [hc]; decide) (by decide) ?_
    refine lv_aload_n hx hb dX10_costsIt_69 rfl (lv_at hl 1 rfl) ?_
    refine lv_bipush (v := 60) hx hb dX10_costsIt_70 (by decide) ?_
    obtain ⟨gm_9, hc72, hf⟩ := zB1_ok hf
    refine zCallVEV [.int 60] ⟨hx, hb, hml, hown, hts⟩ (pX10_ran l D T X hgm H.size gm gml 60 gm_9 hc72) (cwV 1 hts gX10_costsIt_X10_ran rfl rfl rfl (by decide +kernel) ⟨Nat.le_of_ble_eq_true rfl, Nat.le_of_ble_eq_true rfl⟩) hK hP hD hS hA hX 0 rfl rfl rfl hl.1 rfl (Nat.le_of_ble_eq_true rfl) dX10_costsIt_72 ⟨Nat.zero_le _, Nat.zero_le _⟩ (fun H locs hP hD hS => ?_)
    refine lv_aload_n hx hb dX10_costsIt_75 rfl (lv_at hl 1 rfl) ?_
    refine lv_iload_n hx hb dX10_costsIt_76 rfl (lv_at hl 2 rfl) ?_
    obtain ⟨v10, gm_11, hc77, hf⟩ := zB2_ok hf
    refine zCallVEI [.int a1] ⟨hx, hb, hml, hown, hts⟩ (pX10_plainCosts l D T X hgm H.size gm_9 gml a1 v10 gm_11 hc77) (cwV 1 hts gX10_costsIt_X10_plainCosts rfl rfl rfl (by decide +kernel) ⟨Nat.le_of_ble_eq_true rfl, Nat.le_of_ble_eq_true rfl⟩) hK hP hD hS hA hX 0 rfl rfl rfl hl.1 rfl (Nat.le_of_ble_eq_true rfl) dX10_costsIt_77 ⟨Nat.zero_le _, Nat.zero_le _⟩ (fun H locs hP hD hS => ?_)
    refine lv_istore_n (lv' := [(2, .int v10), (0, .ref (hgm 0)), (1, .int a1)]) hx hb dX10_costsIt_80 rfl hl (by decide) rfl (fun ls hl => ?_)
    refine lv_iload_n hx hb dX10_costsIt_81 rfl (lv_at hl 0 rfl) ?_
    refine lv_aload_n hx hb dX10_costsIt_82 rfl (lv_at hl 1 rfl) ?_
    refine lv_aload_n hx hb dX10_costsIt_83 rfl (lv_at hl 1 rfl) ?_
    refine zGet (ci := 10) (C := RX10) (F := TX10) (N := 54) (v := .int (gm_11 0 46)) hx hb hts hiX10 hown hK hP 0 46 3 rfl rfl (by decide) rfl rfl rfl dX10_costsIt_84 ?_
    obtain ⟨v12, gm_13, hc87, hf⟩ := zB2_ok hf
    refine zCallVEI [.int (gm_11 0 46)] ⟨hx, hb, hml, hown, hts⟩ (pX10_sharesIt l D T X hgm H.size gm_11 gml (gm_11 0 46) v12 gm_13 hc87) (cwV 1 hts gX10_costsIt_X10_sharesIt rfl rfl rfl (by decide +kernel) ⟨Nat.le_of_ble_eq_true rfl, Nat.le_of_ble_eq_true rfl⟩) hK hP hD hS hA hX 0 rfl rfl rfl hl.1 rfl (Nat.le_of_ble_eq_true rfl) dX10_costsIt_87 ⟨Nat.zero_le _, Nat.zero_le _⟩ (fun H locs hP hD hS => ?_)
    refine lv_iadd hx hb dX10_costsIt_90 ?_
    obtain ⟨q1, q2⟩ := zI2 hf
    subst q1
    subst q2
    exact zRetI hQ hx hb hr hlocks hA0 hK hP hD hS rfl dX10_costsIt_91
  replace hf := zIf_f hk5 hf
  by_cases hd2 : v1 = 2
  · refine lv_tableIn (off := 86) (tgt := 92) hx hb dX10_costsIt_6 (by rw [hd2]; decide) (by rw [hd2]; decide) (by rw [hd2]; decide) (by decide) ?_
    refine lv_aload_n hx hb dX10_costsIt_92 rfl (lv_at hl 1 rfl) ?_
    refine lv_iload_n hx hb dX10_costsIt_93 rfl (lv_at hl 2 rfl) ?_
    obtain ⟨v14, gm_15, hc94, hf⟩ := zB2_ok hf
    refine zCallVEI [.int a1] ⟨hx, hb, hml, hown, hts⟩ (pX10_plainCosts l D T X hgm H.size gm gml a1 v14 gm_15 hc94) (cwV 1 hts gX10_costsIt_X10_plainCosts rfl rfl rfl (by decide +kernel) ⟨Nat.le_of_ble_eq_true rfl, Nat.le_of_ble_eq_true rfl⟩) hK hP hD hS hA hX 0 rfl rfl rfl hl.1 rfl (Nat.le_of_ble_eq_true rfl) dX10_costsIt_94 ⟨Nat.zero_le _, Nat.zero_le _⟩ (fun H locs hP hD hS => ?_)
    obtain ⟨q1, q2⟩ := zI2 hf
    subst q1
    subst q2
    exact zRetI hQ hx hb hr hlocks hA0 hK hP hD hS rfl dX10_costsIt_97
  by_cases hd3 : v1 = 3
  · refine lv_tableIn (off := 86) (tgt := 92) hx hb dX10_costsIt_6 (by rw [hd3]; decide) (by rw [hd3]; decide) (by rw [hd3]; decide) (by decide) ?_
    refine lv_aload_n hx hb dX10_costsIt_92 rfl (lv_at hl 1 rfl) ?_
    refine lv_iload_n hx hb dX10_costsIt_93 rfl (lv_at hl 2 rfl) ?_
    obtain ⟨v14, gm_15, hc94, hf⟩ := zB2_ok hf
    refine zCallVEI [.int a1] ⟨hx, hb, hml, hown, hts⟩ (pX10_plainCosts l D T X hgm H.size gm gml a1 v14 gm_15 hc94) (cwV 1 hts gX10_costsIt_X10_plainCosts rfl rfl rfl (by decide +kernel) ⟨Nat.le_of_ble_eq_true rfl, Nat.le_of_ble_eq_true rfl⟩) hK hP hD hS hA hX 0 rfl rfl rfl hl.1 rfl (Nat.le_of_ble_eq_true rfl) dX10_costsIt_94 ⟨Nat.zero_le _, Nat.zero_le _⟩ (fun H locs hP hD hS => ?_)
    obtain ⟨q1, q2⟩ := zI2 hf
    subst q1
    subst q2
    exact zRetI hQ hx hb hr hlocks hA0 hK hP hD hS rfl dX10_costsIt_97
  refine lv_tableOut (tgt := 92) hx hb dX10_costsIt_6 (by have := zNe hk1 (z := 1) (by decide); have := zNe hk4 (z := 4) (by decide); have := zNe hk5 (z := 5) (by decide); have := zNe hd2 (z := 2) (by decide); have := zNe hd3 (z := 3) (by decide); omega) (by decide) ?_
  refine lv_aload_n hx hb dX10_costsIt_92 rfl (lv_at hl 1 rfl) ?_
  refine lv_iload_n hx hb dX10_costsIt_93 rfl (lv_at hl 2 rfl) ?_
  obtain ⟨v14, gm_15, hc94, hf⟩ := zB2_ok hf
  refine zCallVEI [.int a1] ⟨hx, hb, hml, hown, hts⟩ (pX10_plainCosts l D T X hgm H.size gm gml a1 v14 gm_15 hc94) (cwV 1 hts gX10_costsIt_X10_plainCosts rfl rfl rfl (by decide +kernel) ⟨Nat.le_of_ble_eq_true rfl, Nat.le_of_ble_eq_true rfl⟩) hK hP hD hS hA hX 0 rfl rfl rfl hl.1 rfl (Nat.le_of_ble_eq_true rfl) dX10_costsIt_94 ⟨Nat.zero_le _, Nat.zero_le _⟩ (fun H locs hP hD hS => ?_)
  obtain ⟨q1, q2⟩ := zI2 hf
  subst q1
  subst q2
  exact zRetI hQ hx hb hr hlocks hA0 hK hP hD hS rfl dX10_costsIt_97
set_option maxHeartbeats 4000000 in
set_option maxRecDepth 100000 in
theorem pX10_plainTells (l : Launch) (D : va_G) (T : Nat → ClassId) (X : zFP) (hgm : Nat → Nat) (sz : Nat) (gm : zM) (gml : zL) (a1 : Int32) (r : Int32) (ngm : zM) (hf : fX10_plainTells gm gml a1 = some (r, ngm)) : Met l yX10_plainTells wsX10_plainTells rX10_plainTells (zPre D T X [.ref (hgm 0), .int a1] (wX10 T hgm gm gml) sz) (zQi D T r (wX10 T hgm ngm gml) (wX10 T hgm gm gml) sz) 0 0 (va_A (wX10 T hgm gm gml) sz) := by
  unfold fX10_plainTells at hf
  refine zStart [(0, .ref (hgm 0)), (1, .int a1)] (by decide) rfl (Nat.le_of_ble_eq_true rfl) rfl ?_
  intro p e s m args below meth c A Q ls hx hb hr hml hown hlocks hts hsz hA0 hQ hA hK hX hP hD hS hl
  replace hown : s.vm.findClass RX10 = some m.cls := hown
  have hH := hsz
  have hiX10 : ∀ w ∈ u_ws RX10 TX10 54, w ∈ wsX10_plainTells := fun w h => List.mem_cons_of_mem _ (List.mem_append_right _ (h))
  obtain ⟨H, hHe⟩ : ∃ H : Heap, H = s.heap := ⟨_, rfl⟩
  obtain ⟨locs, hLe⟩ : ∃ L : List Loc, L = [] := ⟨_, rfl⟩
  replace hP : va_P D vwCl (wX10 T hgm gm gml) H := by rw [hHe]; exact hP
  replace hS : va_S A s.heap H locs := by rw [hHe, hLe]; exact hS
  suffices hgo : W p l e rX10_plainTells s m args below meth c H locs 0 0 Q (F0 m 0 ls []) by rw [hHe, hLe] at hgo; exact hgo
  clear hHe hLe
  refine lv_aload_n hx hb dX10_plainTells_0 rfl (lv_at hl 0 rfl) ?_
  refine lv_bipush (v := 13) hx hb dX10_plainTells_1 (by decide) ?_
  obtain ⟨gm_1, hc3, hf⟩ := zB1_ok hf
  refine zCallVEV [.int 13] ⟨hx, hb, hml, hown, hts⟩ (pX10_ran l D T X hgm H.size gm gml 13 gm_1 hc3) (cwV 1 hts gX10_plainTells_X10_ran rfl rfl rfl (by decide +kernel) ⟨Nat.le_of_ble_eq_true rfl, Nat.le_of_ble_eq_true rfl⟩) hK hP hD hS hA hX 0 rfl rfl rfl hl.1 rfl (Nat.le_of_ble_eq_true rfl) dX10_plainTells_3 ⟨Nat.zero_le _, Nat.zero_le _⟩ (fun H locs hP hD hS => ?_)
  refine lv_aload_n hx hb dX10_plainTells_6 rfl (lv_at hl 0 rfl) ?_
  refine lv_iload_n hx hb dX10_plainTells_7 rfl (lv_at hl 1 rfl) ?_
  obtain ⟨v2, gm_3, hc8, hf⟩ := zB2_ok hf
  refine zCallVEI [.int a1] ⟨hx, hb, hml, hown, hts⟩ (pX10_costsIt l D T X hgm H.size gm_1 gml a1 v2 gm_3 hc8) (cwV 1 hts gX10_plainTells_X10_costsIt rfl rfl rfl (by decide +kernel) ⟨Nat.le_of_ble_eq_true rfl, Nat.le_of_ble_eq_true rfl⟩) hK hP hD hS hA hX 0 rfl rfl rfl hl.1 rfl (Nat.le_of_ble_eq_true rfl) dX10_plainTells_8 ⟨Nat.zero_le _, Nat.zero_le _⟩ (fun H locs hP hD hS => ?_)
  refine lv_aload_n hx hb dX10_plainTells_11 rfl (lv_at hl 0 rfl) ?_
  refine zGet (ci := 10) (C := RX10) (F := TX10) (N := 54) (v := .int (gm_3 0 46)) hx hb hts hiX10 hown hK hP 0 46 1 rfl rfl (by decide) rfl rfl rfl dX10_plainTells_12 ?_
  refine lv_ixor hx hb dX10_plainTells_15 ?_
  obtain ⟨q1, q2⟩ := zI2 hf
  subst q1
  subst q2
  exact zRetI hQ hx hb hr hlocks hA0 hK hP hD hS rfl dX10_plainTells_16
set_option maxHeartbeats 4000000 in
set_option maxRecDepth 100000 in
theorem pX10_tableTells (l : Launch) (D : va_G) (T : Nat → ClassId) (X : zFP) (hgm : Nat → Nat) (sz : Nat) (gm : zM) (gml : zL) (a1 : Int32) (r : Int32) (ngm : zM) (hf : fX10_tableTells gm gml a1 = some (r, ngm)) : Met l yX10_tableTells wsX10_tableTells rX10_tableTells (zPre D T X [.ref (hgm 0), .int a1] (wX10 T hgm gm gml) sz) (zQi D T r (wX10 T hgm ngm gml) (wX10 T hgm gm gml) sz) 0 0 (va_A (wX10 T hgm gm gml) sz) := by
  unfold fX10_tableTells at hf
  refine zStart [(0, .ref (hgm 0)), (1, .int a1)] (by decide) rfl (Nat.le_of_ble_eq_true rfl) rfl ?_
  intro p e s m args below meth c A Q ls hx hb hr hml hown hlocks hts hsz hA0 hQ hA hK hX hP hD hS hl
  replace hown : s.vm.findClass RX10 = some m.cls := hown
  have hH := hsz
  have hiX10 : ∀ w ∈ u_ws RX10 TX10 54, w ∈ wsX10_tableTells := fun w h => List.mem_cons_of_mem _ (List.mem_append_right _ (h))
  obtain ⟨H, hHe⟩ : ∃ H : Heap, H = s.heap := ⟨_, rfl⟩
  obtain ⟨locs, hLe⟩ : ∃ L : List Loc, L = [] := ⟨_, rfl⟩
  replace hP : va_P D vwCl (wX10 T hgm gm gml) H := by rw [hHe]; exact hP
  replace hS : va_S A s.heap H locs := by rw [hHe, hLe]; exact hS
  suffices hgo : W p l e rX10_tableTells s m args below meth c H locs 0 0 Q (F0 m 0 ls []) by rw [hHe, hLe] at hgo; exact hgo
  clear hHe hLe
  refine lv_aload_n hx hb dX10_tableTells_0 rfl (lv_at hl 0 rfl) ?_
  refine lv_bipush (v := 31) hx hb dX10_tableTells_1 (by decide) ?_
  obtain ⟨gm_1, hc3, hf⟩ := zB1_ok hf
  refine zCallVEV [.int 31] ⟨hx, hb, hml, hown, hts⟩ (pX10_ran l D T X hgm H.size gm gml 31 gm_1 hc3) (cwV 1 hts gX10_tableTells_X10_ran rfl rfl rfl (by decide +kernel) ⟨Nat.le_of_ble_eq_true rfl, Nat.le_of_ble_eq_true rfl⟩) hK hP hD hS hA hX 0 rfl rfl rfl hl.1 rfl (Nat.le_of_ble_eq_true rfl) dX10_tableTells_3 ⟨Nat.zero_le _, Nat.zero_le _⟩ (fun H locs hP hD hS => ?_)
  refine lv_aload_n hx hb dX10_tableTells_6 rfl (lv_at hl 0 rfl) ?_
  refine lv_iload_n hx hb dX10_tableTells_7 rfl (lv_at hl 1 rfl) ?_
  obtain ⟨v2, gm_3, hc8, hf⟩ := zB2_ok hf
  refine zCallVEI [.int a1] ⟨hx, hb, hml, hown, hts⟩ (pX10_plainTells l D T X hgm H.size gm_1 gml a1 v2 gm_3 hc8) (cwV 1 hts gX10_tableTells_X10_plainTells rfl rfl rfl (by decide +kernel) ⟨Nat.le_of_ble_eq_true rfl, Nat.le_of_ble_eq_true rfl⟩) hK hP hD hS hA hX 0 rfl rfl rfl hl.1 rfl (Nat.le_of_ble_eq_true rfl) dX10_tableTells_8 ⟨Nat.zero_le _, Nat.zero_le _⟩ (fun H locs hP hD hS => ?_)
  refine lv_istore_n (lv' := [(2, .int v2), (0, .ref (hgm 0)), (1, .int a1)]) hx hb dX10_tableTells_11 rfl hl (by decide) rfl (fun ls hl => ?_)
  refine lv_aload_n hx hb dX10_tableTells_12 rfl (lv_at hl 1 rfl) ?_
  refine zGet (ci := 10) (C := RX10) (F := TX10) (N := 54) (v := .int (gm_3 0 49)) hx hb hts hiX10 hown hK hP 0 49 1 rfl rfl (by decide) rfl rfl rfl dX10_tableTells_13 ?_
  refine lv_if_eq (tgt := 23) hx hb dX10_tableTells_16 (by decide) (fun hc => ?_) (fun hc => ?_)
  · replace hf := zIf_t hc hf
    refine lv_iload_n hx hb dX10_tableTells_23 rfl (lv_at hl 0 rfl) ?_
    refine lv_aload_n hx hb dX10_tableTells_24 rfl (lv_at hl 1 rfl) ?_
    refine lv_aload_n hx hb dX10_tableTells_25 rfl (lv_at hl 1 rfl) ?_
    refine zGet (ci := 10) (C := RX10) (F := TX10) (N := 54) (v := .int (gm_3 0 45)) hx hb hts hiX10 hown hK hP 0 45 2 rfl rfl (by decide) rfl rfl rfl dX10_tableTells_26 ?_
    obtain ⟨v4, gm_5, hc29, hf⟩ := zB2_ok hf
    refine zCallVEI [.int (gm_3 0 45)] ⟨hx, hb, hml, hown, hts⟩ (pX10_sharesIt l D T X hgm H.size gm_3 gml (gm_3 0 45) v4 gm_5 hc29) (cwV 1 hts gX10_tableTells_X10_sharesIt rfl rfl rfl (by decide +kernel) ⟨Nat.le_of_ble_eq_true rfl, Nat.le_of_ble_eq_true rfl⟩) hK hP hD hS hA hX 0 rfl rfl rfl hl.1 rfl (Nat.le_of_ble_eq_true rfl) dX10_tableTells_29 ⟨Nat.zero_le _, Nat.zero_le _⟩ (fun H locs hP hD hS => ?_)
    refine lv_iadd hx hb dX10_tableTells_32 ?_
    obtain ⟨q1, q2⟩ := zI2 hf
    subst q1
    subst q2
    exact zRetI hQ hx hb hr hlocks hA0 hK hP hD hS rfl dX10_tableTells_33
  · replace hf := zIf_f hc hf
    refine lv_iconst (v := 0) hx hb dX10_tableTells_19 (by decide) ?_
    refine lv_goto (tgt := 33) hx hb dX10_tableTells_20 (by decide) ?_
    obtain ⟨q1, q2⟩ := zI2 hf
    subst q1
    subst q2
    exact zRetI hQ hx hb hr hlocks hA0 hK hP hD hS rfl dX10_tableTells_33
set_option maxHeartbeats 4000000 in
set_option maxRecDepth 100000 in
theorem pX10_tellsIt (l : Launch) (D : va_G) (T : Nat → ClassId) (X : zFP) (hgm : Nat → Nat) (sz : Nat) (gm : zM) (gml : zL) (a1 : Int32) (r : Int32) (ngm : zM) (hf : fX10_tellsIt gm gml a1 = some (r, ngm)) : Met l yX10_tellsIt wsX10_tellsIt rX10_tellsIt (zPre D T X [.ref (hgm 0), .int a1] (wX10 T hgm gm gml) sz) (zQi D T r (wX10 T hgm ngm gml) (wX10 T hgm gm gml) sz) 0 0 (va_A (wX10 T hgm gm gml) sz) := by
  unfold fX10_tellsIt at hf
  refine zStart [(0, .ref (hgm 0)), (1, .int a1)] (by decide) rfl (Nat.le_of_ble_eq_true rfl) rfl ?_
  intro p e s m args below meth c A Q ls hx hb hr hml hown hlocks hts hsz hA0 hQ hA hK hX hP hD hS hl
  replace hown : s.vm.findClass RX10 = some m.cls := hown
  have hH := hsz
  have hiX10 : ∀ w ∈ u_ws RX10 TX10 54, w ∈ wsX10_tellsIt := fun w h => List.mem_cons_of_mem _ (List.mem_append_right _ (h))
  obtain ⟨H, hHe⟩ : ∃ H : Heap, H = s.heap := ⟨_, rfl⟩
  obtain ⟨locs, hLe⟩ : ∃ L : List Loc, L = [] := ⟨_, rfl⟩
  replace hP : va_P D vwCl (wX10 T hgm gm gml) H := by rw [hHe]; exact hP
  replace hS : va_S A s.heap H locs := by rw [hHe, hLe]; exact hS
  suffices hgo : W p l e rX10_tellsIt s m args below meth c H locs 0 0 Q (F0 m 0 ls []) by rw [hHe, hLe] at hgo; exact hgo
  clear hHe hLe
  refine lv_aload_n hx hb dX10_tellsIt_0 rfl (lv_at hl 0 rfl) ?_
  refine zGet (ci := 10) (C := RX10) (F := TX10) (N := 54) (v := .int (gm 0 44)) hx hb hts hiX10 hown hK hP 0 44 1 rfl rfl (by decide) rfl rfl rfl dX10_tellsIt_1 ?_
  refine lv_iconst (v := 5) hx hb dX10_tellsIt_4 (by decide) ?_
  refine lv_icmp_ne (tgt := 22) hx hb dX10_tellsIt_5 (by decide) (fun hc => ?_) (fun hc => ?_)
  · replace hf := zIf_f hc hf
    refine lv_aload_n hx hb dX10_tellsIt_22 rfl (lv_at hl 0 rfl) ?_
    refine zGet (ci := 10) (C := RX10) (F := TX10) (N := 54) (v := .int (gm 0 44)) hx hb hts hiX10 hown hK hP 0 44 1 rfl rfl (by decide) rfl rfl rfl dX10_tellsIt_23 ?_
    refine lv_iconst (v := 2) hx hb dX10_tellsIt_26 (by decide) ?_
    have hJ38 : ∀ (H : Heap) (locs : List Loc) (ls : Array Slot), fX10_tellsIt_J38 a1 gm gml = some (r, ngm) → va_P D vwCl (wX10 T hgm gm gml) H → va_D A (wX10 T hgm gm gml) → va_S A s.heap H locs → lv_has ls 2 [(0, .ref (hgm 0)), (1, .int a1)] → W p l e rX10_tellsIt s m args below meth c H locs 0 0 Q (F0 m 38 ls []) := by
      intro H locs ls hf hP hD hS hl
      unfold fX10_tellsIt_J38 at hf
      refine lv_aload_n hx hb dX10_tellsIt_38 rfl (lv_at hl 0 rfl) ?_
      refine lv_iload_n hx hb dX10_tellsIt_39 rfl (lv_at hl 1 rfl) ?_
      obtain ⟨v1, gm_2, hc40, hf⟩ := zB2_ok hf
      refine zCallVEI [.int a1] ⟨hx, hb, hml, hown, hts⟩ (pX10_tableTells l D T X hgm H.size gm gml a1 v1 gm_2 hc40) (cwV 1 hts gX10_tellsIt_X10_tableTells rfl rfl rfl (by decide +kernel) ⟨Nat.le_of_ble_eq_true rfl, Nat.le_of_ble_eq_true rfl⟩) hK hP hD hS hA hX 0 rfl rfl rfl hl.1 rfl (Nat.le_of_ble_eq_true rfl) dX10_tellsIt_40 ⟨Nat.zero_le _, Nat.zero_le _⟩ (fun H locs hP hD hS => ?_)
      refine lv_goto (tgt := 51) hx hb dX10_tellsIt_43 (by decide) ?_
      obtain ⟨q1, q2⟩ := zI2 hf
      subst q1
      subst q2
      exact zRetI hQ hx hb hr hlocks hA0 hK hP hD hS rfl dX10_tellsIt_51
    refine lv_icmp_eq (tgt := 38) hx hb dX10_tellsIt_27 (by decide) (fun hc => ?_) (fun hc => ?_)
    · replace hf := zIf_t hc hf
      exact hJ38 H locs ls hf hP hD hS hl
    · replace hf := zIf_f hc hf
      refine lv_aload_n hx hb dX10_tellsIt_30 rfl (lv_at hl 0 rfl) ?_
      refine zGet (ci := 10) (C := RX10) (F := TX10) (N := 54) (v := .int (gm 0 44)) hx hb hts hiX10 hown hK hP 0 44 1 rfl rfl (by decide) rfl rfl rfl dX10_tellsIt_31 ?_
      refine lv_iconst (v := 3) hx hb dX10_tellsIt_34 (by decide) ?_
      refine lv_icmp_ne (tgt := 46) hx hb dX10_tellsIt_35 (by decide) (fun hc => ?_) (fun hc => ?_)
      · replace hf := zIf_f hc hf
        refine lv_aload_n hx hb dX10_tellsIt_46 rfl (lv_at hl 0 rfl) ?_
        refine lv_iload_n hx hb dX10_tellsIt_47 rfl (lv_at hl 1 rfl) ?_
        obtain ⟨v3, gm_4, hc48, hf⟩ := zB2_ok hf
        refine zCallVEI [.int a1] ⟨hx, hb, hml, hown, hts⟩ (pX10_plainTells l D T X hgm H.size gm gml a1 v3 gm_4 hc48) (cwV 1 hts gX10_tellsIt_X10_plainTells rfl rfl rfl (by decide +kernel) ⟨Nat.le_of_ble_eq_true rfl, Nat.le_of_ble_eq_true rfl⟩) hK hP hD hS hA hX 0 rfl rfl rfl hl.1 rfl (Nat.le_of_ble_eq_true rfl) dX10_tellsIt_48 ⟨Nat.zero_le _, Nat.zero_le _⟩ (fun H locs hP hD hS => ?_)
        obtain ⟨q1, q2⟩ := zI2 hf
        subst q1
        subst q2
        exact zRetI hQ hx hb hr hlocks hA0 hK hP hD hS rfl dX10_tellsIt_51
      · replace hf := zIf_t hc hf
        exact hJ38 H locs ls hf hP hD hS hl
  · replace hf := zIf_t hc hf
    refine lv_aload_n hx hb dX10_tellsIt_8 rfl (lv_at hl 0 rfl) ?_
    refine lv_bipush (v := 61) hx hb dX10_tellsIt_9 (by decide) ?_
    obtain ⟨gm_5, hc11, hf⟩ := zB1_ok hf
    refine zCallVEV [.int 61] ⟨hx, hb, hml, hown, hts⟩ (pX10_ran l D T X hgm H.size gm gml 61 gm_5 hc11) (cwV 1 hts gX10_tellsIt_X10_ran rfl rfl rfl (by decide +kernel) ⟨Nat.le_of_ble_eq_true rfl, Nat.le_of_ble_eq_true rfl⟩) hK hP hD hS hA hX 0 rfl rfl rfl hl.1 rfl (Nat.le_of_ble_eq_true rfl) dX10_tellsIt_11 ⟨Nat.zero_le _, Nat.zero_le _⟩ (fun H locs hP hD hS => ?_)
    refine lv_aload_n hx hb dX10_tellsIt_14 rfl (lv_at hl 0 rfl) ?_
    refine lv_iload_n hx hb dX10_tellsIt_15 rfl (lv_at hl 1 rfl) ?_
    obtain ⟨v6, gm_7, hc16, hf⟩ := zB2_ok hf
    refine zCallVEI [.int a1] ⟨hx, hb, hml, hown, hts⟩ (pX10_tableTells l D T X hgm H.size gm_5 gml a1 v6 gm_7 hc16) (cwV 1 hts gX10_tellsIt_X10_tableTells rfl rfl rfl (by decide +kernel) ⟨Nat.le_of_ble_eq_true rfl, Nat.le_of_ble_eq_true rfl⟩) hK hP hD hS hA hX 0 rfl rfl rfl hl.1 rfl (Nat.le_of_ble_eq_true rfl) dX10_tellsIt_16 ⟨Nat.zero_le _, Nat.zero_le _⟩ (fun H locs hP hD hS => ?_)
    refine lv_iconst (v := 2) hx hb dX10_tellsIt_19 (by decide) ?_
    refine lv_imul hx hb dX10_tellsIt_20 ?_
    obtain ⟨q1, q2⟩ := zI2 hf
    subst q1
    subst q2
    exact zRetI hQ hx hb hr hlocks hA0 hK hP hD hS rfl dX10_tellsIt_21
set_option maxHeartbeats 4000000 in
set_option maxRecDepth 100000 in
theorem pX10_act (l : Launch) (D : va_G) (T : Nat → ClassId) (X : zFP) (hgm : Nat → Nat) (sz : Nat) (gm : zM) (gml : zL) (a1 : Int32) (a2 : Int32) (a3 : Int32) (r : Int32) (ngm : zM) (hf : fX10_act gm gml a1 a2 a3 = some (r, ngm)) : Met l yX10_act wsX10_act rX10_act (zPre D T X [.ref (hgm 0), .int a1, .int a2, .int a3] (wX10 T hgm gm gml) sz) (zQi D T r (wX10 T hgm ngm gml) (wX10 T hgm gm gml) sz) 0 0 (va_A (wX10 T hgm gm gml) sz) := by
  unfold fX10_act at hf
  refine zStart [(0, .ref (hgm 0)), (1, .int a1), (2, .int a2), (3, .int a3)] (by decide) rfl (Nat.le_of_ble_eq_true rfl) rfl ?_
  intro p e s m args below meth c A Q ls hx hb hr hml hown hlocks hts hsz hA0 hQ hA hK hX hP hD hS hl
  replace hown : s.vm.findClass RX10 = some m.cls := hown
  have hH := hsz
  have hiX10 : ∀ w ∈ u_ws RX10 TX10 54, w ∈ wsX10_act := fun w h => List.mem_cons_of_mem _ (List.mem_append_right _ (h))
  obtain ⟨H, hHe⟩ : ∃ H : Heap, H = s.heap := ⟨_, rfl⟩
  obtain ⟨locs, hLe⟩ : ∃ L : List Loc, L = [] := ⟨_, rfl⟩
  replace hP : va_P D vwCl (wX10 T hgm gm gml) H := by rw [hHe]; exact hP
  replace hS : va_S A s.heap H locs := by rw [hHe, hLe]; exact hS
  suffices hgo : W p l e rX10_act s m args below meth c H locs 0 0 Q (F0 m 0 ls []) by rw [hHe, hLe] at hgo; exact hgo
  clear hHe hLe
  refine lv_aload_n hx hb dX10_act_0 rfl (lv_at hl 0 rfl) ?_
  refine lv_iconst (v := 0) hx hb dX10_act_1 (by decide) ?_
  refine zPut (ci := 10) (C := RX10) (F := TX10) (N := 54) (x := 0) (w := gm) hx hb hts hiX10 tyX10 tyX10_ok nmX10 hown hK hP hD hS (fun g => wX10 T hgm g gml) 0 48 1 rfl rfl (by decide) rfl rfl rfl ⟨rfl, rfl⟩ (Nat.le_of_ble_eq_true rfl) rfl dX10_act_2 (fun gm_1 egm_1 H locs hP hD hS => ?_)
  replace hP : va_P D vwCl (wX10 T hgm gm_1 gml) H := hP
  replace hD : va_D A (wX10 T hgm gm_1 gml) := hD
  replace hf := zLt_at egm_1 hf
  refine lv_iload_n hx hb dX10_act_5 rfl (lv_at hl 1 rfl) ?_
  obtain ⟨v2, hc6, hf⟩ := zB1_ok hf
  refine zCallS0I [.int a1] ⟨hx, hb, hml, hown, hts⟩ (pX10_isShelf l D T X H.size a1 v2 hc6) (va_cwS 1 hts gX10_act_X10_isShelf rfl rfl rfl (by decide +kernel) ⟨Nat.le_of_ble_eq_true rfl, Nat.le_of_ble_eq_true rfl⟩) hK hP hD hS hA hX rfl hl.1 rfl (Nat.le_of_ble_eq_true rfl) dX10_act_6 ⟨Nat.zero_le _, Nat.zero_le _⟩ (fun H locs hP hD hS => ?_)
  have hJ21 : ∀ (v3 : Int32) (H : Heap) (locs : List Loc) (ls : Array Slot), fX10_act_J21 a1 a2 a3 gml gm_1 v3 = some (r, ngm) → va_P D vwCl (wX10 T hgm gm_1 gml) H → va_D A (wX10 T hgm gm_1 gml) → va_S A s.heap H locs → lv_has ls 6 [(0, .ref (hgm 0)), (1, .int a1), (2, .int a2), (3, .int a3)] → W p l e rX10_act s m args below meth c H locs 0 0 Q (F0 m 21 ls [.int v3]) := by
    intro v3 H locs ls hf hP hD hS hl
    unfold fX10_act_J21 at hf
    refine lv_istore (lv' := [(4, .int v3), (0, .ref (hgm 0)), (1, .int a1), (2, .int a2), (3, .int a3)]) hx hb dX10_act_21 hl (by decide) rfl (fun ls hl => ?_)
    refine lv_iload_n hx hb dX10_act_23 rfl (lv_at hl 3 rfl) ?_
    refine lv_iconst (v := 0) hx hb dX10_act_24 (by decide) ?_
    refine lv_iconst (v := 3) hx hb dX10_act_25 (by decide) ?_
    obtain ⟨v4, hc26, hf⟩ := zB1_ok hf
    refine zCallS0I [.int a2, .int 0, .int 3] ⟨hx, hb, hml, hown, hts⟩ (pX10_in l D T X H.size a2 0 3 v4 hc26) (va_cwS 3 hts gX10_act_X10_in rfl rfl rfl (by decide +kernel) ⟨Nat.le_of_ble_eq_true rfl, Nat.le_of_ble_eq_true rfl⟩) hK hP hD hS hA hX rfl hl.1 rfl (Nat.le_of_ble_eq_true rfl) dX10_act_26 ⟨Nat.zero_le _, Nat.zero_le _⟩ (fun H locs hP hD hS => ?_)
    refine lv_if_eq (tgt := 43) hx hb dX10_act_29 (by decide) (fun hc => ?_) (fun hc => ?_)
    · replace hf := zIf_t hc hf
      refine lv_iconst (v := 0) hx hb dX10_act_43 (by decide) ?_
      obtain ⟨q1, q2⟩ := zI2 hf
      subst q1
      subst q2
      exact zRetI hQ hx hb hr hlocks hA0 hK hP hD hS rfl dX10_act_44
    · replace hf := zIf_f hc hf
      refine lv_iload hx hb dX10_act_32 (lv_at hl 0 rfl) ?_
      refine lv_iconst (v := 1) hx hb dX10_act_34 (by decide) ?_
      refine lv_bipush (v := 6) hx hb dX10_act_35 (by decide) ?_
      obtain ⟨v5, hc37, hf⟩ := zB1_ok hf
      refine zCallS0I [.int v3, .int 1, .int 6] ⟨hx, hb, hml, hown, hts⟩ (pX10_in l D T X H.size v3 1 6 v5 hc37) (va_cwS 3 hts gX10_act_X10_in rfl rfl rfl (by decide +kernel) ⟨Nat.le_of_ble_eq_true rfl, Nat.le_of_ble_eq_true rfl⟩) hK hP hD hS hA hX rfl hl.1 rfl (Nat.le_of_ble_eq_true rfl) dX10_act_37 ⟨Nat.zero_le _, Nat.zero_le _⟩ (fun H locs hP hD hS => ?_)
      refine lv_if_ne (tgt := 45) hx hb dX10_act_40 (by decide) (fun hc => ?_) (fun hc => ?_)
      · replace hf := zIf_f hc hf
        refine lv_aload_n hx hb dX10_act_45 rfl (lv_at hl 1 rfl) ?_
        refine lv_iload hx hb dX10_act_46 (lv_at hl 0 rfl) ?_
        refine zPut (ci := 10) (C := RX10) (F := TX10) (N := 54) (x := v3) (w := gm_1) hx hb hts hiX10 tyX10 tyX10_ok nmX10 hown hK hP hD hS (fun g => wX10 T hgm g gml) 0 44 2 rfl rfl (by decide) rfl rfl rfl ⟨rfl, rfl⟩ (Nat.le_of_ble_eq_true rfl) rfl dX10_act_48 (fun gm_6 egm_6 H locs hP hD hS => ?_)
        replace hP : va_P D vwCl (wX10 T hgm gm_6 gml) H := hP
        replace hD : va_D A (wX10 T hgm gm_6 gml) := hD
        replace hf := zLt_at egm_6 hf
        refine lv_aload_n hx hb dX10_act_51 rfl (lv_at hl 1 rfl) ?_
        refine lv_aload_n hx hb dX10_act_52 rfl (lv_at hl 1 rfl) ?_
        refine zGet (ci := 10) (C := RX10) (F := TX10) (N := 54) (v := .ref (hgm 22)) hx hb hts hiX10 hown hK hP 0 42 3 rfl rfl (by decide) rfl rfl rfl dX10_act_53 ?_
        refine lv_iload_n hx hb dX10_act_56 rfl (lv_at hl 2 rfl) ?_
        obtain ⟨hg, hf⟩ := zGd_ok hf
        refine zAldI hx hb hK hP 22 rfl hg dX10_act_57 (fun v7 ev7 => ?_)
        replace hf := zLt_at ev7 hf
        refine zPut (ci := 10) (C := RX10) (F := TX10) (N := 54) (x := v7) (w := gm_6) hx hb hts hiX10 tyX10 tyX10_ok nmX10 hown hK hP hD hS (fun g => wX10 T hgm g gml) 0 45 4 rfl rfl (by decide) rfl rfl rfl ⟨rfl, rfl⟩ (Nat.le_of_ble_eq_true rfl) rfl dX10_act_58 (fun gm_8 egm_8 H locs hP hD hS => ?_)
        replace hP : va_P D vwCl (wX10 T hgm gm_8 gml) H := hP
        replace hD : va_D A (wX10 T hgm gm_8 gml) := hD
        replace hf := zLt_at egm_8 hf
        refine lv_aload_n hx hb dX10_act_61 rfl (lv_at hl 1 rfl) ?_
        refine lv_aload_n hx hb dX10_act_62 rfl (lv_at hl 1 rfl) ?_
        refine zGet (ci := 10) (C := RX10) (F := TX10) (N := 54) (v := .ref (hgm 3)) hx hb hts hiX10 hown hK hP 0 5 5 rfl rfl (by decide) rfl rfl rfl dX10_act_63 ?_
        refine lv_iconst (v := 3) hx hb dX10_act_66 (by decide) ?_
        refine lv_aload_n hx hb dX10_act_67 rfl (lv_at hl 1 rfl) ?_
        refine zGet (ci := 10) (C := RX10) (F := TX10) (N := 54) (v := .int (gm_8 0 45)) hx hb hts hiX10 hown hK hP 0 45 4 rfl rfl (by decide) rfl rfl rfl dX10_act_68 ?_
        refine lv_imul hx hb dX10_act_71 ?_
        refine lv_iconst (v := 1) hx hb dX10_act_72 (by decide) ?_
        refine lv_iadd hx hb dX10_act_73 ?_
        obtain ⟨hg, hf⟩ := zGd_ok hf
        refine zAldI hx hb hK hP 3 rfl hg dX10_act_74 (fun v9 ev9 => ?_)
        replace hf := zLt_at ev9 hf
        refine zPut (ci := 10) (C := RX10) (F := TX10) (N := 54) (x := v9) (w := gm_8) hx hb hts hiX10 tyX10 tyX10_ok nmX10 hown hK hP hD hS (fun g => wX10 T hgm g gml) 0 46 6 rfl rfl (by decide) rfl rfl rfl ⟨rfl, rfl⟩ (Nat.le_of_ble_eq_true rfl) rfl dX10_act_75 (fun gm_10 egm_10 H locs hP hD hS => ?_)
        replace hP : va_P D vwCl (wX10 T hgm gm_10 gml) H := hP
        replace hD : va_D A (wX10 T hgm gm_10 gml) := hD
        replace hf := zLt_at egm_10 hf
        refine lv_aload_n hx hb dX10_act_78 rfl (lv_at hl 1 rfl) ?_
        refine lv_iconst (v := 0) hx hb dX10_act_79 (by decide) ?_
        refine zPut (ci := 10) (C := RX10) (F := TX10) (N := 54) (x := 0) (w := gm_10) hx hb hts hiX10 tyX10 tyX10_ok nmX10 hown hK hP hD hS (fun g => wX10 T hgm g gml) 0 49 7 rfl rfl (by decide) rfl rfl rfl (by decide) (Nat.le_of_ble_eq_true rfl) rfl dX10_act_80 (fun gm_11 egm_11 H locs hP hD hS => ?_)
        replace hP : va_P D vwCl (wX10 T hgm gm_11 gml) H := hP
        replace hD : va_D A (wX10 T hgm gm_11 gml) := hD
        replace hf := zLt_at egm_11 hf
        refine lv_iload_n hx hb dX10_act_83 rfl (lv_at hl 3 rfl) ?_
        have hJ126 : ∀ (v12 : Int32) (gm_13 : zM) (H : Heap) (locs : List Loc) (ls : Array Slot), fX10_act_J126 v12 gm_13 = some (r, ngm) → va_P D vwCl (wX10 T hgm gm_13 gml) H → va_D A (wX10 T hgm gm_13 gml) → va_S A s.heap H locs → lv_has ls 6 [(0, .ref (hgm 0))] → W p l e rX10_act s m args below meth c H locs 0 0 Q (F0 m 126 ls [.int v12]) := by
          intro v12 gm_13 H locs ls hf hP hD hS hl
          unfold fX10_act_J126 at hf
          refine lv_istore (lv' := [(5, .int v12), (0, .ref (hgm 0))]) hx hb dX10_act_126 hl (by decide) rfl (fun ls hl => ?_)
          refine lv_aload_n hx hb dX10_act_128 rfl (lv_at hl 1 rfl) ?_
          refine zGet (ci := 10) (C := RX10) (F := TX10) (N := 54) (v := .int (gm_13 0 49)) hx hb hts hiX10 hown hK hP 0 49 7 rfl rfl (by decide) rfl rfl rfl dX10_act_129 ?_
          refine lv_if_eq (tgt := 140) hx hb dX10_act_132 (by decide) (fun hc => ?_) (fun hc => ?_)
          · replace hf := zIf_t hc hf
            refine lv_iload hx hb dX10_act_140 (lv_at hl 0 rfl) ?_
            obtain ⟨q1, q2⟩ := zI2 hf
            subst q1
            subst q2
            exact zRetI hQ hx hb hr hlocks hA0 hK hP hD hS rfl dX10_act_142
          · replace hf := zIf_f hc hf
            refine lv_bipush (v := (-15)) hx hb dX10_act_135 (by decide) ?_
            refine lv_goto (tgt := 142) hx hb dX10_act_137 (by decide) ?_
            obtain ⟨q1, q2⟩ := zI2 hf
            subst q1
            subst q2
            exact zRetI hQ hx hb hr hlocks hA0 hK hP hD hS rfl dX10_act_142
        refine lv_if_ne (tgt := 95) hx hb dX10_act_84 (by decide) (fun hc => ?_) (fun hc => ?_)
        · replace hf := zIf_f hc hf
          refine lv_iload_n hx hb dX10_act_95 rfl (lv_at hl 3 rfl) ?_
          refine lv_iconst (v := 1) hx hb dX10_act_96 (by decide) ?_
          refine lv_icmp_ne (tgt := 108) hx hb dX10_act_97 (by decide) (fun hc => ?_) (fun hc => ?_)
          · replace hf := zIf_f hc hf
            refine lv_iload_n hx hb dX10_act_108 rfl (lv_at hl 3 rfl) ?_
            refine lv_iconst (v := 2) hx hb dX10_act_109 (by decide) ?_
            refine lv_icmp_ne (tgt := 121) hx hb dX10_act_110 (by decide) (fun hc => ?_) (fun hc => ?_)
            · replace hf := zIf_f hc hf
              refine lv_aload_n hx hb dX10_act_121 rfl (lv_at hl 1 rfl) ?_
              refine lv_iload_n hx hb dX10_act_122 rfl (lv_at hl 4 rfl) ?_
              obtain ⟨v14, gm_15, hc123, hf⟩ := zB2_ok hf
              refine zCallVEI [.int a3] ⟨hx, hb, hml, hown, hts⟩ (pX10_tellsIt l D T X hgm H.size gm_11 gml a3 v14 gm_15 hc123) (cwV 1 hts gX10_act_X10_tellsIt rfl rfl rfl (by decide +kernel) ⟨Nat.le_of_ble_eq_true rfl, Nat.le_of_ble_eq_true rfl⟩) hK hP hD hS hA hX 0 rfl rfl rfl hl.1 rfl (Nat.le_of_ble_eq_true rfl) dX10_act_123 ⟨Nat.zero_le _, Nat.zero_le _⟩ (fun H locs hP hD hS => ?_)
              exact hJ126 v14 gm_15 H locs ls hf hP hD hS (lv_sub hl [1] rfl)
            · replace hf := zIf_t hc hf
              refine lv_aload_n hx hb dX10_act_113 rfl (lv_at hl 1 rfl) ?_
              refine lv_iload_n hx hb dX10_act_114 rfl (lv_at hl 4 rfl) ?_
              obtain ⟨v16, gm_17, hc115, hf⟩ := zB2_ok hf
              refine zCallVEI [.int a3] ⟨hx, hb, hml, hown, hts⟩ (pX10_sharesIt l D T X hgm H.size gm_11 gml a3 v16 gm_17 hc115) (cwV 1 hts gX10_act_X10_sharesIt rfl rfl rfl (by decide +kernel) ⟨Nat.le_of_ble_eq_true rfl, Nat.le_of_ble_eq_true rfl⟩) hK hP hD hS hA hX 0 rfl rfl rfl hl.1 rfl (Nat.le_of_ble_eq_true rfl) dX10_act_115 ⟨Nat.zero_le _, Nat.zero_le _⟩ (fun H locs hP hD hS => ?_)
              refine lv_goto (tgt := 126) hx hb dX10_act_118 (by decide) ?_
              exact hJ126 v16 gm_17 H locs ls hf hP hD hS (lv_sub hl [1] rfl)
          · replace hf := zIf_t hc hf
            refine lv_aload_n hx hb dX10_act_100 rfl (lv_at hl 1 rfl) ?_
            refine lv_iload_n hx hb dX10_act_101 rfl (lv_at hl 4 rfl) ?_
            obtain ⟨v18, gm_19, hc102, hf⟩ := zB2_ok hf
            refine zCallVEI [.int a3] ⟨hx, hb, hml, hown, hts⟩ (pX10_costsIt l D T X hgm H.size gm_11 gml a3 v18 gm_19 hc102) (cwV 1 hts gX10_act_X10_costsIt rfl rfl rfl (by decide +kernel) ⟨Nat.le_of_ble_eq_true rfl, Nat.le_of_ble_eq_true rfl⟩) hK hP hD hS hA hX 0 rfl rfl rfl hl.1 rfl (Nat.le_of_ble_eq_true rfl) dX10_act_102 ⟨Nat.zero_le _, Nat.zero_le _⟩ (fun H locs hP hD hS => ?_)
            refine lv_goto (tgt := 126) hx hb dX10_act_105 (by decide) ?_
            exact hJ126 v18 gm_19 H locs ls hf hP hD hS (lv_sub hl [1] rfl)
        · replace hf := zIf_t hc hf
          refine lv_aload_n hx hb dX10_act_87 rfl (lv_at hl 1 rfl) ?_
          refine lv_iload_n hx hb dX10_act_88 rfl (lv_at hl 4 rfl) ?_
          obtain ⟨v20, gm_21, hc89, hf⟩ := zB2_ok hf
          refine zCallVEI [.int a3] ⟨hx, hb, hml, hown, hts⟩ (pX10_partsIt l D T X hgm H.size gm_11 gml a3 v20 gm_21 hc89) (cwV 1 hts gX10_act_X10_partsIt rfl rfl rfl (by decide +kernel) ⟨Nat.le_of_ble_eq_true rfl, Nat.le_of_ble_eq_true rfl⟩) hK hP hD hS hA hX 0 rfl rfl rfl hl.1 rfl (Nat.le_of_ble_eq_true rfl) dX10_act_89 ⟨Nat.zero_le _, Nat.zero_le _⟩ (fun H locs hP hD hS => ?_)
          refine lv_goto (tgt := 126) hx hb dX10_act_92 (by decide) ?_
          exact hJ126 v20 gm_21 H locs ls hf hP hD hS (lv_sub hl [1] rfl)
      · replace hf := zIf_t hc hf
        refine lv_iconst (v := 0) hx hb dX10_act_43 (by decide) ?_
        obtain ⟨q1, q2⟩ := zI2 hf
        subst q1
        subst q2
        exact zRetI hQ hx hb hr hlocks hA0 hK hP hD hS rfl dX10_act_44
  refine lv_if_eq (tgt := 20) hx hb dX10_act_9 (by decide) (fun hc => ?_) (fun hc => ?_)
  · replace hf := zIf_t hc hf
    refine lv_iconst (v := (-1)) hx hb dX10_act_20 (by decide) ?_
    exact hJ21 (-1) H locs ls hf hP hD hS hl
  · replace hf := zIf_f hc hf
    refine lv_aload_n hx hb dX10_act_12 rfl (lv_at hl 0 rfl) ?_
    refine lv_iload_n hx hb dX10_act_13 rfl (lv_at hl 1 rfl) ?_
    obtain ⟨v22, hc14, hf⟩ := zB1_ok hf
    refine zCallVEI [.int a1] ⟨hx, hb, hml, hown, hts⟩ (pX10_kindOn l D T X hgm H.size gm_1 gml a1 v22 hc14) (cwV 1 hts gX10_act_X10_kindOn rfl rfl rfl (by decide +kernel) ⟨Nat.le_of_ble_eq_true rfl, Nat.le_of_ble_eq_true rfl⟩) hK hP hD hS hA hX 0 rfl rfl rfl hl.1 rfl (Nat.le_of_ble_eq_true rfl) dX10_act_14 ⟨Nat.zero_le _, Nat.zero_le _⟩ (fun H locs hP hD hS => ?_)
    refine lv_goto (tgt := 21) hx hb dX10_act_17 (by decide) ?_
    exact hJ21 v22 H locs ls hf hP hD hS hl
set_option maxHeartbeats 4000000 in
set_option maxRecDepth 100000 in
theorem pX10_trace (l : Launch) (D : va_G) (T : Nat → ClassId) (X : zFP) (hgm : Nat → Nat) (sz : Nat) (gm : zM) (gml : zL) (a1 : Int32) (r : Int32) (hf : fX10_trace gm gml a1 = some r) : Met l yX10_trace wsX10_trace rX10_trace (zPre D T X [.ref (hgm 0), .int a1] (wX10 T hgm gm gml) sz) (zQi D T r (wX10 T hgm gm gml) (wX10 T hgm gm gml) sz) 0 0 (va_A (wX10 T hgm gm gml) sz) := by
  unfold fX10_trace at hf
  refine zStart [(0, .ref (hgm 0)), (1, .int a1)] (by decide) rfl (Nat.le_of_ble_eq_true rfl) rfl ?_
  intro p e s m args below meth c A Q ls hx hb hr hml hown hlocks hts hsz hA0 hQ hA hK hX hP hD hS hl
  replace hown : s.vm.findClass RX10 = some m.cls := hown
  have hH := hsz
  have hiX10 : ∀ w ∈ u_ws RX10 TX10 54, w ∈ wsX10_trace := fun w h => List.mem_cons_of_mem _ (List.mem_append_right _ (h))
  obtain ⟨H, hHe⟩ : ∃ H : Heap, H = s.heap := ⟨_, rfl⟩
  obtain ⟨locs, hLe⟩ : ∃ L : List Loc, L = [] := ⟨_, rfl⟩
  replace hP : va_P D vwCl (wX10 T hgm gm gml) H := by rw [hHe]; exact hP
  replace hS : va_S A s.heap H locs := by rw [hHe, hLe]; exact hS
  suffices hgo : W p l e rX10_trace s m args below meth c H locs 0 0 Q (F0 m 0 ls []) by rw [hHe, hLe] at hgo; exact hgo
  clear hHe hLe
  refine lv_iload_n hx hb dX10_trace_0 rfl (lv_at hl 1 rfl) ?_
  refine lv_iconst (v := 0) hx hb dX10_trace_1 (by decide) ?_
  refine lv_aload_n hx hb dX10_trace_2 rfl (lv_at hl 0 rfl) ?_
  refine zGet (ci := 10) (C := RX10) (F := TX10) (N := 54) (v := .int (gm 0 48)) hx hb hts hiX10 hown hK hP 0 48 1 rfl rfl (by decide) rfl rfl rfl dX10_trace_3 ?_
  refine lv_iconst (v := 1) hx hb dX10_trace_6 (by decide) ?_
  refine lv_isub hx hb dX10_trace_7 ?_
  obtain ⟨v1, hc8, hf⟩ := zB1_ok hf
  refine zCallS0I [.int a1, .int 0, .int ((gm 0 48) - 1)] ⟨hx, hb, hml, hown, hts⟩ (pX10_in l D T X H.size a1 0 ((gm 0 48) - 1) v1 hc8) (va_cwS 3 hts gX10_trace_X10_in rfl rfl rfl (by decide +kernel) ⟨Nat.le_of_ble_eq_true rfl, Nat.le_of_ble_eq_true rfl⟩) hK hP hD hS hA hX rfl hl.1 rfl (Nat.le_of_ble_eq_true rfl) dX10_trace_8 ⟨Nat.zero_le _, Nat.zero_le _⟩ (fun H locs hP hD hS => ?_)
  refine lv_if_eq (tgt := 23) hx hb dX10_trace_11 (by decide) (fun hc => ?_) (fun hc => ?_)
  · replace hf := zIf_t hc hf
    refine lv_bipush (v := (-3)) hx hb dX10_trace_23 (by decide) ?_
    obtain ⟨q1, -⟩ := zI1 hf
    subst q1
    exact zRetI hQ hx hb hr hlocks hA0 hK hP hD hS rfl dX10_trace_25
  · replace hf := zIf_f hc hf
    refine lv_aload_n hx hb dX10_trace_14 rfl (lv_at hl 0 rfl) ?_
    refine zGet (ci := 10) (C := RX10) (F := TX10) (N := 54) (v := .ref (hgm 24)) hx hb hts hiX10 hown hK hP 0 47 2 rfl rfl (by decide) rfl rfl rfl dX10_trace_15 ?_
    refine lv_iload_n hx hb dX10_trace_18 rfl (lv_at hl 1 rfl) ?_
    obtain ⟨hg, hf⟩ := zGd_ok hf
    refine zAldI hx hb hK hP 24 rfl hg dX10_trace_19 (fun v2 ev2 => ?_)
    replace hf := zLt_at ev2 hf
    refine lv_goto (tgt := 25) hx hb dX10_trace_20 (by decide) ?_
    obtain ⟨q1, -⟩ := zI1 hf
    subst q1
    exact zRetI hQ hx hb hr hlocks hA0 hK hP hD hS rfl dX10_trace_25
set_option maxHeartbeats 4000000 in
set_option maxRecDepth 100000 in
theorem pX10_many (l : Launch) (D : va_G) (T : Nat → ClassId) (X : zFP) (hgm : Nat → Nat) (sz : Nat) (gm : zM) (gml : zL) (a1 : Int32) (r : Int32) (hf : fX10_many gm gml a1 = some r) : Met l yX10_many wsX10_many rX10_many (zPre D T X [.ref (hgm 0), .int a1] (wX10 T hgm gm gml) sz) (zQi D T r (wX10 T hgm gm gml) (wX10 T hgm gm gml) sz) 0 0 (va_A (wX10 T hgm gm gml) sz) := by
  unfold fX10_many at hf
  refine zStart [(0, .ref (hgm 0)), (1, .int a1)] (by decide) rfl (Nat.le_of_ble_eq_true rfl) rfl ?_
  intro p e s m args below meth c A Q ls hx hb hr hml hown hlocks hts hsz hA0 hQ hA hK hX hP hD hS hl
  replace hown : s.vm.findClass RX10 = some m.cls := hown
  have hH := hsz
  have hiX10 : ∀ w ∈ u_ws RX10 TX10 54, w ∈ wsX10_many := fun w h => List.mem_cons_of_mem _ (List.mem_append_right _ (h))
  obtain ⟨H, hHe⟩ : ∃ H : Heap, H = s.heap := ⟨_, rfl⟩
  obtain ⟨locs, hLe⟩ : ∃ L : List Loc, L = [] := ⟨_, rfl⟩
  replace hP : va_P D vwCl (wX10 T hgm gm gml) H := by rw [hHe]; exact hP
  replace hS : va_S A s.heap H locs := by rw [hHe, hLe]; exact hS
  suffices hgo : W p l e rX10_many s m args below meth c H locs 0 0 Q (F0 m 0 ls []) by rw [hHe, hLe] at hgo; exact hgo
  clear hHe hLe
  refine lv_iconst (v := 0) hx hb dX10_many_0 (by decide) ?_
  refine lv_istore_n (lv' := [(2, .int 0), (0, .ref (hgm 0)), (1, .int a1)]) hx hb dX10_many_1 rfl hl (by decide) rfl (fun ls hl => ?_)
  refine lv_iload_n hx hb dX10_many_2 rfl (lv_at hl 2 rfl) ?_
  refine zSw (x := a1) (k := 0) (fun hc => ?_) (fun hk0 => ?_)
  · replace hf := zIf_t hc hf
    refine lv_tableIn (off := 45) (tgt := 48) hx hb dX10_many_3 (by rw [hc]; decide) (by rw [hc]; decide) (by rw [hc]; decide) (by decide) ?_
    refine lv_aload_n hx hb dX10_many_48 rfl (lv_at hl 1 rfl) ?_
    refine zGet (ci := 10) (C := RX10) (F := TX10) (N := 54) (v := .int (gm 0 0)) hx hb hts hiX10 hown hK hP 0 0 1 rfl rfl (by decide) rfl rfl rfl dX10_many_49 ?_
    obtain ⟨q1, -⟩ := zI1 hf
    subst q1
    exact zRetI hQ hx hb hr hlocks hA0 hK hP hD hS rfl dX10_many_52
  replace hf := zIf_f hk0 hf
  refine zSw (x := a1) (k := 1) (fun hc => ?_) (fun hk1 => ?_)
  · replace hf := zIf_t hc hf
    refine lv_tableIn (off := 50) (tgt := 53) hx hb dX10_many_3 (by rw [hc]; decide) (by rw [hc]; decide) (by rw [hc]; decide) (by decide) ?_
    refine lv_aload_n hx hb dX10_many_53 rfl (lv_at hl 1 rfl) ?_
    refine zGet (ci := 10) (C := RX10) (F := TX10) (N := 54) (v := .int (gm 0 2)) hx hb hts hiX10 hown hK hP 0 2 2 rfl rfl (by decide) rfl rfl rfl dX10_many_54 ?_
    obtain ⟨q1, -⟩ := zI1 hf
    subst q1
    exact zRetI hQ hx hb hr hlocks hA0 hK hP hD hS rfl dX10_many_57
  replace hf := zIf_f hk1 hf
  refine zSw (x := a1) (k := 2) (fun hc => ?_) (fun hk2 => ?_)
  · replace hf := zIf_t hc hf
    refine lv_tableIn (off := 55) (tgt := 58) hx hb dX10_many_3 (by rw [hc]; decide) (by rw [hc]; decide) (by rw [hc]; decide) (by decide) ?_
    refine lv_aload_n hx hb dX10_many_58 rfl (lv_at hl 1 rfl) ?_
    refine zGet (ci := 10) (C := RX10) (F := TX10) (N := 54) (v := .int (gm 0 4)) hx hb hts hiX10 hown hK hP 0 4 3 rfl rfl (by decide) rfl rfl rfl dX10_many_59 ?_
    obtain ⟨q1, -⟩ := zI1 hf
    subst q1
    exact zRetI hQ hx hb hr hlocks hA0 hK hP hD hS rfl dX10_many_62
  replace hf := zIf_f hk2 hf
  refine zSw (x := a1) (k := 3) (fun hc => ?_) (fun hk3 => ?_)
  · replace hf := zIf_t hc hf
    refine lv_tableIn (off := 60) (tgt := 63) hx hb dX10_many_3 (by rw [hc]; decide) (by rw [hc]; decide) (by rw [hc]; decide) (by decide) ?_
    refine lv_iconst (v := 0) hx hb dX10_many_63 (by decide) ?_
    refine lv_istore_n (lv' := [(3, .int 0), (2, .int 0), (0, .ref (hgm 0)), (1, .int a1)]) hx hb dX10_many_64 rfl hl (by decide) rfl (fun ls hl => ?_)
    obtain ⟨ex, hlp, hf⟩ := zB1_ok hf
    have hE65_96 : ∀ (v3 : Int32) , ex = v3 → ∀ (H : Heap) (locs : List Loc) (ls : Array Slot), va_P D vwCl (wX10 T hgm gm gml) H → va_D A (wX10 T hgm gm gml) → va_S A s.heap H locs → lv_has ls 4 [(2, .int v3)] → W p l e rX10_many s m args below meth c H locs 0 0 Q (F0 m 96 ls []) := by
      intro v3 hex H locs ls hP hD hS hl
      have hf := zEx1 hex hf
      refine lv_iload_n hx hb dX10_many_96 rfl (lv_at hl 0 rfl) ?_
      obtain ⟨q1, -⟩ := zI1 hf
      subst q1
      exact zRetI hQ hx hb hr hlocks hA0 hK hP hD hS rfl dX10_many_97
    refine zLpS2 (body := (fX10_many_L65 gm)) (b := ex) (fun (v1 : Int32) (v2 : Int32) => ∀ (H : Heap) (locs : List Loc) (ls : Array Slot), va_P D vwCl (wX10 T hgm gm gml) H → va_D A (wX10 T hgm gm gml) → va_S A s.heap H locs → lv_has ls 4 [(0, .ref (hgm 0)), (2, .int v1), (3, .int v2)] → W p l e rX10_many s m args below meth c H locs 0 0 Q (F0 m 65 ls [])) ?_ zFU 0 0 hlp H locs ls hP hD hS (lv_sub hl [2, 1, 0] rfl)
    intro v1 v2 z hf hzz H locs ls hP hD hS hl
    unfold fX10_many_L65 at hf
    replace hf := zUk2 hf
    refine lv_iload_n hx hb dX10_many_65 rfl (lv_at hl 2 rfl) ?_
    refine lv_aload_n hx hb dX10_many_66 rfl (lv_at hl 0 rfl) ?_
    refine zGet (ci := 10) (C := RX10) (F := TX10) (N := 54) (v := .int (gm 0 0)) hx hb hts hiX10 hown hK hP 0 0 1 rfl rfl (by decide) rfl rfl rfl dX10_many_67 ?_
    refine lv_icmp_ge (tgt := 96) hx hb dX10_many_70 (by decide) (fun hc => ?_) (fun hc => ?_)
    · replace hf := zIf_t hc hf
      cases hf
      exact hE65_96 v1 hzz.symm H locs ls hP hD hS (lv_sub hl [1] rfl)
    · replace hf := zIf_f hc hf
      refine lv_iload_n hx hb dX10_many_73 rfl (lv_at hl 1 rfl) ?_
      refine lv_aload_n hx hb dX10_many_74 rfl (lv_at hl 0 rfl) ?_
      refine zGet (ci := 10) (C := RX10) (F := TX10) (N := 54) (v := .ref (hgm 4)) hx hb hts hiX10 hown hK hP 0 6 4 rfl rfl (by decide) rfl rfl rfl dX10_many_75 ?_
      refine lv_iload_n hx hb dX10_many_78 rfl (lv_at hl 2 rfl) ?_
      obtain ⟨hg, hf⟩ := zGd_ok hf
      refine zAldI hx hb hK hP 4 rfl hg dX10_many_79 (fun v4 ev4 => ?_)
      replace hf := zLt_at ev4 hf
      have hJ88 : ∀ (v5 : Int32) (v6 : Int32) (H : Heap) (locs : List Loc) (ls : Array Slot), fX10_many_L65J88 v2 v5 v6 = some z → va_P D vwCl (wX10 T hgm gm gml) H → va_D A (wX10 T hgm gm gml) → va_S A s.heap H locs → lv_has ls 4 [(0, .ref (hgm 0)), (3, .int v2)] → W p l e rX10_many s m args below meth c H locs 0 0 Q (F0 m 88 ls [.int v5, .int v6]) := by
        intro v5 v6 H locs ls hf hP hD hS hl
        unfold fX10_many_L65J88 at hf
        refine lv_iadd hx hb dX10_many_88 ?_
        refine lv_topi (fun v7 ev7 => ?_)
        replace hf := zLt_at ev7 hf
        refine lv_istore_n (lv' := [(2, .int v7), (0, .ref (hgm 0)), (3, .int v2)]) hx hb dX10_many_89 rfl hl (by decide) rfl (fun ls hl => ?_)
        obtain ⟨v8, ev8⟩ : ∃ y : Int32, y = v2 + 1 := ⟨_, rfl⟩
        replace hf := zLt_at ev8 hf
        refine lv_iinc (v := v8) (lv' := [(3, .int v8), (2, .int v7), (0, .ref (hgm 0))]) hx hb dX10_many_90 hl (k := 2) rfl (by rw [ev8]; rfl) (by decide) rfl (fun ls hl => ?_)
        refine lv_goto (tgt := 65) hx hb dX10_many_93 (by decide) ?_
        cases hf
        exact hzz H locs ls hP hD hS (lv_sub hl [2, 1, 0] rfl)
      refine lv_if_le (tgt := 87) hx hb dX10_many_80 (by decide) (fun hc => ?_) (fun hc => ?_)
      · replace hf := zIf_t hc hf
        refine lv_iconst (v := 0) hx hb dX10_many_87 (by decide) ?_
        exact hJ88 0 v1 H locs ls hf hP hD hS (lv_sub hl [0, 2] rfl)
      · replace hf := zIf_f hc hf
        refine lv_iconst (v := 1) hx hb dX10_many_83 (by decide) ?_
        refine lv_goto (tgt := 88) hx hb dX10_many_84 (by decide) ?_
        exact hJ88 1 v1 H locs ls hf hP hD hS (lv_sub hl [0, 2] rfl)
  replace hf := zIf_f hk3 hf
  refine zSw (x := a1) (k := 4) (fun hc => ?_) (fun hk4 => ?_)
  · replace hf := zIf_t hc hf
    refine lv_tableIn (off := 95) (tgt := 98) hx hb dX10_many_3 (by rw [hc]; decide) (by rw [hc]; decide) (by rw [hc]; decide) (by decide) ?_
    refine lv_aload_n hx hb dX10_many_98 rfl (lv_at hl 1 rfl) ?_
    refine zGet (ci := 10) (C := RX10) (F := TX10) (N := 54) (v := .int (gm 0 36)) hx hb hts hiX10 hown hK hP 0 36 5 rfl rfl (by decide) rfl rfl rfl dX10_many_99 ?_
    obtain ⟨q1, -⟩ := zI1 hf
    subst q1
    exact zRetI hQ hx hb hr hlocks hA0 hK hP hD hS rfl dX10_many_102
  replace hf := zIf_f hk4 hf
  refine zSw (x := a1) (k := 5) (fun hc => ?_) (fun hk5 => ?_)
  · replace hf := zIf_t hc hf
    refine lv_tableIn (off := 100) (tgt := 103) hx hb dX10_many_3 (by rw [hc]; decide) (by rw [hc]; decide) (by rw [hc]; decide) (by decide) ?_
    refine lv_aload_n hx hb dX10_many_103 rfl (lv_at hl 1 rfl) ?_
    refine zGet (ci := 10) (C := RX10) (F := TX10) (N := 54) (v := .int (gm 0 9)) hx hb hts hiX10 hown hK hP 0 9 6 rfl rfl (by decide) rfl rfl rfl dX10_many_104 ?_
    obtain ⟨q1, -⟩ := zI1 hf
    subst q1
    exact zRetI hQ hx hb hr hlocks hA0 hK hP hD hS rfl dX10_many_107
  replace hf := zIf_f hk5 hf
  refine zSw (x := a1) (k := 6) (fun hc => ?_) (fun hk6 => ?_)
  · replace hf := zIf_t hc hf
    refine lv_tableIn (off := 105) (tgt := 108) hx hb dX10_many_3 (by rw [hc]; decide) (by rw [hc]; decide) (by rw [hc]; decide) (by decide) ?_
    refine lv_aload_n hx hb dX10_many_108 rfl (lv_at hl 1 rfl) ?_
    refine zGet (ci := 10) (C := RX10) (F := TX10) (N := 54) (v := .int (gm 0 48)) hx hb hts hiX10 hown hK hP 0 48 7 rfl rfl (by decide) rfl rfl rfl dX10_many_109 ?_
    obtain ⟨q1, -⟩ := zI1 hf
    subst q1
    exact zRetI hQ hx hb hr hlocks hA0 hK hP hD hS rfl dX10_many_112
  replace hf := zIf_f hk6 hf
  refine zSw (x := a1) (k := 7) (fun hc => ?_) (fun hk7 => ?_)
  · replace hf := zIf_t hc hf
    refine lv_tableIn (off := 110) (tgt := 113) hx hb dX10_many_3 (by rw [hc]; decide) (by rw [hc]; decide) (by rw [hc]; decide) (by decide) ?_
    refine lv_aload_n hx hb dX10_many_113 rfl (lv_at hl 1 rfl) ?_
    obtain ⟨v9, hc114, hf⟩ := zB1_ok hf
    refine zCallVEI [] ⟨hx, hb, hml, hown, hts⟩ (pX10_unsure l D T X hgm H.size gm gml v9 hc114) (cwV 0 hts gX10_many_X10_unsure rfl rfl rfl (by decide +kernel) ⟨Nat.le_of_ble_eq_true rfl, Nat.le_of_ble_eq_true rfl⟩) hK hP hD hS hA hX 0 rfl rfl rfl hl.1 rfl (Nat.le_of_ble_eq_true rfl) dX10_many_114 ⟨Nat.zero_le _, Nat.zero_le _⟩ (fun H locs hP hD hS => ?_)
    obtain ⟨v10, hc117, hf⟩ := zB1_ok hf
    refine zCallS0I [.int v9] ⟨hx, hb, hml, hown, hts⟩ (pX10_ones l D T X H.size v9 v10 hc117) (va_cwS 1 hts gX10_many_X10_ones rfl rfl rfl (by decide +kernel) ⟨Nat.le_of_ble_eq_true rfl, Nat.le_of_ble_eq_true rfl⟩) hK hP hD hS hA hX rfl hl.1 rfl (Nat.le_of_ble_eq_true rfl) dX10_many_117 ⟨Nat.zero_le _, Nat.zero_le _⟩ (fun H locs hP hD hS => ?_)
    obtain ⟨q1, -⟩ := zI1 hf
    subst q1
    exact zRetI hQ hx hb hr hlocks hA0 hK hP hD hS rfl dX10_many_120
  replace hf := zIf_f hk7 hf
  refine lv_tableOut (tgt := 121) hx hb dX10_many_3 (by have := zNe hk0 (z := 0) (by decide); have := zNe hk1 (z := 1) (by decide); have := zNe hk2 (z := 2) (by decide); have := zNe hk3 (z := 3) (by decide); have := zNe hk4 (z := 4) (by decide); have := zNe hk5 (z := 5) (by decide); have := zNe hk6 (z := 6) (by decide); have := zNe hk7 (z := 7) (by decide); omega) (by decide) ?_
  refine lv_iconst (v := (-1)) hx hb dX10_many_121 (by decide) ?_
  obtain ⟨q1, -⟩ := zI1 hf
  subst q1
  exact zRetI hQ hx hb hr hlocks hA0 hK hP hD hS rfl dX10_many_122
