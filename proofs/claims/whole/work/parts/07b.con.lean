-- X3_howManySets X3_greatestSet X4_begin X4_halve X4_unusedBefore X4_advance X4_holds X4_isWithin X4_cost X4_worthWithin X5_has X8_tieBetween X5_isTold X5_leastTeller X5_tellHow X5_verdict X8_unsureTies X8_openTies X6_gather X8_everybody X8_weightOf X6_allOdds X6_layWay X6_oddsToKnow X6_meanKnowing X8_isAsShown X6_oddsShown X7_take X7_sortOf X7_readNumber
set_option maxHeartbeats 4000000 in
set_option maxRecDepth 100000 in
theorem pX3_howManySets (l : Launch) (D : va_G) (T : Nat → ClassId) (X : zFP) (hgn : Nat → Nat) (sz : Nat) (gn : zM) (a1 : Int32) (r : Int32) (hf : fX3_howManySets gn a1 = some r) : Met l yX3_howManySets wsX3_howManySets rX3_howManySets (zPre D T X [.ref (hgn 0), .int a1] (wX3 T hgn gn) sz) (zQi D T r (wX3 T hgn gn) (wX3 T hgn gn) sz) 0 0 (va_A (wX3 T hgn gn) sz) := by
  unfold fX3_howManySets at hf
  refine zStart [(0, .ref (hgn 0)), (1, .int a1)] (by decide) rfl (Nat.le_of_ble_eq_true rfl) rfl ?_
  intro p e s m args below meth c A Q ls hx hb hr hml hown hlocks hts hsz hA0 hQ hA hK hX hP hD hS hl
  replace hown : s.vm.findClass RX3 = some m.cls := hown
  have hH := hsz
  obtain ⟨H, hHe⟩ : ∃ H : Heap, H = s.heap := ⟨_, rfl⟩
  obtain ⟨locs, hLe⟩ : ∃ L : List Loc, L = [] := ⟨_, rfl⟩
  replace hP : va_P D vwCl (wX3 T hgn gn) H := by rw [hHe]; exact hP
  replace hS : va_S A s.heap H locs := by rw [hHe, hLe]; exact hS
  suffices hgo : W p l e rX3_howManySets s m args below meth c H locs 0 0 Q (F0 m 0 ls []) by rw [hHe, hLe] at hgo; exact hgo
  clear hHe hLe
  refine lv_iload_n hx hb dX3_howManySets_0 rfl (lv_at hl 1 rfl) ?_
  refine lv_istore_n (lv' := [(2, .int a1), (0, .ref (hgn 0)), (1, .int a1)]) hx hb dX3_howManySets_1 rfl hl (by decide) rfl (fun ls hl => ?_)
  refine lv_iconst (v := 0) hx hb dX3_howManySets_2 (by decide) ?_
  refine lv_istore_n (lv' := [(3, .int 0), (2, .int a1), (0, .ref (hgn 0)), (1, .int a1)]) hx hb dX3_howManySets_3 rfl hl (by decide) rfl (fun ls hl => ?_)
  refine lv_iconst (v := 0) hx hb dX3_howManySets_4 (by decide) ?_
  refine lv_istore (lv' := [(4, .int 0), (3, .int 0), (2, .int a1), (0, .ref (hgn 0)), (1, .int a1)]) hx hb dX3_howManySets_5 hl (by decide) rfl (fun ls hl => ?_)
  obtain ⟨ex, hlp, hf⟩ := zB1_ok hf
  have hE7_41 : ∀ (v4 : Int32) , ex = v4 → ∀ (H : Heap) (locs : List Loc) (ls : Array Slot), va_P D vwCl (wX3 T hgn gn) H → va_D A (wX3 T hgn gn) → va_S A s.heap H locs → lv_has ls 5 [(3, .int v4)] → W p l e rX3_howManySets s m args below meth c H locs 0 0 Q (F0 m 41 ls []) := by
    intro v4 hex H locs ls hP hD hS hl
    have hf := zEx1 hex hf
    refine lv_iload_n hx hb dX3_howManySets_41 rfl (lv_at hl 0 rfl) ?_
    obtain ⟨q1, -⟩ := zI1 hf
    subst q1
    exact zRetI hQ hx hb hr hlocks hA0 hK hP hD hS rfl dX3_howManySets_42
  refine zLpS3 (body := (fX3_howManySets_L7 a1 gn)) (b := ex) (fun (v1 : Int32) (v2 : Int32) (v3 : Int32) => ∀ (H : Heap) (locs : List Loc) (ls : Array Slot), va_P D vwCl (wX3 T hgn gn) H → va_D A (wX3 T hgn gn) → va_S A s.heap H locs → lv_has ls 5 [(0, .ref (hgn 0)), (1, .int a1), (2, .int v1), (3, .int v2), (4, .int v3)] → W p l e rX3_howManySets s m args below meth c H locs 0 0 Q (F0 m 7 ls [])) ?_ zFU a1 0 0 hlp H locs ls hP hD hS (lv_sub hl [3, 4, 2, 1, 0] rfl)
  intro v1 v2 v3 z hf hzz H locs ls hP hD hS hl
  unfold fX3_howManySets_L7 at hf
  replace hf := zUk3 hf
  refine lv_iload hx hb dX3_howManySets_7 (lv_at hl 4 rfl) ?_
  refine lv_bipush (v := 10) hx hb dX3_howManySets_9 (by decide) ?_
  refine lv_icmp_ge (tgt := 41) hx hb dX3_howManySets_11 (by decide) (fun hc => ?_) (fun hc => ?_)
  · replace hf := zIf_t hc hf
    cases hf
    exact hE7_41 v2 hzz.symm H locs ls hP hD hS (lv_sub hl [3] rfl)
  · replace hf := zIf_f hc hf
    refine lv_iload_n hx hb dX3_howManySets_14 rfl (lv_at hl 2 rfl) ?_
    refine lv_if_eq (tgt := 41) hx hb dX3_howManySets_15 (by decide) (fun hc => ?_) (fun hc => ?_)
    · replace hf := zIf_t hc hf
      cases hf
      exact hE7_41 v2 hzz.symm H locs ls hP hD hS (lv_sub hl [3] rfl)
    · replace hf := zIf_f hc hf
      refine lv_iload_n hx hb dX3_howManySets_18 rfl (lv_at hl 2 rfl) ?_
      refine lv_aload_n hx hb dX3_howManySets_19 rfl (lv_at hl 0 rfl) ?_
      refine lv_iload_n hx hb dX3_howManySets_20 rfl (lv_at hl 2 rfl) ?_
      refine lv_iload_n hx hb dX3_howManySets_21 rfl (lv_at hl 2 rfl) ?_
      refine lv_ineg hx hb dX3_howManySets_22 ?_
      refine lv_iand hx hb dX3_howManySets_23 ?_
      refine lv_iload_n hx hb dX3_howManySets_24 rfl (lv_at hl 1 rfl) ?_
      obtain ⟨v5, hc25, hf⟩ := zB1_ok hf
      refine zCallVEI [.int (v1 &&& (-v1)), .int a1] ⟨hx, hb, hml, hown, hts⟩ (pX3_flood l D T X hgn H.size gn (v1 &&& (-v1)) a1 v5 hc25) (cwV 2 hts gX3_howManySets_X3_flood rfl rfl rfl (by decide +kernel) ⟨Nat.le_of_ble_eq_true rfl, Nat.le_of_ble_eq_true rfl⟩) hK hP hD hS hA hX 0 rfl rfl rfl hl.1 rfl (Nat.le_of_ble_eq_true rfl) dX3_howManySets_25 ⟨Nat.zero_le _, Nat.zero_le _⟩ (fun H locs hP hD hS => ?_)
      refine lv_iconst (v := (-1)) hx hb dX3_howManySets_28 (by decide) ?_
      refine lv_ixor hx hb dX3_howManySets_29 ?_
      refine lv_iand hx hb dX3_howManySets_30 ?_
      refine lv_topi (fun v6 ev6 => ?_)
      replace hf := zLt_at ev6 hf
      refine lv_istore_n (lv' := [(2, .int v6), (0, .ref (hgn 0)), (1, .int a1), (3, .int v2), (4, .int v3)]) hx hb dX3_howManySets_31 rfl hl (by decide) rfl (fun ls hl => ?_)
      obtain ⟨v7, ev7⟩ : ∃ y : Int32, y = v2 + 1 := ⟨_, rfl⟩
      replace hf := zLt_at ev7 hf
      refine lv_iinc (v := v7) (lv' := [(3, .int v7), (2, .int v6), (0, .ref (hgn 0)), (1, .int a1), (4, .int v3)]) hx hb dX3_howManySets_32 hl (k := 3) rfl (by rw [ev7]; rfl) (by decide) rfl (fun ls hl => ?_)
      obtain ⟨v8, ev8⟩ : ∃ y : Int32, y = v3 + 1 := ⟨_, rfl⟩
      replace hf := zLt_at ev8 hf
      refine lv_iinc (v := v8) (lv' := [(4, .int v8), (3, .int v7), (2, .int v6), (0, .ref (hgn 0)), (1, .int a1)]) hx hb dX3_howManySets_35 hl (k := 4) rfl (by rw [ev8]; rfl) (by decide) rfl (fun ls hl => ?_)
      refine lv_goto (tgt := 7) hx hb dX3_howManySets_38 (by decide) ?_
      cases hf
      exact hzz H locs ls hP hD hS (lv_sub hl [3, 4, 2, 1, 0] rfl)
set_option maxHeartbeats 4000000 in
set_option maxRecDepth 100000 in
theorem pX3_greatestSet (l : Launch) (D : va_G) (T : Nat → ClassId) (X : zFP) (hgn : Nat → Nat) (sz : Nat) (gn : zM) (a1 : Int32) (r : Int32) (hf : fX3_greatestSet gn a1 = some r) : Met l yX3_greatestSet wsX3_greatestSet rX3_greatestSet (zPre D T X [.ref (hgn 0), .int a1] (wX3 T hgn gn) sz) (zQi D T r (wX3 T hgn gn) (wX3 T hgn gn) sz) 0 0 (va_A (wX3 T hgn gn) sz) := by
  unfold fX3_greatestSet at hf
  refine zStart [(0, .ref (hgn 0)), (1, .int a1)] (by decide) rfl (Nat.le_of_ble_eq_true rfl) rfl ?_
  intro p e s m args below meth c A Q ls hx hb hr hml hown hlocks hts hsz hA0 hQ hA hK hX hP hD hS hl
  replace hown : s.vm.findClass RX3 = some m.cls := hown
  have hH := hsz
  obtain ⟨H, hHe⟩ : ∃ H : Heap, H = s.heap := ⟨_, rfl⟩
  obtain ⟨locs, hLe⟩ : ∃ L : List Loc, L = [] := ⟨_, rfl⟩
  replace hP : va_P D vwCl (wX3 T hgn gn) H := by rw [hHe]; exact hP
  replace hS : va_S A s.heap H locs := by rw [hHe, hLe]; exact hS
  suffices hgo : W p l e rX3_greatestSet s m args below meth c H locs 0 0 Q (F0 m 0 ls []) by rw [hHe, hLe] at hgo; exact hgo
  clear hHe hLe
  refine lv_iload_n hx hb dX3_greatestSet_0 rfl (lv_at hl 1 rfl) ?_
  refine lv_istore_n (lv' := [(2, .int a1), (0, .ref (hgn 0)), (1, .int a1)]) hx hb dX3_greatestSet_1 rfl hl (by decide) rfl (fun ls hl => ?_)
  refine lv_iconst (v := 0) hx hb dX3_greatestSet_2 (by decide) ?_
  refine lv_istore_n (lv' := [(3, .int 0), (2, .int a1), (0, .ref (hgn 0)), (1, .int a1)]) hx hb dX3_greatestSet_3 rfl hl (by decide) rfl (fun ls hl => ?_)
  refine lv_iconst (v := 0) hx hb dX3_greatestSet_4 (by decide) ?_
  refine lv_istore (lv' := [(4, .int 0), (3, .int 0), (2, .int a1), (0, .ref (hgn 0)), (1, .int a1)]) hx hb dX3_greatestSet_5 hl (by decide) rfl (fun ls hl => ?_)
  obtain ⟨ex, hlp, hf⟩ := zB1_ok hf
  have hE7_52 : ∀ (v4 : Int32) , ex = v4 → ∀ (H : Heap) (locs : List Loc) (ls : Array Slot), va_P D vwCl (wX3 T hgn gn) H → va_D A (wX3 T hgn gn) → va_S A s.heap H locs → lv_has ls 6 [(3, .int v4)] → W p l e rX3_greatestSet s m args below meth c H locs 0 0 Q (F0 m 52 ls []) := by
    intro v4 hex H locs ls hP hD hS hl
    have hf := zEx1 hex hf
    refine lv_iload_n hx hb dX3_greatestSet_52 rfl (lv_at hl 0 rfl) ?_
    obtain ⟨q1, -⟩ := zI1 hf
    subst q1
    exact zRetI hQ hx hb hr hlocks hA0 hK hP hD hS rfl dX3_greatestSet_53
  refine zLpS3 (body := (fX3_greatestSet_L7 a1 gn)) (b := ex) (fun (v1 : Int32) (v2 : Int32) (v3 : Int32) => ∀ (H : Heap) (locs : List Loc) (ls : Array Slot), va_P D vwCl (wX3 T hgn gn) H → va_D A (wX3 T hgn gn) → va_S A s.heap H locs → lv_has ls 6 [(0, .ref (hgn 0)), (1, .int a1), (2, .int v1), (3, .int v2), (4, .int v3)] → W p l e rX3_greatestSet s m args below meth c H locs 0 0 Q (F0 m 7 ls [])) ?_ zFU a1 0 0 hlp H locs ls hP hD hS (lv_sub hl [3, 4, 2, 1, 0] rfl)
  intro v1 v2 v3 z hf hzz H locs ls hP hD hS hl
  unfold fX3_greatestSet_L7 at hf
  replace hf := zUk3 hf
  refine lv_iload hx hb dX3_greatestSet_7 (lv_at hl 4 rfl) ?_
  refine lv_bipush (v := 10) hx hb dX3_greatestSet_9 (by decide) ?_
  refine lv_icmp_ge (tgt := 52) hx hb dX3_greatestSet_11 (by decide) (fun hc => ?_) (fun hc => ?_)
  · replace hf := zIf_t hc hf
    cases hf
    exact hE7_52 v2 hzz.symm H locs ls hP hD hS (lv_sub hl [3] rfl)
  · replace hf := zIf_f hc hf
    refine lv_iload_n hx hb dX3_greatestSet_14 rfl (lv_at hl 2 rfl) ?_
    refine lv_if_eq (tgt := 52) hx hb dX3_greatestSet_15 (by decide) (fun hc => ?_) (fun hc => ?_)
    · replace hf := zIf_t hc hf
      cases hf
      exact hE7_52 v2 hzz.symm H locs ls hP hD hS (lv_sub hl [3] rfl)
    · replace hf := zIf_f hc hf
      refine lv_aload_n hx hb dX3_greatestSet_18 rfl (lv_at hl 0 rfl) ?_
      refine lv_iload_n hx hb dX3_greatestSet_19 rfl (lv_at hl 2 rfl) ?_
      refine lv_iload_n hx hb dX3_greatestSet_20 rfl (lv_at hl 2 rfl) ?_
      refine lv_ineg hx hb dX3_greatestSet_21 ?_
      refine lv_iand hx hb dX3_greatestSet_22 ?_
      refine lv_iload_n hx hb dX3_greatestSet_23 rfl (lv_at hl 1 rfl) ?_
      obtain ⟨v5, hc24, hf⟩ := zB1_ok hf
      refine zCallVEI [.int (v1 &&& (-v1)), .int a1] ⟨hx, hb, hml, hown, hts⟩ (pX3_flood l D T X hgn H.size gn (v1 &&& (-v1)) a1 v5 hc24) (cwV 2 hts gX3_greatestSet_X3_flood rfl rfl rfl (by decide +kernel) ⟨Nat.le_of_ble_eq_true rfl, Nat.le_of_ble_eq_true rfl⟩) hK hP hD hS hA hX 0 rfl rfl rfl hl.1 rfl (Nat.le_of_ble_eq_true rfl) dX3_greatestSet_24 ⟨Nat.zero_le _, Nat.zero_le _⟩ (fun H locs hP hD hS => ?_)
      refine lv_istore (lv' := [(5, .int v5), (0, .ref (hgn 0)), (1, .int a1), (2, .int v1), (3, .int v2), (4, .int v3)]) hx hb dX3_greatestSet_27 hl (by decide) rfl (fun ls hl => ?_)
      refine lv_iload_n hx hb dX3_greatestSet_29 rfl (lv_at hl 3 rfl) ?_
      refine lv_iload hx hb dX3_greatestSet_30 (lv_at hl 0 rfl) ?_
      refine lv_iconst (v := (-1)) hx hb dX3_greatestSet_32 (by decide) ?_
      refine lv_ixor hx hb dX3_greatestSet_33 ?_
      refine lv_iand hx hb dX3_greatestSet_34 ?_
      refine lv_topi (fun v6 ev6 => ?_)
      replace hf := zLt_at ev6 hf
      refine lv_istore_n (lv' := [(2, .int v6), (5, .int v5), (0, .ref (hgn 0)), (1, .int a1), (3, .int v2), (4, .int v3)]) hx hb dX3_greatestSet_35 rfl hl (by decide) rfl (fun ls hl => ?_)
      refine lv_iload_n hx hb dX3_greatestSet_36 rfl (lv_at hl 4 rfl) ?_
      refine lv_iload hx hb dX3_greatestSet_37 (lv_at hl 1 rfl) ?_
      obtain ⟨v7, hc39, hf⟩ := zB1_ok hf
      refine zCallS0I [.int v5] ⟨hx, hb, hml, hown, hts⟩ (pJ6_bitCount_0f7a4 l D T X H.size v5 v7 hc39) (va_cwS 1 hts gX3_greatestSet_J6_bitCount_0f7a4 rfl rfl rfl (by decide +kernel) ⟨Nat.le_of_ble_eq_true rfl, Nat.le_of_ble_eq_true rfl⟩) hK hP hD hS hA hX rfl hl.1 rfl (Nat.le_of_ble_eq_true rfl) dX3_greatestSet_39 ⟨Nat.zero_le _, Nat.zero_le _⟩ (fun H locs hP hD hS => ?_)
      refine va_mmax hx hb (hml.trans hl.1.symm) hown (hts _ (List.mem_of_getElem? (i := 1) rfl)) (hts _ (List.mem_of_getElem? (i := 2) rfl)) (hts _ (List.mem_of_getElem? (i := 3) rfl)) (hts _ (List.mem_of_getElem? (i := 4) rfl)) (Nat.le_of_ble_eq_true rfl) (Nat.le_of_ble_eq_true rfl) (Nat.zero_le _) (Nat.zero_le _) dX3_greatestSet_42 ?_
      refine lv_topi (fun v8 ev8 => ?_)
      replace hf := zLt_at ev8 hf
      refine lv_istore_n (lv' := [(3, .int v8), (2, .int v6), (5, .int v5), (0, .ref (hgn 0)), (1, .int a1), (4, .int v3)]) hx hb dX3_greatestSet_45 rfl hl (by decide) rfl (fun ls hl => ?_)
      obtain ⟨v9, ev9⟩ : ∃ y : Int32, y = v3 + 1 := ⟨_, rfl⟩
      replace hf := zLt_at ev9 hf
      refine lv_iinc (v := v9) (lv' := [(4, .int v9), (3, .int v8), (2, .int v6), (5, .int v5), (0, .ref (hgn 0)), (1, .int a1)]) hx hb dX3_greatestSet_46 hl (k := 5) rfl (by rw [ev9]; rfl) (by decide) rfl (fun ls hl => ?_)
      refine lv_goto (tgt := 7) hx hb dX3_greatestSet_49 (by decide) ?_
      cases hf
      exact hzz H locs ls hP hD hS (lv_sub hl [4, 5, 2, 1, 0] rfl)
set_option maxHeartbeats 4000000 in
set_option maxRecDepth 100000 in
theorem pX4_begin (l : Launch) (D : va_G) (T : Nat → ClassId) (X : zFP) (hgp : Nat → Nat) (sz : Nat) (gp : zM) (a1 : Int32) (r : Int32) (ngp : zM) (hf : fX4_begin gp a1 = some (r, ngp)) : Met l yX4_begin wsX4_begin rX4_begin (zPre D T X [.ref (hgp 0), .int a1] (wX4 T hgp gp) sz) (zQi D T r (wX4 T hgp ngp) (wX4 T hgp gp) sz) 0 0 (va_A (wX4 T hgp gp) sz) := by
  unfold fX4_begin at hf
  refine zStart [(0, .ref (hgp 0)), (1, .int a1)] (by decide) rfl (Nat.le_of_ble_eq_true rfl) rfl ?_
  intro p e s m args below meth c A Q ls hx hb hr hml hown hlocks hts hsz hA0 hQ hA hK hX hP hD hS hl
  replace hown : s.vm.findClass RX4 = some m.cls := hown
  have hH := hsz
  have hiX4 : ∀ w ∈ u_ws RX4 TX4 2, w ∈ wsX4_begin := fun w h => List.mem_cons_of_mem _ (List.mem_append_right _ (h))
  obtain ⟨H, hHe⟩ : ∃ H : Heap, H = s.heap := ⟨_, rfl⟩
  obtain ⟨locs, hLe⟩ : ∃ L : List Loc, L = [] := ⟨_, rfl⟩
  replace hP : va_P D vwCl (wX4 T hgp gp) H := by rw [hHe]; exact hP
  replace hS : va_S A s.heap H locs := by rw [hHe, hLe]; exact hS
  suffices hgo : W p l e rX4_begin s m args below meth c H locs 0 0 Q (F0 m 0 ls []) by rw [hHe, hLe] at hgo; exact hgo
  clear hHe hLe
  refine lv_aload_n hx hb dX4_begin_0 rfl (lv_at hl 0 rfl) ?_
  refine lv_iload_n hx hb dX4_begin_1 rfl (lv_at hl 1 rfl) ?_
  refine lv_bipush (v := 10) hx hb dX4_begin_2 (by decide) ?_
  refine va_mmin hx hb (hml.trans hl.1.symm) hown (hts _ (List.mem_of_getElem? (i := 1) rfl)) (hts _ (List.mem_of_getElem? (i := 2) rfl)) (hts _ (List.mem_of_getElem? (i := 3) rfl)) (hts _ (List.mem_of_getElem? (i := 4) rfl)) (Nat.le_of_ble_eq_true rfl) (Nat.le_of_ble_eq_true rfl) (Nat.zero_le _) (Nat.zero_le _) dX4_begin_4 ?_
  refine lv_topi (fun v1 ev1 => ?_)
  replace hf := zLt_at ev1 hf
  refine zPut (ci := 4) (C := RX4) (F := TX4) (N := 2) (x := v1) (w := gp) hx hb hts hiX4 tyX4 tyX4_ok nmX4 hown hK hP hD hS (fun g => wX4 T hgp g) 0 1 5 rfl rfl (by decide) rfl rfl rfl ⟨rfl, rfl⟩ (Nat.le_of_ble_eq_true rfl) rfl dX4_begin_7 (fun gp_2 egp_2 H locs hP hD hS => ?_)
  replace hP : va_P D vwCl (wX4 T hgp gp_2) H := hP
  replace hD : va_D A (wX4 T hgp gp_2) := hD
  replace hf := zLt_at egp_2 hf
  refine lv_aload_n hx hb dX4_begin_10 rfl (lv_at hl 0 rfl) ?_
  refine zGet (ci := 4) (C := RX4) (F := TX4) (N := 2) (v := .ref (hgp 1)) hx hb hts hiX4 hown hK hP 0 0 6 rfl rfl (by decide) rfl rfl rfl dX4_begin_11 ?_
  refine lv_iconst (v := 0) hx hb dX4_begin_14 (by decide) ?_
  obtain ⟨t3, hc15, hf⟩ := zB1_ok hf
  refine zCallFill (w := gp_2) (t := t3) ⟨hx, hb, hml, hown, hts⟩ (pJ7_fill_53178 l D T X (fun _ => (hgp 1)) H.size 10 (fun _ => gp_2 1) 0 t3 hc15) (va_cwS 2 hts gX4_begin_J7_fill_53178 rfl rfl rfl (by decide +kernel) ⟨Nat.le_of_ble_eq_true rfl, Nat.le_of_ble_eq_true rfl⟩) hK hP hD hS hA hX (fun g => wX4 T hgp g) 1 1 rfl rfl hl.1 (Nat.le_of_ble_eq_true rfl) dX4_begin_15 ⟨Nat.zero_le _, Nat.zero_le _⟩ (fun gp_4 egp_4 H locs hP hD hS => ?_)
  replace hP : va_P D vwCl (wX4 T hgp gp_4) H := hP
  replace hD : va_D A (wX4 T hgp gp_4) := hD
  replace hf := zLt_at egp_4 hf
  refine lv_iconst (v := 1) hx hb dX4_begin_18 (by decide) ?_
  obtain ⟨q1, q2⟩ := zI2 hf
  subst q1
  subst q2
  exact zRetZ hQ hx hb hr hlocks hA0 hK hP hD hS (by decide) rfl dX4_begin_19
set_option maxHeartbeats 4000000 in
set_option maxRecDepth 100000 in
theorem pX4_halve (l : Launch) (D : va_G) (T : Nat → ClassId) (X : zFP) (hgp : Nat → Nat) (sz : Nat) (gp : zM) (a1 : Int32) (ngp : zM) (hf : fX4_halve gp a1 = some ngp) : Met l yX4_halve wsX4_halve rX4_halve (zPre D T X [.ref (hgp 0), .int a1] (wX4 T hgp gp) sz) (zQv D T (wX4 T hgp ngp) (wX4 T hgp gp) sz) 0 0 (va_A (wX4 T hgp gp) sz) := by
  unfold fX4_halve at hf
  refine zStart [(0, .ref (hgp 0)), (1, .int a1)] (by decide) rfl (Nat.le_of_ble_eq_true rfl) rfl ?_
  intro p e s m args below meth c A Q ls hx hb hr hml hown hlocks hts hsz hA0 hQ hA hK hX hP hD hS hl
  replace hown : s.vm.findClass RX4 = some m.cls := hown
  have hH := hsz
  have hiX4 : ∀ w ∈ u_ws RX4 TX4 2, w ∈ wsX4_halve := fun w h => List.mem_cons_of_mem _ (List.mem_append_right _ (h))
  obtain ⟨H, hHe⟩ : ∃ H : Heap, H = s.heap := ⟨_, rfl⟩
  obtain ⟨locs, hLe⟩ : ∃ L : List Loc, L = [] := ⟨_, rfl⟩
  replace hP : va_P D vwCl (wX4 T hgp gp) H := by rw [hHe]; exact hP
  replace hS : va_S A s.heap H locs := by rw [hHe, hLe]; exact hS
  suffices hgo : W p l e rX4_halve s m args below meth c H locs 0 0 Q (F0 m 0 ls []) by rw [hHe, hLe] at hgo; exact hgo
  clear hHe hLe
  refine lv_iconst (v := 0) hx hb dX4_halve_0 (by decide) ?_
  refine lv_istore_n (lv' := [(2, .int 0), (0, .ref (hgp 0)), (1, .int a1)]) hx hb dX4_halve_1 rfl hl (by decide) rfl (fun ls hl => ?_)
  obtain ⟨ex, hlp, hf⟩ := zB1_ok hf
  have hE2_25 : ∀ (gp_3 : zM) , ex = gp_3 → ∀ (H : Heap) (locs : List Loc) (ls : Array Slot), va_P D vwCl (wX4 T hgp gp_3) H → va_D A (wX4 T hgp gp_3) → va_S A s.heap H locs → lv_has ls 3 [] → W p l e rX4_halve s m args below meth c H locs 0 0 Q (F0 m 25 ls []) := by
    intro gp_3 hex H locs ls hP hD hS hl
    have hf := zEx1 hex hf
    obtain ⟨q1, -⟩ := zI1 hf
    subst q1
    exact zRetV hQ hx hb hr hlocks hA0 hK hP hD hS dX4_halve_25
  refine zLpS2 (body := (fX4_halve_L2 a1)) (b := ex) (fun (v1 : Int32) (gp_2 : zM) => ∀ (H : Heap) (locs : List Loc) (ls : Array Slot), va_P D vwCl (wX4 T hgp gp_2) H → va_D A (wX4 T hgp gp_2) → va_S A s.heap H locs → lv_has ls 3 [(0, .ref (hgp 0)), (1, .int a1), (2, .int v1)] → W p l e rX4_halve s m args below meth c H locs 0 0 Q (F0 m 2 ls [])) ?_ zFU 0 gp hlp H locs ls hP hD hS (lv_sub hl [1, 2, 0] rfl)
  intro v1 gp_2 z hf hzz H locs ls hP hD hS hl
  unfold fX4_halve_L2 at hf
  replace hf := zUk2 hf
  refine lv_iload_n hx hb dX4_halve_2 rfl (lv_at hl 2 rfl) ?_
  refine lv_bipush (v := 10) hx hb dX4_halve_3 (by decide) ?_
  refine lv_icmp_ge (tgt := 25) hx hb dX4_halve_5 (by decide) (fun hc => ?_) (fun hc => ?_)
  · replace hf := zIf_t hc hf
    cases hf
    exact hE2_25 gp_2 hzz.symm H locs ls hP hD hS (lv_sub hl [] rfl)
  · replace hf := zIf_f hc hf
    refine lv_aload_n hx hb dX4_halve_8 rfl (lv_at hl 0 rfl) ?_
    refine zGet (ci := 4) (C := RX4) (F := TX4) (N := 2) (v := .ref (hgp 1)) hx hb hts hiX4 hown hK hP 0 0 1 rfl rfl (by decide) rfl rfl rfl dX4_halve_9 ?_
    refine lv_iload_n hx hb dX4_halve_12 rfl (lv_at hl 2 rfl) ?_
    refine lv_iload_n hx hb dX4_halve_13 rfl (lv_at hl 1 rfl) ?_
    refine lv_iload_n hx hb dX4_halve_14 rfl (lv_at hl 2 rfl) ?_
    refine lv_ishr hx hb dX4_halve_15 ?_
    refine lv_iconst (v := 1) hx hb dX4_halve_16 (by decide) ?_
    refine lv_iand hx hb dX4_halve_17 ?_
    refine lv_topi (fun v4 ev4 => ?_)
    replace hf := zLt_at ev4 hf
    obtain ⟨hg, hf⟩ := zGd_ok hf
    refine zAstI (w := gp_2) hx hb hK hP hD hS (fun g => wX4 T hgp g) 1 1 rfl hg rfl dX4_halve_18 (fun gp_5 egp_5 H locs hP hD hS => ?_)
    replace hP : va_P D vwCl (wX4 T hgp gp_5) H := hP
    replace hD : va_D A (wX4 T hgp gp_5) := hD
    replace hf := zLt_at egp_5 hf
    obtain ⟨v6, ev6⟩ : ∃ y : Int32, y = v1 + 1 := ⟨_, rfl⟩
    replace hf := zLt_at ev6 hf
    refine lv_iinc (v := v6) (lv' := [(2, .int v6), (0, .ref (hgp 0)), (1, .int a1)]) hx hb dX4_halve_19 hl (k := 2) rfl (by rw [ev6]; rfl) (by decide) rfl (fun ls hl => ?_)
    refine lv_goto (tgt := 2) hx hb dX4_halve_22 (by decide) ?_
    cases hf
    exact hzz H locs ls hP hD hS (lv_sub hl [1, 2, 0] rfl)
set_option maxHeartbeats 4000000 in
set_option maxRecDepth 100000 in
theorem pX4_unusedBefore (l : Launch) (D : va_G) (T : Nat → ClassId) (X : zFP) (hgp : Nat → Nat) (sz : Nat) (gp : zM) (a1 : Int32) (r : Int32) (hf : fX4_unusedBefore gp a1 = some r) : Met l yX4_unusedBefore wsX4_unusedBefore rX4_unusedBefore (zPre D T X [.ref (hgp 0), .int a1] (wX4 T hgp gp) sz) (zQi D T r (wX4 T hgp gp) (wX4 T hgp gp) sz) 0 0 (va_A (wX4 T hgp gp) sz) := by
  unfold fX4_unusedBefore at hf
  refine zStart [(0, .ref (hgp 0)), (1, .int a1)] (by decide) rfl (Nat.le_of_ble_eq_true rfl) rfl ?_
  intro p e s m args below meth c A Q ls hx hb hr hml hown hlocks hts hsz hA0 hQ hA hK hX hP hD hS hl
  replace hown : s.vm.findClass RX4 = some m.cls := hown
  have hH := hsz
  have hiX4 : ∀ w ∈ u_ws RX4 TX4 2, w ∈ wsX4_unusedBefore := fun w h => List.mem_cons_of_mem _ (List.mem_append_right _ (h))
  obtain ⟨H, hHe⟩ : ∃ H : Heap, H = s.heap := ⟨_, rfl⟩
  obtain ⟨locs, hLe⟩ : ∃ L : List Loc, L = [] := ⟨_, rfl⟩
  replace hP : va_P D vwCl (wX4 T hgp gp) H := by rw [hHe]; exact hP
  replace hS : va_S A s.heap H locs := by rw [hHe, hLe]; exact hS
  suffices hgo : W p l e rX4_unusedBefore s m args below meth c H locs 0 0 Q (F0 m 0 ls []) by rw [hHe, hLe] at hgo; exact hgo
  clear hHe hLe
  refine lv_iconst (v := (-1)) hx hb dX4_unusedBefore_0 (by decide) ?_
  refine lv_istore_n (lv' := [(2, .int (-1)), (0, .ref (hgp 0)), (1, .int a1)]) hx hb dX4_unusedBefore_1 rfl hl (by decide) rfl (fun ls hl => ?_)
  refine lv_iconst (v := 0) hx hb dX4_unusedBefore_2 (by decide) ?_
  refine lv_istore_n (lv' := [(3, .int 0), (2, .int (-1)), (0, .ref (hgp 0)), (1, .int a1)]) hx hb dX4_unusedBefore_3 rfl hl (by decide) rfl (fun ls hl => ?_)
  obtain ⟨ex, hlp, hf⟩ := zB1_ok hf
  have hE4_26 : ∀ (v3 : Int32) , ex = v3 → ∀ (H : Heap) (locs : List Loc) (ls : Array Slot), va_P D vwCl (wX4 T hgp gp) H → va_D A (wX4 T hgp gp) → va_S A s.heap H locs → lv_has ls 4 [(2, .int v3)] → W p l e rX4_unusedBefore s m args below meth c H locs 0 0 Q (F0 m 26 ls []) := by
    intro v3 hex H locs ls hP hD hS hl
    have hf := zEx1 hex hf
    refine lv_iload_n hx hb dX4_unusedBefore_26 rfl (lv_at hl 0 rfl) ?_
    refine lv_iconst (v := 1) hx hb dX4_unusedBefore_27 (by decide) ?_
    refine lv_iadd hx hb dX4_unusedBefore_28 ?_
    obtain ⟨q1, -⟩ := zI1 hf
    subst q1
    exact zRetI hQ hx hb hr hlocks hA0 hK hP hD hS rfl dX4_unusedBefore_29
  refine zLpS2 (body := (fX4_unusedBefore_L4 a1 gp)) (b := ex) (fun (v1 : Int32) (v2 : Int32) => ∀ (H : Heap) (locs : List Loc) (ls : Array Slot), va_P D vwCl (wX4 T hgp gp) H → va_D A (wX4 T hgp gp) → va_S A s.heap H locs → lv_has ls 4 [(0, .ref (hgp 0)), (1, .int a1), (2, .int v1), (3, .int v2)] → W p l e rX4_unusedBefore s m args below meth c H locs 0 0 Q (F0 m 4 ls [])) ?_ zFU (-1) 0 hlp H locs ls hP hD hS (lv_sub hl [2, 3, 1, 0] rfl)
  intro v1 v2 z hf hzz H locs ls hP hD hS hl
  unfold fX4_unusedBefore_L4 at hf
  replace hf := zUk2 hf
  refine lv_iload_n hx hb dX4_unusedBefore_4 rfl (lv_at hl 3 rfl) ?_
  refine lv_iload_n hx hb dX4_unusedBefore_5 rfl (lv_at hl 1 rfl) ?_
  refine lv_icmp_ge (tgt := 26) hx hb dX4_unusedBefore_6 (by decide) (fun hc => ?_) (fun hc => ?_)
  · replace hf := zIf_t hc hf
    cases hf
    exact hE4_26 v1 hzz.symm H locs ls hP hD hS (lv_sub hl [2] rfl)
  · replace hf := zIf_f hc hf
    refine lv_iload_n hx hb dX4_unusedBefore_9 rfl (lv_at hl 2 rfl) ?_
    refine lv_aload_n hx hb dX4_unusedBefore_10 rfl (lv_at hl 0 rfl) ?_
    refine zGet (ci := 4) (C := RX4) (F := TX4) (N := 2) (v := .ref (hgp 1)) hx hb hts hiX4 hown hK hP 0 0 1 rfl rfl (by decide) rfl rfl rfl dX4_unusedBefore_11 ?_
    refine lv_iload_n hx hb dX4_unusedBefore_14 rfl (lv_at hl 3 rfl) ?_
    obtain ⟨hg, hf⟩ := zGd_ok hf
    refine zAldI hx hb hK hP 1 rfl hg dX4_unusedBefore_15 (fun v4 ev4 => ?_)
    replace hf := zLt_at ev4 hf
    refine va_mmax hx hb (hml.trans hl.1.symm) hown (hts _ (List.mem_of_getElem? (i := 2) rfl)) (hts _ (List.mem_of_getElem? (i := 3) rfl)) (hts _ (List.mem_of_getElem? (i := 4) rfl)) (hts _ (List.mem_of_getElem? (i := 5) rfl)) (Nat.le_of_ble_eq_true rfl) (Nat.le_of_ble_eq_true rfl) (Nat.zero_le _) (Nat.zero_le _) dX4_unusedBefore_16 ?_
    refine lv_topi (fun v5 ev5 => ?_)
    replace hf := zLt_at ev5 hf
    refine lv_istore_n (lv' := [(2, .int v5), (0, .ref (hgp 0)), (1, .int a1), (3, .int v2)]) hx hb dX4_unusedBefore_19 rfl hl (by decide) rfl (fun ls hl => ?_)
    obtain ⟨v6, ev6⟩ : ∃ y : Int32, y = v2 + 1 := ⟨_, rfl⟩
    replace hf := zLt_at ev6 hf
    refine lv_iinc (v := v6) (lv' := [(3, .int v6), (2, .int v5), (0, .ref (hgp 0)), (1, .int a1)]) hx hb dX4_unusedBefore_20 hl (k := 3) rfl (by rw [ev6]; rfl) (by decide) rfl (fun ls hl => ?_)
    refine lv_goto (tgt := 4) hx hb dX4_unusedBefore_23 (by decide) ?_
    cases hf
    exact hzz H locs ls hP hD hS (lv_sub hl [2, 3, 1, 0] rfl)
set_option maxHeartbeats 4000000 in
set_option maxRecDepth 100000 in
theorem pX4_advance (l : Launch) (D : va_G) (T : Nat → ClassId) (X : zFP) (hgp : Nat → Nat) (sz : Nat) (gp : zM) (r : Int32) (ngp : zM) (hf : fX4_advance gp = some (r, ngp)) : Met l yX4_advance wsX4_advance rX4_advance (zPre D T X [.ref (hgp 0)] (wX4 T hgp gp) sz) (zQi D T r (wX4 T hgp ngp) (wX4 T hgp gp) sz) 0 0 (va_A (wX4 T hgp gp) sz) := by
  unfold fX4_advance at hf
  refine zStart [(0, .ref (hgp 0))] (by decide) rfl (Nat.le_of_ble_eq_true rfl) rfl ?_
  intro p e s m args below meth c A Q ls hx hb hr hml hown hlocks hts hsz hA0 hQ hA hK hX hP hD hS hl
  replace hown : s.vm.findClass RX4 = some m.cls := hown
  have hH := hsz
  have hiX4 : ∀ w ∈ u_ws RX4 TX4 2, w ∈ wsX4_advance := fun w h => List.mem_cons_of_mem _ (List.mem_append_right _ (h))
  obtain ⟨H, hHe⟩ : ∃ H : Heap, H = s.heap := ⟨_, rfl⟩
  obtain ⟨locs, hLe⟩ : ∃ L : List Loc, L = [] := ⟨_, rfl⟩
  replace hP : va_P D vwCl (wX4 T hgp gp) H := by rw [hHe]; exact hP
  replace hS : va_S A s.heap H locs := by rw [hHe, hLe]; exact hS
  suffices hgo : W p l e rX4_advance s m args below meth c H locs 0 0 Q (F0 m 0 ls []) by rw [hHe, hLe] at hgo; exact hgo
  clear hHe hLe
  refine lv_aload_n hx hb dX4_advance_0 rfl (lv_at hl 0 rfl) ?_
  refine zGet (ci := 4) (C := RX4) (F := TX4) (N := 2) (v := .int (gp 0 1)) hx hb hts hiX4 hown hK hP 0 1 1 rfl rfl (by decide) rfl rfl rfl dX4_advance_1 ?_
  refine lv_iconst (v := 1) hx hb dX4_advance_4 (by decide) ?_
  refine lv_isub hx hb dX4_advance_5 ?_
  refine lv_topi (fun v1 ev1 => ?_)
  replace hf := zLt_at ev1 hf
  refine lv_istore_n (lv' := [(1, .int v1), (0, .ref (hgp 0))]) hx hb dX4_advance_6 rfl hl (by decide) rfl (fun ls hl => ?_)
  obtain ⟨ex, hlp, hf⟩ := zB1_ok hf
  have hE7_68 : ex = (.inl ()) → ∀ (H : Heap) (locs : List Loc) (ls : Array Slot), va_P D vwCl (wX4 T hgp gp) H → va_D A (wX4 T hgp gp) → va_S A s.heap H locs → lv_has ls 3 [] → W p l e rX4_advance s m args below meth c H locs 0 0 Q (F0 m 68 ls []) := by
    intro hex H locs ls hP hD hS hl
    have hf := zExL0 hex hf
    refine lv_iconst (v := 0) hx hb dX4_advance_68 (by decide) ?_
    obtain ⟨q1, q2⟩ := zI2 hf
    subst q1
    subst q2
    exact zRetZ hQ hx hb hr hlocks hA0 hK hP hD hS (by decide) rfl dX4_advance_69
  have hE7_25 : ∀ (v3 : Int32) , ex = (.inr v3) → ∀ (H : Heap) (locs : List Loc) (ls : Array Slot), va_P D vwCl (wX4 T hgp gp) H → va_D A (wX4 T hgp gp) → va_S A s.heap H locs → lv_has ls 3 [(0, .ref (hgp 0)), (1, .int v3)] → W p l e rX4_advance s m args below meth c H locs 0 0 Q (F0 m 25 ls []) := by
    intro v3 hex H locs ls hP hD hS hl
    have hf := zSmR hex hf
    have hf := zEx1 rfl hf
    refine lv_aload_n hx hb dX4_advance_25 rfl (lv_at hl 0 rfl) ?_
    refine zGet (ci := 4) (C := RX4) (F := TX4) (N := 2) (v := .ref (hgp 1)) hx hb hts hiX4 hown hK hP 0 0 2 rfl rfl (by decide) rfl rfl rfl dX4_advance_26 ?_
    refine lv_iload_n hx hb dX4_advance_29 rfl (lv_at hl 1 rfl) ?_
    refine lv_dup2_11 hx hb dX4_advance_30 rfl rfl ?_
    obtain ⟨hg, hf⟩ := zGd_ok hf
    refine zAldI hx hb hK hP 1 rfl hg dX4_advance_31 (fun v7 ev7 => ?_)
    replace hf := zLt_at ev7 hf
    refine lv_iconst (v := 1) hx hb dX4_advance_32 (by decide) ?_
    refine lv_iadd hx hb dX4_advance_33 ?_
    refine lv_topi (fun v8 ev8 => ?_)
    replace hf := zLt_at ev8 hf
    obtain ⟨hg, hf⟩ := zGd_ok hf
    refine zAstI (w := gp) hx hb hK hP hD hS (fun g => wX4 T hgp g) 1 1 rfl hg rfl dX4_advance_34 (fun gp_9 egp_9 H locs hP hD hS => ?_)
    replace hP : va_P D vwCl (wX4 T hgp gp_9) H := hP
    replace hD : va_D A (wX4 T hgp gp_9) := hD
    replace hf := zLt_at egp_9 hf
    refine lv_iload_n hx hb dX4_advance_35 rfl (lv_at hl 1 rfl) ?_
    refine lv_iconst (v := 1) hx hb dX4_advance_36 (by decide) ?_
    refine lv_iadd hx hb dX4_advance_37 ?_
    refine lv_topi (fun v10 ev10 => ?_)
    replace hf := zLt_at ev10 hf
    refine lv_istore_n (lv' := [(2, .int v10), (0, .ref (hgp 0)), (1, .int v3)]) hx hb dX4_advance_38 rfl hl (by decide) rfl (fun ls hl => ?_)
    obtain ⟨ex, hlp, hf⟩ := zB1_ok hf
    have hE39_60 : ∀ (gp_13 : zM) , ex = gp_13 → ∀ (H : Heap) (locs : List Loc) (ls : Array Slot), va_P D vwCl (wX4 T hgp gp_13) H → va_D A (wX4 T hgp gp_13) → va_S A s.heap H locs → lv_has ls 3 [] → W p l e rX4_advance s m args below meth c H locs 0 0 Q (F0 m 60 ls []) := by
      intro gp_13 hex H locs ls hP hD hS hl
      have hf := zEx1 hex hf
      refine lv_iconst (v := 1) hx hb dX4_advance_60 (by decide) ?_
      obtain ⟨q1, q2⟩ := zI2 hf
      subst q1
      subst q2
      exact zRetZ hQ hx hb hr hlocks hA0 hK hP hD hS (by decide) rfl dX4_advance_61
    refine zLpS2 (body := fX4_advance_L39) (b := ex) (fun (v11 : Int32) (gp_12 : zM) => ∀ (H : Heap) (locs : List Loc) (ls : Array Slot), va_P D vwCl (wX4 T hgp gp_12) H → va_D A (wX4 T hgp gp_12) → va_S A s.heap H locs → lv_has ls 3 [(0, .ref (hgp 0)), (2, .int v11)] → W p l e rX4_advance s m args below meth c H locs 0 0 Q (F0 m 39 ls [])) ?_ zFU v10 gp_9 hlp H locs ls hP hD hS (lv_sub hl [1, 0] rfl)
    intro v11 gp_12 z hf hzz H locs ls hP hD hS hl
    unfold fX4_advance_L39 at hf
    replace hf := zUk2 hf
    refine lv_iload_n hx hb dX4_advance_39 rfl (lv_at hl 1 rfl) ?_
    refine lv_aload_n hx hb dX4_advance_40 rfl (lv_at hl 0 rfl) ?_
    refine zGet (ci := 4) (C := RX4) (F := TX4) (N := 2) (v := .int (gp_12 0 1)) hx hb hts hiX4 hown hK hP 0 1 1 rfl rfl (by decide) rfl rfl rfl dX4_advance_41 ?_
    refine lv_icmp_ge (tgt := 60) hx hb dX4_advance_44 (by decide) (fun hc => ?_) (fun hc => ?_)
    · replace hf := zIf_t hc hf
      cases hf
      exact hE39_60 gp_12 hzz.symm H locs ls hP hD hS (lv_sub hl [] rfl)
    · replace hf := zIf_f hc hf
      refine lv_aload_n hx hb dX4_advance_47 rfl (lv_at hl 0 rfl) ?_
      refine zGet (ci := 4) (C := RX4) (F := TX4) (N := 2) (v := .ref (hgp 1)) hx hb hts hiX4 hown hK hP 0 0 2 rfl rfl (by decide) rfl rfl rfl dX4_advance_48 ?_
      refine lv_iload_n hx hb dX4_advance_51 rfl (lv_at hl 1 rfl) ?_
      refine lv_iconst (v := 0) hx hb dX4_advance_52 (by decide) ?_
      obtain ⟨hg, hf⟩ := zGd_ok hf
      refine zAstI (w := gp_12) hx hb hK hP hD hS (fun g => wX4 T hgp g) 1 1 rfl hg rfl dX4_advance_53 (fun gp_14 egp_14 H locs hP hD hS => ?_)
      replace hP : va_P D vwCl (wX4 T hgp gp_14) H := hP
      replace hD : va_D A (wX4 T hgp gp_14) := hD
      replace hf := zLt_at egp_14 hf
      obtain ⟨v15, ev15⟩ : ∃ y : Int32, y = v11 + 1 := ⟨_, rfl⟩
      replace hf := zLt_at ev15 hf
      refine lv_iinc (v := v15) (lv' := [(2, .int v15), (0, .ref (hgp 0))]) hx hb dX4_advance_54 hl (k := 1) rfl (by rw [ev15]; rfl) (by decide) rfl (fun ls hl => ?_)
      refine lv_goto (tgt := 39) hx hb dX4_advance_57 (by decide) ?_
      cases hf
      exact hzz H locs ls hP hD hS (lv_sub hl [1, 0] rfl)
  refine zLpS1 (body := (fX4_advance_L7 gp)) (b := ex) (fun (v2 : Int32) => ∀ (H : Heap) (locs : List Loc) (ls : Array Slot), va_P D vwCl (wX4 T hgp gp) H → va_D A (wX4 T hgp gp) → va_S A s.heap H locs → lv_has ls 3 [(0, .ref (hgp 0)), (1, .int v2)] → W p l e rX4_advance s m args below meth c H locs 0 0 Q (F0 m 7 ls [])) ?_ zFU v1 hlp H locs ls hP hD hS (lv_sub hl [1, 0] rfl)
  intro v2 z hf hzz H locs ls hP hD hS hl
  unfold fX4_advance_L7 at hf
  replace hf := zUk1 hf
  refine lv_iload_n hx hb dX4_advance_7 rfl (lv_at hl 1 rfl) ?_
  refine lv_if_le (tgt := 68) hx hb dX4_advance_8 (by decide) (fun hc => ?_) (fun hc => ?_)
  · replace hf := zIf_t hc hf
    cases hf
    exact hE7_68 hzz.symm H locs ls hP hD hS (lv_sub hl [] rfl)
  · replace hf := zIf_f hc hf
    refine lv_aload_n hx hb dX4_advance_11 rfl (lv_at hl 0 rfl) ?_
    refine zGet (ci := 4) (C := RX4) (F := TX4) (N := 2) (v := .ref (hgp 1)) hx hb hts hiX4 hown hK hP 0 0 2 rfl rfl (by decide) rfl rfl rfl dX4_advance_12 ?_
    refine lv_iload_n hx hb dX4_advance_15 rfl (lv_at hl 1 rfl) ?_
    obtain ⟨hg, hf⟩ := zGd_ok hf
    refine zAldI hx hb hK hP 1 rfl hg dX4_advance_16 (fun v4 ev4 => ?_)
    replace hf := zLt_at ev4 hf
    refine lv_aload_n hx hb dX4_advance_17 rfl (lv_at hl 0 rfl) ?_
    refine lv_iload_n hx hb dX4_advance_18 rfl (lv_at hl 1 rfl) ?_
    obtain ⟨v5, hc19, hf⟩ := zB1_ok hf
    refine zCallVEI [.int v2] ⟨hx, hb, hml, hown, hts⟩ (pX4_unusedBefore l D T X hgp H.size gp v2 v5 hc19) (cwV 1 hts gX4_advance_X4_unusedBefore rfl rfl rfl (by decide +kernel) ⟨Nat.le_of_ble_eq_true rfl, Nat.le_of_ble_eq_true rfl⟩) hK hP hD hS hA hX 0 rfl rfl rfl hl.1 rfl (Nat.le_of_ble_eq_true rfl) dX4_advance_19 ⟨Nat.zero_le _, Nat.zero_le _⟩ (fun H locs hP hD hS => ?_)
    refine lv_icmp_ge (tgt := 62) hx hb dX4_advance_22 (by decide) (fun hc => ?_) (fun hc => ?_)
    · replace hf := zIf_t hc hf
      obtain ⟨v6, ev6⟩ : ∃ y : Int32, y = v2 + (-1) := ⟨_, rfl⟩
      replace hf := zLt_at ev6 hf
      refine lv_iinc (v := v6) (lv' := [(1, .int v6), (0, .ref (hgp 0))]) hx hb dX4_advance_62 hl (k := 1) rfl (by rw [ev6]; rfl) (by decide) rfl (fun ls hl => ?_)
      refine lv_goto (tgt := 7) hx hb dX4_advance_65 (by decide) ?_
      cases hf
      exact hzz H locs ls hP hD hS (lv_sub hl [1, 0] rfl)
    · replace hf := zIf_f hc hf
      cases hf
      exact hE7_25 v2 hzz.symm H locs ls hP hD hS hl
set_option maxHeartbeats 4000000 in
set_option maxRecDepth 100000 in
theorem pX4_holds (l : Launch) (D : va_G) (T : Nat → ClassId) (X : zFP) (hgp : Nat → Nat) (sz : Nat) (gp : zM) (a1 : Int32) (r : Int32) (hf : fX4_holds gp a1 = some r) : Met l yX4_holds wsX4_holds rX4_holds (zPre D T X [.ref (hgp 0), .int a1] (wX4 T hgp gp) sz) (zQi D T r (wX4 T hgp gp) (wX4 T hgp gp) sz) 0 0 (va_A (wX4 T hgp gp) sz) := by
  unfold fX4_holds at hf
  refine zStart [(0, .ref (hgp 0)), (1, .int a1)] (by decide) rfl (Nat.le_of_ble_eq_true rfl) rfl ?_
  intro p e s m args below meth c A Q ls hx hb hr hml hown hlocks hts hsz hA0 hQ hA hK hX hP hD hS hl
  replace hown : s.vm.findClass RX4 = some m.cls := hown
  have hH := hsz
  have hiX4 : ∀ w ∈ u_ws RX4 TX4 2, w ∈ wsX4_holds := fun w h => List.mem_cons_of_mem _ (List.mem_append_right _ (h))
  obtain ⟨H, hHe⟩ : ∃ H : Heap, H = s.heap := ⟨_, rfl⟩
  obtain ⟨locs, hLe⟩ : ∃ L : List Loc, L = [] := ⟨_, rfl⟩
  replace hP : va_P D vwCl (wX4 T hgp gp) H := by rw [hHe]; exact hP
  replace hS : va_S A s.heap H locs := by rw [hHe, hLe]; exact hS
  suffices hgo : W p l e rX4_holds s m args below meth c H locs 0 0 Q (F0 m 0 ls []) by rw [hHe, hLe] at hgo; exact hgo
  clear hHe hLe
  refine lv_iconst (v := 0) hx hb dX4_holds_0 (by decide) ?_
  refine lv_istore_n (lv' := [(2, .int 0), (0, .ref (hgp 0)), (1, .int a1)]) hx hb dX4_holds_1 rfl hl (by decide) rfl (fun ls hl => ?_)
  obtain ⟨ex, hlp, hf⟩ := zB1_ok hf
  have hE2_59 : ex = (.inl ()) → ∀ (H : Heap) (locs : List Loc) (ls : Array Slot), va_P D vwCl (wX4 T hgp gp) H → va_D A (wX4 T hgp gp) → va_S A s.heap H locs → lv_has ls 5 [] → W p l e rX4_holds s m args below meth c H locs 0 0 Q (F0 m 59 ls []) := by
    intro hex H locs ls hP hD hS hl
    have hf := zExL0 hex hf
    refine lv_iconst (v := 1) hx hb dX4_holds_59 (by decide) ?_
    obtain ⟨q1, -⟩ := zI1 hf
    subst q1
    exact zRetZ hQ hx hb hr hlocks hA0 hK hP hD hS (by decide) rfl dX4_holds_60
  have hE2_51 : ex = (.inr ()) → ∀ (H : Heap) (locs : List Loc) (ls : Array Slot), va_P D vwCl (wX4 T hgp gp) H → va_D A (wX4 T hgp gp) → va_S A s.heap H locs → lv_has ls 5 [] → W p l e rX4_holds s m args below meth c H locs 0 0 Q (F0 m 51 ls []) := by
    intro hex H locs ls hP hD hS hl
    have hf := zSmR hex hf
    have hf := zEx0 rfl hf
    refine lv_iconst (v := 0) hx hb dX4_holds_51 (by decide) ?_
    obtain ⟨q1, -⟩ := zI1 hf
    subst q1
    exact zRetZ hQ hx hb hr hlocks hA0 hK hP hD hS (by decide) rfl dX4_holds_52
  refine zLpS1 (body := (fX4_holds_L2 a1 gp)) (b := ex) (fun (v1 : Int32) => ∀ (H : Heap) (locs : List Loc) (ls : Array Slot), va_P D vwCl (wX4 T hgp gp) H → va_D A (wX4 T hgp gp) → va_S A s.heap H locs → lv_has ls 5 [(0, .ref (hgp 0)), (1, .int a1), (2, .int v1)] → W p l e rX4_holds s m args below meth c H locs 0 0 Q (F0 m 2 ls [])) ?_ zFU 0 hlp H locs ls hP hD hS (lv_sub hl [1, 2, 0] rfl)
  intro v1 z hf hzz H locs ls hP hD hS hl
  unfold fX4_holds_L2 at hf
  replace hf := zUk1 hf
  refine lv_iload_n hx hb dX4_holds_2 rfl (lv_at hl 2 rfl) ?_
  refine lv_aload_n hx hb dX4_holds_3 rfl (lv_at hl 0 rfl) ?_
  refine zGet (ci := 4) (C := RX4) (F := TX4) (N := 2) (v := .int (gp 0 1)) hx hb hts hiX4 hown hK hP 0 1 1 rfl rfl (by decide) rfl rfl rfl dX4_holds_4 ?_
  refine lv_icmp_ge (tgt := 59) hx hb dX4_holds_7 (by decide) (fun hc => ?_) (fun hc => ?_)
  · replace hf := zIf_t hc hf
    cases hf
    exact hE2_59 hzz.symm H locs ls hP hD hS (lv_sub hl [] rfl)
  · replace hf := zIf_f hc hf
    refine lv_iconst (v := 1) hx hb dX4_holds_10 (by decide) ?_
    refine lv_istore_n (lv' := [(3, .int 1), (0, .ref (hgp 0)), (1, .int a1), (2, .int v1)]) hx hb dX4_holds_11 rfl hl (by decide) rfl (fun ls hl => ?_)
    refine lv_iconst (v := 0) hx hb dX4_holds_12 (by decide) ?_
    refine lv_istore (lv' := [(4, .int 0), (3, .int 1), (0, .ref (hgp 0)), (1, .int a1), (2, .int v1)]) hx hb dX4_holds_13 hl (by decide) rfl (fun ls hl => ?_)
    obtain ⟨ex, hlp, hf⟩ := zB1_ok hf
    have hE15_46 : ∀ (v4 : Int32) , ex = v4 → ∀ (H : Heap) (locs : List Loc) (ls : Array Slot), va_P D vwCl (wX4 T hgp gp) H → va_D A (wX4 T hgp gp) → va_S A s.heap H locs → lv_has ls 5 [(0, .ref (hgp 0)), (1, .int a1), (2, .int v1), (3, .int v4)] → W p l e rX4_holds s m args below meth c H locs 0 0 Q (F0 m 46 ls []) := by
      intro v4 hex H locs ls hP hD hS hl
      have hf := zEx1 hex hf
      refine lv_iload_n hx hb dX4_holds_46 rfl (lv_at hl 3 rfl) ?_
      refine lv_iload_n hx hb dX4_holds_47 rfl (lv_at hl 1 rfl) ?_
      refine lv_icmp_le (tgt := 53) hx hb dX4_holds_48 (by decide) (fun hc => ?_) (fun hc => ?_)
      · replace hf := zIf_t hc hf
        obtain ⟨v10, ev10⟩ : ∃ y : Int32, y = v1 + 1 := ⟨_, rfl⟩
        replace hf := zLt_at ev10 hf
        refine lv_iinc (v := v10) (lv' := [(2, .int v10), (0, .ref (hgp 0)), (1, .int a1), (3, .int v4)]) hx hb dX4_holds_53 hl (k := 2) rfl (by rw [ev10]; rfl) (by decide) rfl (fun ls hl => ?_)
        refine lv_goto (tgt := 2) hx hb dX4_holds_56 (by decide) ?_
        cases hf
        exact hzz H locs ls hP hD hS (lv_sub hl [1, 2, 0] rfl)
      · replace hf := zIf_f hc hf
        cases hf
        exact hE2_51 hzz.symm H locs ls hP hD hS (lv_sub hl [] rfl)
    refine zLpS2 (body := (fX4_holds_L15 gp v1)) (b := ex) (fun (v2 : Int32) (v3 : Int32) => ∀ (H : Heap) (locs : List Loc) (ls : Array Slot), va_P D vwCl (wX4 T hgp gp) H → va_D A (wX4 T hgp gp) → va_S A s.heap H locs → lv_has ls 5 [(0, .ref (hgp 0)), (1, .int a1), (2, .int v1), (3, .int v2), (4, .int v3)] → W p l e rX4_holds s m args below meth c H locs 0 0 Q (F0 m 15 ls [])) ?_ zFU 1 0 hlp H locs ls hP hD hS (lv_sub hl [2, 3, 4, 1, 0] rfl)
    intro v2 v3 z hf hzz H locs ls hP hD hS hl
    unfold fX4_holds_L15 at hf
    replace hf := zUk2 hf
    refine lv_iload hx hb dX4_holds_15 (lv_at hl 4 rfl) ?_
    refine lv_iload_n hx hb dX4_holds_17 rfl (lv_at hl 2 rfl) ?_
    refine lv_icmp_ge (tgt := 46) hx hb dX4_holds_18 (by decide) (fun hc => ?_) (fun hc => ?_)
    · replace hf := zIf_t hc hf
      cases hf
      exact hE15_46 v2 hzz.symm H locs ls hP hD hS (lv_sub hl [0, 1, 2, 3] rfl)
    · replace hf := zIf_f hc hf
      refine lv_aload_n hx hb dX4_holds_21 rfl (lv_at hl 0 rfl) ?_
      refine zGet (ci := 4) (C := RX4) (F := TX4) (N := 2) (v := .ref (hgp 1)) hx hb hts hiX4 hown hK hP 0 0 2 rfl rfl (by decide) rfl rfl rfl dX4_holds_22 ?_
      refine lv_iload hx hb dX4_holds_25 (lv_at hl 4 rfl) ?_
      obtain ⟨hg, hf⟩ := zGd_ok hf
      refine zAldI hx hb hK hP 1 rfl hg dX4_holds_27 (fun v5 ev5 => ?_)
      replace hf := zLt_at ev5 hf
      refine lv_aload_n hx hb dX4_holds_28 rfl (lv_at hl 0 rfl) ?_
      refine zGet (ci := 4) (C := RX4) (F := TX4) (N := 2) (v := .ref (hgp 1)) hx hb hts hiX4 hown hK hP 0 0 2 rfl rfl (by decide) rfl rfl rfl dX4_holds_29 ?_
      refine lv_iload_n hx hb dX4_holds_32 rfl (lv_at hl 2 rfl) ?_
      obtain ⟨hg, hf⟩ := zGd_ok hf
      refine zAldI hx hb hK hP 1 rfl hg dX4_holds_33 (fun v6 ev6 => ?_)
      replace hf := zLt_at ev6 hf
      have hJ40 : ∀ (v7 : Int32) (H : Heap) (locs : List Loc) (ls : Array Slot), fX4_holds_L15J40 v3 v7 = some z → va_P D vwCl (wX4 T hgp gp) H → va_D A (wX4 T hgp gp) → va_S A s.heap H locs → lv_has ls 5 [(0, .ref (hgp 0)), (1, .int a1), (2, .int v1), (3, .int v7), (4, .int v3)] → W p l e rX4_holds s m args below meth c H locs 0 0 Q (F0 m 40 ls []) := by
        intro v7 H locs ls hf hP hD hS hl
        unfold fX4_holds_L15J40 at hf
        obtain ⟨v8, ev8⟩ : ∃ y : Int32, y = v3 + 1 := ⟨_, rfl⟩
        replace hf := zLt_at ev8 hf
        refine lv_iinc (v := v8) (lv' := [(4, .int v8), (0, .ref (hgp 0)), (1, .int a1), (2, .int v1), (3, .int v7)]) hx hb dX4_holds_40 hl (k := 4) rfl (by rw [ev8]; rfl) (by decide) rfl (fun ls hl => ?_)
        refine lv_goto (tgt := 15) hx hb dX4_holds_43 (by decide) ?_
        cases hf
        exact hzz H locs ls hP hD hS (lv_sub hl [1, 2, 3, 4, 0] rfl)
      refine lv_icmp_ne (tgt := 40) hx hb dX4_holds_34 (by decide) (fun hc => ?_) (fun hc => ?_)
      · replace hf := zIf_f hc hf
        exact hJ40 v2 H locs ls hf hP hD hS hl
      · replace hf := zIf_t hc hf
        obtain ⟨v9, ev9⟩ : ∃ y : Int32, y = v2 + 1 := ⟨_, rfl⟩
        replace hf := zLt_at ev9 hf
        refine lv_iinc (v := v9) (lv' := [(3, .int v9), (0, .ref (hgp 0)), (1, .int a1), (2, .int v1), (4, .int v3)]) hx hb dX4_holds_37 hl (k := 3) rfl (by rw [ev9]; rfl) (by decide) rfl (fun ls hl => ?_)
        exact hJ40 v9 H locs ls hf hP hD hS (lv_sub hl [1, 2, 3, 0, 4] rfl)
set_option maxHeartbeats 4000000 in
set_option maxRecDepth 100000 in
theorem pX4_isWithin (l : Launch) (D : va_G) (T : Nat → ClassId) (X : zFP) (hgp : Nat → Nat) (hgw : Nat → Nat) (sz : Nat) (gp : zM) (gw : zM) (a2 : Int32) (r : Int32) (hf : fX4_isWithin gp gw a2 = some r) : Met l yX4_isWithin wsX4_isWithin rX4_isWithin (zPre D T X [.ref (hgp 0), .ref (hgw 0), .int a2] (wX4 T hgp gp ++ wX8 T hgw gw) sz) (zQi D T r (wX4 T hgp gp ++ wX8 T hgw gw) (wX4 T hgp gp ++ wX8 T hgw gw) sz) 0 0 (va_A (wX4 T hgp gp ++ wX8 T hgw gw) sz) := by
  unfold fX4_isWithin at hf
  refine zStart [(0, .ref (hgp 0)), (1, .ref (hgw 0)), (2, .int a2)] (by decide) rfl (Nat.le_of_ble_eq_true rfl) rfl ?_
  intro p e s m args below meth c A Q ls hx hb hr hml hown hlocks hts hsz hA0 hQ hA hK hX hP hD hS hl
  replace hown : s.vm.findClass RX4 = some m.cls := hown
  have hH := hsz
  have hiX4 : ∀ w ∈ u_ws RX4 TX4 2, w ∈ wsX4_isWithin := fun w h => List.mem_cons_of_mem _ (List.mem_append_left _ (List.mem_append_right _ (h)))
  have hiX8 : ∀ w ∈ u_ws RX8 TX8 14, w ∈ wsX4_isWithin := fun w h => List.mem_cons_of_mem _ (List.mem_append_right _ (h))
  obtain ⟨H, hHe⟩ : ∃ H : Heap, H = s.heap := ⟨_, rfl⟩
  obtain ⟨locs, hLe⟩ : ∃ L : List Loc, L = [] := ⟨_, rfl⟩
  replace hP : va_P D vwCl (wX4 T hgp gp ++ wX8 T hgw gw) H := by rw [hHe]; exact hP
  replace hS : va_S A s.heap H locs := by rw [hHe, hLe]; exact hS
  suffices hgo : W p l e rX4_isWithin s m args below meth c H locs 0 0 Q (F0 m 0 ls []) by rw [hHe, hLe] at hgo; exact hgo
  clear hHe hLe
  refine lv_aload_n hx hb dX4_isWithin_0 rfl (lv_at hl 0 rfl) ?_
  refine zGet (ci := 4) (C := RX4) (F := TX4) (N := 2) (v := .ref (hgp 1)) hx hb hts hiX4 hown hK hP 0 0 1 rfl rfl (by decide) rfl rfl rfl dX4_isWithin_1 ?_
  refine lv_aload_n hx hb dX4_isWithin_4 rfl (lv_at hl 1 rfl) ?_
  refine zGet (ci := 8) (C := RX8) (F := TX8) (N := 14) (v := .ref (hgw 3)) hx hb hts hiX8 hown hK hP 2 4 2 rfl rfl (by decide) rfl rfl rfl dX4_isWithin_5 ?_
  refine lv_iload_n hx hb dX4_isWithin_8 rfl (lv_at hl 2 rfl) ?_
  obtain ⟨hg, hf⟩ := zGd_ok hf
  refine zAldI hx hb hK hP 5 rfl hg dX4_isWithin_9 (fun v1 ev1 => ?_)
  replace hf := zLt_at ev1 hf
  obtain ⟨hg, hf⟩ := zGd_ok hf
  refine zAldI hx hb hK hP 1 rfl hg dX4_isWithin_10 (fun v2 ev2 => ?_)
  replace hf := zLt_at ev2 hf
  refine lv_aload_n hx hb dX4_isWithin_11 rfl (lv_at hl 0 rfl) ?_
  refine zGet (ci := 4) (C := RX4) (F := TX4) (N := 2) (v := .ref (hgp 1)) hx hb hts hiX4 hown hK hP 0 0 1 rfl rfl (by decide) rfl rfl rfl dX4_isWithin_12 ?_
  refine lv_aload_n hx hb dX4_isWithin_15 rfl (lv_at hl 1 rfl) ?_
  refine zGet (ci := 8) (C := RX8) (F := TX8) (N := 14) (v := .ref (hgw 4)) hx hb hts hiX8 hown hK hP 2 5 3 rfl rfl (by decide) rfl rfl rfl dX4_isWithin_16 ?_
  refine lv_iload_n hx hb dX4_isWithin_19 rfl (lv_at hl 2 rfl) ?_
  obtain ⟨hg, hf⟩ := zGd_ok hf
  refine zAldI hx hb hK hP 6 rfl hg dX4_isWithin_20 (fun v3 ev3 => ?_)
  replace hf := zLt_at ev3 hf
  obtain ⟨hg, hf⟩ := zGd_ok hf
  refine zAldI hx hb hK hP 1 rfl hg dX4_isWithin_21 (fun v4 ev4 => ?_)
  replace hf := zLt_at ev4 hf
  refine lv_icmp_ne (tgt := 29) hx hb dX4_isWithin_22 (by decide) (fun hc => ?_) (fun hc => ?_)
  · replace hf := zIf_f hc hf
    refine lv_iconst (v := 0) hx hb dX4_isWithin_29 (by decide) ?_
    obtain ⟨q1, -⟩ := zI1 hf
    subst q1
    exact zRetZ hQ hx hb hr hlocks hA0 hK hP hD hS (by decide) rfl dX4_isWithin_30
  · replace hf := zIf_t hc hf
    refine lv_iconst (v := 1) hx hb dX4_isWithin_25 (by decide) ?_
    refine lv_goto (tgt := 30) hx hb dX4_isWithin_26 (by decide) ?_
    obtain ⟨q1, -⟩ := zI1 hf
    subst q1
    exact zRetZ hQ hx hb hr hlocks hA0 hK hP hD hS (by decide) rfl dX4_isWithin_30
set_option maxHeartbeats 4000000 in
set_option maxRecDepth 100000 in
theorem pX4_cost (l : Launch) (D : va_G) (T : Nat → ClassId) (X : zFP) (hgp : Nat → Nat) (hgw : Nat → Nat) (sz : Nat) (gp : zM) (gw : zM) (a2 : Int32) (r : Int32) (hf : fX4_cost gp gw a2 = some r) : Met l yX4_cost wsX4_cost rX4_cost (zPre D T X [.ref (hgp 0), .ref (hgw 0), .int a2] (wX4 T hgp gp ++ wX8 T hgw gw) sz) (zQi D T r (wX4 T hgp gp ++ wX8 T hgw gw) (wX4 T hgp gp ++ wX8 T hgw gw) sz) 0 0 (va_A (wX4 T hgp gp ++ wX8 T hgw gw) sz) := by
  unfold fX4_cost at hf
  refine zStart [(0, .ref (hgp 0)), (1, .ref (hgw 0)), (2, .int a2)] (by decide) rfl (Nat.le_of_ble_eq_true rfl) rfl ?_
  intro p e s m args below meth c A Q ls hx hb hr hml hown hlocks hts hsz hA0 hQ hA hK hX hP hD hS hl
  replace hown : s.vm.findClass RX4 = some m.cls := hown
  have hH := hsz
  have hiX8 : ∀ w ∈ u_ws RX8 TX8 14, w ∈ wsX4_cost := fun w h => List.mem_cons_of_mem _ (List.mem_append_left _ (List.mem_append_right _ (h)))
  obtain ⟨H, hHe⟩ : ∃ H : Heap, H = s.heap := ⟨_, rfl⟩
  obtain ⟨locs, hLe⟩ : ∃ L : List Loc, L = [] := ⟨_, rfl⟩
  replace hP : va_P D vwCl (wX4 T hgp gp ++ wX8 T hgw gw) H := by rw [hHe]; exact hP
  replace hS : va_S A s.heap H locs := by rw [hHe, hLe]; exact hS
  suffices hgo : W p l e rX4_cost s m args below meth c H locs 0 0 Q (F0 m 0 ls []) by rw [hHe, hLe] at hgo; exact hgo
  clear hHe hLe
  refine lv_iconst (v := 0) hx hb dX4_cost_0 (by decide) ?_
  refine lv_istore_n (lv' := [(3, .int 0), (0, .ref (hgp 0)), (1, .ref (hgw 0)), (2, .int a2)]) hx hb dX4_cost_1 rfl hl (by decide) rfl (fun ls hl => ?_)
  refine lv_iconst (v := 0) hx hb dX4_cost_2 (by decide) ?_
  refine lv_istore (lv' := [(4, .int 0), (3, .int 0), (0, .ref (hgp 0)), (1, .ref (hgw 0)), (2, .int a2)]) hx hb dX4_cost_3 hl (by decide) rfl (fun ls hl => ?_)
  obtain ⟨ex, hlp, hf⟩ := zB1_ok hf
  have hE5_69 : ∀ (v3 : Int32) , ex = (.inl v3) → ∀ (H : Heap) (locs : List Loc) (ls : Array Slot), va_P D vwCl (wX4 T hgp gp ++ wX8 T hgw gw) H → va_D A (wX4 T hgp gp ++ wX8 T hgw gw) → va_S A s.heap H locs → lv_has ls 5 [(3, .int v3)] → W p l e rX4_cost s m args below meth c H locs 0 0 Q (F0 m 69 ls []) := by
    intro v3 hex H locs ls hP hD hS hl
    have hf := zExL1 hex hf
    refine lv_iload_n hx hb dX4_cost_69 rfl (lv_at hl 0 rfl) ?_
    obtain ⟨q1, -⟩ := zI1 hf
    subst q1
    exact zRetI hQ hx hb hr hlocks hA0 hK hP hD hS rfl dX4_cost_70
  have hE5_46 : ex = (.inr ()) → ∀ (H : Heap) (locs : List Loc) (ls : Array Slot), va_P D vwCl (wX4 T hgp gp ++ wX8 T hgw gw) H → va_D A (wX4 T hgp gp ++ wX8 T hgw gw) → va_S A s.heap H locs → lv_has ls 5 [] → W p l e rX4_cost s m args below meth c H locs 0 0 Q (F0 m 46 ls []) := by
    intro hex H locs ls hP hD hS hl
    have hf := zSmR hex hf
    have hf := zEx0 rfl hf
    refine lv_bipush (v := (-3)) hx hb dX4_cost_46 (by decide) ?_
    obtain ⟨q1, -⟩ := zI1 hf
    subst q1
    exact zRetI hQ hx hb hr hlocks hA0 hK hP hD hS rfl dX4_cost_48
  refine zLpS2 (body := (fX4_cost_L5 a2 gp gw)) (b := ex) (fun (v1 : Int32) (v2 : Int32) => ∀ (H : Heap) (locs : List Loc) (ls : Array Slot), va_P D vwCl (wX4 T hgp gp ++ wX8 T hgw gw) H → va_D A (wX4 T hgp gp ++ wX8 T hgw gw) → va_S A s.heap H locs → lv_has ls 5 [(0, .ref (hgp 0)), (1, .ref (hgw 0)), (2, .int a2), (3, .int v1), (4, .int v2)] → W p l e rX4_cost s m args below meth c H locs 0 0 Q (F0 m 5 ls [])) ?_ zFU 0 0 hlp H locs ls hP hD hS (lv_sub hl [2, 3, 4, 1, 0] rfl)
  intro v1 v2 z hf hzz H locs ls hP hD hS hl
  unfold fX4_cost_L5 at hf
  replace hf := zUk2 hf
  refine lv_iload hx hb dX4_cost_5 (lv_at hl 4 rfl) ?_
  refine lv_aload_n hx hb dX4_cost_7 rfl (lv_at hl 1 rfl) ?_
  refine zGet (ci := 8) (C := RX8) (F := TX8) (N := 14) (v := .int (gw 0 3)) hx hb hts hiX8 hown hK hP 2 3 1 rfl rfl (by decide) rfl rfl rfl dX4_cost_8 ?_
  refine lv_icmp_ge (tgt := 69) hx hb dX4_cost_11 (by decide) (fun hc => ?_) (fun hc => ?_)
  · replace hf := zIf_t hc hf
    cases hf
    exact hE5_69 v1 hzz.symm H locs ls hP hD hS (lv_sub hl [3] rfl)
  · replace hf := zIf_f hc hf
    refine lv_iload_n hx hb dX4_cost_14 rfl (lv_at hl 2 rfl) ?_
    refine lv_iload hx hb dX4_cost_15 (lv_at hl 4 rfl) ?_
    refine lv_ishr hx hb dX4_cost_17 ?_
    refine lv_iconst (v := 1) hx hb dX4_cost_18 (by decide) ?_
    refine lv_iand hx hb dX4_cost_19 ?_
    have hJ63 : ∀ (v4 : Int32) (H : Heap) (locs : List Loc) (ls : Array Slot), fX4_cost_L5J63 v2 v4 = some z → va_P D vwCl (wX4 T hgp gp ++ wX8 T hgw gw) H → va_D A (wX4 T hgp gp ++ wX8 T hgw gw) → va_S A s.heap H locs → lv_has ls 5 [(0, .ref (hgp 0)), (1, .ref (hgw 0)), (2, .int a2), (3, .int v4), (4, .int v2)] → W p l e rX4_cost s m args below meth c H locs 0 0 Q (F0 m 63 ls []) := by
      intro v4 H locs ls hf hP hD hS hl
      unfold fX4_cost_L5J63 at hf
      obtain ⟨v5, ev5⟩ : ∃ y : Int32, y = v2 + 1 := ⟨_, rfl⟩
      replace hf := zLt_at ev5 hf
      refine lv_iinc (v := v5) (lv' := [(4, .int v5), (0, .ref (hgp 0)), (1, .ref (hgw 0)), (2, .int a2), (3, .int v4)]) hx hb dX4_cost_63 hl (k := 4) rfl (by rw [ev5]; rfl) (by decide) rfl (fun ls hl => ?_)
      refine lv_goto (tgt := 5) hx hb dX4_cost_66 (by decide) ?_
      cases hf
      exact hzz H locs ls hP hD hS (lv_sub hl [1, 2, 3, 4, 0] rfl)
    refine lv_if_eq (tgt := 63) hx hb dX4_cost_20 (by decide) (fun hc => ?_) (fun hc => ?_)
    · replace hf := zIf_t hc hf
      exact hJ63 v1 H locs ls hf hP hD hS hl
    · replace hf := zIf_f hc hf
      refine lv_aload_n hx hb dX4_cost_23 rfl (lv_at hl 0 rfl) ?_
      refine lv_aload_n hx hb dX4_cost_24 rfl (lv_at hl 1 rfl) ?_
      refine lv_iload hx hb dX4_cost_25 (lv_at hl 4 rfl) ?_
      obtain ⟨v6, hc27, hf⟩ := zB1_ok hf
      refine zCallVEI [.ref (hgw 0), .int v2] ⟨hx, hb, hml, hown, hts⟩ (pX4_isWithin l D T X hgp hgw H.size gp gw v2 v6 hc27) (cwV 2 hts gX4_cost_X4_isWithin rfl rfl rfl (by decide +kernel) ⟨Nat.le_of_ble_eq_true rfl, Nat.le_of_ble_eq_true rfl⟩) hK hP hD hS hA hX 0 rfl rfl rfl hl.1 rfl (Nat.le_of_ble_eq_true rfl) dX4_cost_27 ⟨Nat.zero_le _, Nat.zero_le _⟩ (fun H locs hP hD hS => ?_)
      refine lv_if_eq (tgt := 36) hx hb dX4_cost_30 (by decide) (fun hc => ?_) (fun hc => ?_)
      · replace hf := zIf_t hc hf
        refine lv_aload_n hx hb dX4_cost_36 rfl (lv_at hl 1 rfl) ?_
        refine zGet (ci := 8) (C := RX8) (F := TX8) (N := 14) (v := .ref (hgw 7)) hx hb hts hiX8 hown hK hP 2 8 2 rfl rfl (by decide) rfl rfl rfl dX4_cost_37 ?_
        refine lv_iload hx hb dX4_cost_40 (lv_at hl 4 rfl) ?_
        obtain ⟨hg, hf⟩ := zGd_ok hf
        refine zAldZ hx hb hK hP 9 rfl hg dX4_cost_42 (fun v7 ev7 => ?_)
        replace hf := zLt_at ev7 hf
        refine lv_if_eq (tgt := 49) hx hb dX4_cost_43 (by decide) (fun hc => ?_) (fun hc => ?_)
        · replace hf := zIf_t hc hf
          refine lv_iload_n hx hb dX4_cost_49 rfl (lv_at hl 3 rfl) ?_
          refine lv_sipush (v := 2048) hx hb dX4_cost_50 (by decide) ?_
          refine lv_aload_n hx hb dX4_cost_53 rfl (lv_at hl 1 rfl) ?_
          refine zGet (ci := 8) (C := RX8) (F := TX8) (N := 14) (v := .ref (hgw 5)) hx hb hts hiX8 hown hK hP 2 6 3 rfl rfl (by decide) rfl rfl rfl dX4_cost_54 ?_
          refine lv_iload hx hb dX4_cost_57 (lv_at hl 4 rfl) ?_
          obtain ⟨hg, hf⟩ := zGd_ok hf
          refine zAldI hx hb hK hP 7 rfl hg dX4_cost_59 (fun v8 ev8 => ?_)
          replace hf := zLt_at ev8 hf
          refine lv_iadd hx hb dX4_cost_60 ?_
          refine lv_iadd hx hb dX4_cost_61 ?_
          refine lv_topi (fun v9 ev9 => ?_)
          replace hf := zLt_at ev9 hf
          refine lv_istore_n (lv' := [(3, .int v9), (0, .ref (hgp 0)), (1, .ref (hgw 0)), (2, .int a2), (4, .int v2)]) hx hb dX4_cost_62 rfl hl (by decide) rfl (fun ls hl => ?_)
          exact hJ63 v9 H locs ls hf hP hD hS (lv_sub hl [1, 2, 3, 0, 4] rfl)
        · replace hf := zIf_f hc hf
          cases hf
          exact hE5_46 hzz.symm H locs ls hP hD hS (lv_sub hl [] rfl)
      · replace hf := zIf_f hc hf
        refine lv_goto (tgt := 63) hx hb dX4_cost_33 (by decide) ?_
        exact hJ63 v1 H locs ls hf hP hD hS hl
set_option maxHeartbeats 4000000 in
set_option maxRecDepth 100000 in
theorem pX4_worthWithin (l : Launch) (D : va_G) (T : Nat → ClassId) (X : zFP) (hgp : Nat → Nat) (hgw : Nat → Nat) (sz : Nat) (gp : zM) (gw : zM) (r : Int32) (hf : fX4_worthWithin gp gw = some r) : Met l yX4_worthWithin wsX4_worthWithin rX4_worthWithin (zPre D T X [.ref (hgp 0), .ref (hgw 0)] (wX4 T hgp gp ++ wX8 T hgw gw) sz) (zQi D T r (wX4 T hgp gp ++ wX8 T hgw gw) (wX4 T hgp gp ++ wX8 T hgw gw) sz) 0 0 (va_A (wX4 T hgp gp ++ wX8 T hgw gw) sz) := by
  unfold fX4_worthWithin at hf
  refine zStart [(0, .ref (hgp 0)), (1, .ref (hgw 0))] (by decide) rfl (Nat.le_of_ble_eq_true rfl) rfl ?_
  intro p e s m args below meth c A Q ls hx hb hr hml hown hlocks hts hsz hA0 hQ hA hK hX hP hD hS hl
  replace hown : s.vm.findClass RX4 = some m.cls := hown
  have hH := hsz
  have hiX8 : ∀ w ∈ u_ws RX8 TX8 14, w ∈ wsX4_worthWithin := fun w h => List.mem_cons_of_mem _ (List.mem_append_left _ (List.mem_append_right _ (h)))
  obtain ⟨H, hHe⟩ : ∃ H : Heap, H = s.heap := ⟨_, rfl⟩
  obtain ⟨locs, hLe⟩ : ∃ L : List Loc, L = [] := ⟨_, rfl⟩
  replace hP : va_P D vwCl (wX4 T hgp gp ++ wX8 T hgw gw) H := by rw [hHe]; exact hP
  replace hS : va_S A s.heap H locs := by rw [hHe, hLe]; exact hS
  suffices hgo : W p l e rX4_worthWithin s m args below meth c H locs 0 0 Q (F0 m 0 ls []) by rw [hHe, hLe] at hgo; exact hgo
  clear hHe hLe
  refine lv_iconst (v := 0) hx hb dX4_worthWithin_0 (by decide) ?_
  refine lv_istore_n (lv' := [(2, .int 0), (0, .ref (hgp 0)), (1, .ref (hgw 0))]) hx hb dX4_worthWithin_1 rfl hl (by decide) rfl (fun ls hl => ?_)
  refine lv_iconst (v := 0) hx hb dX4_worthWithin_2 (by decide) ?_
  refine lv_istore_n (lv' := [(3, .int 0), (2, .int 0), (0, .ref (hgp 0)), (1, .ref (hgw 0))]) hx hb dX4_worthWithin_3 rfl hl (by decide) rfl (fun ls hl => ?_)
  obtain ⟨ex, hlp, hf⟩ := zB1_ok hf
  have hE4_36 : ∀ (v3 : Int32) , ex = v3 → ∀ (H : Heap) (locs : List Loc) (ls : Array Slot), va_P D vwCl (wX4 T hgp gp ++ wX8 T hgw gw) H → va_D A (wX4 T hgp gp ++ wX8 T hgw gw) → va_S A s.heap H locs → lv_has ls 4 [(2, .int v3)] → W p l e rX4_worthWithin s m args below meth c H locs 0 0 Q (F0 m 36 ls []) := by
    intro v3 hex H locs ls hP hD hS hl
    have hf := zEx1 hex hf
    refine lv_iload_n hx hb dX4_worthWithin_36 rfl (lv_at hl 0 rfl) ?_
    obtain ⟨q1, -⟩ := zI1 hf
    subst q1
    exact zRetI hQ hx hb hr hlocks hA0 hK hP hD hS rfl dX4_worthWithin_37
  refine zLpS2 (body := (fX4_worthWithin_L4 gp gw)) (b := ex) (fun (v1 : Int32) (v2 : Int32) => ∀ (H : Heap) (locs : List Loc) (ls : Array Slot), va_P D vwCl (wX4 T hgp gp ++ wX8 T hgw gw) H → va_D A (wX4 T hgp gp ++ wX8 T hgw gw) → va_S A s.heap H locs → lv_has ls 4 [(0, .ref (hgp 0)), (1, .ref (hgw 0)), (2, .int v1), (3, .int v2)] → W p l e rX4_worthWithin s m args below meth c H locs 0 0 Q (F0 m 4 ls [])) ?_ zFU 0 0 hlp H locs ls hP hD hS (lv_sub hl [2, 3, 1, 0] rfl)
  intro v1 v2 z hf hzz H locs ls hP hD hS hl
  unfold fX4_worthWithin_L4 at hf
  replace hf := zUk2 hf
  refine lv_iload_n hx hb dX4_worthWithin_4 rfl (lv_at hl 3 rfl) ?_
  refine lv_aload_n hx hb dX4_worthWithin_5 rfl (lv_at hl 1 rfl) ?_
  refine zGet (ci := 8) (C := RX8) (F := TX8) (N := 14) (v := .int (gw 0 3)) hx hb hts hiX8 hown hK hP 2 3 1 rfl rfl (by decide) rfl rfl rfl dX4_worthWithin_6 ?_
  refine lv_icmp_ge (tgt := 36) hx hb dX4_worthWithin_9 (by decide) (fun hc => ?_) (fun hc => ?_)
  · replace hf := zIf_t hc hf
    cases hf
    exact hE4_36 v1 hzz.symm H locs ls hP hD hS (lv_sub hl [2] rfl)
  · replace hf := zIf_f hc hf
    refine lv_aload_n hx hb dX4_worthWithin_12 rfl (lv_at hl 0 rfl) ?_
    refine lv_aload_n hx hb dX4_worthWithin_13 rfl (lv_at hl 1 rfl) ?_
    refine lv_iload_n hx hb dX4_worthWithin_14 rfl (lv_at hl 3 rfl) ?_
    obtain ⟨v4, hc15, hf⟩ := zB1_ok hf
    refine zCallVEI [.ref (hgw 0), .int v2] ⟨hx, hb, hml, hown, hts⟩ (pX4_isWithin l D T X hgp hgw H.size gp gw v2 v4 hc15) (cwV 2 hts gX4_worthWithin_X4_isWithin rfl rfl rfl (by decide +kernel) ⟨Nat.le_of_ble_eq_true rfl, Nat.le_of_ble_eq_true rfl⟩) hK hP hD hS hA hX 0 rfl rfl rfl hl.1 rfl (Nat.le_of_ble_eq_true rfl) dX4_worthWithin_15 ⟨Nat.zero_le _, Nat.zero_le _⟩ (fun H locs hP hD hS => ?_)
    have hJ30 : ∀ (v5 : Int32) (H : Heap) (locs : List Loc) (ls : Array Slot), fX4_worthWithin_L4J30 v2 v5 = some z → va_P D vwCl (wX4 T hgp gp ++ wX8 T hgw gw) H → va_D A (wX4 T hgp gp ++ wX8 T hgw gw) → va_S A s.heap H locs → lv_has ls 4 [(0, .ref (hgp 0)), (1, .ref (hgw 0)), (2, .int v5), (3, .int v2)] → W p l e rX4_worthWithin s m args below meth c H locs 0 0 Q (F0 m 30 ls []) := by
      intro v5 H locs ls hf hP hD hS hl
      unfold fX4_worthWithin_L4J30 at hf
      obtain ⟨v6, ev6⟩ : ∃ y : Int32, y = v2 + 1 := ⟨_, rfl⟩
      replace hf := zLt_at ev6 hf
      refine lv_iinc (v := v6) (lv' := [(3, .int v6), (0, .ref (hgp 0)), (1, .ref (hgw 0)), (2, .int v5)]) hx hb dX4_worthWithin_30 hl (k := 3) rfl (by rw [ev6]; rfl) (by decide) rfl (fun ls hl => ?_)
      refine lv_goto (tgt := 4) hx hb dX4_worthWithin_33 (by decide) ?_
      cases hf
      exact hzz H locs ls hP hD hS (lv_sub hl [1, 2, 3, 0] rfl)
    refine lv_if_eq (tgt := 30) hx hb dX4_worthWithin_18 (by decide) (fun hc => ?_) (fun hc => ?_)
    · replace hf := zIf_t hc hf
      exact hJ30 v1 H locs ls hf hP hD hS hl
    · replace hf := zIf_f hc hf
      refine lv_iload_n hx hb dX4_worthWithin_21 rfl (lv_at hl 2 rfl) ?_
      refine lv_aload_n hx hb dX4_worthWithin_22 rfl (lv_at hl 1 rfl) ?_
      refine zGet (ci := 8) (C := RX8) (F := TX8) (N := 14) (v := .ref (hgw 5)) hx hb hts hiX8 hown hK hP 2 6 2 rfl rfl (by decide) rfl rfl rfl dX4_worthWithin_23 ?_
      refine lv_iload_n hx hb dX4_worthWithin_26 rfl (lv_at hl 3 rfl) ?_
      obtain ⟨hg, hf⟩ := zGd_ok hf
      refine zAldI hx hb hK hP 7 rfl hg dX4_worthWithin_27 (fun v7 ev7 => ?_)
      replace hf := zLt_at ev7 hf
      refine lv_iadd hx hb dX4_worthWithin_28 ?_
      refine lv_topi (fun v8 ev8 => ?_)
      replace hf := zLt_at ev8 hf
      refine lv_istore_n (lv' := [(2, .int v8), (0, .ref (hgp 0)), (1, .ref (hgw 0)), (3, .int v2)]) hx hb dX4_worthWithin_29 rfl hl (by decide) rfl (fun ls hl => ?_)
      exact hJ30 v8 H locs ls hf hP hD hS (lv_sub hl [1, 2, 0, 3] rfl)
set_option maxHeartbeats 4000000 in
set_option maxRecDepth 100000 in
theorem pX5_has (l : Launch) (D : va_G) (T : Nat → ClassId) (X : zFP) (hgr : Nat → Nat) (sz : Nat) (gr : zM) (a1 : Int32) (a2 : Int32) (r : Int32) (hf : fX5_has gr a1 a2 = some r) : Met l yX5_has wsX5_has rX5_has (zPre D T X [.ref (hgr 0), .int a1, .int a2] (wX5 T hgr gr) sz) (zQi D T r (wX5 T hgr gr) (wX5 T hgr gr) sz) 0 0 (va_A (wX5 T hgr gr) sz) := by
  unfold fX5_has at hf
  refine zStart [(0, .ref (hgr 0)), (1, .int a1), (2, .int a2)] (by decide) rfl (Nat.le_of_ble_eq_true rfl) rfl ?_
  intro p e s m args below meth c A Q ls hx hb hr hml hown hlocks hts hsz hA0 hQ hA hK hX hP hD hS hl
  replace hown : s.vm.findClass RX5 = some m.cls := hown
  have hH := hsz
  have hiX5 : ∀ w ∈ u_ws RX5 TX5 2, w ∈ wsX5_has := fun w h => List.mem_cons_of_mem _ (List.mem_append_right _ (h))
  obtain ⟨H, hHe⟩ : ∃ H : Heap, H = s.heap := ⟨_, rfl⟩
  obtain ⟨locs, hLe⟩ : ∃ L : List Loc, L = [] := ⟨_, rfl⟩
  replace hP : va_P D vwCl (wX5 T hgr gr) H := by rw [hHe]; exact hP
  replace hS : va_S A s.heap H locs := by rw [hHe, hLe]; exact hS
  suffices hgo : W p l e rX5_has s m args below meth c H locs 0 0 Q (F0 m 0 ls []) by rw [hHe, hLe] at hgo; exact hgo
  clear hHe hLe
  refine lv_iload_n hx hb dX5_has_0 rfl (lv_at hl 1 rfl) ?_
  refine lv_if_lt (tgt := 25) hx hb dX5_has_1 (by decide) (fun hc => ?_) (fun hc => ?_)
  · replace hf := zIf_t hc hf
    refine lv_iconst (v := 0) hx hb dX5_has_25 (by decide) ?_
    obtain ⟨q1, -⟩ := zI1 hf
    subst q1
    exact zRetZ hQ hx hb hr hlocks hA0 hK hP hD hS (by decide) rfl dX5_has_26
  · replace hf := zIf_f hc hf
    refine lv_iload_n hx hb dX5_has_4 rfl (lv_at hl 1 rfl) ?_
    refine lv_aload_n hx hb dX5_has_5 rfl (lv_at hl 0 rfl) ?_
    refine zGet (ci := 5) (C := RX5) (F := TX5) (N := 2) (v := .int (gr 0 1)) hx hb hts hiX5 hown hK hP 0 1 1 rfl rfl (by decide) rfl rfl rfl dX5_has_6 ?_
    refine lv_icmp_ge (tgt := 25) hx hb dX5_has_9 (by decide) (fun hc => ?_) (fun hc => ?_)
    · replace hf := zIf_t hc hf
      refine lv_iconst (v := 0) hx hb dX5_has_25 (by decide) ?_
      obtain ⟨q1, -⟩ := zI1 hf
      subst q1
      exact zRetZ hQ hx hb hr hlocks hA0 hK hP hD hS (by decide) rfl dX5_has_26
    · replace hf := zIf_f hc hf
      refine lv_iload_n hx hb dX5_has_12 rfl (lv_at hl 2 rfl) ?_
      refine lv_if_lt (tgt := 25) hx hb dX5_has_13 (by decide) (fun hc => ?_) (fun hc => ?_)
      · replace hf := zIf_t hc hf
        refine lv_iconst (v := 0) hx hb dX5_has_25 (by decide) ?_
        obtain ⟨q1, -⟩ := zI1 hf
        subst q1
        exact zRetZ hQ hx hb hr hlocks hA0 hK hP hD hS (by decide) rfl dX5_has_26
      · replace hf := zIf_f hc hf
        refine lv_iload_n hx hb dX5_has_16 rfl (lv_at hl 2 rfl) ?_
        refine lv_iconst (v := 2) hx hb dX5_has_17 (by decide) ?_
        refine lv_icmp_gt (tgt := 25) hx hb dX5_has_18 (by decide) (fun hc => ?_) (fun hc => ?_)
        · replace hf := zIf_t hc hf
          refine lv_iconst (v := 0) hx hb dX5_has_25 (by decide) ?_
          obtain ⟨q1, -⟩ := zI1 hf
          subst q1
          exact zRetZ hQ hx hb hr hlocks hA0 hK hP hD hS (by decide) rfl dX5_has_26
        · replace hf := zIf_f hc hf
          refine lv_iconst (v := 1) hx hb dX5_has_21 (by decide) ?_
          refine lv_goto (tgt := 26) hx hb dX5_has_22 (by decide) ?_
          obtain ⟨q1, -⟩ := zI1 hf
          subst q1
          exact zRetZ hQ hx hb hr hlocks hA0 hK hP hD hS (by decide) rfl dX5_has_26
set_option maxHeartbeats 4000000 in
set_option maxRecDepth 100000 in
theorem pX8_tieBetween (l : Launch) (D : va_G) (T : Nat → ClassId) (X : zFP) (hgw : Nat → Nat) (sz : Nat) (gw : zM) (a1 : Int32) (a2 : Int32) (r : Int32) (hf : fX8_tieBetween gw a1 a2 = some r) : Met l yX8_tieBetween wsX8_tieBetween rX8_tieBetween (zPre D T X [.ref (hgw 0), .int a1, .int a2] (wX8 T hgw gw) sz) (zQi D T r (wX8 T hgw gw) (wX8 T hgw gw) sz) 0 0 (va_A (wX8 T hgw gw) sz) := by
  unfold fX8_tieBetween at hf
  refine zStart [(0, .ref (hgw 0)), (1, .int a1), (2, .int a2)] (by decide) rfl (Nat.le_of_ble_eq_true rfl) rfl ?_
  intro p e s m args below meth c A Q ls hx hb hr hml hown hlocks hts hsz hA0 hQ hA hK hX hP hD hS hl
  replace hown : s.vm.findClass RX8 = some m.cls := hown
  have hH := hsz
  have hiX8 : ∀ w ∈ u_ws RX8 TX8 14, w ∈ wsX8_tieBetween := fun w h => List.mem_cons_of_mem _ (List.mem_append_right _ (h))
  obtain ⟨H, hHe⟩ : ∃ H : Heap, H = s.heap := ⟨_, rfl⟩
  obtain ⟨locs, hLe⟩ : ∃ L : List Loc, L = [] := ⟨_, rfl⟩
  replace hP : va_P D vwCl (wX8 T hgw gw) H := by rw [hHe]; exact hP
  replace hS : va_S A s.heap H locs := by rw [hHe, hLe]; exact hS
  suffices hgo : W p l e rX8_tieBetween s m args below meth c H locs 0 0 Q (F0 m 0 ls []) by rw [hHe, hLe] at hgo; exact hgo
  clear hHe hLe
  refine lv_iconst (v := 0) hx hb dX8_tieBetween_0 (by decide) ?_
  refine lv_istore_n (lv' := [(3, .int 0), (0, .ref (hgw 0)), (1, .int a1), (2, .int a2)]) hx hb dX8_tieBetween_1 rfl hl (by decide) rfl (fun ls hl => ?_)
  obtain ⟨ex, hlp, hf⟩ := zB1_ok hf
  have hE2_46 : ex = (.inl ()) → ∀ (H : Heap) (locs : List Loc) (ls : Array Slot), va_P D vwCl (wX8 T hgw gw) H → va_D A (wX8 T hgw gw) → va_S A s.heap H locs → lv_has ls 4 [] → W p l e rX8_tieBetween s m args below meth c H locs 0 0 Q (F0 m 46 ls []) := by
    intro hex H locs ls hP hD hS hl
    have hf := zExL0 hex hf
    refine lv_iconst (v := (-1)) hx hb dX8_tieBetween_46 (by decide) ?_
    obtain ⟨q1, -⟩ := zI1 hf
    subst q1
    exact zRetI hQ hx hb hr hlocks hA0 hK hP hD hS rfl dX8_tieBetween_47
  have hE2_38 : ∀ (v2 : Int32) , ex = (.inr v2) → ∀ (H : Heap) (locs : List Loc) (ls : Array Slot), va_P D vwCl (wX8 T hgw gw) H → va_D A (wX8 T hgw gw) → va_S A s.heap H locs → lv_has ls 4 [(3, .int v2)] → W p l e rX8_tieBetween s m args below meth c H locs 0 0 Q (F0 m 38 ls []) := by
    intro v2 hex H locs ls hP hD hS hl
    have hf := zSmR hex hf
    have hf := zEx1 rfl hf
    refine lv_iload_n hx hb dX8_tieBetween_38 rfl (lv_at hl 0 rfl) ?_
    obtain ⟨q1, -⟩ := zI1 hf
    subst q1
    exact zRetI hQ hx hb hr hlocks hA0 hK hP hD hS rfl dX8_tieBetween_39
  refine zLpS1 (body := (fX8_tieBetween_L2 a1 a2 gw)) (b := ex) (fun (v1 : Int32) => ∀ (H : Heap) (locs : List Loc) (ls : Array Slot), va_P D vwCl (wX8 T hgw gw) H → va_D A (wX8 T hgw gw) → va_S A s.heap H locs → lv_has ls 4 [(0, .ref (hgw 0)), (1, .int a1), (2, .int a2), (3, .int v1)] → W p l e rX8_tieBetween s m args below meth c H locs 0 0 Q (F0 m 2 ls [])) ?_ zFU 0 hlp H locs ls hP hD hS (lv_sub hl [1, 2, 3, 0] rfl)
  intro v1 z hf hzz H locs ls hP hD hS hl
  unfold fX8_tieBetween_L2 at hf
  replace hf := zUk1 hf
  refine lv_iload_n hx hb dX8_tieBetween_2 rfl (lv_at hl 3 rfl) ?_
  refine lv_aload_n hx hb dX8_tieBetween_3 rfl (lv_at hl 0 rfl) ?_
  refine zGet (ci := 8) (C := RX8) (F := TX8) (N := 14) (v := .int (gw 0 3)) hx hb hts hiX8 hown hK hP 0 3 1 rfl rfl (by decide) rfl rfl rfl dX8_tieBetween_4 ?_
  refine lv_icmp_ge (tgt := 46) hx hb dX8_tieBetween_7 (by decide) (fun hc => ?_) (fun hc => ?_)
  · replace hf := zIf_t hc hf
    cases hf
    exact hE2_46 hzz.symm H locs ls hP hD hS (lv_sub hl [] rfl)
  · replace hf := zIf_f hc hf
    refine lv_aload_n hx hb dX8_tieBetween_10 rfl (lv_at hl 0 rfl) ?_
    refine zGet (ci := 8) (C := RX8) (F := TX8) (N := 14) (v := .ref (hgw 3)) hx hb hts hiX8 hown hK hP 0 4 2 rfl rfl (by decide) rfl rfl rfl dX8_tieBetween_11 ?_
    refine lv_iload_n hx hb dX8_tieBetween_14 rfl (lv_at hl 3 rfl) ?_
    obtain ⟨hg, hf⟩ := zGd_ok hf
    refine zAldI hx hb hK hP 3 rfl hg dX8_tieBetween_15 (fun v3 ev3 => ?_)
    replace hf := zLt_at ev3 hf
    refine lv_iload_n hx hb dX8_tieBetween_16 rfl (lv_at hl 1 rfl) ?_
    refine lv_iload_n hx hb dX8_tieBetween_17 rfl (lv_at hl 2 rfl) ?_
    refine va_mmin hx hb (hml.trans hl.1.symm) hown (hts _ (List.mem_of_getElem? (i := 3) rfl)) (hts _ (List.mem_of_getElem? (i := 4) rfl)) (hts _ (List.mem_of_getElem? (i := 5) rfl)) (hts _ (List.mem_of_getElem? (i := 6) rfl)) (Nat.le_of_ble_eq_true rfl) (Nat.le_of_ble_eq_true rfl) (Nat.zero_le _) (Nat.zero_le _) dX8_tieBetween_18 ?_
    refine lv_topi (fun v4 ev4 => ?_)
    replace hf := zLt_at ev4 hf
    have hJ40 : ∀ (H : Heap) (locs : List Loc) (ls : Array Slot), fX8_tieBetween_L2J40 v1 = some z → va_P D vwCl (wX8 T hgw gw) H → va_D A (wX8 T hgw gw) → va_S A s.heap H locs → lv_has ls 4 [(0, .ref (hgw 0)), (1, .int a1), (2, .int a2), (3, .int v1)] → W p l e rX8_tieBetween s m args below meth c H locs 0 0 Q (F0 m 40 ls []) := by
      intro H locs ls hf hP hD hS hl
      unfold fX8_tieBetween_L2J40 at hf
      obtain ⟨v5, ev5⟩ : ∃ y : Int32, y = v1 + 1 := ⟨_, rfl⟩
      replace hf := zLt_at ev5 hf
      refine lv_iinc (v := v5) (lv' := [(3, .int v5), (0, .ref (hgw 0)), (1, .int a1), (2, .int a2)]) hx hb dX8_tieBetween_40 hl (k := 3) rfl (by rw [ev5]; rfl) (by decide) rfl (fun ls hl => ?_)
      refine lv_goto (tgt := 2) hx hb dX8_tieBetween_43 (by decide) ?_
      cases hf
      exact hzz H locs ls hP hD hS (lv_sub hl [1, 2, 3, 0] rfl)
    refine lv_icmp_ne (tgt := 40) hx hb dX8_tieBetween_21 (by decide) (fun hc => ?_) (fun hc => ?_)
    · replace hf := zIf_f hc hf
      exact hJ40 H locs ls hf hP hD hS hl
    · replace hf := zIf_t hc hf
      refine lv_aload_n hx hb dX8_tieBetween_24 rfl (lv_at hl 0 rfl) ?_
      refine zGet (ci := 8) (C := RX8) (F := TX8) (N := 14) (v := .ref (hgw 4)) hx hb hts hiX8 hown hK hP 0 5 7 rfl rfl (by decide) rfl rfl rfl dX8_tieBetween_25 ?_
      refine lv_iload_n hx hb dX8_tieBetween_28 rfl (lv_at hl 3 rfl) ?_
      obtain ⟨hg, hf⟩ := zGd_ok hf
      refine zAldI hx hb hK hP 4 rfl hg dX8_tieBetween_29 (fun v6 ev6 => ?_)
      replace hf := zLt_at ev6 hf
      refine lv_iload_n hx hb dX8_tieBetween_30 rfl (lv_at hl 1 rfl) ?_
      refine lv_iload_n hx hb dX8_tieBetween_31 rfl (lv_at hl 2 rfl) ?_
      refine va_mmax hx hb (hml.trans hl.1.symm) hown (hts _ (List.mem_of_getElem? (i := 8) rfl)) (hts _ (List.mem_of_getElem? (i := 9) rfl)) (hts _ (List.mem_of_getElem? (i := 5) rfl)) (hts _ (List.mem_of_getElem? (i := 10) rfl)) (Nat.le_of_ble_eq_true rfl) (Nat.le_of_ble_eq_true rfl) (Nat.zero_le _) (Nat.zero_le _) dX8_tieBetween_32 ?_
      refine lv_topi (fun v7 ev7 => ?_)
      replace hf := zLt_at ev7 hf
      refine lv_icmp_ne (tgt := 40) hx hb dX8_tieBetween_35 (by decide) (fun hc => ?_) (fun hc => ?_)
      · replace hf := zIf_f hc hf
        exact hJ40 H locs ls hf hP hD hS hl
      · replace hf := zIf_t hc hf
        cases hf
        exact hE2_38 v1 hzz.symm H locs ls hP hD hS (lv_sub hl [3] rfl)
set_option maxHeartbeats 4000000 in
set_option maxRecDepth 100000 in
theorem pX5_isTold (l : Launch) (D : va_G) (T : Nat → ClassId) (X : zFP) (hgw : Nat → Nat) (sz : Nat) (gw : zM) (a2 : Int32) (a3 : Int32) (a4 : Int32) (r : Int32) (hf : fX5_isTold gw a2 a3 a4 = some r) : Met l yX5_isTold wsX5_isTold rX5_isTold (zPre D T X [.ref (hgw 0), .int a2, .int a3, .int a4] (wX8 T hgw gw) sz) (zQi D T r (wX8 T hgw gw) (wX8 T hgw gw) sz) 0 0 (va_A (wX8 T hgw gw) sz) := by
  unfold fX5_isTold at hf
  refine zStart [(0, .ref (hgw 0)), (1, .int a2), (2, .int a3), (3, .int a4)] (by decide) rfl (Nat.le_of_ble_eq_true rfl) rfl ?_
  intro p e s m args below meth c A Q ls hx hb hr hml hown hlocks hts hsz hA0 hQ hA hK hX hP hD hS hl
  replace hown : s.vm.findClass RX5 = some m.cls := hown
  have hH := hsz
  obtain ⟨H, hHe⟩ : ∃ H : Heap, H = s.heap := ⟨_, rfl⟩
  obtain ⟨locs, hLe⟩ : ∃ L : List Loc, L = [] := ⟨_, rfl⟩
  replace hP : va_P D vwCl (wX8 T hgw gw) H := by rw [hHe]; exact hP
  replace hS : va_S A s.heap H locs := by rw [hHe, hLe]; exact hS
  suffices hgo : W p l e rX5_isTold s m args below meth c H locs 0 0 Q (F0 m 0 ls []) by rw [hHe, hLe] at hgo; exact hgo
  clear hHe hLe
  refine lv_aload_n hx hb dX5_isTold_0 rfl (lv_at hl 0 rfl) ?_
  refine lv_iload_n hx hb dX5_isTold_1 rfl (lv_at hl 1 rfl) ?_
  refine lv_iload_n hx hb dX5_isTold_2 rfl (lv_at hl 2 rfl) ?_
  obtain ⟨v1, hc3, hf⟩ := zB1_ok hf
  refine zCallVEI [.int a2, .int a3] ⟨hx, hb, hml, hown, hts⟩ (pX8_tieBetween l D T X hgw H.size gw a2 a3 v1 hc3) (cwV 2 hts gX5_isTold_X8_tieBetween rfl rfl rfl (by decide +kernel) ⟨Nat.le_of_ble_eq_true rfl, Nat.le_of_ble_eq_true rfl⟩) hK hP hD hS hA hX 0 rfl rfl rfl hl.1 rfl (Nat.le_of_ble_eq_true rfl) dX5_isTold_3 ⟨Nat.zero_le _, Nat.zero_le _⟩ (fun H locs hP hD hS => ?_)
  refine lv_istore (lv' := [(4, .int v1), (0, .ref (hgw 0)), (1, .int a2), (2, .int a3), (3, .int a4)]) hx hb dX5_isTold_6 hl (by decide) rfl (fun ls hl => ?_)
  refine lv_iload hx hb dX5_isTold_8 (lv_at hl 0 rfl) ?_
  refine lv_if_lt (tgt := 27) hx hb dX5_isTold_10 (by decide) (fun hc => ?_) (fun hc => ?_)
  · replace hf := zIf_t hc hf
    refine lv_iconst (v := 0) hx hb dX5_isTold_27 (by decide) ?_
    obtain ⟨q1, -⟩ := zI1 hf
    subst q1
    exact zRetZ hQ hx hb hr hlocks hA0 hK hP hD hS (by decide) rfl dX5_isTold_28
  · replace hf := zIf_f hc hf
    refine lv_aload_n hx hb dX5_isTold_13 rfl (lv_at hl 1 rfl) ?_
    refine lv_iload hx hb dX5_isTold_14 (lv_at hl 0 rfl) ?_
    refine lv_iload_n hx hb dX5_isTold_16 rfl (lv_at hl 4 rfl) ?_
    obtain ⟨v2, hc17, hf⟩ := zB1_ok hf
    refine zCallVEI [.int v1, .int a4] ⟨hx, hb, hml, hown, hts⟩ (pX8_isOpen l D T X hgw H.size gw v1 a4 v2 hc17) (cwV 2 hts gX5_isTold_X8_isOpen rfl rfl rfl (by decide +kernel) ⟨Nat.le_of_ble_eq_true rfl, Nat.le_of_ble_eq_true rfl⟩) hK hP hD hS hA hX 0 rfl rfl rfl hl.1 rfl (Nat.le_of_ble_eq_true rfl) dX5_isTold_17 ⟨Nat.zero_le _, Nat.zero_le _⟩ (fun H locs hP hD hS => ?_)
    refine lv_if_eq (tgt := 27) hx hb dX5_isTold_20 (by decide) (fun hc => ?_) (fun hc => ?_)
    · replace hf := zIf_t hc hf
      refine lv_iconst (v := 0) hx hb dX5_isTold_27 (by decide) ?_
      obtain ⟨q1, -⟩ := zI1 hf
      subst q1
      exact zRetZ hQ hx hb hr hlocks hA0 hK hP hD hS (by decide) rfl dX5_isTold_28
    · replace hf := zIf_f hc hf
      refine lv_iconst (v := 1) hx hb dX5_isTold_23 (by decide) ?_
      refine lv_goto (tgt := 28) hx hb dX5_isTold_24 (by decide) ?_
      obtain ⟨q1, -⟩ := zI1 hf
      subst q1
      exact zRetZ hQ hx hb hr hlocks hA0 hK hP hD hS (by decide) rfl dX5_isTold_28
set_option maxHeartbeats 4000000 in
set_option maxRecDepth 100000 in
theorem pX5_leastTeller (l : Launch) (D : va_G) (T : Nat → ClassId) (X : zFP) (hgw : Nat → Nat) (sz : Nat) (gw : zM) (a2 : Int32) (a3 : Int32) (a4 : Int32) (r : Int32) (hf : fX5_leastTeller gw a2 a3 a4 = some r) : Met l yX5_leastTeller wsX5_leastTeller rX5_leastTeller (zPre D T X [.ref (hgw 0), .int a2, .int a3, .int a4] (wX8 T hgw gw) sz) (zQi D T r (wX8 T hgw gw) (wX8 T hgw gw) sz) 0 0 (va_A (wX8 T hgw gw) sz) := by
  unfold fX5_leastTeller at hf
  refine zStart [(0, .ref (hgw 0)), (1, .int a2), (2, .int a3), (3, .int a4)] (by decide) rfl (Nat.le_of_ble_eq_true rfl) rfl ?_
  intro p e s m args below meth c A Q ls hx hb hr hml hown hlocks hts hsz hA0 hQ hA hK hX hP hD hS hl
  replace hown : s.vm.findClass RX5 = some m.cls := hown
  have hH := hsz
  have hiX8 : ∀ w ∈ u_ws RX8 TX8 14, w ∈ wsX5_leastTeller := fun w h => List.mem_cons_of_mem _ (List.mem_append_right _ (h))
  obtain ⟨H, hHe⟩ : ∃ H : Heap, H = s.heap := ⟨_, rfl⟩
  obtain ⟨locs, hLe⟩ : ∃ L : List Loc, L = [] := ⟨_, rfl⟩
  replace hP : va_P D vwCl (wX8 T hgw gw) H := by rw [hHe]; exact hP
  replace hS : va_S A s.heap H locs := by rw [hHe, hLe]; exact hS
  suffices hgo : W p l e rX5_leastTeller s m args below meth c H locs 0 0 Q (F0 m 0 ls []) by rw [hHe, hLe] at hgo; exact hgo
  clear hHe hLe
  refine lv_iconst (v := 0) hx hb dX5_leastTeller_0 (by decide) ?_
  refine lv_istore (lv' := [(4, .int 0), (0, .ref (hgw 0)), (1, .int a2), (2, .int a3), (3, .int a4)]) hx hb dX5_leastTeller_1 hl (by decide) rfl (fun ls hl => ?_)
  obtain ⟨ex, hlp, hf⟩ := zB1_ok hf
  have hE3_41 : ex = (.inl ()) → ∀ (H : Heap) (locs : List Loc) (ls : Array Slot), va_P D vwCl (wX8 T hgw gw) H → va_D A (wX8 T hgw gw) → va_S A s.heap H locs → lv_has ls 5 [(2, .int a3)] → W p l e rX5_leastTeller s m args below meth c H locs 0 0 Q (F0 m 41 ls []) := by
    intro hex H locs ls hP hD hS hl
    have hf := zExL0 hex hf
    refine lv_iload_n hx hb dX5_leastTeller_41 rfl (lv_at hl 0 rfl) ?_
    obtain ⟨q1, -⟩ := zI1 hf
    subst q1
    exact zRetI hQ hx hb hr hlocks hA0 hK hP hD hS rfl dX5_leastTeller_42
  have hE3_32 : ∀ (v2 : Int32) , ex = (.inr v2) → ∀ (H : Heap) (locs : List Loc) (ls : Array Slot), va_P D vwCl (wX8 T hgw gw) H → va_D A (wX8 T hgw gw) → va_S A s.heap H locs → lv_has ls 5 [(4, .int v2)] → W p l e rX5_leastTeller s m args below meth c H locs 0 0 Q (F0 m 32 ls []) := by
    intro v2 hex H locs ls hP hD hS hl
    have hf := zSmR hex hf
    have hf := zEx1 rfl hf
    refine lv_iload hx hb dX5_leastTeller_32 (lv_at hl 0 rfl) ?_
    obtain ⟨q1, -⟩ := zI1 hf
    subst q1
    exact zRetI hQ hx hb hr hlocks hA0 hK hP hD hS rfl dX5_leastTeller_34
  refine zLpS1 (body := (fX5_leastTeller_L3 a2 a3 a4 gw)) (b := ex) (fun (v1 : Int32) => ∀ (H : Heap) (locs : List Loc) (ls : Array Slot), va_P D vwCl (wX8 T hgw gw) H → va_D A (wX8 T hgw gw) → va_S A s.heap H locs → lv_has ls 5 [(0, .ref (hgw 0)), (1, .int a2), (2, .int a3), (3, .int a4), (4, .int v1)] → W p l e rX5_leastTeller s m args below meth c H locs 0 0 Q (F0 m 3 ls [])) ?_ zFU 0 hlp H locs ls hP hD hS (lv_sub hl [1, 2, 3, 4, 0] rfl)
  intro v1 z hf hzz H locs ls hP hD hS hl
  unfold fX5_leastTeller_L3 at hf
  replace hf := zUk1 hf
  refine lv_iload hx hb dX5_leastTeller_3 (lv_at hl 4 rfl) ?_
  refine lv_aload_n hx hb dX5_leastTeller_5 rfl (lv_at hl 0 rfl) ?_
  refine zGet (ci := 8) (C := RX8) (F := TX8) (N := 14) (v := .int (gw 0 0)) hx hb hts hiX8 hown hK hP 0 0 1 rfl rfl (by decide) rfl rfl rfl dX5_leastTeller_6 ?_
  refine lv_icmp_ge (tgt := 41) hx hb dX5_leastTeller_9 (by decide) (fun hc => ?_) (fun hc => ?_)
  · replace hf := zIf_t hc hf
    cases hf
    exact hE3_41 hzz.symm H locs ls hP hD hS (lv_sub hl [2] rfl)
  · replace hf := zIf_f hc hf
    refine lv_iload_n hx hb dX5_leastTeller_12 rfl (lv_at hl 1 rfl) ?_
    refine lv_iload hx hb dX5_leastTeller_13 (lv_at hl 4 rfl) ?_
    refine lv_ishr hx hb dX5_leastTeller_15 ?_
    refine lv_iconst (v := 1) hx hb dX5_leastTeller_16 (by decide) ?_
    refine lv_iand hx hb dX5_leastTeller_17 ?_
    have hJ35 : ∀ (H : Heap) (locs : List Loc) (ls : Array Slot), fX5_leastTeller_L3J35 v1 = some z → va_P D vwCl (wX8 T hgw gw) H → va_D A (wX8 T hgw gw) → va_S A s.heap H locs → lv_has ls 5 [(0, .ref (hgw 0)), (1, .int a2), (2, .int a3), (3, .int a4), (4, .int v1)] → W p l e rX5_leastTeller s m args below meth c H locs 0 0 Q (F0 m 35 ls []) := by
      intro H locs ls hf hP hD hS hl
      unfold fX5_leastTeller_L3J35 at hf
      obtain ⟨v3, ev3⟩ : ∃ y : Int32, y = v1 + 1 := ⟨_, rfl⟩
      replace hf := zLt_at ev3 hf
      refine lv_iinc (v := v3) (lv' := [(4, .int v3), (0, .ref (hgw 0)), (1, .int a2), (2, .int a3), (3, .int a4)]) hx hb dX5_leastTeller_35 hl (k := 4) rfl (by rw [ev3]; rfl) (by decide) rfl (fun ls hl => ?_)
      refine lv_goto (tgt := 3) hx hb dX5_leastTeller_38 (by decide) ?_
      cases hf
      exact hzz H locs ls hP hD hS (lv_sub hl [1, 2, 3, 4, 0] rfl)
    refine lv_if_eq (tgt := 35) hx hb dX5_leastTeller_18 (by decide) (fun hc => ?_) (fun hc => ?_)
    · replace hf := zIf_t hc hf
      exact hJ35 H locs ls hf hP hD hS hl
    · replace hf := zIf_f hc hf
      refine lv_aload_n hx hb dX5_leastTeller_21 rfl (lv_at hl 0 rfl) ?_
      refine lv_iload hx hb dX5_leastTeller_22 (lv_at hl 4 rfl) ?_
      refine lv_iload_n hx hb dX5_leastTeller_24 rfl (lv_at hl 2 rfl) ?_
      refine lv_iload_n hx hb dX5_leastTeller_25 rfl (lv_at hl 3 rfl) ?_
      obtain ⟨v4, hc26, hf⟩ := zB1_ok hf
      refine zCallSEI [.ref (hgw 0), .int v1, .int a3, .int a4] ⟨hx, hb, hml, hown, hts⟩ (pX5_isTold l D T X hgw H.size gw v1 a3 a4 v4 hc26) (va_cwS 4 hts gX5_leastTeller_X5_isTold rfl rfl rfl (by decide +kernel) ⟨Nat.le_of_ble_eq_true rfl, Nat.le_of_ble_eq_true rfl⟩) hK hP hD hS hA hX rfl hl.1 rfl (Nat.le_of_ble_eq_true rfl) dX5_leastTeller_26 ⟨Nat.zero_le _, Nat.zero_le _⟩ (fun H locs hP hD hS => ?_)
      refine lv_if_eq (tgt := 35) hx hb dX5_leastTeller_29 (by decide) (fun hc => ?_) (fun hc => ?_)
      · replace hf := zIf_t hc hf
        exact hJ35 H locs ls hf hP hD hS hl
      · replace hf := zIf_f hc hf
        cases hf
        exact hE3_32 v1 hzz.symm H locs ls hP hD hS (lv_sub hl [4] rfl)
set_option maxHeartbeats 4000000 in
set_option maxRecDepth 100000 in
theorem pX5_tellHow (l : Launch) (D : va_G) (T : Nat → ClassId) (X : zFP) (hgr : Nat → Nat) (hgw : Nat → Nat) (hgd : Nat → Nat) (sz : Nat) (gr : zM) (gw : zM) (gd : zM) (a3 : Int32) (ngr : zM) (hf : fX5_tellHow gr gw gd a3 = some ngr) : Met l yX5_tellHow wsX5_tellHow rX5_tellHow (zPre D T X [.ref (hgr 0), .ref (hgw 0), .ref (hgd 0), .int a3] (wX5 T hgr gr ++ wX8 T hgw gw ++ wX1 T hgd gd) sz) (zQv D T (wX5 T hgr ngr ++ wX8 T hgw gw ++ wX1 T hgd gd) (wX5 T hgr gr ++ wX8 T hgw gw ++ wX1 T hgd gd) sz) 0 0 (va_A (wX5 T hgr gr ++ wX8 T hgw gw ++ wX1 T hgd gd) sz) := by
  unfold fX5_tellHow at hf
  refine zStart [(0, .ref (hgr 0)), (1, .ref (hgw 0)), (2, .ref (hgd 0)), (3, .int a3)] (by decide) rfl (Nat.le_of_ble_eq_true rfl) rfl ?_
  intro p e s m args below meth c A Q ls hx hb hr hml hown hlocks hts hsz hA0 hQ hA hK hX hP hD hS hl
  replace hown : s.vm.findClass RX5 = some m.cls := hown
  have hH := hsz
  have hiX1 : ∀ w ∈ u_ws RX1 TX1 2, w ∈ wsX5_tellHow := fun w h => List.mem_cons_of_mem _ (List.mem_append_left _ (List.mem_append_left _ (List.mem_append_right _ (h))))
  have hiX5 : ∀ w ∈ u_ws RX5 TX5 2, w ∈ wsX5_tellHow := fun w h => List.mem_cons_of_mem _ (List.mem_append_left _ (List.mem_append_right _ (h)))
  obtain ⟨H, hHe⟩ : ∃ H : Heap, H = s.heap := ⟨_, rfl⟩
  obtain ⟨locs, hLe⟩ : ∃ L : List Loc, L = [] := ⟨_, rfl⟩
  replace hP : va_P D vwCl (wX5 T hgr gr ++ wX8 T hgw gw ++ wX1 T hgd gd) H := by rw [hHe]; exact hP
  replace hS : va_S A s.heap H locs := by rw [hHe, hLe]; exact hS
  suffices hgo : W p l e rX5_tellHow s m args below meth c H locs 0 0 Q (F0 m 0 ls []) by rw [hHe, hLe] at hgo; exact hgo
  clear hHe hLe
  refine lv_aload_n hx hb dX5_tellHow_0 rfl (lv_at hl 0 rfl) ?_
  refine lv_aload_n hx hb dX5_tellHow_1 rfl (lv_at hl 2 rfl) ?_
  refine zGet (ci := 1) (C := RX1) (F := TX1) (N := 2) (v := .ref (hgd 1)) hx hb hts hiX1 hown hK hP 23 0 1 rfl rfl (by decide) rfl rfl rfl dX5_tellHow_2 ?_
  refine lv_iload_n hx hb dX5_tellHow_5 rfl (lv_at hl 3 rfl) ?_
  obtain ⟨hg, hf⟩ := zGd_ok hf
  refine zAldI hx hb hK hP 24 rfl hg dX5_tellHow_6 (fun v1 ev1 => ?_)
  replace hf := zLt_at ev1 hf
  refine lv_bipush (v := 10) hx hb dX5_tellHow_7 (by decide) ?_
  refine va_mmin hx hb (hml.trans hl.1.symm) hown (hts _ (List.mem_of_getElem? (i := 2) rfl)) (hts _ (List.mem_of_getElem? (i := 3) rfl)) (hts _ (List.mem_of_getElem? (i := 4) rfl)) (hts _ (List.mem_of_getElem? (i := 5) rfl)) (Nat.le_of_ble_eq_true rfl) (Nat.le_of_ble_eq_true rfl) (Nat.zero_le _) (Nat.zero_le _) dX5_tellHow_9 ?_
  refine lv_topi (fun v2 ev2 => ?_)
  replace hf := zLt_at ev2 hf
  refine zPut (ci := 5) (C := RX5) (F := TX5) (N := 2) (x := v2) (w := gr) hx hb hts hiX5 tyX5 tyX5_ok nmX5 hown hK hP hD hS (fun g => wX5 T hgr g ++ wX8 T hgw gw ++ wX1 T hgd gd) 0 1 6 rfl rfl (by decide) rfl rfl rfl ⟨rfl, rfl⟩ (Nat.le_of_ble_eq_true rfl) rfl dX5_tellHow_12 (fun gr_3 egr_3 H locs hP hD hS => ?_)
  replace hP : va_P D vwCl (wX5 T hgr gr_3 ++ wX8 T hgw gw ++ wX1 T hgd gd) H := hP
  replace hD : va_D A (wX5 T hgr gr_3 ++ wX8 T hgw gw ++ wX1 T hgd gd) := hD
  replace hf := zLt_at egr_3 hf
  refine lv_iload_n hx hb dX5_tellHow_15 rfl (lv_at hl 3 rfl) ?_
  refine lv_istore (lv' := [(4, .int a3), (0, .ref (hgr 0)), (1, .ref (hgw 0)), (2, .ref (hgd 0)), (3, .int a3)]) hx hb dX5_tellHow_16 hl (by decide) rfl (fun ls hl => ?_)
  refine lv_aload_n hx hb dX5_tellHow_18 rfl (lv_at hl 1 rfl) ?_
  refine zGet (ci := 5) (C := RX5) (F := TX5) (N := 2) (v := .int (gr_3 0 1)) hx hb hts hiX5 hown hK hP 0 1 6 rfl rfl (by decide) rfl rfl rfl dX5_tellHow_19 ?_
  refine lv_iconst (v := 1) hx hb dX5_tellHow_22 (by decide) ?_
  refine lv_isub hx hb dX5_tellHow_23 ?_
  refine lv_topi (fun v4 ev4 => ?_)
  replace hf := zLt_at ev4 hf
  refine lv_istore (lv' := [(5, .int v4), (4, .int a3), (0, .ref (hgr 0)), (1, .ref (hgw 0)), (2, .ref (hgd 0)), (3, .int a3)]) hx hb dX5_tellHow_24 hl (by decide) rfl (fun ls hl => ?_)
  obtain ⟨ex, hlp, hf⟩ := zB1_ok hf
  have hE26_90 : ∀ (gr_8 : zM) , ex = gr_8 → ∀ (H : Heap) (locs : List Loc) (ls : Array Slot), va_P D vwCl (wX5 T hgr gr_8 ++ wX8 T hgw gw ++ wX1 T hgd gd) H → va_D A (wX5 T hgr gr_8 ++ wX8 T hgw gw ++ wX1 T hgd gd) → va_S A s.heap H locs → lv_has ls 7 [] → W p l e rX5_tellHow s m args below meth c H locs 0 0 Q (F0 m 90 ls []) := by
    intro gr_8 hex H locs ls hP hD hS hl
    have hf := zEx1 hex hf
    obtain ⟨q1, -⟩ := zI1 hf
    subst q1
    exact zRetV hQ hx hb hr hlocks hA0 hK hP hD hS dX5_tellHow_90
  refine zLpS3 (body := (fX5_tellHow_L26 gw gd)) (b := ex) (fun (v5 : Int32) (v6 : Int32) (gr_7 : zM) => ∀ (H : Heap) (locs : List Loc) (ls : Array Slot), va_P D vwCl (wX5 T hgr gr_7 ++ wX8 T hgw gw ++ wX1 T hgd gd) H → va_D A (wX5 T hgr gr_7 ++ wX8 T hgw gw ++ wX1 T hgd gd) → va_S A s.heap H locs → lv_has ls 7 [(0, .ref (hgr 0)), (1, .ref (hgw 0)), (2, .ref (hgd 0)), (4, .int v5), (5, .int v6)] → W p l e rX5_tellHow s m args below meth c H locs 0 0 Q (F0 m 26 ls [])) ?_ zFU a3 v4 gr_3 hlp H locs ls hP hD hS (lv_sub hl [2, 3, 4, 1, 0] rfl)
  intro v5 v6 gr_7 z hf hzz H locs ls hP hD hS hl
  unfold fX5_tellHow_L26 at hf
  replace hf := zUk3 hf
  refine lv_iload hx hb dX5_tellHow_26 (lv_at hl 4 rfl) ?_
  refine lv_if_lt (tgt := 90) hx hb dX5_tellHow_28 (by decide) (fun hc => ?_) (fun hc => ?_)
  · replace hf := zIf_t hc hf
    cases hf
    exact hE26_90 gr_7 hzz.symm H locs ls hP hD hS (lv_sub hl [] rfl)
  · replace hf := zIf_f hc hf
    refine lv_aload_n hx hb dX5_tellHow_31 rfl (lv_at hl 1 rfl) ?_
    refine lv_aload_n hx hb dX5_tellHow_32 rfl (lv_at hl 2 rfl) ?_
    refine lv_iload hx hb dX5_tellHow_33 (lv_at hl 4 rfl) ?_
    obtain ⟨v9, hc35, hf⟩ := zB1_ok hf
    refine zCallVJI (wr := wX5 T hgr gr_7 ++ wX8 T hgw gw) (ws' := wX5 T hgr gr_7 ++ wX8 T hgw gw ++ wX1 T hgd gd) [.int v6] ⟨hx, hb, hml, hown, hts⟩ (pX1_knowingBehind l D T X hgd H.size gd v6 v9 hc35) (cwV 1 hts gX5_tellHow_X1_knowingBehind rfl rfl rfl (by decide +kernel) ⟨Nat.le_of_ble_eq_true rfl, Nat.le_of_ble_eq_true rfl⟩) hK hP hD hS hA hX [23, 24, 25] [0, 1, 2, 3, 4, 5, 6, 7, 8, 9, 10, 11, 12, 13, 14, 15, 16, 17, 18, 19, 20, 21, 22] [0, 1, 2, 3, 4, 5, 6, 7, 8, 9, 10, 11, 12, 13, 14, 15, 16, 17, 18, 19, 20, 21, 22, 23, 24, 25] rfl rfl rfl rfl 0 rfl rfl rfl hl.1 rfl (Nat.le_of_ble_eq_true rfl) dX5_tellHow_35 ⟨Nat.zero_le _, Nat.zero_le _⟩ (fun H locs hP hD hS => ?_)
    refine lv_iload hx hb dX5_tellHow_38 (lv_at hl 3 rfl) ?_
    refine lv_iload hx hb dX5_tellHow_40 (lv_at hl 4 rfl) ?_
    obtain ⟨v10, hc42, hf⟩ := zB1_ok hf
    refine zCallSJI (wr := wX5 T hgr gr_7 ++ wX1 T hgd gd) (ws' := wX5 T hgr gr_7 ++ wX8 T hgw gw ++ wX1 T hgd gd) [.ref (hgw 0), .int v9, .int v5, .int v6] ⟨hx, hb, hml, hown, hts⟩ (pX5_leastTeller l D T X hgw H.size gw v9 v5 v6 v10 hc42) (va_cwS 4 hts gX5_tellHow_X5_leastTeller rfl rfl rfl (by decide +kernel) ⟨Nat.le_of_ble_eq_true rfl, Nat.le_of_ble_eq_true rfl⟩) hK hP hD hS hA hX [12, 13, 14, 15, 16, 17, 18, 19, 20, 21, 22] [0, 1, 2, 3, 4, 5, 6, 7, 8, 9, 10, 11, 23, 24, 25] [0, 1, 2, 3, 4, 5, 6, 7, 8, 9, 10, 11, 15, 16, 17, 18, 19, 20, 21, 22, 23, 24, 25, 12, 13, 14] rfl rfl rfl rfl rfl hl.1 rfl (Nat.le_of_ble_eq_true rfl) dX5_tellHow_42 ⟨Nat.zero_le _, Nat.zero_le _⟩ (fun H locs hP hD hS => ?_)
    refine lv_istore (lv' := [(6, .int v10), (0, .ref (hgr 0)), (1, .ref (hgw 0)), (2, .ref (hgd 0)), (4, .int v5), (5, .int v6)]) hx hb dX5_tellHow_45 hl (by decide) rfl (fun ls hl => ?_)
    refine lv_aload_n hx hb dX5_tellHow_47 rfl (lv_at hl 1 rfl) ?_
    refine zGet (ci := 5) (C := RX5) (F := TX5) (N := 2) (v := .ref (hgr 1)) hx hb hts hiX5 hown hK hP 0 0 7 rfl rfl (by decide) rfl rfl rfl dX5_tellHow_48 ?_
    refine lv_iload hx hb dX5_tellHow_51 (lv_at hl 5 rfl) ?_
    obtain ⟨hin53, hf⟩ := zGd_ok hf
    refine zAldA (h := hgr) hx hb hK hP 1 2 rfl hin53 dX5_tellHow_53 ?_
    refine lv_iconst (v := 0) hx hb dX5_tellHow_54 (by decide) ?_
    refine lv_iload hx hb dX5_tellHow_55 (lv_at hl 5 rfl) ?_
    obtain ⟨hg, hf⟩ := zGd_ok hf
    refine zAstI (w := gr_7) hx hb hK hP hD hS (fun g => wX5 T hgr g ++ wX8 T hgw gw ++ wX1 T hgd gd) (2 + v6.toNatClampNeg) (2 + v6.toNatClampNeg) (zRow10 (P := fun k => (wX5 T hgr gr_7 ++ wX8 T hgw gw ++ wX1 T hgd gd)[2 + k]? = some ((hgr (2 + k)), .inl (T 0, 3, .inl (gr_7 (2 + k))))) rfl rfl rfl rfl rfl rfl rfl rfl rfl rfl (zIn_lt hin53)) hg (zRow10 (P := fun k => (wX5 T hgr gr_7 ++ wX8 T hgw gw ++ wX1 T hgd gd).set (2 + k) ((hgr (2 + k)), .inl (T 0, 3, .inl (upd (gr_7 (2 + k)) (0 : Int32).toNatClampNeg v6))) = wX5 T hgr (zPu gr_7 (2 + k) (0 : Int32).toNatClampNeg v6) ++ wX8 T hgw gw ++ wX1 T hgd gd) rfl rfl rfl rfl rfl rfl rfl rfl rfl rfl (zIn_lt hin53)) dX5_tellHow_57 (fun gr_11 egr_11 H locs hP hD hS => ?_)
    replace hP : va_P D vwCl (wX5 T hgr gr_11 ++ wX8 T hgw gw ++ wX1 T hgd gd) H := hP
    replace hD : va_D A (wX5 T hgr gr_11 ++ wX8 T hgw gw ++ wX1 T hgd gd) := hD
    replace hf := zLt_at egr_11 hf
    refine lv_aload_n hx hb dX5_tellHow_58 rfl (lv_at hl 1 rfl) ?_
    refine zGet (ci := 5) (C := RX5) (F := TX5) (N := 2) (v := .ref (hgr 1)) hx hb hts hiX5 hown hK hP 0 0 7 rfl rfl (by decide) rfl rfl rfl dX5_tellHow_59 ?_
    refine lv_iload hx hb dX5_tellHow_62 (lv_at hl 5 rfl) ?_
    obtain ⟨hin64, hf⟩ := zGd_ok hf
    refine zAldA (h := hgr) hx hb hK hP 1 2 rfl hin64 dX5_tellHow_64 ?_
    refine lv_iconst (v := 1) hx hb dX5_tellHow_65 (by decide) ?_
    refine lv_iload hx hb dX5_tellHow_66 (lv_at hl 0 rfl) ?_
    obtain ⟨hg, hf⟩ := zGd_ok hf
    refine zAstI (w := gr_11) hx hb hK hP hD hS (fun g => wX5 T hgr g ++ wX8 T hgw gw ++ wX1 T hgd gd) (2 + v6.toNatClampNeg) (2 + v6.toNatClampNeg) (zRow10 (P := fun k => (wX5 T hgr gr_11 ++ wX8 T hgw gw ++ wX1 T hgd gd)[2 + k]? = some ((hgr (2 + k)), .inl (T 0, 3, .inl (gr_11 (2 + k))))) rfl rfl rfl rfl rfl rfl rfl rfl rfl rfl (zIn_lt hin64)) hg (zRow10 (P := fun k => (wX5 T hgr gr_11 ++ wX8 T hgw gw ++ wX1 T hgd gd).set (2 + k) ((hgr (2 + k)), .inl (T 0, 3, .inl (upd (gr_11 (2 + k)) (1 : Int32).toNatClampNeg v10))) = wX5 T hgr (zPu gr_11 (2 + k) (1 : Int32).toNatClampNeg v10) ++ wX8 T hgw gw ++ wX1 T hgd gd) rfl rfl rfl rfl rfl rfl rfl rfl rfl rfl (zIn_lt hin64)) dX5_tellHow_68 (fun gr_12 egr_12 H locs hP hD hS => ?_)
    replace hP : va_P D vwCl (wX5 T hgr gr_12 ++ wX8 T hgw gw ++ wX1 T hgd gd) H := hP
    replace hD : va_D A (wX5 T hgr gr_12 ++ wX8 T hgw gw ++ wX1 T hgd gd) := hD
    replace hf := zLt_at egr_12 hf
    refine lv_aload_n hx hb dX5_tellHow_69 rfl (lv_at hl 1 rfl) ?_
    refine zGet (ci := 5) (C := RX5) (F := TX5) (N := 2) (v := .ref (hgr 1)) hx hb hts hiX5 hown hK hP 0 0 7 rfl rfl (by decide) rfl rfl rfl dX5_tellHow_70 ?_
    refine lv_iload hx hb dX5_tellHow_73 (lv_at hl 5 rfl) ?_
    obtain ⟨hin75, hf⟩ := zGd_ok hf
    refine zAldA (h := hgr) hx hb hK hP 1 2 rfl hin75 dX5_tellHow_75 ?_
    refine lv_iconst (v := 2) hx hb dX5_tellHow_76 (by decide) ?_
    refine lv_iload hx hb dX5_tellHow_77 (lv_at hl 4 rfl) ?_
    obtain ⟨hg, hf⟩ := zGd_ok hf
    refine zAstI (w := gr_12) hx hb hK hP hD hS (fun g => wX5 T hgr g ++ wX8 T hgw gw ++ wX1 T hgd gd) (2 + v6.toNatClampNeg) (2 + v6.toNatClampNeg) (zRow10 (P := fun k => (wX5 T hgr gr_12 ++ wX8 T hgw gw ++ wX1 T hgd gd)[2 + k]? = some ((hgr (2 + k)), .inl (T 0, 3, .inl (gr_12 (2 + k))))) rfl rfl rfl rfl rfl rfl rfl rfl rfl rfl (zIn_lt hin75)) hg (zRow10 (P := fun k => (wX5 T hgr gr_12 ++ wX8 T hgw gw ++ wX1 T hgd gd).set (2 + k) ((hgr (2 + k)), .inl (T 0, 3, .inl (upd (gr_12 (2 + k)) (2 : Int32).toNatClampNeg v5))) = wX5 T hgr (zPu gr_12 (2 + k) (2 : Int32).toNatClampNeg v5) ++ wX8 T hgw gw ++ wX1 T hgd gd) rfl rfl rfl rfl rfl rfl rfl rfl rfl rfl (zIn_lt hin75)) dX5_tellHow_79 (fun gr_13 egr_13 H locs hP hD hS => ?_)
    replace hP : va_P D vwCl (wX5 T hgr gr_13 ++ wX8 T hgw gw ++ wX1 T hgd gd) H := hP
    replace hD : va_D A (wX5 T hgr gr_13 ++ wX8 T hgw gw ++ wX1 T hgd gd) := hD
    replace hf := zLt_at egr_13 hf
    refine lv_iload hx hb dX5_tellHow_80 (lv_at hl 0 rfl) ?_
    refine lv_istore (lv' := [(4, .int v10), (6, .int v10), (0, .ref (hgr 0)), (1, .ref (hgw 0)), (2, .ref (hgd 0)), (5, .int v6)]) hx hb dX5_tellHow_82 hl (by decide) rfl (fun ls hl => ?_)
    obtain ⟨v14, ev14⟩ : ∃ y : Int32, y = v6 + (-1) := ⟨_, rfl⟩
    replace hf := zLt_at ev14 hf
    refine lv_iinc (v := v14) (lv' := [(5, .int v14), (4, .int v10), (6, .int v10), (0, .ref (hgr 0)), (1, .ref (hgw 0)), (2, .ref (hgd 0))]) hx hb dX5_tellHow_84 hl (k := 5) rfl (by rw [ev14]; rfl) (by decide) rfl (fun ls hl => ?_)
    refine lv_goto (tgt := 26) hx hb dX5_tellHow_87 (by decide) ?_
    cases hf
    exact hzz H locs ls hP hD hS (lv_sub hl [3, 4, 5, 1, 0] rfl)
set_option maxHeartbeats 4000000 in
set_option maxRecDepth 100000 in
theorem pX5_verdict (l : Launch) (D : va_G) (T : Nat → ClassId) (X : zFP) (hgr : Nat → Nat) (hgw : Nat → Nat) (sz : Nat) (gr : zM) (gw : zM) (a2 : Int32) (a3 : Int32) (r : Int32) (hf : fX5_verdict gr gw a2 a3 = some r) : Met l yX5_verdict wsX5_verdict rX5_verdict (zPre D T X [.ref (hgr 0), .ref (hgw 0), .int a2, .int a3] (wX5 T hgr gr ++ wX8 T hgw gw) sz) (zQi D T r (wX5 T hgr gr ++ wX8 T hgw gw) (wX5 T hgr gr ++ wX8 T hgw gw) sz) 0 0 (va_A (wX5 T hgr gr ++ wX8 T hgw gw) sz) := by
  unfold fX5_verdict at hf
  refine zStart [(0, .ref (hgr 0)), (1, .ref (hgw 0)), (2, .int a2), (3, .int a3)] (by decide) rfl (Nat.le_of_ble_eq_true rfl) rfl ?_
  intro p e s m args below meth c A Q ls hx hb hr hml hown hlocks hts hsz hA0 hQ hA hK hX hP hD hS hl
  replace hown : s.vm.findClass RX5 = some m.cls := hown
  have hH := hsz
  have hiX5 : ∀ w ∈ u_ws RX5 TX5 2, w ∈ wsX5_verdict := fun w h => List.mem_cons_of_mem _ (List.mem_append_left _ (List.mem_append_right _ (h)))
  obtain ⟨H, hHe⟩ : ∃ H : Heap, H = s.heap := ⟨_, rfl⟩
  obtain ⟨locs, hLe⟩ : ∃ L : List Loc, L = [] := ⟨_, rfl⟩
  replace hP : va_P D vwCl (wX5 T hgr gr ++ wX8 T hgw gw) H := by rw [hHe]; exact hP
  replace hS : va_S A s.heap H locs := by rw [hHe, hLe]; exact hS
  suffices hgo : W p l e rX5_verdict s m args below meth c H locs 0 0 Q (F0 m 0 ls []) by rw [hHe, hLe] at hgo; exact hgo
  clear hHe hLe
  refine lv_iload_n hx hb dX5_verdict_0 rfl (lv_at hl 2 rfl) ?_
  refine lv_istore (lv' := [(4, .int a2), (0, .ref (hgr 0)), (1, .ref (hgw 0)), (2, .int a2), (3, .int a3)]) hx hb dX5_verdict_1 hl (by decide) rfl (fun ls hl => ?_)
  refine lv_iconst (v := (-1)) hx hb dX5_verdict_3 (by decide) ?_
  refine lv_istore (lv' := [(5, .int (-1)), (4, .int a2), (0, .ref (hgr 0)), (1, .ref (hgw 0)), (2, .int a2), (3, .int a3)]) hx hb dX5_verdict_4 hl (by decide) rfl (fun ls hl => ?_)
  refine lv_iconst (v := 0) hx hb dX5_verdict_6 (by decide) ?_
  refine lv_istore (lv' := [(6, .int 0), (5, .int (-1)), (4, .int a2), (0, .ref (hgr 0)), (1, .ref (hgw 0)), (2, .int a2), (3, .int a3)]) hx hb dX5_verdict_7 hl (by decide) rfl (fun ls hl => ?_)
  obtain ⟨ex, hlp, hf⟩ := zB1_ok hf
  have hE9_115 : ∀ (v4 : Int32) , ex = (.inl v4) → ∀ (H : Heap) (locs : List Loc) (ls : Array Slot), va_P D vwCl (wX5 T hgr gr ++ wX8 T hgw gw) H → va_D A (wX5 T hgr gr ++ wX8 T hgw gw) → va_S A s.heap H locs → lv_has ls 9 [(3, .int a3), (4, .int v4)] → W p l e rX5_verdict s m args below meth c H locs 0 0 Q (F0 m 115 ls []) := by
    intro v4 hex H locs ls hP hD hS hl
    have hf := zExL1 hex hf
    refine lv_iload hx hb dX5_verdict_115 (lv_at hl 1 rfl) ?_
    refine lv_iload_n hx hb dX5_verdict_117 rfl (lv_at hl 0 rfl) ?_
    refine lv_icmp_ne (tgt := 125) hx hb dX5_verdict_118 (by decide) (fun hc => ?_) (fun hc => ?_)
    · replace hf := zIf_f hc hf
      refine lv_sipush (v := 222) hx hb dX5_verdict_125 (by decide) ?_
      obtain ⟨q1, -⟩ := zI1 hf
      subst q1
      exact zRetI hQ hx hb hr hlocks hA0 hK hP hD hS rfl dX5_verdict_128
    · replace hf := zIf_t hc hf
      refine lv_iconst (v := 0) hx hb dX5_verdict_121 (by decide) ?_
      refine lv_goto (tgt := 128) hx hb dX5_verdict_122 (by decide) ?_
      obtain ⟨q1, -⟩ := zI1 hf
      subst q1
      exact zRetI hQ hx hb hr hlocks hA0 hK hP hD hS rfl dX5_verdict_128
  have hE9_89 : ∀ (v5 : Int32) , ex = (.inr v5) → ∀ (H : Heap) (locs : List Loc) (ls : Array Slot), va_P D vwCl (wX5 T hgr gr ++ wX8 T hgw gw) H → va_D A (wX5 T hgr gr ++ wX8 T hgw gw) → va_S A s.heap H locs → lv_has ls 9 [(6, .int v5)] → W p l e rX5_verdict s m args below meth c H locs 0 0 Q (F0 m 89 ls []) := by
    intro v5 hex H locs ls hP hD hS hl
    have hf := zSmR hex hf
    have hf := zEx1 rfl hf
    refine lv_iload hx hb dX5_verdict_89 (lv_at hl 0 rfl) ?_
    refine lv_iconst (v := 1) hx hb dX5_verdict_91 (by decide) ?_
    refine lv_iadd hx hb dX5_verdict_92 ?_
    obtain ⟨q1, -⟩ := zI1 hf
    subst q1
    exact zRetI hQ hx hb hr hlocks hA0 hK hP hD hS rfl dX5_verdict_93
  refine zLpS3 (body := (fX5_verdict_L9 gr gw)) (b := ex) (fun (v1 : Int32) (v2 : Int32) (v3 : Int32) => ∀ (H : Heap) (locs : List Loc) (ls : Array Slot), va_P D vwCl (wX5 T hgr gr ++ wX8 T hgw gw) H → va_D A (wX5 T hgr gr ++ wX8 T hgw gw) → va_S A s.heap H locs → lv_has ls 9 [(0, .ref (hgr 0)), (1, .ref (hgw 0)), (3, .int a3), (4, .int v1), (5, .int v2), (6, .int v3)] → W p l e rX5_verdict s m args below meth c H locs 0 0 Q (F0 m 9 ls [])) ?_ zFU a2 (-1) 0 hlp H locs ls hP hD hS (lv_sub hl [3, 4, 6, 2, 1, 0] rfl)
  intro v1 v2 v3 z hf hzz H locs ls hP hD hS hl
  unfold fX5_verdict_L9 at hf
  replace hf := zUk3 hf
  refine lv_iload hx hb dX5_verdict_9 (lv_at hl 5 rfl) ?_
  refine lv_aload_n hx hb dX5_verdict_11 rfl (lv_at hl 0 rfl) ?_
  refine zGet (ci := 5) (C := RX5) (F := TX5) (N := 2) (v := .int (gr 0 1)) hx hb hts hiX5 hown hK hP 0 1 1 rfl rfl (by decide) rfl rfl rfl dX5_verdict_12 ?_
  refine lv_icmp_ge (tgt := 115) hx hb dX5_verdict_15 (by decide) (fun hc => ?_) (fun hc => ?_)
  · replace hf := zIf_t hc hf
    cases hf
    exact hE9_115 v1 hzz.symm H locs ls hP hD hS (lv_sub hl [2, 3] rfl)
  · replace hf := zIf_f hc hf
    refine lv_aload_n hx hb dX5_verdict_18 rfl (lv_at hl 0 rfl) ?_
    refine zGet (ci := 5) (C := RX5) (F := TX5) (N := 2) (v := .ref (hgr 1)) hx hb hts hiX5 hown hK hP 0 0 2 rfl rfl (by decide) rfl rfl rfl dX5_verdict_19 ?_
    refine lv_iload hx hb dX5_verdict_22 (lv_at hl 5 rfl) ?_
    obtain ⟨hin24, hf⟩ := zGd_ok hf
    refine zAldA (h := hgr) hx hb hK hP 1 2 rfl hin24 dX5_verdict_24 ?_
    refine lv_iconst (v := 0) hx hb dX5_verdict_25 (by decide) ?_
    obtain ⟨hg, hf⟩ := zGd_ok hf
    refine zAldI hx hb hK hP (2 + v3.toNatClampNeg) (zRow10 (P := fun k => (wX5 T hgr gr ++ wX8 T hgw gw)[2 + k]? = some ((hgr (2 + k)), .inl (T 0, 3, .inl (gr (2 + k))))) rfl rfl rfl rfl rfl rfl rfl rfl rfl rfl (zIn_lt hin24)) hg dX5_verdict_26 (fun v6 ev6 => ?_)
    replace hf := zLt_at ev6 hf
    refine lv_istore (lv' := [(7, .int v6), (0, .ref (hgr 0)), (1, .ref (hgw 0)), (3, .int a3), (4, .int v1), (5, .int v2), (6, .int v3)]) hx hb dX5_verdict_27 hl (by decide) rfl (fun ls hl => ?_)
    refine lv_iload hx hb dX5_verdict_29 (lv_at hl 0 rfl) ?_
    refine lv_iload hx hb dX5_verdict_31 (lv_at hl 5 rfl) ?_
    have hJ62 : ∀ (v7 : Int32) (H : Heap) (locs : List Loc) (ls : Array Slot), fX5_verdict_L9J62 gr gw v1 v3 v6 v7 = some z → va_P D vwCl (wX5 T hgr gr ++ wX8 T hgw gw) H → va_D A (wX5 T hgr gr ++ wX8 T hgw gw) → va_S A s.heap H locs → lv_has ls 9 [(0, .ref (hgr 0)), (1, .ref (hgw 0)), (3, .int a3), (4, .int v1), (6, .int v3), (7, .int v6)] → W p l e rX5_verdict s m args below meth c H locs 0 0 Q (F0 m 62 ls [.int v7]) := by
      intro v7 H locs ls hf hP hD hS hl
      unfold fX5_verdict_L9J62 at hf
      refine lv_istore (lv' := [(8, .int v7), (0, .ref (hgr 0)), (1, .ref (hgw 0)), (3, .int a3), (4, .int v1), (6, .int v3), (7, .int v6)]) hx hb dX5_verdict_62 hl (by decide) rfl (fun ls hl => ?_)
      refine lv_iload hx hb dX5_verdict_64 (lv_at hl 0 rfl) ?_
      refine lv_if_eq (tgt := 89) hx hb dX5_verdict_66 (by decide) (fun hc => ?_) (fun hc => ?_)
      · replace hf := zIf_t hc hf
        cases hf
        exact hE9_89 v3 hzz.symm H locs ls hP hD hS (lv_sub hl [5] rfl)
      · replace hf := zIf_f hc hf
        refine lv_aload_n hx hb dX5_verdict_69 rfl (lv_at hl 2 rfl) ?_
        refine lv_iload hx hb dX5_verdict_70 (lv_at hl 4 rfl) ?_
        refine lv_aload_n hx hb dX5_verdict_72 rfl (lv_at hl 1 rfl) ?_
        refine zGet (ci := 5) (C := RX5) (F := TX5) (N := 2) (v := .ref (hgr 1)) hx hb hts hiX5 hown hK hP 0 0 2 rfl rfl (by decide) rfl rfl rfl dX5_verdict_73 ?_
        refine lv_iload hx hb dX5_verdict_76 (lv_at hl 5 rfl) ?_
        obtain ⟨hin78, hf⟩ := zGd_ok hf
        refine zAldA (h := hgr) hx hb hK hP 1 2 rfl hin78 dX5_verdict_78 ?_
        refine lv_iconst (v := 2) hx hb dX5_verdict_79 (by decide) ?_
        obtain ⟨hg, hf⟩ := zGd_ok hf
        refine zAldI hx hb hK hP (2 + v3.toNatClampNeg) (zRow10 (P := fun k => (wX5 T hgr gr ++ wX8 T hgw gw)[2 + k]? = some ((hgr (2 + k)), .inl (T 0, 3, .inl (gr (2 + k))))) rfl rfl rfl rfl rfl rfl rfl rfl rfl rfl (zIn_lt hin78)) hg dX5_verdict_80 (fun v8 ev8 => ?_)
        replace hf := zLt_at ev8 hf
        refine lv_iload hx hb dX5_verdict_81 (lv_at hl 6 rfl) ?_
        obtain ⟨v9, hc83, hf⟩ := zB1_ok hf
        refine zCallSJI (wr := wX5 T hgr gr) (ws' := wX5 T hgr gr ++ wX8 T hgw gw) [.ref (hgw 0), .int v1, .int v8, .int v6] ⟨hx, hb, hml, hown, hts⟩ (pX5_isTold l D T X hgw H.size gw v1 v8 v6 v9 hc83) (va_cwS 4 hts gX5_verdict_X5_isTold rfl rfl rfl (by decide +kernel) ⟨Nat.le_of_ble_eq_true rfl, Nat.le_of_ble_eq_true rfl⟩) hK hP hD hS hA hX [12, 13, 14, 15, 16, 17, 18, 19, 20, 21, 22] [0, 1, 2, 3, 4, 5, 6, 7, 8, 9, 10, 11] [0, 1, 2, 3, 4, 5, 6, 7, 8, 9, 10, 11, 12, 13, 14, 15, 16, 17, 18, 19, 20, 21, 22] rfl rfl rfl rfl rfl hl.1 rfl (Nat.le_of_ble_eq_true rfl) dX5_verdict_83 ⟨Nat.zero_le _, Nat.zero_le _⟩ (fun H locs hP hD hS => ?_)
        refine lv_if_ne (tgt := 94) hx hb dX5_verdict_86 (by decide) (fun hc => ?_) (fun hc => ?_)
        · replace hf := zIf_f hc hf
          refine lv_aload_n hx hb dX5_verdict_94 rfl (lv_at hl 1 rfl) ?_
          refine zGet (ci := 5) (C := RX5) (F := TX5) (N := 2) (v := .ref (hgr 1)) hx hb hts hiX5 hown hK hP 0 0 2 rfl rfl (by decide) rfl rfl rfl dX5_verdict_95 ?_
          refine lv_iload hx hb dX5_verdict_98 (lv_at hl 5 rfl) ?_
          obtain ⟨hin100, hf⟩ := zGd_ok hf
          refine zAldA (h := hgr) hx hb hK hP 1 2 rfl hin100 dX5_verdict_100 ?_
          refine lv_iconst (v := 2) hx hb dX5_verdict_101 (by decide) ?_
          obtain ⟨hg, hf⟩ := zGd_ok hf
          refine zAldI hx hb hK hP (2 + v3.toNatClampNeg) (zRow10 (P := fun k => (wX5 T hgr gr ++ wX8 T hgw gw)[2 + k]? = some ((hgr (2 + k)), .inl (T 0, 3, .inl (gr (2 + k))))) rfl rfl rfl rfl rfl rfl rfl rfl rfl rfl (zIn_lt hin100)) hg dX5_verdict_102 (fun v10 ev10 => ?_)
          replace hf := zLt_at ev10 hf
          refine lv_istore (lv' := [(4, .int v10), (8, .int v7), (0, .ref (hgr 0)), (1, .ref (hgw 0)), (3, .int a3), (6, .int v3), (7, .int v6)]) hx hb dX5_verdict_103 hl (by decide) rfl (fun ls hl => ?_)
          refine lv_iload hx hb dX5_verdict_105 (lv_at hl 6 rfl) ?_
          refine lv_istore (lv' := [(5, .int v6), (4, .int v10), (8, .int v7), (0, .ref (hgr 0)), (1, .ref (hgw 0)), (3, .int a3), (6, .int v3), (7, .int v6)]) hx hb dX5_verdict_107 hl (by decide) rfl (fun ls hl => ?_)
          obtain ⟨v11, ev11⟩ : ∃ y : Int32, y = v3 + 1 := ⟨_, rfl⟩
          replace hf := zLt_at ev11 hf
          refine lv_iinc (v := v11) (lv' := [(6, .int v11), (5, .int v6), (4, .int v10), (8, .int v7), (0, .ref (hgr 0)), (1, .ref (hgw 0)), (3, .int a3), (7, .int v6)]) hx hb dX5_verdict_109 hl (k := 6) rfl (by rw [ev11]; rfl) (by decide) rfl (fun ls hl => ?_)
          refine lv_goto (tgt := 9) hx hb dX5_verdict_112 (by decide) ?_
          cases hf
          exact hzz H locs ls hP hD hS (lv_sub hl [4, 5, 6, 2, 1, 0] rfl)
        · replace hf := zIf_t hc hf
          cases hf
          exact hE9_89 v3 hzz.symm H locs ls hP hD hS (lv_sub hl [5] rfl)
    have hJ61 : ∀ (H : Heap) (locs : List Loc) (ls : Array Slot), fX5_verdict_L9J61 gr gw v1 v3 v6 = some z → va_P D vwCl (wX5 T hgr gr ++ wX8 T hgw gw) H → va_D A (wX5 T hgr gr ++ wX8 T hgw gw) → va_S A s.heap H locs → lv_has ls 9 [(0, .ref (hgr 0)), (1, .ref (hgw 0)), (3, .int a3), (4, .int v1), (6, .int v3), (7, .int v6)] → W p l e rX5_verdict s m args below meth c H locs 0 0 Q (F0 m 61 ls []) := by
      intro H locs ls hf hP hD hS hl
      unfold fX5_verdict_L9J61 at hf
      refine lv_iconst (v := 0) hx hb dX5_verdict_61 (by decide) ?_
      exact hJ62 0 H locs ls hf hP hD hS hl
    refine lv_icmp_le (tgt := 61) hx hb dX5_verdict_33 (by decide) (fun hc => ?_) (fun hc => ?_)
    · replace hf := zIf_t hc hf
      exact hJ61 H locs ls hf hP hD hS (lv_sub hl [1, 2, 3, 4, 6, 0] rfl)
    · replace hf := zIf_f hc hf
      refine lv_iload hx hb dX5_verdict_36 (lv_at hl 0 rfl) ?_
      refine lv_bipush (v := 100) hx hb dX5_verdict_38 (by decide) ?_
      refine lv_icmp_ge (tgt := 61) hx hb dX5_verdict_40 (by decide) (fun hc => ?_) (fun hc => ?_)
      · replace hf := zIf_t hc hf
        exact hJ61 H locs ls hf hP hD hS (lv_sub hl [1, 2, 3, 4, 6, 0] rfl)
      · replace hf := zIf_f hc hf
        refine lv_aload_n hx hb dX5_verdict_43 rfl (lv_at hl 1 rfl) ?_
        refine zGet (ci := 5) (C := RX5) (F := TX5) (N := 2) (v := .ref (hgr 1)) hx hb hts hiX5 hown hK hP 0 0 2 rfl rfl (by decide) rfl rfl rfl dX5_verdict_44 ?_
        refine lv_iload hx hb dX5_verdict_47 (lv_at hl 6 rfl) ?_
        obtain ⟨hin49, hf⟩ := zGd_ok hf
        refine zAldA (h := hgr) hx hb hK hP 1 2 rfl hin49 dX5_verdict_49 ?_
        refine lv_iconst (v := 1) hx hb dX5_verdict_50 (by decide) ?_
        obtain ⟨hg, hf⟩ := zGd_ok hf
        refine zAldI hx hb hK hP (2 + v3.toNatClampNeg) (zRow10 (P := fun k => (wX5 T hgr gr ++ wX8 T hgw gw)[2 + k]? = some ((hgr (2 + k)), .inl (T 0, 3, .inl (gr (2 + k))))) rfl rfl rfl rfl rfl rfl rfl rfl rfl rfl (zIn_lt hin49)) hg dX5_verdict_51 (fun v12 ev12 => ?_)
        replace hf := zLt_at ev12 hf
        refine lv_iload hx hb dX5_verdict_52 (lv_at hl 4 rfl) ?_
        refine lv_icmp_ne (tgt := 61) hx hb dX5_verdict_54 (by decide) (fun hc => ?_) (fun hc => ?_)
        · replace hf := zIf_f hc hf
          exact hJ61 H locs ls hf hP hD hS (lv_sub hl [1, 2, 3, 4, 6, 0] rfl)
        · replace hf := zIf_t hc hf
          refine lv_iconst (v := 1) hx hb dX5_verdict_57 (by decide) ?_
          refine lv_goto (tgt := 62) hx hb dX5_verdict_58 (by decide) ?_
          exact hJ62 1 H locs ls hf hP hD hS (lv_sub hl [1, 2, 3, 4, 6, 0] rfl)
set_option maxHeartbeats 4000000 in
set_option maxRecDepth 100000 in
theorem pX8_unsureTies (l : Launch) (D : va_G) (T : Nat → ClassId) (X : zFP) (hgw : Nat → Nat) (sz : Nat) (gw : zM) (r : Int32) (hf : fX8_unsureTies gw = some r) : Met l yX8_unsureTies wsX8_unsureTies rX8_unsureTies (zPre D T X [.ref (hgw 0)] (wX8 T hgw gw) sz) (zQi D T r (wX8 T hgw gw) (wX8 T hgw gw) sz) 0 0 (va_A (wX8 T hgw gw) sz) := by
  unfold fX8_unsureTies at hf
  refine zStart [(0, .ref (hgw 0))] (by decide) rfl (Nat.le_of_ble_eq_true rfl) rfl ?_
  intro p e s m args below meth c A Q ls hx hb hr hml hown hlocks hts hsz hA0 hQ hA hK hX hP hD hS hl
  replace hown : s.vm.findClass RX8 = some m.cls := hown
  have hH := hsz
  have hiX8 : ∀ w ∈ u_ws RX8 TX8 14, w ∈ wsX8_unsureTies := fun w h => List.mem_cons_of_mem _ (List.mem_append_right _ (h))
  obtain ⟨H, hHe⟩ : ∃ H : Heap, H = s.heap := ⟨_, rfl⟩
  obtain ⟨locs, hLe⟩ : ∃ L : List Loc, L = [] := ⟨_, rfl⟩
  replace hP : va_P D vwCl (wX8 T hgw gw) H := by rw [hHe]; exact hP
  replace hS : va_S A s.heap H locs := by rw [hHe, hLe]; exact hS
  suffices hgo : W p l e rX8_unsureTies s m args below meth c H locs 0 0 Q (F0 m 0 ls []) by rw [hHe, hLe] at hgo; exact hgo
  clear hHe hLe
  refine lv_iconst (v := 0) hx hb dX8_unsureTies_0 (by decide) ?_
  refine lv_istore_n (lv' := [(1, .int 0), (0, .ref (hgw 0))]) hx hb dX8_unsureTies_1 rfl hl (by decide) rfl (fun ls hl => ?_)
  refine lv_iconst (v := 0) hx hb dX8_unsureTies_2 (by decide) ?_
  refine lv_istore_n (lv' := [(2, .int 0), (1, .int 0), (0, .ref (hgw 0))]) hx hb dX8_unsureTies_3 rfl hl (by decide) rfl (fun ls hl => ?_)
  obtain ⟨ex, hlp, hf⟩ := zB1_ok hf
  have hE4_43 : ∀ (v3 : Int32) , ex = v3 → ∀ (H : Heap) (locs : List Loc) (ls : Array Slot), va_P D vwCl (wX8 T hgw gw) H → va_D A (wX8 T hgw gw) → va_S A s.heap H locs → lv_has ls 3 [(1, .int v3)] → W p l e rX8_unsureTies s m args below meth c H locs 0 0 Q (F0 m 43 ls []) := by
    intro v3 hex H locs ls hP hD hS hl
    have hf := zEx1 hex hf
    refine lv_iload_n hx hb dX8_unsureTies_43 rfl (lv_at hl 0 rfl) ?_
    obtain ⟨q1, -⟩ := zI1 hf
    subst q1
    exact zRetI hQ hx hb hr hlocks hA0 hK hP hD hS rfl dX8_unsureTies_44
  refine zLpS2 (body := (fX8_unsureTies_L4 gw)) (b := ex) (fun (v1 : Int32) (v2 : Int32) => ∀ (H : Heap) (locs : List Loc) (ls : Array Slot), va_P D vwCl (wX8 T hgw gw) H → va_D A (wX8 T hgw gw) → va_S A s.heap H locs → lv_has ls 3 [(0, .ref (hgw 0)), (1, .int v1), (2, .int v2)] → W p l e rX8_unsureTies s m args below meth c H locs 0 0 Q (F0 m 4 ls [])) ?_ zFU 0 0 hlp H locs ls hP hD hS (lv_sub hl [2, 1, 0] rfl)
  intro v1 v2 z hf hzz H locs ls hP hD hS hl
  unfold fX8_unsureTies_L4 at hf
  replace hf := zUk2 hf
  refine lv_iload_n hx hb dX8_unsureTies_4 rfl (lv_at hl 2 rfl) ?_
  refine lv_aload_n hx hb dX8_unsureTies_5 rfl (lv_at hl 0 rfl) ?_
  refine zGet (ci := 8) (C := RX8) (F := TX8) (N := 14) (v := .int (gw 0 3)) hx hb hts hiX8 hown hK hP 0 3 1 rfl rfl (by decide) rfl rfl rfl dX8_unsureTies_6 ?_
  refine lv_icmp_ge (tgt := 43) hx hb dX8_unsureTies_9 (by decide) (fun hc => ?_) (fun hc => ?_)
  · replace hf := zIf_t hc hf
    cases hf
    exact hE4_43 v1 hzz.symm H locs ls hP hD hS (lv_sub hl [1] rfl)
  · replace hf := zIf_f hc hf
    refine lv_aload_n hx hb dX8_unsureTies_12 rfl (lv_at hl 0 rfl) ?_
    refine zGet (ci := 8) (C := RX8) (F := TX8) (N := 14) (v := .ref (hgw 6)) hx hb hts hiX8 hown hK hP 0 7 2 rfl rfl (by decide) rfl rfl rfl dX8_unsureTies_13 ?_
    refine lv_iload_n hx hb dX8_unsureTies_16 rfl (lv_at hl 2 rfl) ?_
    obtain ⟨hg, hf⟩ := zGd_ok hf
    refine zAldI hx hb hK hP 6 rfl hg dX8_unsureTies_17 (fun v4 ev4 => ?_)
    replace hf := zLt_at ev4 hf
    refine lv_iconst (v := 4) hx hb dX8_unsureTies_18 (by decide) ?_
    have hJ37 : ∀ (v5 : Int32) (H : Heap) (locs : List Loc) (ls : Array Slot), fX8_unsureTies_L4J37 v2 v5 = some z → va_P D vwCl (wX8 T hgw gw) H → va_D A (wX8 T hgw gw) → va_S A s.heap H locs → lv_has ls 3 [(0, .ref (hgw 0)), (1, .int v5), (2, .int v2)] → W p l e rX8_unsureTies s m args below meth c H locs 0 0 Q (F0 m 37 ls []) := by
      intro v5 H locs ls hf hP hD hS hl
      unfold fX8_unsureTies_L4J37 at hf
      obtain ⟨v6, ev6⟩ : ∃ y : Int32, y = v2 + 1 := ⟨_, rfl⟩
      replace hf := zLt_at ev6 hf
      refine lv_iinc (v := v6) (lv' := [(2, .int v6), (0, .ref (hgw 0)), (1, .int v5)]) hx hb dX8_unsureTies_37 hl (k := 2) rfl (by rw [ev6]; rfl) (by decide) rfl (fun ls hl => ?_)
      refine lv_goto (tgt := 4) hx hb dX8_unsureTies_40 (by decide) ?_
      cases hf
      exact hzz H locs ls hP hD hS (lv_sub hl [1, 2, 0] rfl)
    refine lv_icmp_ge (tgt := 37) hx hb dX8_unsureTies_19 (by decide) (fun hc => ?_) (fun hc => ?_)
    · replace hf := zIf_t hc hf
      exact hJ37 v1 H locs ls hf hP hD hS hl
    · replace hf := zIf_f hc hf
      refine lv_aload_n hx hb dX8_unsureTies_22 rfl (lv_at hl 0 rfl) ?_
      refine lv_iload_n hx hb dX8_unsureTies_23 rfl (lv_at hl 2 rfl) ?_
      refine lv_iconst (v := 0) hx hb dX8_unsureTies_24 (by decide) ?_
      obtain ⟨v7, hc25, hf⟩ := zB1_ok hf
      refine zCallVEI [.int v2, .int 0] ⟨hx, hb, hml, hown, hts⟩ (pX8_isOpen l D T X hgw H.size gw v2 0 v7 hc25) (cwV 2 hts gX8_unsureTies_X8_isOpen rfl rfl rfl (by decide +kernel) ⟨Nat.le_of_ble_eq_true rfl, Nat.le_of_ble_eq_true rfl⟩) hK hP hD hS hA hX 0 rfl rfl rfl hl.1 rfl (Nat.le_of_ble_eq_true rfl) dX8_unsureTies_25 ⟨Nat.zero_le _, Nat.zero_le _⟩ (fun H locs hP hD hS => ?_)
      refine lv_if_eq (tgt := 37) hx hb dX8_unsureTies_28 (by decide) (fun hc => ?_) (fun hc => ?_)
      · replace hf := zIf_t hc hf
        exact hJ37 v1 H locs ls hf hP hD hS hl
      · replace hf := zIf_f hc hf
        refine lv_iload_n hx hb dX8_unsureTies_31 rfl (lv_at hl 1 rfl) ?_
        refine lv_iconst (v := 1) hx hb dX8_unsureTies_32 (by decide) ?_
        refine lv_iload_n hx hb dX8_unsureTies_33 rfl (lv_at hl 2 rfl) ?_
        refine lv_ishl hx hb dX8_unsureTies_34 ?_
        refine lv_ior hx hb dX8_unsureTies_35 ?_
        refine lv_topi (fun v8 ev8 => ?_)
        replace hf := zLt_at ev8 hf
        refine lv_istore_n (lv' := [(1, .int v8), (0, .ref (hgw 0)), (2, .int v2)]) hx hb dX8_unsureTies_36 rfl hl (by decide) rfl (fun ls hl => ?_)
        exact hJ37 v8 H locs ls hf hP hD hS (lv_sub hl [1, 0, 2] rfl)
set_option maxHeartbeats 4000000 in
set_option maxRecDepth 100000 in
theorem pX8_openTies (l : Launch) (D : va_G) (T : Nat → ClassId) (X : zFP) (hgw : Nat → Nat) (sz : Nat) (gw : zM) (a1 : Int32) (r : Int32) (hf : fX8_openTies gw a1 = some r) : Met l yX8_openTies wsX8_openTies rX8_openTies (zPre D T X [.ref (hgw 0), .int a1] (wX8 T hgw gw) sz) (zQi D T r (wX8 T hgw gw) (wX8 T hgw gw) sz) 0 0 (va_A (wX8 T hgw gw) sz) := by
  unfold fX8_openTies at hf
  refine zStart [(0, .ref (hgw 0)), (1, .int a1)] (by decide) rfl (Nat.le_of_ble_eq_true rfl) rfl ?_
  intro p e s m args below meth c A Q ls hx hb hr hml hown hlocks hts hsz hA0 hQ hA hK hX hP hD hS hl
  replace hown : s.vm.findClass RX8 = some m.cls := hown
  have hH := hsz
  have hiX8 : ∀ w ∈ u_ws RX8 TX8 14, w ∈ wsX8_openTies := fun w h => List.mem_cons_of_mem _ (List.mem_append_right _ (h))
  obtain ⟨H, hHe⟩ : ∃ H : Heap, H = s.heap := ⟨_, rfl⟩
  obtain ⟨locs, hLe⟩ : ∃ L : List Loc, L = [] := ⟨_, rfl⟩
  replace hP : va_P D vwCl (wX8 T hgw gw) H := by rw [hHe]; exact hP
  replace hS : va_S A s.heap H locs := by rw [hHe, hLe]; exact hS
  suffices hgo : W p l e rX8_openTies s m args below meth c H locs 0 0 Q (F0 m 0 ls []) by rw [hHe, hLe] at hgo; exact hgo
  clear hHe hLe
  refine lv_iconst (v := 0) hx hb dX8_openTies_0 (by decide) ?_
  refine lv_istore_n (lv' := [(2, .int 0), (0, .ref (hgw 0)), (1, .int a1)]) hx hb dX8_openTies_1 rfl hl (by decide) rfl (fun ls hl => ?_)
  refine lv_iconst (v := 0) hx hb dX8_openTies_2 (by decide) ?_
  refine lv_istore_n (lv' := [(3, .int 0), (2, .int 0), (0, .ref (hgw 0)), (1, .int a1)]) hx hb dX8_openTies_3 rfl hl (by decide) rfl (fun ls hl => ?_)
  obtain ⟨ex, hlp, hf⟩ := zB1_ok hf
  have hE4_33 : ∀ (v3 : Int32) , ex = v3 → ∀ (H : Heap) (locs : List Loc) (ls : Array Slot), va_P D vwCl (wX8 T hgw gw) H → va_D A (wX8 T hgw gw) → va_S A s.heap H locs → lv_has ls 4 [(2, .int v3)] → W p l e rX8_openTies s m args below meth c H locs 0 0 Q (F0 m 33 ls []) := by
    intro v3 hex H locs ls hP hD hS hl
    have hf := zEx1 hex hf
    refine lv_iload_n hx hb dX8_openTies_33 rfl (lv_at hl 0 rfl) ?_
    obtain ⟨q1, -⟩ := zI1 hf
    subst q1
    exact zRetI hQ hx hb hr hlocks hA0 hK hP hD hS rfl dX8_openTies_34
  refine zLpS2 (body := (fX8_openTies_L4 a1 gw)) (b := ex) (fun (v1 : Int32) (v2 : Int32) => ∀ (H : Heap) (locs : List Loc) (ls : Array Slot), va_P D vwCl (wX8 T hgw gw) H → va_D A (wX8 T hgw gw) → va_S A s.heap H locs → lv_has ls 4 [(0, .ref (hgw 0)), (1, .int a1), (2, .int v1), (3, .int v2)] → W p l e rX8_openTies s m args below meth c H locs 0 0 Q (F0 m 4 ls [])) ?_ zFU 0 0 hlp H locs ls hP hD hS (lv_sub hl [2, 3, 1, 0] rfl)
  intro v1 v2 z hf hzz H locs ls hP hD hS hl
  unfold fX8_openTies_L4 at hf
  replace hf := zUk2 hf
  refine lv_iload_n hx hb dX8_openTies_4 rfl (lv_at hl 3 rfl) ?_
  refine lv_aload_n hx hb dX8_openTies_5 rfl (lv_at hl 0 rfl) ?_
  refine zGet (ci := 8) (C := RX8) (F := TX8) (N := 14) (v := .int (gw 0 3)) hx hb hts hiX8 hown hK hP 0 3 1 rfl rfl (by decide) rfl rfl rfl dX8_openTies_6 ?_
  refine lv_icmp_ge (tgt := 33) hx hb dX8_openTies_9 (by decide) (fun hc => ?_) (fun hc => ?_)
  · replace hf := zIf_t hc hf
    cases hf
    exact hE4_33 v1 hzz.symm H locs ls hP hD hS (lv_sub hl [2] rfl)
  · replace hf := zIf_f hc hf
    refine lv_aload_n hx hb dX8_openTies_12 rfl (lv_at hl 0 rfl) ?_
    refine lv_iload_n hx hb dX8_openTies_13 rfl (lv_at hl 3 rfl) ?_
    refine lv_iload_n hx hb dX8_openTies_14 rfl (lv_at hl 1 rfl) ?_
    obtain ⟨v4, hc15, hf⟩ := zB1_ok hf
    refine zCallVEI [.int v2, .int a1] ⟨hx, hb, hml, hown, hts⟩ (pX8_isOpen l D T X hgw H.size gw v2 a1 v4 hc15) (cwV 2 hts gX8_openTies_X8_isOpen rfl rfl rfl (by decide +kernel) ⟨Nat.le_of_ble_eq_true rfl, Nat.le_of_ble_eq_true rfl⟩) hK hP hD hS hA hX 0 rfl rfl rfl hl.1 rfl (Nat.le_of_ble_eq_true rfl) dX8_openTies_15 ⟨Nat.zero_le _, Nat.zero_le _⟩ (fun H locs hP hD hS => ?_)
    have hJ27 : ∀ (v5 : Int32) (H : Heap) (locs : List Loc) (ls : Array Slot), fX8_openTies_L4J27 v2 v5 = some z → va_P D vwCl (wX8 T hgw gw) H → va_D A (wX8 T hgw gw) → va_S A s.heap H locs → lv_has ls 4 [(0, .ref (hgw 0)), (1, .int a1), (2, .int v5), (3, .int v2)] → W p l e rX8_openTies s m args below meth c H locs 0 0 Q (F0 m 27 ls []) := by
      intro v5 H locs ls hf hP hD hS hl
      unfold fX8_openTies_L4J27 at hf
      obtain ⟨v6, ev6⟩ : ∃ y : Int32, y = v2 + 1 := ⟨_, rfl⟩
      replace hf := zLt_at ev6 hf
      refine lv_iinc (v := v6) (lv' := [(3, .int v6), (0, .ref (hgw 0)), (1, .int a1), (2, .int v5)]) hx hb dX8_openTies_27 hl (k := 3) rfl (by rw [ev6]; rfl) (by decide) rfl (fun ls hl => ?_)
      refine lv_goto (tgt := 4) hx hb dX8_openTies_30 (by decide) ?_
      cases hf
      exact hzz H locs ls hP hD hS (lv_sub hl [1, 2, 3, 0] rfl)
    refine lv_if_eq (tgt := 27) hx hb dX8_openTies_18 (by decide) (fun hc => ?_) (fun hc => ?_)
    · replace hf := zIf_t hc hf
      exact hJ27 v1 H locs ls hf hP hD hS hl
    · replace hf := zIf_f hc hf
      refine lv_iload_n hx hb dX8_openTies_21 rfl (lv_at hl 2 rfl) ?_
      refine lv_iconst (v := 1) hx hb dX8_openTies_22 (by decide) ?_
      refine lv_iload_n hx hb dX8_openTies_23 rfl (lv_at hl 3 rfl) ?_
      refine lv_ishl hx hb dX8_openTies_24 ?_
      refine lv_ior hx hb dX8_openTies_25 ?_
      refine lv_topi (fun v7 ev7 => ?_)
      replace hf := zLt_at ev7 hf
      refine lv_istore_n (lv' := [(2, .int v7), (0, .ref (hgw 0)), (1, .int a1), (3, .int v2)]) hx hb dX8_openTies_26 rfl hl (by decide) rfl (fun ls hl => ?_)
      exact hJ27 v7 H locs ls hf hP hD hS (lv_sub hl [1, 2, 0, 3] rfl)
set_option maxHeartbeats 4000000 in
set_option maxRecDepth 100000 in
theorem pX6_gather (l : Launch) (D : va_G) (T : Nat → ClassId) (X : zFP) (hgl : Nat → Nat) (hgw : Nat → Nat) (sz : Nat) (gl : zM) (gw : zM) (ngl : zM) (hf : fX6_gather gl gw = some ngl) : Met l yX6_gather wsX6_gather rX6_gather (zPre D T X [.ref (hgl 0), .ref (hgw 0)] (wX6 T hgl gl ++ wX8 T hgw gw) sz) (zQv D T (wX6 T hgl ngl ++ wX8 T hgw gw) (wX6 T hgl gl ++ wX8 T hgw gw) sz) 0 0 (va_A (wX6 T hgl gl ++ wX8 T hgw gw) sz) := by
  unfold fX6_gather at hf
  refine zStart [(0, .ref (hgl 0)), (1, .ref (hgw 0))] (by decide) rfl (Nat.le_of_ble_eq_true rfl) rfl ?_
  intro p e s m args below meth c A Q ls hx hb hr hml hown hlocks hts hsz hA0 hQ hA hK hX hP hD hS hl
  replace hown : s.vm.findClass RX6 = some m.cls := hown
  have hH := hsz
  have hiX6 : ∀ w ∈ u_ws RX6 TX6 3, w ∈ wsX6_gather := fun w h => List.mem_cons_of_mem _ (List.mem_append_left _ (List.mem_append_right _ (h)))
  have hiX8 : ∀ w ∈ u_ws RX8 TX8 14, w ∈ wsX6_gather := fun w h => List.mem_cons_of_mem _ (List.mem_append_right _ (h))
  obtain ⟨H, hHe⟩ : ∃ H : Heap, H = s.heap := ⟨_, rfl⟩
  obtain ⟨locs, hLe⟩ : ∃ L : List Loc, L = [] := ⟨_, rfl⟩
  replace hP : va_P D vwCl (wX6 T hgl gl ++ wX8 T hgw gw) H := by rw [hHe]; exact hP
  replace hS : va_S A s.heap H locs := by rw [hHe, hLe]; exact hS
  suffices hgo : W p l e rX6_gather s m args below meth c H locs 0 0 Q (F0 m 0 ls []) by rw [hHe, hLe] at hgo; exact hgo
  clear hHe hLe
  refine lv_aload_n hx hb dX6_gather_0 rfl (lv_at hl 1 rfl) ?_
  obtain ⟨v1, hc1, hf⟩ := zB1_ok hf
  refine zCallVJI (wr := wX6 T hgl gl) (ws' := wX6 T hgl gl ++ wX8 T hgw gw) [] ⟨hx, hb, hml, hown, hts⟩ (pX8_unsureTies l D T X hgw H.size gw v1 hc1) (cwV 0 hts gX6_gather_X8_unsureTies rfl rfl rfl (by decide +kernel) ⟨Nat.le_of_ble_eq_true rfl, Nat.le_of_ble_eq_true rfl⟩) hK hP hD hS hA hX [2, 3, 4, 5, 6, 7, 8, 9, 10, 11, 12] [0, 1] [0, 1, 2, 3, 4, 5, 6, 7, 8, 9, 10, 11, 12] rfl rfl rfl rfl 0 rfl rfl rfl hl.1 rfl (Nat.le_of_ble_eq_true rfl) dX6_gather_1 ⟨Nat.zero_le _, Nat.zero_le _⟩ (fun H locs hP hD hS => ?_)
  refine lv_istore_n (lv' := [(2, .int v1), (0, .ref (hgl 0)), (1, .ref (hgw 0))]) hx hb dX6_gather_4 rfl hl (by decide) rfl (fun ls hl => ?_)
  refine lv_aload_n hx hb dX6_gather_5 rfl (lv_at hl 1 rfl) ?_
  refine lv_aload_n hx hb dX6_gather_6 rfl (lv_at hl 2 rfl) ?_
  refine lv_iconst (v := 0) hx hb dX6_gather_7 (by decide) ?_
  obtain ⟨v2, hc8, hf⟩ := zB1_ok hf
  refine zCallVJI (wr := wX6 T hgl gl) (ws' := wX6 T hgl gl ++ wX8 T hgw gw) [.int 0] ⟨hx, hb, hml, hown, hts⟩ (pX8_openTies l D T X hgw H.size gw 0 v2 hc8) (cwV 1 hts gX6_gather_X8_openTies rfl rfl rfl (by decide +kernel) ⟨Nat.le_of_ble_eq_true rfl, Nat.le_of_ble_eq_true rfl⟩) hK hP hD hS hA hX [2, 3, 4, 5, 6, 7, 8, 9, 10, 11, 12] [0, 1] [0, 1, 2, 3, 4, 5, 6, 7, 8, 9, 10, 11, 12] rfl rfl rfl rfl 0 rfl rfl rfl hl.1 rfl (Nat.le_of_ble_eq_true rfl) dX6_gather_8 ⟨Nat.zero_le _, Nat.zero_le _⟩ (fun H locs hP hD hS => ?_)
  refine lv_iload_n hx hb dX6_gather_11 rfl (lv_at hl 0 rfl) ?_
  refine lv_iconst (v := (-1)) hx hb dX6_gather_12 (by decide) ?_
  refine lv_ixor hx hb dX6_gather_13 ?_
  refine lv_iand hx hb dX6_gather_14 ?_
  refine lv_topi (fun v3 ev3 => ?_)
  replace hf := zLt_at ev3 hf
  refine zPut (ci := 6) (C := RX6) (F := TX6) (N := 3) (x := v3) (w := gl) hx hb hts hiX6 tyX6 tyX6_ok nmX6 hown hK hP hD hS (fun g => wX6 T hgl g ++ wX8 T hgw gw) 0 2 1 rfl rfl (by decide) rfl rfl rfl ⟨rfl, rfl⟩ (Nat.le_of_ble_eq_true rfl) rfl dX6_gather_15 (fun gl_4 egl_4 H locs hP hD hS => ?_)
  replace hP : va_P D vwCl (wX6 T hgl gl_4 ++ wX8 T hgw gw) H := hP
  replace hD : va_D A (wX6 T hgl gl_4 ++ wX8 T hgw gw) := hD
  replace hf := zLt_at egl_4 hf
  refine lv_aload_n hx hb dX6_gather_18 rfl (lv_at hl 1 rfl) ?_
  refine lv_iconst (v := 0) hx hb dX6_gather_19 (by decide) ?_
  refine zPut (ci := 6) (C := RX6) (F := TX6) (N := 3) (x := 0) (w := gl_4) hx hb hts hiX6 tyX6 tyX6_ok nmX6 hown hK hP hD hS (fun g => wX6 T hgl g ++ wX8 T hgw gw) 0 1 2 rfl rfl (by decide) rfl rfl rfl ⟨rfl, rfl⟩ (Nat.le_of_ble_eq_true rfl) rfl dX6_gather_20 (fun gl_5 egl_5 H locs hP hD hS => ?_)
  replace hP : va_P D vwCl (wX6 T hgl gl_5 ++ wX8 T hgw gw) H := hP
  replace hD : va_D A (wX6 T hgl gl_5 ++ wX8 T hgw gw) := hD
  replace hf := zLt_at egl_5 hf
  refine lv_iconst (v := 0) hx hb dX6_gather_23 (by decide) ?_
  refine lv_istore_n (lv' := [(3, .int 0), (2, .int v1), (0, .ref (hgl 0)), (1, .ref (hgw 0))]) hx hb dX6_gather_24 rfl hl (by decide) rfl (fun ls hl => ?_)
  obtain ⟨ex, hlp, hf⟩ := zB1_ok hf
  have hE25_76 : ∀ (gl_8 : zM) , ex = gl_8 → ∀ (H : Heap) (locs : List Loc) (ls : Array Slot), va_P D vwCl (wX6 T hgl gl_8 ++ wX8 T hgw gw) H → va_D A (wX6 T hgl gl_8 ++ wX8 T hgw gw) → va_S A s.heap H locs → lv_has ls 4 [] → W p l e rX6_gather s m args below meth c H locs 0 0 Q (F0 m 76 ls []) := by
    intro gl_8 hex H locs ls hP hD hS hl
    have hf := zEx1 hex hf
    obtain ⟨q1, -⟩ := zI1 hf
    subst q1
    exact zRetV hQ hx hb hr hlocks hA0 hK hP hD hS dX6_gather_76
  refine zLpS2 (body := (fX6_gather_L25 gw v1)) (b := ex) (fun (v6 : Int32) (gl_7 : zM) => ∀ (H : Heap) (locs : List Loc) (ls : Array Slot), va_P D vwCl (wX6 T hgl gl_7 ++ wX8 T hgw gw) H → va_D A (wX6 T hgl gl_7 ++ wX8 T hgw gw) → va_S A s.heap H locs → lv_has ls 4 [(0, .ref (hgl 0)), (1, .ref (hgw 0)), (2, .int v1), (3, .int v6)] → W p l e rX6_gather s m args below meth c H locs 0 0 Q (F0 m 25 ls [])) ?_ zFU 0 gl_5 hlp H locs ls hP hD hS (lv_sub hl [2, 3, 1, 0] rfl)
  intro v6 gl_7 z hf hzz H locs ls hP hD hS hl
  unfold fX6_gather_L25 at hf
  replace hf := zUk2 hf
  refine lv_iload_n hx hb dX6_gather_25 rfl (lv_at hl 3 rfl) ?_
  refine lv_aload_n hx hb dX6_gather_26 rfl (lv_at hl 1 rfl) ?_
  refine zGet (ci := 8) (C := RX8) (F := TX8) (N := 14) (v := .int (gw 0 3)) hx hb hts hiX8 hown hK hP 2 3 3 rfl rfl (by decide) rfl rfl rfl dX6_gather_27 ?_
  refine lv_icmp_ge (tgt := 76) hx hb dX6_gather_30 (by decide) (fun hc => ?_) (fun hc => ?_)
  · replace hf := zIf_t hc hf
    cases hf
    exact hE25_76 gl_7 hzz.symm H locs ls hP hD hS (lv_sub hl [] rfl)
  · replace hf := zIf_f hc hf
    refine lv_iload_n hx hb dX6_gather_33 rfl (lv_at hl 2 rfl) ?_
    refine lv_iload_n hx hb dX6_gather_34 rfl (lv_at hl 3 rfl) ?_
    refine lv_ishr hx hb dX6_gather_35 ?_
    refine lv_iconst (v := 1) hx hb dX6_gather_36 (by decide) ?_
    refine lv_iand hx hb dX6_gather_37 ?_
    have hJ70 : ∀ (gl_9 : zM) (H : Heap) (locs : List Loc) (ls : Array Slot), fX6_gather_L25J70 v6 gl_9 = some z → va_P D vwCl (wX6 T hgl gl_9 ++ wX8 T hgw gw) H → va_D A (wX6 T hgl gl_9 ++ wX8 T hgw gw) → va_S A s.heap H locs → lv_has ls 4 [(0, .ref (hgl 0)), (1, .ref (hgw 0)), (2, .int v1), (3, .int v6)] → W p l e rX6_gather s m args below meth c H locs 0 0 Q (F0 m 70 ls []) := by
      intro gl_9 H locs ls hf hP hD hS hl
      unfold fX6_gather_L25J70 at hf
      obtain ⟨v10, ev10⟩ : ∃ y : Int32, y = v6 + 1 := ⟨_, rfl⟩
      replace hf := zLt_at ev10 hf
      refine lv_iinc (v := v10) (lv' := [(3, .int v10), (0, .ref (hgl 0)), (1, .ref (hgw 0)), (2, .int v1)]) hx hb dX6_gather_70 hl (k := 3) rfl (by rw [ev10]; rfl) (by decide) rfl (fun ls hl => ?_)
      refine lv_goto (tgt := 25) hx hb dX6_gather_73 (by decide) ?_
      cases hf
      exact hzz H locs ls hP hD hS (lv_sub hl [1, 2, 3, 0] rfl)
    refine lv_if_eq (tgt := 70) hx hb dX6_gather_38 (by decide) (fun hc => ?_) (fun hc => ?_)
    · replace hf := zIf_t hc hf
      exact hJ70 gl_7 H locs ls hf hP hD hS hl
    · replace hf := zIf_f hc hf
      refine lv_aload_n hx hb dX6_gather_41 rfl (lv_at hl 0 rfl) ?_
      refine zGet (ci := 6) (C := RX6) (F := TX6) (N := 3) (v := .int (gl_7 0 1)) hx hb hts hiX6 hown hK hP 0 1 2 rfl rfl (by decide) rfl rfl rfl dX6_gather_42 ?_
      refine lv_bipush (v := 9) hx hb dX6_gather_45 (by decide) ?_
      refine lv_icmp_ge (tgt := 70) hx hb dX6_gather_47 (by decide) (fun hc => ?_) (fun hc => ?_)
      · replace hf := zIf_t hc hf
        exact hJ70 gl_7 H locs ls hf hP hD hS hl
      · replace hf := zIf_f hc hf
        refine lv_aload_n hx hb dX6_gather_50 rfl (lv_at hl 0 rfl) ?_
        refine zGet (ci := 6) (C := RX6) (F := TX6) (N := 3) (v := .ref (hgl 1)) hx hb hts hiX6 hown hK hP 0 0 4 rfl rfl (by decide) rfl rfl rfl dX6_gather_51 ?_
        refine lv_aload_n hx hb dX6_gather_54 rfl (lv_at hl 0 rfl) ?_
        refine zGet (ci := 6) (C := RX6) (F := TX6) (N := 3) (v := .int (gl_7 0 1)) hx hb hts hiX6 hown hK hP 0 1 2 rfl rfl (by decide) rfl rfl rfl dX6_gather_55 ?_
        refine lv_iload_n hx hb dX6_gather_58 rfl (lv_at hl 3 rfl) ?_
        obtain ⟨hg, hf⟩ := zGd_ok hf
        refine zAstI (w := gl_7) hx hb hK hP hD hS (fun g => wX6 T hgl g ++ wX8 T hgw gw) 1 1 rfl hg rfl dX6_gather_59 (fun gl_11 egl_11 H locs hP hD hS => ?_)
        replace hP : va_P D vwCl (wX6 T hgl gl_11 ++ wX8 T hgw gw) H := hP
        replace hD : va_D A (wX6 T hgl gl_11 ++ wX8 T hgw gw) := hD
        replace hf := zLt_at egl_11 hf
        refine lv_aload_n hx hb dX6_gather_60 rfl (lv_at hl 0 rfl) ?_
        refine lv_dup hx hb dX6_gather_61 rfl ?_
        refine zGet (ci := 6) (C := RX6) (F := TX6) (N := 3) (v := .int (gl_11 0 1)) hx hb hts hiX6 hown hK hP 0 1 2 rfl rfl (by decide) rfl rfl rfl dX6_gather_62 ?_
        refine lv_iconst (v := 1) hx hb dX6_gather_65 (by decide) ?_
        refine lv_iadd hx hb dX6_gather_66 ?_
        refine lv_topi (fun v12 ev12 => ?_)
        replace hf := zLt_at ev12 hf
        refine zPut (ci := 6) (C := RX6) (F := TX6) (N := 3) (x := v12) (w := gl_11) hx hb hts hiX6 tyX6 tyX6_ok nmX6 hown hK hP hD hS (fun g => wX6 T hgl g ++ wX8 T hgw gw) 0 1 2 rfl rfl (by decide) rfl rfl rfl ⟨rfl, rfl⟩ (Nat.le_of_ble_eq_true rfl) rfl dX6_gather_67 (fun gl_13 egl_13 H locs hP hD hS => ?_)
        replace hP : va_P D vwCl (wX6 T hgl gl_13 ++ wX8 T hgw gw) H := hP
        replace hD : va_D A (wX6 T hgl gl_13 ++ wX8 T hgw gw) := hD
        replace hf := zLt_at egl_13 hf
        exact hJ70 gl_13 H locs ls hf hP hD hS hl
set_option maxHeartbeats 4000000 in
set_option maxRecDepth 100000 in
theorem pX8_everybody (l : Launch) (D : va_G) (T : Nat → ClassId) (X : zFP) (hgw : Nat → Nat) (sz : Nat) (gw : zM) (r : Int32) (hf : fX8_everybody gw = some r) : Met l yX8_everybody wsX8_everybody rX8_everybody (zPre D T X [.ref (hgw 0)] (wX8 T hgw gw) sz) (zQi D T r (wX8 T hgw gw) (wX8 T hgw gw) sz) 0 0 (va_A (wX8 T hgw gw) sz) := by
  unfold fX8_everybody at hf
  refine zStart [(0, .ref (hgw 0))] (by decide) rfl (Nat.le_of_ble_eq_true rfl) rfl ?_
  intro p e s m args below meth c A Q ls hx hb hr hml hown hlocks hts hsz hA0 hQ hA hK hX hP hD hS hl
  replace hown : s.vm.findClass RX8 = some m.cls := hown
  have hH := hsz
  have hiX8 : ∀ w ∈ u_ws RX8 TX8 14, w ∈ wsX8_everybody := fun w h => List.mem_cons_of_mem _ (List.mem_append_right _ (h))
  obtain ⟨H, hHe⟩ : ∃ H : Heap, H = s.heap := ⟨_, rfl⟩
  obtain ⟨locs, hLe⟩ : ∃ L : List Loc, L = [] := ⟨_, rfl⟩
  replace hP : va_P D vwCl (wX8 T hgw gw) H := by rw [hHe]; exact hP
  replace hS : va_S A s.heap H locs := by rw [hHe, hLe]; exact hS
  suffices hgo : W p l e rX8_everybody s m args below meth c H locs 0 0 Q (F0 m 0 ls []) by rw [hHe, hLe] at hgo; exact hgo
  clear hHe hLe
  refine lv_iconst (v := 1) hx hb dX8_everybody_0 (by decide) ?_
  refine lv_aload_n hx hb dX8_everybody_1 rfl (lv_at hl 0 rfl) ?_
  refine zGet (ci := 8) (C := RX8) (F := TX8) (N := 14) (v := .int (gw 0 0)) hx hb hts hiX8 hown hK hP 0 0 1 rfl rfl (by decide) rfl rfl rfl dX8_everybody_2 ?_
  refine lv_ishl hx hb dX8_everybody_5 ?_
  refine lv_iconst (v := 1) hx hb dX8_everybody_6 (by decide) ?_
  refine lv_isub hx hb dX8_everybody_7 ?_
  obtain ⟨q1, -⟩ := zI1 hf
  subst q1
  exact zRetI hQ hx hb hr hlocks hA0 hK hP hD hS rfl dX8_everybody_8
set_option maxHeartbeats 4000000 in
set_option maxRecDepth 100000 in
theorem pX8_weightOf (l : Launch) (D : va_G) (T : Nat → ClassId) (X : zFP) (hgw : Nat → Nat) (sz : Nat) (gw : zM) (a1 : Int32) (r : Int32) (hf : fX8_weightOf gw a1 = some r) : Met l yX8_weightOf wsX8_weightOf rX8_weightOf (zPre D T X [.ref (hgw 0), .int a1] (wX8 T hgw gw) sz) (zQi D T r (wX8 T hgw gw) (wX8 T hgw gw) sz) 0 0 (va_A (wX8 T hgw gw) sz) := by
  unfold fX8_weightOf at hf
  refine zStart [(0, .ref (hgw 0)), (1, .int a1)] (by decide) rfl (Nat.le_of_ble_eq_true rfl) rfl ?_
  intro p e s m args below meth c A Q ls hx hb hr hml hown hlocks hts hsz hA0 hQ hA hK hX hP hD hS hl
  replace hown : s.vm.findClass RX8 = some m.cls := hown
  have hH := hsz
  have hiX8 : ∀ w ∈ u_ws RX8 TX8 14, w ∈ wsX8_weightOf := fun w h => List.mem_cons_of_mem _ (List.mem_append_right _ (h))
  obtain ⟨H, hHe⟩ : ∃ H : Heap, H = s.heap := ⟨_, rfl⟩
  obtain ⟨locs, hLe⟩ : ∃ L : List Loc, L = [] := ⟨_, rfl⟩
  replace hP : va_P D vwCl (wX8 T hgw gw) H := by rw [hHe]; exact hP
  replace hS : va_S A s.heap H locs := by rw [hHe, hLe]; exact hS
  suffices hgo : W p l e rX8_weightOf s m args below meth c H locs 0 0 Q (F0 m 0 ls []) by rw [hHe, hLe] at hgo; exact hgo
  clear hHe hLe
  refine lv_iconst (v := 0) hx hb dX8_weightOf_0 (by decide) ?_
  refine lv_istore_n (lv' := [(2, .int 0), (0, .ref (hgw 0)), (1, .int a1)]) hx hb dX8_weightOf_1 rfl hl (by decide) rfl (fun ls hl => ?_)
  refine lv_iconst (v := 0) hx hb dX8_weightOf_2 (by decide) ?_
  refine lv_istore_n (lv' := [(3, .int 0), (2, .int 0), (0, .ref (hgw 0)), (1, .int a1)]) hx hb dX8_weightOf_3 rfl hl (by decide) rfl (fun ls hl => ?_)
  obtain ⟨ex, hlp, hf⟩ := zB1_ok hf
  have hE4_35 : ∀ (v3 : Int32) , ex = v3 → ∀ (H : Heap) (locs : List Loc) (ls : Array Slot), va_P D vwCl (wX8 T hgw gw) H → va_D A (wX8 T hgw gw) → va_S A s.heap H locs → lv_has ls 4 [(2, .int v3)] → W p l e rX8_weightOf s m args below meth c H locs 0 0 Q (F0 m 35 ls []) := by
    intro v3 hex H locs ls hP hD hS hl
    have hf := zEx1 hex hf
    refine lv_iload_n hx hb dX8_weightOf_35 rfl (lv_at hl 0 rfl) ?_
    obtain ⟨q1, -⟩ := zI1 hf
    subst q1
    exact zRetI hQ hx hb hr hlocks hA0 hK hP hD hS rfl dX8_weightOf_36
  refine zLpS2 (body := (fX8_weightOf_L4 a1 gw)) (b := ex) (fun (v1 : Int32) (v2 : Int32) => ∀ (H : Heap) (locs : List Loc) (ls : Array Slot), va_P D vwCl (wX8 T hgw gw) H → va_D A (wX8 T hgw gw) → va_S A s.heap H locs → lv_has ls 4 [(0, .ref (hgw 0)), (1, .int a1), (2, .int v1), (3, .int v2)] → W p l e rX8_weightOf s m args below meth c H locs 0 0 Q (F0 m 4 ls [])) ?_ zFU 0 0 hlp H locs ls hP hD hS (lv_sub hl [2, 3, 1, 0] rfl)
  intro v1 v2 z hf hzz H locs ls hP hD hS hl
  unfold fX8_weightOf_L4 at hf
  replace hf := zUk2 hf
  refine lv_iload_n hx hb dX8_weightOf_4 rfl (lv_at hl 3 rfl) ?_
  refine lv_aload_n hx hb dX8_weightOf_5 rfl (lv_at hl 0 rfl) ?_
  refine zGet (ci := 8) (C := RX8) (F := TX8) (N := 14) (v := .int (gw 0 0)) hx hb hts hiX8 hown hK hP 0 0 1 rfl rfl (by decide) rfl rfl rfl dX8_weightOf_6 ?_
  refine lv_icmp_ge (tgt := 35) hx hb dX8_weightOf_9 (by decide) (fun hc => ?_) (fun hc => ?_)
  · replace hf := zIf_t hc hf
    cases hf
    exact hE4_35 v1 hzz.symm H locs ls hP hD hS (lv_sub hl [2] rfl)
  · replace hf := zIf_f hc hf
    refine lv_iload_n hx hb dX8_weightOf_12 rfl (lv_at hl 1 rfl) ?_
    refine lv_iload_n hx hb dX8_weightOf_13 rfl (lv_at hl 3 rfl) ?_
    refine lv_ishr hx hb dX8_weightOf_14 ?_
    refine lv_iconst (v := 1) hx hb dX8_weightOf_15 (by decide) ?_
    refine lv_iand hx hb dX8_weightOf_16 ?_
    have hJ29 : ∀ (v4 : Int32) (H : Heap) (locs : List Loc) (ls : Array Slot), fX8_weightOf_L4J29 v2 v4 = some z → va_P D vwCl (wX8 T hgw gw) H → va_D A (wX8 T hgw gw) → va_S A s.heap H locs → lv_has ls 4 [(0, .ref (hgw 0)), (1, .int a1), (2, .int v4), (3, .int v2)] → W p l e rX8_weightOf s m args below meth c H locs 0 0 Q (F0 m 29 ls []) := by
      intro v4 H locs ls hf hP hD hS hl
      unfold fX8_weightOf_L4J29 at hf
      obtain ⟨v5, ev5⟩ : ∃ y : Int32, y = v2 + 1 := ⟨_, rfl⟩
      replace hf := zLt_at ev5 hf
      refine lv_iinc (v := v5) (lv' := [(3, .int v5), (0, .ref (hgw 0)), (1, .int a1), (2, .int v4)]) hx hb dX8_weightOf_29 hl (k := 3) rfl (by rw [ev5]; rfl) (by decide) rfl (fun ls hl => ?_)
      refine lv_goto (tgt := 4) hx hb dX8_weightOf_32 (by decide) ?_
      cases hf
      exact hzz H locs ls hP hD hS (lv_sub hl [1, 2, 3, 0] rfl)
    refine lv_if_eq (tgt := 29) hx hb dX8_weightOf_17 (by decide) (fun hc => ?_) (fun hc => ?_)
    · replace hf := zIf_t hc hf
      exact hJ29 v1 H locs ls hf hP hD hS hl
    · replace hf := zIf_f hc hf
      refine lv_iload_n hx hb dX8_weightOf_20 rfl (lv_at hl 2 rfl) ?_
      refine lv_aload_n hx hb dX8_weightOf_21 rfl (lv_at hl 0 rfl) ?_
      refine zGet (ci := 8) (C := RX8) (F := TX8) (N := 14) (v := .ref (hgw 1)) hx hb hts hiX8 hown hK hP 0 1 2 rfl rfl (by decide) rfl rfl rfl dX8_weightOf_22 ?_
      refine lv_iload_n hx hb dX8_weightOf_25 rfl (lv_at hl 3 rfl) ?_
      obtain ⟨hg, hf⟩ := zGd_ok hf
      refine zAldI hx hb hK hP 1 rfl hg dX8_weightOf_26 (fun v6 ev6 => ?_)
      replace hf := zLt_at ev6 hf
      refine lv_iadd hx hb dX8_weightOf_27 ?_
      refine lv_topi (fun v7 ev7 => ?_)
      replace hf := zLt_at ev7 hf
      refine lv_istore_n (lv' := [(2, .int v7), (0, .ref (hgw 0)), (1, .int a1), (3, .int v2)]) hx hb dX8_weightOf_28 rfl hl (by decide) rfl (fun ls hl => ?_)
      exact hJ29 v7 H locs ls hf hP hD hS (lv_sub hl [1, 2, 0, 3] rfl)
set_option maxHeartbeats 4000000 in
set_option maxRecDepth 100000 in
theorem pX6_allOdds (l : Launch) (D : va_G) (T : Nat → ClassId) (X : zFP) (hgl : Nat → Nat) (hgw : Nat → Nat) (sz : Nat) (gl : zM) (gw : zM) (r : Int64) (hf : fX6_allOdds gl gw = some r) : Met l yX6_allOdds wsX6_allOdds rX6_allOdds (zPre D T X [.ref (hgl 0), .ref (hgw 0)] (wX6 T hgl gl ++ wX8 T hgw gw) sz) (zQl D T r (wX6 T hgl gl ++ wX8 T hgw gw) (wX6 T hgl gl ++ wX8 T hgw gw) sz) 0 0 (va_A (wX6 T hgl gl ++ wX8 T hgw gw) sz) := by
  unfold fX6_allOdds at hf
  refine zStart [(0, .ref (hgl 0)), (1, .ref (hgw 0))] (by decide) rfl (Nat.le_of_ble_eq_true rfl) rfl ?_
  intro p e s m args below meth c A Q ls hx hb hr hml hown hlocks hts hsz hA0 hQ hA hK hX hP hD hS hl
  replace hown : s.vm.findClass RX6 = some m.cls := hown
  have hH := hsz
  have hiX6 : ∀ w ∈ u_ws RX6 TX6 3, w ∈ wsX6_allOdds := fun w h => List.mem_cons_of_mem _ (List.mem_append_left _ (List.mem_append_right _ (h)))
  obtain ⟨H, hHe⟩ : ∃ H : Heap, H = s.heap := ⟨_, rfl⟩
  obtain ⟨locs, hLe⟩ : ∃ L : List Loc, L = [] := ⟨_, rfl⟩
  replace hP : va_P D vwCl (wX6 T hgl gl ++ wX8 T hgw gw) H := by rw [hHe]; exact hP
  replace hS : va_S A s.heap H locs := by rw [hHe, hLe]; exact hS
  suffices hgo : W p l e rX6_allOdds s m args below meth c H locs 0 0 Q (F0 m 0 ls []) by rw [hHe, hLe] at hgo; exact hgo
  clear hHe hLe
  refine lv_aload_n hx hb dX6_allOdds_0 rfl (lv_at hl 1 rfl) ?_
  refine lv_aload_n hx hb dX6_allOdds_1 rfl (lv_at hl 1 rfl) ?_
  obtain ⟨v1, hc2, hf⟩ := zB1_ok hf
  refine zCallVJI (wr := wX6 T hgl gl) (ws' := wX6 T hgl gl ++ wX8 T hgw gw) [] ⟨hx, hb, hml, hown, hts⟩ (pX8_everybody l D T X hgw H.size gw v1 hc2) (cwV 0 hts gX6_allOdds_X8_everybody rfl rfl rfl (by decide +kernel) ⟨Nat.le_of_ble_eq_true rfl, Nat.le_of_ble_eq_true rfl⟩) hK hP hD hS hA hX [2, 3, 4, 5, 6, 7, 8, 9, 10, 11, 12] [0, 1] [0, 1, 2, 3, 4, 5, 6, 7, 8, 9, 10, 11, 12] rfl rfl rfl rfl 0 rfl rfl rfl hl.1 rfl (Nat.le_of_ble_eq_true rfl) dX6_allOdds_2 ⟨Nat.zero_le _, Nat.zero_le _⟩ (fun H locs hP hD hS => ?_)
  obtain ⟨v2, hc5, hf⟩ := zB1_ok hf
  refine zCallVJI (wr := wX6 T hgl gl) (ws' := wX6 T hgl gl ++ wX8 T hgw gw) [.int v1] ⟨hx, hb, hml, hown, hts⟩ (pX8_weightOf l D T X hgw H.size gw v1 v2 hc5) (cwV 1 hts gX6_allOdds_X8_weightOf rfl rfl rfl (by decide +kernel) ⟨Nat.le_of_ble_eq_true rfl, Nat.le_of_ble_eq_true rfl⟩) hK hP hD hS hA hX [2, 3, 4, 5, 6, 7, 8, 9, 10, 11, 12] [0, 1] [0, 1, 2, 3, 4, 5, 6, 7, 8, 9, 10, 11, 12] rfl rfl rfl rfl 0 rfl rfl rfl hl.1 rfl (Nat.le_of_ble_eq_true rfl) dX6_allOdds_5 ⟨Nat.zero_le _, Nat.zero_le _⟩ (fun H locs hP hD hS => ?_)
  refine lv_i2l hx hb dX6_allOdds_8 rfl ?_
  refine lv_iconst (v := 2) hx hb dX6_allOdds_9 (by decide) ?_
  refine lv_aload_n hx hb dX6_allOdds_10 rfl (lv_at hl 0 rfl) ?_
  refine zGet (ci := 6) (C := RX6) (F := TX6) (N := 3) (v := .int (gl 0 1)) hx hb hts hiX6 hown hK hP 0 1 1 rfl rfl (by decide) rfl rfl rfl dX6_allOdds_11 ?_
  refine lv_imul hx hb dX6_allOdds_14 ?_
  refine lv_lshl hx hb dX6_allOdds_15 rfl ?_
  obtain ⟨q1, -⟩ := zI1 hf
  subst q1
  exact zRetL hQ hx hb hr hlocks hA0 hK hP hD hS rfl dX6_allOdds_16
set_option maxHeartbeats 4000000 in
set_option maxRecDepth 100000 in
theorem pX6_layWay (l : Launch) (D : va_G) (T : Nat → ClassId) (X : zFP) (hgl : Nat → Nat) (hgw : Nat → Nat) (hgn : Nat → Nat) (sz : Nat) (gl : zM) (gw : zM) (gn : zM) (a3 : Int32) (r : Int32) (ngn : zM) (hf : fX6_layWay gl gw gn a3 = some (r, ngn)) : Met l yX6_layWay wsX6_layWay rX6_layWay (zPre D T X [.ref (hgl 0), .ref (hgw 0), .ref (hgn 0), .int a3] (wX6 T hgl gl ++ wX8 T hgw gw ++ wX3 T hgn gn) sz) (zQi D T r (wX6 T hgl gl ++ wX8 T hgw gw ++ wX3 T hgn ngn) (wX6 T hgl gl ++ wX8 T hgw gw ++ wX3 T hgn gn) sz) 0 0 (va_A (wX6 T hgl gl ++ wX8 T hgw gw ++ wX3 T hgn gn) sz) := by
  unfold fX6_layWay at hf
  refine zStart [(0, .ref (hgl 0)), (1, .ref (hgw 0)), (2, .ref (hgn 0)), (3, .int a3)] (by decide) rfl (Nat.le_of_ble_eq_true rfl) rfl ?_
  intro p e s m args below meth c A Q ls hx hb hr hml hown hlocks hts hsz hA0 hQ hA hK hX hP hD hS hl
  replace hown : s.vm.findClass RX6 = some m.cls := hown
  have hH := hsz
  have hiX6 : ∀ w ∈ u_ws RX6 TX6 3, w ∈ wsX6_layWay := fun w h => List.mem_cons_of_mem _ (List.mem_append_left _ (List.mem_append_left _ (List.mem_append_right _ (h))))
  have hiX8 : ∀ w ∈ u_ws RX8 TX8 14, w ∈ wsX6_layWay := fun w h => List.mem_cons_of_mem _ (List.mem_append_left _ (List.mem_append_right _ (h)))
  obtain ⟨H, hHe⟩ : ∃ H : Heap, H = s.heap := ⟨_, rfl⟩
  obtain ⟨locs, hLe⟩ : ∃ L : List Loc, L = [] := ⟨_, rfl⟩
  replace hP : va_P D vwCl (wX6 T hgl gl ++ wX8 T hgw gw ++ wX3 T hgn gn) H := by rw [hHe]; exact hP
  replace hS : va_S A s.heap H locs := by rw [hHe, hLe]; exact hS
  suffices hgo : W p l e rX6_layWay s m args below meth c H locs 0 0 Q (F0 m 0 ls []) by rw [hHe, hLe] at hgo; exact hgo
  clear hHe hLe
  refine lv_aload_n hx hb dX6_layWay_0 rfl (lv_at hl 0 rfl) ?_
  refine zGet (ci := 6) (C := RX6) (F := TX6) (N := 3) (v := .int (gl 0 2)) hx hb hts hiX6 hown hK hP 0 2 1 rfl rfl (by decide) rfl rfl rfl dX6_layWay_1 ?_
  refine lv_topi (fun v1 ev1 => ?_)
  replace hf := zLt_at ev1 hf
  refine lv_istore (lv' := [(4, .int v1), (0, .ref (hgl 0)), (1, .ref (hgw 0)), (2, .ref (hgn 0)), (3, .int a3)]) hx hb dX6_layWay_4 hl (by decide) rfl (fun ls hl => ?_)
  refine lv_iconst (v := 1) hx hb dX6_layWay_6 (by decide) ?_
  refine lv_istore (lv' := [(5, .int 1), (4, .int v1), (0, .ref (hgl 0)), (1, .ref (hgw 0)), (2, .ref (hgn 0)), (3, .int a3)]) hx hb dX6_layWay_7 hl (by decide) rfl (fun ls hl => ?_)
  refine lv_iconst (v := 0) hx hb dX6_layWay_9 (by decide) ?_
  refine lv_istore (lv' := [(6, .int 0), (5, .int 1), (4, .int v1), (0, .ref (hgl 0)), (1, .ref (hgw 0)), (2, .ref (hgn 0)), (3, .int a3)]) hx hb dX6_layWay_10 hl (by decide) rfl (fun ls hl => ?_)
  obtain ⟨ex, hlp, hf⟩ := zB1_ok hf
  have hE12_83 : ∀ (v5 : Int32) (v6 : Int32) , ex = (v5, v6) → ∀ (H : Heap) (locs : List Loc) (ls : Array Slot), va_P D vwCl (wX6 T hgl gl ++ wX8 T hgw gw ++ wX3 T hgn gn) H → va_D A (wX6 T hgl gl ++ wX8 T hgw gw ++ wX3 T hgn gn) → va_S A s.heap H locs → lv_has ls 8 [(1, .ref (hgw 0)), (2, .ref (hgn 0)), (4, .int v5), (5, .int v6)] → W p l e rX6_layWay s m args below meth c H locs 0 0 Q (F0 m 83 ls []) := by
    intro v5 v6 hex H locs ls hP hD hS hl
    have hf := zEx2 hex hf
    refine lv_aload_n hx hb dX6_layWay_83 rfl (lv_at hl 1 rfl) ?_
    refine lv_aload_n hx hb dX6_layWay_84 rfl (lv_at hl 0 rfl) ?_
    refine lv_iload hx hb dX6_layWay_85 (lv_at hl 2 rfl) ?_
    obtain ⟨gn_16, hc87, hf⟩ := zB1_ok hf
    refine zCallVJV (wr := wX6 T hgl gl) (ws' := wX6 T hgl gl ++ wX8 T hgw gw ++ wX3 T hgn gn_16) [.ref (hgw 0), .int v5] ⟨hx, hb, hml, hown, hts⟩ (pX3_lay l D T X hgn hgw H.size gn gw v5 gn_16 hc87) (cwV 2 hts gX6_layWay_X3_lay rfl rfl rfl (by decide +kernel) ⟨Nat.le_of_ble_eq_true rfl, Nat.le_of_ble_eq_true rfl⟩) hK hP hD hS hA hX [13, 14, 2, 3, 4, 5, 6, 7, 8, 9, 10, 11, 12] [0, 1] [0, 1, 4, 5, 6, 7, 8, 9, 10, 11, 12, 13, 14, 2, 3] rfl rfl rfl rfl 0 rfl rfl rfl hl.1 rfl (Nat.le_of_ble_eq_true rfl) dX6_layWay_87 ⟨Nat.zero_le _, Nat.zero_le _⟩ (fun H locs hP hD hS => ?_)
    refine lv_iload hx hb dX6_layWay_90 (lv_at hl 3 rfl) ?_
    obtain ⟨q1, q2⟩ := zI2 hf
    subst q1
    subst q2
    exact zRetI hQ hx hb hr hlocks hA0 hK hP hD hS rfl dX6_layWay_92
  refine zLpS3 (body := (fX6_layWay_L12 a3 gl gw)) (b := ex) (fun (v2 : Int32) (v3 : Int32) (v4 : Int32) => ∀ (H : Heap) (locs : List Loc) (ls : Array Slot), va_P D vwCl (wX6 T hgl gl ++ wX8 T hgw gw ++ wX3 T hgn gn) H → va_D A (wX6 T hgl gl ++ wX8 T hgw gw ++ wX3 T hgn gn) → va_S A s.heap H locs → lv_has ls 8 [(0, .ref (hgl 0)), (1, .ref (hgw 0)), (2, .ref (hgn 0)), (3, .int a3), (4, .int v2), (5, .int v3), (6, .int v4)] → W p l e rX6_layWay s m args below meth c H locs 0 0 Q (F0 m 12 ls [])) ?_ zFU v1 1 0 hlp H locs ls hP hD hS (lv_sub hl [3, 4, 5, 6, 2, 1, 0] rfl)
  intro v2 v3 v4 z hf hzz H locs ls hP hD hS hl
  unfold fX6_layWay_L12 at hf
  replace hf := zUk3 hf
  refine lv_iload hx hb dX6_layWay_12 (lv_at hl 6 rfl) ?_
  refine lv_aload_n hx hb dX6_layWay_14 rfl (lv_at hl 0 rfl) ?_
  refine zGet (ci := 6) (C := RX6) (F := TX6) (N := 3) (v := .int (gl 0 1)) hx hb hts hiX6 hown hK hP 0 1 2 rfl rfl (by decide) rfl rfl rfl dX6_layWay_15 ?_
  refine lv_icmp_ge (tgt := 83) hx hb dX6_layWay_18 (by decide) (fun hc => ?_) (fun hc => ?_)
  · replace hf := zIf_t hc hf
    cases hf
    exact hE12_83 v2 v3 hzz.symm H locs ls hP hD hS (lv_sub hl [1, 2, 4, 5] rfl)
  · replace hf := zIf_f hc hf
    refine lv_aload_n hx hb dX6_layWay_21 rfl (lv_at hl 0 rfl) ?_
    refine zGet (ci := 6) (C := RX6) (F := TX6) (N := 3) (v := .ref (hgl 1)) hx hb hts hiX6 hown hK hP 0 0 3 rfl rfl (by decide) rfl rfl rfl dX6_layWay_22 ?_
    refine lv_iload hx hb dX6_layWay_25 (lv_at hl 6 rfl) ?_
    obtain ⟨hg, hf⟩ := zGd_ok hf
    refine zAldI hx hb hK hP 1 rfl hg dX6_layWay_27 (fun v7 ev7 => ?_)
    replace hf := zLt_at ev7 hf
    refine lv_istore (lv' := [(7, .int v7), (0, .ref (hgl 0)), (1, .ref (hgw 0)), (2, .ref (hgn 0)), (3, .int a3), (4, .int v2), (5, .int v3), (6, .int v4)]) hx hb dX6_layWay_28 hl (by decide) rfl (fun ls hl => ?_)
    refine lv_iload_n hx hb dX6_layWay_30 rfl (lv_at hl 4 rfl) ?_
    refine lv_iload hx hb dX6_layWay_31 (lv_at hl 7 rfl) ?_
    refine lv_ishr hx hb dX6_layWay_33 ?_
    refine lv_iconst (v := 1) hx hb dX6_layWay_34 (by decide) ?_
    refine lv_iand hx hb dX6_layWay_35 ?_
    have hJ77 : ∀ (v8 : Int32) (v9 : Int32) (H : Heap) (locs : List Loc) (ls : Array Slot), fX6_layWay_L12J77 v4 v8 v9 = some z → va_P D vwCl (wX6 T hgl gl ++ wX8 T hgw gw ++ wX3 T hgn gn) H → va_D A (wX6 T hgl gl ++ wX8 T hgw gw ++ wX3 T hgn gn) → va_S A s.heap H locs → lv_has ls 8 [(0, .ref (hgl 0)), (1, .ref (hgw 0)), (2, .ref (hgn 0)), (3, .int a3), (4, .int v8), (5, .int v9), (6, .int v4)] → W p l e rX6_layWay s m args below meth c H locs 0 0 Q (F0 m 77 ls []) := by
      intro v8 v9 H locs ls hf hP hD hS hl
      unfold fX6_layWay_L12J77 at hf
      obtain ⟨v10, ev10⟩ : ∃ y : Int32, y = v4 + 1 := ⟨_, rfl⟩
      replace hf := zLt_at ev10 hf
      refine lv_iinc (v := v10) (lv' := [(6, .int v10), (0, .ref (hgl 0)), (1, .ref (hgw 0)), (2, .ref (hgn 0)), (3, .int a3), (4, .int v8), (5, .int v9)]) hx hb dX6_layWay_77 hl (k := 6) rfl (by rw [ev10]; rfl) (by decide) rfl (fun ls hl => ?_)
      refine lv_goto (tgt := 12) hx hb dX6_layWay_80 (by decide) ?_
      cases hf
      exact hzz H locs ls hP hD hS (lv_sub hl [1, 2, 3, 4, 5, 6, 0] rfl)
    refine lv_if_eq (tgt := 63) hx hb dX6_layWay_36 (by decide) (fun hc => ?_) (fun hc => ?_)
    · replace hf := zIf_t hc hf
      refine lv_iload hx hb dX6_layWay_63 (lv_at hl 6 rfl) ?_
      refine lv_iconst (v := 4) hx hb dX6_layWay_65 (by decide) ?_
      refine lv_aload_n hx hb dX6_layWay_66 rfl (lv_at hl 2 rfl) ?_
      refine zGet (ci := 8) (C := RX8) (F := TX8) (N := 14) (v := .ref (hgw 6)) hx hb hts hiX8 hown hK hP 2 7 4 rfl rfl (by decide) rfl rfl rfl dX6_layWay_67 ?_
      refine lv_iload hx hb dX6_layWay_70 (lv_at hl 0 rfl) ?_
      obtain ⟨hg, hf⟩ := zGd_ok hf
      refine zAldI hx hb hK hP 8 rfl hg dX6_layWay_72 (fun v11 ev11 => ?_)
      replace hf := zLt_at ev11 hf
      refine lv_isub hx hb dX6_layWay_73 ?_
      refine lv_imul hx hb dX6_layWay_74 ?_
      refine lv_topi (fun v12 ev12 => ?_)
      replace hf := zLt_at ev12 hf
      refine lv_istore (lv' := [(5, .int v12), (7, .int v7), (0, .ref (hgl 0)), (1, .ref (hgw 0)), (2, .ref (hgn 0)), (3, .int a3), (4, .int v2), (6, .int v4)]) hx hb dX6_layWay_75 hl (by decide) rfl (fun ls hl => ?_)
      exact hJ77 v2 v12 H locs ls hf hP hD hS (lv_sub hl [2, 3, 4, 5, 6, 0, 7] rfl)
    · replace hf := zIf_f hc hf
      refine lv_iload hx hb dX6_layWay_39 (lv_at hl 5 rfl) ?_
      refine lv_iconst (v := 1) hx hb dX6_layWay_41 (by decide) ?_
      refine lv_iload hx hb dX6_layWay_42 (lv_at hl 0 rfl) ?_
      refine lv_ishl hx hb dX6_layWay_44 ?_
      refine lv_ior hx hb dX6_layWay_45 ?_
      refine lv_topi (fun v13 ev13 => ?_)
      replace hf := zLt_at ev13 hf
      refine lv_istore (lv' := [(4, .int v13), (7, .int v7), (0, .ref (hgl 0)), (1, .ref (hgw 0)), (2, .ref (hgn 0)), (3, .int a3), (5, .int v3), (6, .int v4)]) hx hb dX6_layWay_46 hl (by decide) rfl (fun ls hl => ?_)
      refine lv_iload hx hb dX6_layWay_48 (lv_at hl 6 rfl) ?_
      refine lv_aload_n hx hb dX6_layWay_50 rfl (lv_at hl 3 rfl) ?_
      refine zGet (ci := 8) (C := RX8) (F := TX8) (N := 14) (v := .ref (hgw 6)) hx hb hts hiX8 hown hK hP 2 7 4 rfl rfl (by decide) rfl rfl rfl dX6_layWay_51 ?_
      refine lv_iload hx hb dX6_layWay_54 (lv_at hl 1 rfl) ?_
      obtain ⟨hg, hf⟩ := zGd_ok hf
      refine zAldI hx hb hK hP 8 rfl hg dX6_layWay_56 (fun v14 ev14 => ?_)
      replace hf := zLt_at ev14 hf
      refine lv_imul hx hb dX6_layWay_57 ?_
      refine lv_topi (fun v15 ev15 => ?_)
      replace hf := zLt_at ev15 hf
      refine lv_istore (lv' := [(5, .int v15), (4, .int v13), (7, .int v7), (0, .ref (hgl 0)), (1, .ref (hgw 0)), (2, .ref (hgn 0)), (3, .int a3), (6, .int v4)]) hx hb dX6_layWay_58 hl (by decide) rfl (fun ls hl => ?_)
      refine lv_goto (tgt := 77) hx hb dX6_layWay_60 (by decide) ?_
      exact hJ77 v13 v15 H locs ls hf hP hD hS (lv_sub hl [3, 4, 5, 6, 1, 0, 7] rfl)
set_option maxHeartbeats 4000000 in
set_option maxRecDepth 100000 in
theorem pX6_oddsToKnow (l : Launch) (D : va_G) (T : Nat → ClassId) (X : zFP) (hgl : Nat → Nat) (hgw : Nat → Nat) (hgn : Nat → Nat) (sz : Nat) (gl : zM) (gw : zM) (gn : zM) (a3 : Int32) (r : Int64) (ngn : zM) (hf : fX6_oddsToKnow gl gw gn a3 = some (r, ngn)) : Met l yX6_oddsToKnow wsX6_oddsToKnow rX6_oddsToKnow (zPre D T X [.ref (hgl 0), .ref (hgw 0), .ref (hgn 0), .int a3] (wX6 T hgl gl ++ wX8 T hgw gw ++ wX3 T hgn gn) sz) (zQl D T r (wX6 T hgl gl ++ wX8 T hgw gw ++ wX3 T hgn ngn) (wX6 T hgl gl ++ wX8 T hgw gw ++ wX3 T hgn gn) sz) 0 0 (va_A (wX6 T hgl gl ++ wX8 T hgw gw ++ wX3 T hgn gn) sz) := by
  unfold fX6_oddsToKnow at hf
  refine zStart [(0, .ref (hgl 0)), (1, .ref (hgw 0)), (2, .ref (hgn 0)), (3, .int a3)] (by decide) rfl (Nat.le_of_ble_eq_true rfl) rfl ?_
  intro p e s m args below meth c A Q ls hx hb hr hml hown hlocks hts hsz hA0 hQ hA hK hX hP hD hS hl
  replace hown : s.vm.findClass RX6 = some m.cls := hown
  have hH := hsz
  have hiX6 : ∀ w ∈ u_ws RX6 TX6 3, w ∈ wsX6_oddsToKnow := fun w h => List.mem_cons_of_mem _ (List.mem_append_left _ (List.mem_append_left _ (List.mem_append_right _ (h))))
  obtain ⟨H, hHe⟩ : ∃ H : Heap, H = s.heap := ⟨_, rfl⟩
  obtain ⟨locs, hLe⟩ : ∃ L : List Loc, L = [] := ⟨_, rfl⟩
  replace hP : va_P D vwCl (wX6 T hgl gl ++ wX8 T hgw gw ++ wX3 T hgn gn) H := by rw [hHe]; exact hP
  replace hS : va_S A s.heap H locs := by rw [hHe, hLe]; exact hS
  suffices hgo : W p l e rX6_oddsToKnow s m args below meth c H locs 0 0 Q (F0 m 0 ls []) by rw [hHe, hLe] at hgo; exact hgo
  clear hHe hLe
  refine lv_lconst (v := 0) hx hb dX6_oddsToKnow_0 (by decide) ?_
  refine lv_lstore (lv' := [(4, .long 0), (0, .ref (hgl 0)), (1, .ref (hgw 0)), (2, .ref (hgn 0)), (3, .int a3)]) hx hb dX6_oddsToKnow_1 hl (by decide) rfl (fun ls hl => ?_)
  refine lv_iconst (v := 0) hx hb dX6_oddsToKnow_3 (by decide) ?_
  refine lv_istore (lv' := [(6, .int 0), (4, .long 0), (0, .ref (hgl 0)), (1, .ref (hgw 0)), (2, .ref (hgn 0)), (3, .int a3)]) hx hb dX6_oddsToKnow_4 hl (by decide) rfl (fun ls hl => ?_)
  obtain ⟨ex, hlp, hf⟩ := zB1_ok hf
  have hE6_58 : ∀ (v4 : Int64) (gn_5 : zM) , ex = (v4, gn_5) → ∀ (H : Heap) (locs : List Loc) (ls : Array Slot), va_P D vwCl (wX6 T hgl gl ++ wX8 T hgw gw ++ wX3 T hgn gn_5) H → va_D A (wX6 T hgl gl ++ wX8 T hgw gw ++ wX3 T hgn gn_5) → va_S A s.heap H locs → lv_has ls 9 [(4, .long v4)] → W p l e rX6_oddsToKnow s m args below meth c H locs 0 0 Q (F0 m 58 ls []) := by
    intro v4 gn_5 hex H locs ls hP hD hS hl
    have hf := zEx2 hex hf
    refine lv_lload hx hb dX6_oddsToKnow_58 (lv_at hl 0 rfl) ?_
    obtain ⟨q1, q2⟩ := zI2 hf
    subst q1
    subst q2
    exact zRetL hQ hx hb hr hlocks hA0 hK hP hD hS rfl dX6_oddsToKnow_60
  refine zLpS3 (body := (fX6_oddsToKnow_L6 a3 gl gw)) (b := ex) (fun (v1 : Int64) (v2 : Int32) (gn_3 : zM) => ∀ (H : Heap) (locs : List Loc) (ls : Array Slot), va_P D vwCl (wX6 T hgl gl ++ wX8 T hgw gw ++ wX3 T hgn gn_3) H → va_D A (wX6 T hgl gl ++ wX8 T hgw gw ++ wX3 T hgn gn_3) → va_S A s.heap H locs → lv_has ls 9 [(0, .ref (hgl 0)), (1, .ref (hgw 0)), (2, .ref (hgn 0)), (3, .int a3), (4, .long v1), (6, .int v2)] → W p l e rX6_oddsToKnow s m args below meth c H locs 0 0 Q (F0 m 6 ls [])) ?_ zFU 0 0 gn hlp H locs ls hP hD hS (lv_sub hl [2, 3, 4, 5, 1, 0] rfl)
  intro v1 v2 gn_3 z hf hzz H locs ls hP hD hS hl
  unfold fX6_oddsToKnow_L6 at hf
  replace hf := zUk3 hf
  refine lv_iload hx hb dX6_oddsToKnow_6 (lv_at hl 5 rfl) ?_
  refine lv_iconst (v := 1) hx hb dX6_oddsToKnow_8 (by decide) ?_
  refine lv_aload_n hx hb dX6_oddsToKnow_9 rfl (lv_at hl 0 rfl) ?_
  refine zGet (ci := 6) (C := RX6) (F := TX6) (N := 3) (v := .int (gl 0 1)) hx hb hts hiX6 hown hK hP 0 1 1 rfl rfl (by decide) rfl rfl rfl dX6_oddsToKnow_10 ?_
  refine lv_ishl hx hb dX6_oddsToKnow_13 ?_
  refine lv_icmp_ge (tgt := 58) hx hb dX6_oddsToKnow_14 (by decide) (fun hc => ?_) (fun hc => ?_)
  · replace hf := zIf_t hc hf
    cases hf
    exact hE6_58 v1 gn_3 hzz.symm H locs ls hP hD hS (lv_sub hl [4] rfl)
  · replace hf := zIf_f hc hf
    refine lv_aload_n hx hb dX6_oddsToKnow_17 rfl (lv_at hl 0 rfl) ?_
    refine lv_aload_n hx hb dX6_oddsToKnow_18 rfl (lv_at hl 1 rfl) ?_
    refine lv_aload_n hx hb dX6_oddsToKnow_19 rfl (lv_at hl 2 rfl) ?_
    refine lv_iload hx hb dX6_oddsToKnow_20 (lv_at hl 5 rfl) ?_
    obtain ⟨v6, gn_7, hc22, hf⟩ := zB2_ok hf
    refine zCallVEI [.ref (hgw 0), .ref (hgn 0), .int v2] ⟨hx, hb, hml, hown, hts⟩ (pX6_layWay l D T X hgl hgw hgn H.size gl gw gn_3 v2 v6 gn_7 hc22) (cwV 3 hts gX6_oddsToKnow_X6_layWay rfl rfl rfl (by decide +kernel) ⟨Nat.le_of_ble_eq_true rfl, Nat.le_of_ble_eq_true rfl⟩) hK hP hD hS hA hX 0 rfl rfl rfl hl.1 rfl (Nat.le_of_ble_eq_true rfl) dX6_oddsToKnow_22 ⟨Nat.zero_le _, Nat.zero_le _⟩ (fun H locs hP hD hS => ?_)
    refine lv_i2l hx hb dX6_oddsToKnow_25 rfl ?_
    refine lv_topl (fun v8 ev8 => ?_)
    replace hf := zLt_at ev8 hf
    refine lv_lstore (lv' := [(7, .long v8), (0, .ref (hgl 0)), (1, .ref (hgw 0)), (2, .ref (hgn 0)), (3, .int a3), (4, .long v1), (6, .int v2)]) hx hb dX6_oddsToKnow_26 hl (by decide) rfl (fun ls hl => ?_)
    refine lv_lload hx hb dX6_oddsToKnow_28 (lv_at hl 5 rfl) ?_
    refine lv_lload hx hb dX6_oddsToKnow_30 (lv_at hl 0 rfl) ?_
    refine lv_aload_n hx hb dX6_oddsToKnow_32 rfl (lv_at hl 2 rfl) ?_
    refine lv_aload_n hx hb dX6_oddsToKnow_33 rfl (lv_at hl 3 rfl) ?_
    refine lv_iconst (v := 1) hx hb dX6_oddsToKnow_34 (by decide) ?_
    refine lv_iload_n hx hb dX6_oddsToKnow_35 rfl (lv_at hl 4 rfl) ?_
    refine lv_ishl hx hb dX6_oddsToKnow_36 ?_
    refine lv_aload_n hx hb dX6_oddsToKnow_37 rfl (lv_at hl 2 rfl) ?_
    obtain ⟨v9, hc38, hf⟩ := zB1_ok hf
    refine zCallVJI (wr := wX6 T hgl gl ++ wX3 T hgn gn_7) (ws' := wX6 T hgl gl ++ wX8 T hgw gw ++ wX3 T hgn gn_7) [] ⟨hx, hb, hml, hown, hts⟩ (pX8_everybody l D T X hgw H.size gw v9 hc38) (cwV 0 hts gX6_oddsToKnow_X8_everybody rfl rfl rfl (by decide +kernel) ⟨Nat.le_of_ble_eq_true rfl, Nat.le_of_ble_eq_true rfl⟩) hK hP hD hS hA hX [2, 3, 4, 5, 6, 7, 8, 9, 10, 11, 12] [0, 1, 13, 14] [0, 1, 4, 5, 6, 7, 8, 9, 10, 11, 12, 13, 14, 2, 3] rfl rfl rfl rfl 0 rfl rfl rfl hl.1 rfl (Nat.le_of_ble_eq_true rfl) dX6_oddsToKnow_38 ⟨Nat.zero_le _, Nat.zero_le _⟩ (fun H locs hP hD hS => ?_)
    obtain ⟨v10, hc41, hf⟩ := zB1_ok hf
    refine zCallVJI (wr := wX6 T hgl gl ++ wX8 T hgw gw) (ws' := wX6 T hgl gl ++ wX8 T hgw gw ++ wX3 T hgn gn_7) [.int ((1 : Int32) <<< (a3 &&& 31)), .int v9] ⟨hx, hb, hml, hown, hts⟩ (pX3_flood l D T X hgn H.size gn_7 ((1 : Int32) <<< (a3 &&& 31)) v9 v10 hc41) (cwV 2 hts gX6_oddsToKnow_X3_flood rfl rfl rfl (by decide +kernel) ⟨Nat.le_of_ble_eq_true rfl, Nat.le_of_ble_eq_true rfl⟩) hK hP hD hS hA hX [13, 14] [0, 1, 2, 3, 4, 5, 6, 7, 8, 9, 10, 11, 12] [0, 1, 2, 3, 4, 5, 6, 7, 8, 9, 10, 11, 12, 13, 14] rfl rfl rfl rfl 0 rfl rfl rfl hl.1 rfl (Nat.le_of_ble_eq_true rfl) dX6_oddsToKnow_41 ⟨Nat.zero_le _, Nat.zero_le _⟩ (fun H locs hP hD hS => ?_)
    obtain ⟨v11, hc44, hf⟩ := zB1_ok hf
    refine zCallVJI (wr := wX6 T hgl gl ++ wX3 T hgn gn_7) (ws' := wX6 T hgl gl ++ wX8 T hgw gw ++ wX3 T hgn gn_7) [.int v10] ⟨hx, hb, hml, hown, hts⟩ (pX8_weightOf l D T X hgw H.size gw v10 v11 hc44) (cwV 1 hts gX6_oddsToKnow_X8_weightOf rfl rfl rfl (by decide +kernel) ⟨Nat.le_of_ble_eq_true rfl, Nat.le_of_ble_eq_true rfl⟩) hK hP hD hS hA hX [2, 3, 4, 5, 6, 7, 8, 9, 10, 11, 12] [0, 1, 13, 14] [0, 1, 4, 5, 6, 7, 8, 9, 10, 11, 12, 13, 14, 2, 3] rfl rfl rfl rfl 0 rfl rfl rfl hl.1 rfl (Nat.le_of_ble_eq_true rfl) dX6_oddsToKnow_44 ⟨Nat.zero_le _, Nat.zero_le _⟩ (fun H locs hP hD hS => ?_)
    refine lv_i2l hx hb dX6_oddsToKnow_47 rfl ?_
    refine lv_lmul hx hb dX6_oddsToKnow_48 ?_
    refine lv_ladd hx hb dX6_oddsToKnow_49 ?_
    refine lv_topl (fun v12 ev12 => ?_)
    replace hf := zLt_at ev12 hf
    refine lv_lstore (lv' := [(4, .long v12), (7, .long v8), (0, .ref (hgl 0)), (1, .ref (hgw 0)), (2, .ref (hgn 0)), (3, .int a3), (6, .int v2)]) hx hb dX6_oddsToKnow_50 hl (by decide) rfl (fun ls hl => ?_)
    obtain ⟨v13, ev13⟩ : ∃ y : Int32, y = v2 + 1 := ⟨_, rfl⟩
    replace hf := zLt_at ev13 hf
    refine lv_iinc (v := v13) (lv' := [(6, .int v13), (4, .long v12), (7, .long v8), (0, .ref (hgl 0)), (1, .ref (hgw 0)), (2, .ref (hgn 0)), (3, .int a3)]) hx hb dX6_oddsToKnow_52 hl (k := 6) rfl (by rw [ev13]; rfl) (by decide) rfl (fun ls hl => ?_)
    refine lv_goto (tgt := 6) hx hb dX6_oddsToKnow_55 (by decide) ?_
    cases hf
    exact hzz H locs ls hP hD hS (lv_sub hl [3, 4, 5, 6, 1, 0] rfl)
set_option maxHeartbeats 4000000 in
set_option maxRecDepth 100000 in
theorem pX6_meanKnowing (l : Launch) (D : va_G) (T : Nat → ClassId) (X : zFP) (hgl : Nat → Nat) (hgw : Nat → Nat) (hgn : Nat → Nat) (sz : Nat) (gl : zM) (gw : zM) (gn : zM) (r : Int64) (ngn : zM) (hf : fX6_meanKnowing gl gw gn = some (r, ngn)) : Met l yX6_meanKnowing wsX6_meanKnowing rX6_meanKnowing (zPre D T X [.ref (hgl 0), .ref (hgw 0), .ref (hgn 0)] (wX6 T hgl gl ++ wX8 T hgw gw ++ wX3 T hgn gn) sz) (zQl D T r (wX6 T hgl gl ++ wX8 T hgw gw ++ wX3 T hgn ngn) (wX6 T hgl gl ++ wX8 T hgw gw ++ wX3 T hgn gn) sz) 0 0 (va_A (wX6 T hgl gl ++ wX8 T hgw gw ++ wX3 T hgn gn) sz) := by
  unfold fX6_meanKnowing at hf
  refine zStart [(0, .ref (hgl 0)), (1, .ref (hgw 0)), (2, .ref (hgn 0))] (by decide) rfl (Nat.le_of_ble_eq_true rfl) rfl ?_
  intro p e s m args below meth c A Q ls hx hb hr hml hown hlocks hts hsz hA0 hQ hA hK hX hP hD hS hl
  replace hown : s.vm.findClass RX6 = some m.cls := hown
  have hH := hsz
  have hiX6 : ∀ w ∈ u_ws RX6 TX6 3, w ∈ wsX6_meanKnowing := fun w h => List.mem_cons_of_mem _ (List.mem_append_left _ (List.mem_append_left _ (List.mem_append_right _ (h))))
  obtain ⟨H, hHe⟩ : ∃ H : Heap, H = s.heap := ⟨_, rfl⟩
  obtain ⟨locs, hLe⟩ : ∃ L : List Loc, L = [] := ⟨_, rfl⟩
  replace hP : va_P D vwCl (wX6 T hgl gl ++ wX8 T hgw gw ++ wX3 T hgn gn) H := by rw [hHe]; exact hP
  replace hS : va_S A s.heap H locs := by rw [hHe, hLe]; exact hS
  suffices hgo : W p l e rX6_meanKnowing s m args below meth c H locs 0 0 Q (F0 m 0 ls []) by rw [hHe, hLe] at hgo; exact hgo
  clear hHe hLe
  refine lv_lconst (v := 0) hx hb dX6_meanKnowing_0 (by decide) ?_
  refine lv_lstore_n (lv' := [(3, .long 0), (0, .ref (hgl 0)), (1, .ref (hgw 0)), (2, .ref (hgn 0))]) hx hb dX6_meanKnowing_1 rfl hl (by decide) rfl (fun ls hl => ?_)
  refine lv_iconst (v := 0) hx hb dX6_meanKnowing_2 (by decide) ?_
  refine lv_istore (lv' := [(5, .int 0), (3, .long 0), (0, .ref (hgl 0)), (1, .ref (hgw 0)), (2, .ref (hgn 0))]) hx hb dX6_meanKnowing_3 hl (by decide) rfl (fun ls hl => ?_)
  obtain ⟨ex, hlp, hf⟩ := zB1_ok hf
  have hE5_105 : ∀ (v4 : Int64) (gn_5 : zM) , ex = (v4, gn_5) → ∀ (H : Heap) (locs : List Loc) (ls : Array Slot), va_P D vwCl (wX6 T hgl gl ++ wX8 T hgw gw ++ wX3 T hgn gn_5) H → va_D A (wX6 T hgl gl ++ wX8 T hgw gw ++ wX3 T hgn gn_5) → va_S A s.heap H locs → lv_has ls 11 [(3, .long v4)] → W p l e rX6_meanKnowing s m args below meth c H locs 0 0 Q (F0 m 105 ls []) := by
    intro v4 gn_5 hex H locs ls hP hD hS hl
    have hf := zEx2 hex hf
    refine lv_lload_n hx hb dX6_meanKnowing_105 rfl (lv_at hl 0 rfl) ?_
    obtain ⟨q1, q2⟩ := zI2 hf
    subst q1
    subst q2
    exact zRetL hQ hx hb hr hlocks hA0 hK hP hD hS rfl dX6_meanKnowing_106
  refine zLpS3 (body := (fX6_meanKnowing_L5 gl gw)) (b := ex) (fun (v1 : Int64) (v2 : Int32) (gn_3 : zM) => ∀ (H : Heap) (locs : List Loc) (ls : Array Slot), va_P D vwCl (wX6 T hgl gl ++ wX8 T hgw gw ++ wX3 T hgn gn_3) H → va_D A (wX6 T hgl gl ++ wX8 T hgw gw ++ wX3 T hgn gn_3) → va_S A s.heap H locs → lv_has ls 11 [(0, .ref (hgl 0)), (1, .ref (hgw 0)), (2, .ref (hgn 0)), (3, .long v1), (5, .int v2)] → W p l e rX6_meanKnowing s m args below meth c H locs 0 0 Q (F0 m 5 ls [])) ?_ zFU 0 0 gn hlp H locs ls hP hD hS (lv_sub hl [2, 3, 4, 1, 0] rfl)
  intro v1 v2 gn_3 z hf hzz H locs ls hP hD hS hl
  unfold fX6_meanKnowing_L5 at hf
  replace hf := zUk3 hf
  refine lv_iload hx hb dX6_meanKnowing_5 (lv_at hl 4 rfl) ?_
  refine lv_iconst (v := 1) hx hb dX6_meanKnowing_7 (by decide) ?_
  refine lv_aload_n hx hb dX6_meanKnowing_8 rfl (lv_at hl 0 rfl) ?_
  refine zGet (ci := 6) (C := RX6) (F := TX6) (N := 3) (v := .int (gl 0 1)) hx hb hts hiX6 hown hK hP 0 1 1 rfl rfl (by decide) rfl rfl rfl dX6_meanKnowing_9 ?_
  refine lv_ishl hx hb dX6_meanKnowing_12 ?_
  refine lv_icmp_ge (tgt := 105) hx hb dX6_meanKnowing_13 (by decide) (fun hc => ?_) (fun hc => ?_)
  · replace hf := zIf_t hc hf
    cases hf
    exact hE5_105 v1 gn_3 hzz.symm H locs ls hP hD hS (lv_sub hl [3] rfl)
  · replace hf := zIf_f hc hf
    refine lv_aload_n hx hb dX6_meanKnowing_16 rfl (lv_at hl 0 rfl) ?_
    refine lv_aload_n hx hb dX6_meanKnowing_17 rfl (lv_at hl 1 rfl) ?_
    refine lv_aload_n hx hb dX6_meanKnowing_18 rfl (lv_at hl 2 rfl) ?_
    refine lv_iload hx hb dX6_meanKnowing_19 (lv_at hl 4 rfl) ?_
    obtain ⟨v6, gn_7, hc21, hf⟩ := zB2_ok hf
    refine zCallVEI [.ref (hgw 0), .ref (hgn 0), .int v2] ⟨hx, hb, hml, hown, hts⟩ (pX6_layWay l D T X hgl hgw hgn H.size gl gw gn_3 v2 v6 gn_7 hc21) (cwV 3 hts gX6_meanKnowing_X6_layWay rfl rfl rfl (by decide +kernel) ⟨Nat.le_of_ble_eq_true rfl, Nat.le_of_ble_eq_true rfl⟩) hK hP hD hS hA hX 0 rfl rfl rfl hl.1 rfl (Nat.le_of_ble_eq_true rfl) dX6_meanKnowing_21 ⟨Nat.zero_le _, Nat.zero_le _⟩ (fun H locs hP hD hS => ?_)
    refine lv_i2l hx hb dX6_meanKnowing_24 rfl ?_
    refine lv_topl (fun v8 ev8 => ?_)
    replace hf := zLt_at ev8 hf
    refine lv_lstore (lv' := [(6, .long v8), (0, .ref (hgl 0)), (1, .ref (hgw 0)), (2, .ref (hgn 0)), (3, .long v1), (5, .int v2)]) hx hb dX6_meanKnowing_25 hl (by decide) rfl (fun ls hl => ?_)
    refine lv_aload_n hx hb dX6_meanKnowing_27 rfl (lv_at hl 2 rfl) ?_
    obtain ⟨v9, hc28, hf⟩ := zB1_ok hf
    refine zCallVJI (wr := wX6 T hgl gl ++ wX3 T hgn gn_7) (ws' := wX6 T hgl gl ++ wX8 T hgw gw ++ wX3 T hgn gn_7) [] ⟨hx, hb, hml, hown, hts⟩ (pX8_everybody l D T X hgw H.size gw v9 hc28) (cwV 0 hts gX6_meanKnowing_X8_everybody rfl rfl rfl (by decide +kernel) ⟨Nat.le_of_ble_eq_true rfl, Nat.le_of_ble_eq_true rfl⟩) hK hP hD hS hA hX [2, 3, 4, 5, 6, 7, 8, 9, 10, 11, 12] [0, 1, 13, 14] [0, 1, 4, 5, 6, 7, 8, 9, 10, 11, 12, 13, 14, 2, 3] rfl rfl rfl rfl 0 rfl rfl rfl hl.1 rfl (Nat.le_of_ble_eq_true rfl) dX6_meanKnowing_28 ⟨Nat.zero_le _, Nat.zero_le _⟩ (fun H locs hP hD hS => ?_)
    refine lv_istore (lv' := [(8, .int v9), (6, .long v8), (0, .ref (hgl 0)), (1, .ref (hgw 0)), (2, .ref (hgn 0)), (3, .long v1), (5, .int v2)]) hx hb dX6_meanKnowing_31 hl (by decide) rfl (fun ls hl => ?_)
    refine lv_iconst (v := 0) hx hb dX6_meanKnowing_33 (by decide) ?_
    refine lv_istore (lv' := [(9, .int 0), (8, .int v9), (6, .long v8), (0, .ref (hgl 0)), (1, .ref (hgw 0)), (2, .ref (hgn 0)), (3, .long v1), (5, .int v2)]) hx hb dX6_meanKnowing_34 hl (by decide) rfl (fun ls hl => ?_)
    obtain ⟨ex, hlp, hf⟩ := zB1_ok hf
    have hE36_99 : ∀ (v13 : Int64) , ex = v13 → ∀ (H : Heap) (locs : List Loc) (ls : Array Slot), va_P D vwCl (wX6 T hgl gl ++ wX8 T hgw gw ++ wX3 T hgn gn_7) H → va_D A (wX6 T hgl gl ++ wX8 T hgw gw ++ wX3 T hgn gn_7) → va_S A s.heap H locs → lv_has ls 11 [(0, .ref (hgl 0)), (1, .ref (hgw 0)), (2, .ref (hgn 0)), (3, .long v13), (5, .int v2)] → W p l e rX6_meanKnowing s m args below meth c H locs 0 0 Q (F0 m 99 ls []) := by
      intro v13 hex H locs ls hP hD hS hl
      have hf := zEx1 hex hf
      obtain ⟨v21, ev21⟩ : ∃ y : Int32, y = v2 + 1 := ⟨_, rfl⟩
      replace hf := zLt_at ev21 hf
      refine lv_iinc (v := v21) (lv' := [(5, .int v21), (0, .ref (hgl 0)), (1, .ref (hgw 0)), (2, .ref (hgn 0)), (3, .long v13)]) hx hb dX6_meanKnowing_99 hl (k := 4) rfl (by rw [ev21]; rfl) (by decide) rfl (fun ls hl => ?_)
      refine lv_goto (tgt := 5) hx hb dX6_meanKnowing_102 (by decide) ?_
      cases hf
      exact hzz H locs ls hP hD hS (lv_sub hl [1, 2, 3, 4, 0] rfl)
    refine zLpS3 (body := (fX6_meanKnowing_L36 gw gn_7 v8)) (b := ex) (fun (v10 : Int64) (v11 : Int32) (v12 : Int32) => ∀ (H : Heap) (locs : List Loc) (ls : Array Slot), va_P D vwCl (wX6 T hgl gl ++ wX8 T hgw gw ++ wX3 T hgn gn_7) H → va_D A (wX6 T hgl gl ++ wX8 T hgw gw ++ wX3 T hgn gn_7) → va_S A s.heap H locs → lv_has ls 11 [(0, .ref (hgl 0)), (1, .ref (hgw 0)), (2, .ref (hgn 0)), (3, .long v10), (5, .int v2), (6, .long v8), (8, .int v11), (9, .int v12)] → W p l e rX6_meanKnowing s m args below meth c H locs 0 0 Q (F0 m 36 ls [])) ?_ zFU v1 v9 0 hlp H locs ls hP hD hS (lv_sub hl [3, 4, 5, 6, 7, 2, 1, 0] rfl)
    intro v10 v11 v12 z hf hzz H locs ls hP hD hS hl
    unfold fX6_meanKnowing_L36 at hf
    replace hf := zUk3 hf
    refine lv_iload hx hb dX6_meanKnowing_36 (lv_at hl 7 rfl) ?_
    refine lv_bipush (v := 10) hx hb dX6_meanKnowing_38 (by decide) ?_
    refine lv_icmp_ge (tgt := 99) hx hb dX6_meanKnowing_40 (by decide) (fun hc => ?_) (fun hc => ?_)
    · replace hf := zIf_t hc hf
      cases hf
      exact hE36_99 v10 hzz.symm H locs ls hP hD hS (lv_sub hl [0, 1, 2, 3, 4] rfl)
    · replace hf := zIf_f hc hf
      refine lv_iload hx hb dX6_meanKnowing_43 (lv_at hl 6 rfl) ?_
      refine lv_if_eq (tgt := 99) hx hb dX6_meanKnowing_45 (by decide) (fun hc => ?_) (fun hc => ?_)
      · replace hf := zIf_t hc hf
        cases hf
        exact hE36_99 v10 hzz.symm H locs ls hP hD hS (lv_sub hl [0, 1, 2, 3, 4] rfl)
      · replace hf := zIf_f hc hf
        refine lv_aload_n hx hb dX6_meanKnowing_48 rfl (lv_at hl 2 rfl) ?_
        refine lv_iload hx hb dX6_meanKnowing_49 (lv_at hl 6 rfl) ?_
        refine lv_iload hx hb dX6_meanKnowing_51 (lv_at hl 6 rfl) ?_
        refine lv_ineg hx hb dX6_meanKnowing_53 ?_
        refine lv_iand hx hb dX6_meanKnowing_54 ?_
        refine lv_aload_n hx hb dX6_meanKnowing_55 rfl (lv_at hl 1 rfl) ?_
        obtain ⟨v14, hc56, hf⟩ := zB1_ok hf
        refine zCallVJI (wr := wX6 T hgl gl ++ wX3 T hgn gn_7) (ws' := wX6 T hgl gl ++ wX8 T hgw gw ++ wX3 T hgn gn_7) [] ⟨hx, hb, hml, hown, hts⟩ (pX8_everybody l D T X hgw H.size gw v14 hc56) (cwV 0 hts gX6_meanKnowing_X8_everybody rfl rfl rfl (by decide +kernel) ⟨Nat.le_of_ble_eq_true rfl, Nat.le_of_ble_eq_true rfl⟩) hK hP hD hS hA hX [2, 3, 4, 5, 6, 7, 8, 9, 10, 11, 12] [0, 1, 13, 14] [0, 1, 4, 5, 6, 7, 8, 9, 10, 11, 12, 13, 14, 2, 3] rfl rfl rfl rfl 0 rfl rfl rfl hl.1 rfl (Nat.le_of_ble_eq_true rfl) dX6_meanKnowing_56 ⟨Nat.zero_le _, Nat.zero_le _⟩ (fun H locs hP hD hS => ?_)
        obtain ⟨v15, hc59, hf⟩ := zB1_ok hf
        refine zCallVJI (wr := wX6 T hgl gl ++ wX8 T hgw gw) (ws' := wX6 T hgl gl ++ wX8 T hgw gw ++ wX3 T hgn gn_7) [.int (v11 &&& (-v11)), .int v14] ⟨hx, hb, hml, hown, hts⟩ (pX3_flood l D T X hgn H.size gn_7 (v11 &&& (-v11)) v14 v15 hc59) (cwV 2 hts gX6_meanKnowing_X3_flood rfl rfl rfl (by decide +kernel) ⟨Nat.le_of_ble_eq_true rfl, Nat.le_of_ble_eq_true rfl⟩) hK hP hD hS hA hX [13, 14] [0, 1, 2, 3, 4, 5, 6, 7, 8, 9, 10, 11, 12] [0, 1, 2, 3, 4, 5, 6, 7, 8, 9, 10, 11, 12, 13, 14] rfl rfl rfl rfl 0 rfl rfl rfl hl.1 rfl (Nat.le_of_ble_eq_true rfl) dX6_meanKnowing_59 ⟨Nat.zero_le _, Nat.zero_le _⟩ (fun H locs hP hD hS => ?_)
        refine lv_istore (lv' := [(10, .int v15), (0, .ref (hgl 0)), (1, .ref (hgw 0)), (2, .ref (hgn 0)), (3, .long v10), (5, .int v2), (6, .long v8), (8, .int v11), (9, .int v12)]) hx hb dX6_meanKnowing_62 hl (by decide) rfl (fun ls hl => ?_)
        refine lv_iload hx hb dX6_meanKnowing_64 (lv_at hl 7 rfl) ?_
        refine lv_iload hx hb dX6_meanKnowing_66 (lv_at hl 0 rfl) ?_
        refine lv_iconst (v := (-1)) hx hb dX6_meanKnowing_68 (by decide) ?_
        refine lv_ixor hx hb dX6_meanKnowing_69 ?_
        refine lv_iand hx hb dX6_meanKnowing_70 ?_
        refine lv_topi (fun v16 ev16 => ?_)
        replace hf := zLt_at ev16 hf
        refine lv_istore (lv' := [(8, .int v16), (10, .int v15), (0, .ref (hgl 0)), (1, .ref (hgw 0)), (2, .ref (hgn 0)), (3, .long v10), (5, .int v2), (6, .long v8), (9, .int v12)]) hx hb dX6_meanKnowing_71 hl (by decide) rfl (fun ls hl => ?_)
        refine lv_lload_n hx hb dX6_meanKnowing_73 rfl (lv_at hl 5 rfl) ?_
        refine lv_lload hx hb dX6_meanKnowing_74 (lv_at hl 7 rfl) ?_
        refine lv_aload_n hx hb dX6_meanKnowing_76 rfl (lv_at hl 3 rfl) ?_
        refine lv_iload hx hb dX6_meanKnowing_77 (lv_at hl 1 rfl) ?_
        obtain ⟨v17, hc79, hf⟩ := zB1_ok hf
        refine zCallVJI (wr := wX6 T hgl gl ++ wX3 T hgn gn_7) (ws' := wX6 T hgl gl ++ wX8 T hgw gw ++ wX3 T hgn gn_7) [.int v15] ⟨hx, hb, hml, hown, hts⟩ (pX8_weightOf l D T X hgw H.size gw v15 v17 hc79) (cwV 1 hts gX6_meanKnowing_X8_weightOf rfl rfl rfl (by decide +kernel) ⟨Nat.le_of_ble_eq_true rfl, Nat.le_of_ble_eq_true rfl⟩) hK hP hD hS hA hX [2, 3, 4, 5, 6, 7, 8, 9, 10, 11, 12] [0, 1, 13, 14] [0, 1, 4, 5, 6, 7, 8, 9, 10, 11, 12, 13, 14, 2, 3] rfl rfl rfl rfl 0 rfl rfl rfl hl.1 rfl (Nat.le_of_ble_eq_true rfl) dX6_meanKnowing_79 ⟨Nat.zero_le _, Nat.zero_le _⟩ (fun H locs hP hD hS => ?_)
        refine lv_i2l hx hb dX6_meanKnowing_82 rfl ?_
        refine lv_lmul hx hb dX6_meanKnowing_83 ?_
        refine lv_iload hx hb dX6_meanKnowing_84 (lv_at hl 1 rfl) ?_
        obtain ⟨v18, hc86, hf⟩ := zB1_ok hf
        refine zCallS0I [.int v15] ⟨hx, hb, hml, hown, hts⟩ (pJ6_bitCount_0f7a4 l D T X H.size v15 v18 hc86) (va_cwS 1 hts gX6_meanKnowing_J6_bitCount_0f7a4 rfl rfl rfl (by decide +kernel) ⟨Nat.le_of_ble_eq_true rfl, Nat.le_of_ble_eq_true rfl⟩) hK hP hD hS hA hX rfl hl.1 rfl (Nat.le_of_ble_eq_true rfl) dX6_meanKnowing_86 ⟨Nat.zero_le _, Nat.zero_le _⟩ (fun H locs hP hD hS => ?_)
        refine lv_i2l hx hb dX6_meanKnowing_89 rfl ?_
        refine lv_lmul hx hb dX6_meanKnowing_90 ?_
        refine lv_ladd hx hb dX6_meanKnowing_91 ?_
        refine lv_topl (fun v19 ev19 => ?_)
        replace hf := zLt_at ev19 hf
        refine lv_lstore_n (lv' := [(3, .long v19), (8, .int v16), (10, .int v15), (0, .ref (hgl 0)), (1, .ref (hgw 0)), (2, .ref (hgn 0)), (5, .int v2), (6, .long v8), (9, .int v12)]) hx hb dX6_meanKnowing_92 rfl hl (by decide) rfl (fun ls hl => ?_)
        obtain ⟨v20, ev20⟩ : ∃ y : Int32, y = v12 + 1 := ⟨_, rfl⟩
        replace hf := zLt_at ev20 hf
        refine lv_iinc (v := v20) (lv' := [(9, .int v20), (3, .long v19), (8, .int v16), (10, .int v15), (0, .ref (hgl 0)), (1, .ref (hgw 0)), (2, .ref (hgn 0)), (5, .int v2), (6, .long v8)]) hx hb dX6_meanKnowing_93 hl (k := 8) rfl (by rw [ev20]; rfl) (by decide) rfl (fun ls hl => ?_)
        refine lv_goto (tgt := 36) hx hb dX6_meanKnowing_96 (by decide) ?_
        cases hf
        exact hzz H locs ls hP hD hS (lv_sub hl [4, 5, 6, 1, 7, 8, 2, 0] rfl)
set_option maxHeartbeats 4000000 in
set_option maxRecDepth 100000 in
theorem pX8_isAsShown (l : Launch) (D : va_G) (T : Nat → ClassId) (X : zFP) (hgw : Nat → Nat) (sz : Nat) (gw : zM) (a1 : Int32) (r : Int32) (hf : fX8_isAsShown gw a1 = some r) : Met l yX8_isAsShown wsX8_isAsShown rX8_isAsShown (zPre D T X [.ref (hgw 0), .int a1] (wX8 T hgw gw) sz) (zQi D T r (wX8 T hgw gw) (wX8 T hgw gw) sz) 0 0 (va_A (wX8 T hgw gw) sz) := by
  unfold fX8_isAsShown at hf
  refine zStart [(0, .ref (hgw 0)), (1, .int a1)] (by decide) rfl (Nat.le_of_ble_eq_true rfl) rfl ?_
  intro p e s m args below meth c A Q ls hx hb hr hml hown hlocks hts hsz hA0 hQ hA hK hX hP hD hS hl
  replace hown : s.vm.findClass RX8 = some m.cls := hown
  have hH := hsz
  have hiX8 : ∀ w ∈ u_ws RX8 TX8 14, w ∈ wsX8_isAsShown := fun w h => List.mem_cons_of_mem _ (List.mem_append_right _ (h))
  obtain ⟨H, hHe⟩ : ∃ H : Heap, H = s.heap := ⟨_, rfl⟩
  obtain ⟨locs, hLe⟩ : ∃ L : List Loc, L = [] := ⟨_, rfl⟩
  replace hP : va_P D vwCl (wX8 T hgw gw) H := by rw [hHe]; exact hP
  replace hS : va_S A s.heap H locs := by rw [hHe, hLe]; exact hS
  suffices hgo : W p l e rX8_isAsShown s m args below meth c H locs 0 0 Q (F0 m 0 ls []) by rw [hHe, hLe] at hgo; exact hgo
  clear hHe hLe
  refine lv_iconst (v := 0) hx hb dX8_isAsShown_0 (by decide) ?_
  refine lv_istore_n (lv' := [(2, .int 0), (0, .ref (hgw 0)), (1, .int a1)]) hx hb dX8_isAsShown_1 rfl hl (by decide) rfl (fun ls hl => ?_)
  obtain ⟨ex, hlp, hf⟩ := zB1_ok hf
  have hE2_41 : ex = (.inl ()) → ∀ (H : Heap) (locs : List Loc) (ls : Array Slot), va_P D vwCl (wX8 T hgw gw) H → va_D A (wX8 T hgw gw) → va_S A s.heap H locs → lv_has ls 3 [] → W p l e rX8_isAsShown s m args below meth c H locs 0 0 Q (F0 m 41 ls []) := by
    intro hex H locs ls hP hD hS hl
    have hf := zExL0 hex hf
    refine lv_iconst (v := 1) hx hb dX8_isAsShown_41 (by decide) ?_
    obtain ⟨q1, -⟩ := zI1 hf
    subst q1
    exact zRetZ hQ hx hb hr hlocks hA0 hK hP hD hS (by decide) rfl dX8_isAsShown_42
  have hE2_33 : ex = (.inr ()) → ∀ (H : Heap) (locs : List Loc) (ls : Array Slot), va_P D vwCl (wX8 T hgw gw) H → va_D A (wX8 T hgw gw) → va_S A s.heap H locs → lv_has ls 3 [] → W p l e rX8_isAsShown s m args below meth c H locs 0 0 Q (F0 m 33 ls []) := by
    intro hex H locs ls hP hD hS hl
    have hf := zSmR hex hf
    have hf := zEx0 rfl hf
    refine lv_iconst (v := 0) hx hb dX8_isAsShown_33 (by decide) ?_
    obtain ⟨q1, -⟩ := zI1 hf
    subst q1
    exact zRetZ hQ hx hb hr hlocks hA0 hK hP hD hS (by decide) rfl dX8_isAsShown_34
  refine zLpS1 (body := (fX8_isAsShown_L2 a1 gw)) (b := ex) (fun (v1 : Int32) => ∀ (H : Heap) (locs : List Loc) (ls : Array Slot), va_P D vwCl (wX8 T hgw gw) H → va_D A (wX8 T hgw gw) → va_S A s.heap H locs → lv_has ls 3 [(0, .ref (hgw 0)), (1, .int a1), (2, .int v1)] → W p l e rX8_isAsShown s m args below meth c H locs 0 0 Q (F0 m 2 ls [])) ?_ zFU 0 hlp H locs ls hP hD hS (lv_sub hl [1, 2, 0] rfl)
  intro v1 z hf hzz H locs ls hP hD hS hl
  unfold fX8_isAsShown_L2 at hf
  replace hf := zUk1 hf
  refine lv_iload_n hx hb dX8_isAsShown_2 rfl (lv_at hl 2 rfl) ?_
  refine lv_aload_n hx hb dX8_isAsShown_3 rfl (lv_at hl 0 rfl) ?_
  refine zGet (ci := 8) (C := RX8) (F := TX8) (N := 14) (v := .int (gw 0 0)) hx hb hts hiX8 hown hK hP 0 0 1 rfl rfl (by decide) rfl rfl rfl dX8_isAsShown_4 ?_
  refine lv_icmp_ge (tgt := 41) hx hb dX8_isAsShown_7 (by decide) (fun hc => ?_) (fun hc => ?_)
  · replace hf := zIf_t hc hf
    cases hf
    exact hE2_41 hzz.symm H locs ls hP hD hS (lv_sub hl [] rfl)
  · replace hf := zIf_f hc hf
    refine lv_aload_n hx hb dX8_isAsShown_10 rfl (lv_at hl 0 rfl) ?_
    refine zGet (ci := 8) (C := RX8) (F := TX8) (N := 14) (v := .ref (hgw 2)) hx hb hts hiX8 hown hK hP 0 2 2 rfl rfl (by decide) rfl rfl rfl dX8_isAsShown_11 ?_
    refine lv_iload_n hx hb dX8_isAsShown_14 rfl (lv_at hl 2 rfl) ?_
    obtain ⟨hg, hf⟩ := zGd_ok hf
    refine zAldI hx hb hK hP 2 rfl hg dX8_isAsShown_15 (fun v2 ev2 => ?_)
    replace hf := zLt_at ev2 hf
    have hJ35 : ∀ (H : Heap) (locs : List Loc) (ls : Array Slot), fX8_isAsShown_L2J35 v1 = some z → va_P D vwCl (wX8 T hgw gw) H → va_D A (wX8 T hgw gw) → va_S A s.heap H locs → lv_has ls 3 [(0, .ref (hgw 0)), (1, .int a1), (2, .int v1)] → W p l e rX8_isAsShown s m args below meth c H locs 0 0 Q (F0 m 35 ls []) := by
      intro H locs ls hf hP hD hS hl
      unfold fX8_isAsShown_L2J35 at hf
      obtain ⟨v3, ev3⟩ : ∃ y : Int32, y = v1 + 1 := ⟨_, rfl⟩
      replace hf := zLt_at ev3 hf
      refine lv_iinc (v := v3) (lv' := [(2, .int v3), (0, .ref (hgw 0)), (1, .int a1)]) hx hb dX8_isAsShown_35 hl (k := 2) rfl (by rw [ev3]; rfl) (by decide) rfl (fun ls hl => ?_)
      refine lv_goto (tgt := 2) hx hb dX8_isAsShown_38 (by decide) ?_
      cases hf
      exact hzz H locs ls hP hD hS (lv_sub hl [1, 2, 0] rfl)
    refine lv_if_lt (tgt := 35) hx hb dX8_isAsShown_16 (by decide) (fun hc => ?_) (fun hc => ?_)
    · replace hf := zIf_t hc hf
      exact hJ35 H locs ls hf hP hD hS hl
    · replace hf := zIf_f hc hf
      refine lv_aload_n hx hb dX8_isAsShown_19 rfl (lv_at hl 0 rfl) ?_
      refine zGet (ci := 8) (C := RX8) (F := TX8) (N := 14) (v := .ref (hgw 2)) hx hb hts hiX8 hown hK hP 0 2 2 rfl rfl (by decide) rfl rfl rfl dX8_isAsShown_20 ?_
      refine lv_iload_n hx hb dX8_isAsShown_23 rfl (lv_at hl 2 rfl) ?_
      obtain ⟨hg, hf⟩ := zGd_ok hf
      refine zAldI hx hb hK hP 2 rfl hg dX8_isAsShown_24 (fun v4 ev4 => ?_)
      replace hf := zLt_at ev4 hf
      refine lv_iload_n hx hb dX8_isAsShown_25 rfl (lv_at hl 1 rfl) ?_
      refine lv_iload_n hx hb dX8_isAsShown_26 rfl (lv_at hl 2 rfl) ?_
      refine lv_ishr hx hb dX8_isAsShown_27 ?_
      refine lv_iconst (v := 1) hx hb dX8_isAsShown_28 (by decide) ?_
      refine lv_iand hx hb dX8_isAsShown_29 ?_
      refine lv_icmp_eq (tgt := 35) hx hb dX8_isAsShown_30 (by decide) (fun hc => ?_) (fun hc => ?_)
      · replace hf := zIf_t hc hf
        exact hJ35 H locs ls hf hP hD hS hl
      · replace hf := zIf_f hc hf
        cases hf
        exact hE2_33 hzz.symm H locs ls hP hD hS (lv_sub hl [] rfl)
set_option maxHeartbeats 4000000 in
set_option maxRecDepth 100000 in
theorem pX6_oddsShown (l : Launch) (D : va_G) (T : Nat → ClassId) (X : zFP) (hgl : Nat → Nat) (hgw : Nat → Nat) (hgn : Nat → Nat) (sz : Nat) (gl : zM) (gw : zM) (gn : zM) (a3 : Int32) (r : Int64) (ngn : zM) (hf : fX6_oddsShown gl gw gn a3 = some (r, ngn)) : Met l yX6_oddsShown wsX6_oddsShown rX6_oddsShown (zPre D T X [.ref (hgl 0), .ref (hgw 0), .ref (hgn 0), .int a3] (wX6 T hgl gl ++ wX8 T hgw gw ++ wX3 T hgn gn) sz) (zQl D T r (wX6 T hgl gl ++ wX8 T hgw gw ++ wX3 T hgn ngn) (wX6 T hgl gl ++ wX8 T hgw gw ++ wX3 T hgn gn) sz) 0 0 (va_A (wX6 T hgl gl ++ wX8 T hgw gw ++ wX3 T hgn gn) sz) := by
  unfold fX6_oddsShown at hf
  refine zStart [(0, .ref (hgl 0)), (1, .ref (hgw 0)), (2, .ref (hgn 0)), (3, .int a3)] (by decide) rfl (Nat.le_of_ble_eq_true rfl) rfl ?_
  intro p e s m args below meth c A Q ls hx hb hr hml hown hlocks hts hsz hA0 hQ hA hK hX hP hD hS hl
  replace hown : s.vm.findClass RX6 = some m.cls := hown
  have hH := hsz
  have hiX6 : ∀ w ∈ u_ws RX6 TX6 3, w ∈ wsX6_oddsShown := fun w h => List.mem_cons_of_mem _ (List.mem_append_left _ (List.mem_append_left _ (List.mem_append_right _ (h))))
  obtain ⟨H, hHe⟩ : ∃ H : Heap, H = s.heap := ⟨_, rfl⟩
  obtain ⟨locs, hLe⟩ : ∃ L : List Loc, L = [] := ⟨_, rfl⟩
  replace hP : va_P D vwCl (wX6 T hgl gl ++ wX8 T hgw gw ++ wX3 T hgn gn) H := by rw [hHe]; exact hP
  replace hS : va_S A s.heap H locs := by rw [hHe, hLe]; exact hS
  suffices hgo : W p l e rX6_oddsShown s m args below meth c H locs 0 0 Q (F0 m 0 ls []) by rw [hHe, hLe] at hgo; exact hgo
  clear hHe hLe
  refine lv_lconst (v := 0) hx hb dX6_oddsShown_0 (by decide) ?_
  refine lv_lstore (lv' := [(4, .long 0), (0, .ref (hgl 0)), (1, .ref (hgw 0)), (2, .ref (hgn 0)), (3, .int a3)]) hx hb dX6_oddsShown_1 hl (by decide) rfl (fun ls hl => ?_)
  refine lv_iconst (v := 0) hx hb dX6_oddsShown_3 (by decide) ?_
  refine lv_istore (lv' := [(6, .int 0), (4, .long 0), (0, .ref (hgl 0)), (1, .ref (hgw 0)), (2, .ref (hgn 0)), (3, .int a3)]) hx hb dX6_oddsShown_4 hl (by decide) rfl (fun ls hl => ?_)
  obtain ⟨ex, hlp, hf⟩ := zB1_ok hf
  have hE6_109 : ∀ (v4 : Int64) (gn_5 : zM) , ex = (v4, gn_5) → ∀ (H : Heap) (locs : List Loc) (ls : Array Slot), va_P D vwCl (wX6 T hgl gl ++ wX8 T hgw gw ++ wX3 T hgn gn_5) H → va_D A (wX6 T hgl gl ++ wX8 T hgw gw ++ wX3 T hgn gn_5) → va_S A s.heap H locs → lv_has ls 12 [(4, .long v4)] → W p l e rX6_oddsShown s m args below meth c H locs 0 0 Q (F0 m 109 ls []) := by
    intro v4 gn_5 hex H locs ls hP hD hS hl
    have hf := zEx2 hex hf
    refine lv_lload hx hb dX6_oddsShown_109 (lv_at hl 0 rfl) ?_
    obtain ⟨q1, q2⟩ := zI2 hf
    subst q1
    subst q2
    exact zRetL hQ hx hb hr hlocks hA0 hK hP hD hS rfl dX6_oddsShown_111
  refine zLpS3 (body := (fX6_oddsShown_L6 a3 gl gw)) (b := ex) (fun (v1 : Int64) (v2 : Int32) (gn_3 : zM) => ∀ (H : Heap) (locs : List Loc) (ls : Array Slot), va_P D vwCl (wX6 T hgl gl ++ wX8 T hgw gw ++ wX3 T hgn gn_3) H → va_D A (wX6 T hgl gl ++ wX8 T hgw gw ++ wX3 T hgn gn_3) → va_S A s.heap H locs → lv_has ls 12 [(0, .ref (hgl 0)), (1, .ref (hgw 0)), (2, .ref (hgn 0)), (3, .int a3), (4, .long v1), (6, .int v2)] → W p l e rX6_oddsShown s m args below meth c H locs 0 0 Q (F0 m 6 ls [])) ?_ zFU 0 0 gn hlp H locs ls hP hD hS (lv_sub hl [2, 3, 4, 5, 1, 0] rfl)
  intro v1 v2 gn_3 z hf hzz H locs ls hP hD hS hl
  unfold fX6_oddsShown_L6 at hf
  replace hf := zUk3 hf
  refine lv_iload hx hb dX6_oddsShown_6 (lv_at hl 5 rfl) ?_
  refine lv_iconst (v := 1) hx hb dX6_oddsShown_8 (by decide) ?_
  refine lv_aload_n hx hb dX6_oddsShown_9 rfl (lv_at hl 0 rfl) ?_
  refine zGet (ci := 6) (C := RX6) (F := TX6) (N := 3) (v := .int (gl 0 1)) hx hb hts hiX6 hown hK hP 0 1 1 rfl rfl (by decide) rfl rfl rfl dX6_oddsShown_10 ?_
  refine lv_ishl hx hb dX6_oddsShown_13 ?_
  refine lv_icmp_ge (tgt := 109) hx hb dX6_oddsShown_14 (by decide) (fun hc => ?_) (fun hc => ?_)
  · replace hf := zIf_t hc hf
    cases hf
    exact hE6_109 v1 gn_3 hzz.symm H locs ls hP hD hS (lv_sub hl [4] rfl)
  · replace hf := zIf_f hc hf
    refine lv_aload_n hx hb dX6_oddsShown_17 rfl (lv_at hl 0 rfl) ?_
    refine lv_aload_n hx hb dX6_oddsShown_18 rfl (lv_at hl 1 rfl) ?_
    refine lv_aload_n hx hb dX6_oddsShown_19 rfl (lv_at hl 2 rfl) ?_
    refine lv_iload hx hb dX6_oddsShown_20 (lv_at hl 5 rfl) ?_
    obtain ⟨v6, gn_7, hc22, hf⟩ := zB2_ok hf
    refine zCallVEI [.ref (hgw 0), .ref (hgn 0), .int v2] ⟨hx, hb, hml, hown, hts⟩ (pX6_layWay l D T X hgl hgw hgn H.size gl gw gn_3 v2 v6 gn_7 hc22) (cwV 3 hts gX6_oddsShown_X6_layWay rfl rfl rfl (by decide +kernel) ⟨Nat.le_of_ble_eq_true rfl, Nat.le_of_ble_eq_true rfl⟩) hK hP hD hS hA hX 0 rfl rfl rfl hl.1 rfl (Nat.le_of_ble_eq_true rfl) dX6_oddsShown_22 ⟨Nat.zero_le _, Nat.zero_le _⟩ (fun H locs hP hD hS => ?_)
    refine lv_i2l hx hb dX6_oddsShown_25 rfl ?_
    refine lv_topl (fun v8 ev8 => ?_)
    replace hf := zLt_at ev8 hf
    refine lv_lstore (lv' := [(7, .long v8), (0, .ref (hgl 0)), (1, .ref (hgw 0)), (2, .ref (hgn 0)), (3, .int a3), (4, .long v1), (6, .int v2)]) hx hb dX6_oddsShown_26 hl (by decide) rfl (fun ls hl => ?_)
    refine lv_iload_n hx hb dX6_oddsShown_28 rfl (lv_at hl 4 rfl) ?_
    refine lv_istore (lv' := [(9, .int a3), (7, .long v8), (0, .ref (hgl 0)), (1, .ref (hgw 0)), (2, .ref (hgn 0)), (3, .int a3), (4, .long v1), (6, .int v2)]) hx hb dX6_oddsShown_29 hl (by decide) rfl (fun ls hl => ?_)
    refine lv_iconst (v := 0) hx hb dX6_oddsShown_31 (by decide) ?_
    refine lv_istore (lv' := [(10, .int 0), (9, .int a3), (7, .long v8), (0, .ref (hgl 0)), (1, .ref (hgw 0)), (2, .ref (hgn 0)), (3, .int a3), (4, .long v1), (6, .int v2)]) hx hb dX6_oddsShown_32 hl (by decide) rfl (fun ls hl => ?_)
    obtain ⟨ex, hlp, hf⟩ := zB1_ok hf
    have hE34_103 : ∀ (v12 : Int64) , ex = v12 → ∀ (H : Heap) (locs : List Loc) (ls : Array Slot), va_P D vwCl (wX6 T hgl gl ++ wX8 T hgw gw ++ wX3 T hgn gn_7) H → va_D A (wX6 T hgl gl ++ wX8 T hgw gw ++ wX3 T hgn gn_7) → va_S A s.heap H locs → lv_has ls 12 [(0, .ref (hgl 0)), (1, .ref (hgw 0)), (2, .ref (hgn 0)), (3, .int a3), (4, .long v12), (6, .int v2)] → W p l e rX6_oddsShown s m args below meth c H locs 0 0 Q (F0 m 103 ls []) := by
      intro v12 hex H locs ls hP hD hS hl
      have hf := zEx1 hex hf
      obtain ⟨v21, ev21⟩ : ∃ y : Int32, y = v2 + 1 := ⟨_, rfl⟩
      replace hf := zLt_at ev21 hf
      refine lv_iinc (v := v21) (lv' := [(6, .int v21), (0, .ref (hgl 0)), (1, .ref (hgw 0)), (2, .ref (hgn 0)), (3, .int a3), (4, .long v12)]) hx hb dX6_oddsShown_103 hl (k := 5) rfl (by rw [ev21]; rfl) (by decide) rfl (fun ls hl => ?_)
      refine lv_goto (tgt := 6) hx hb dX6_oddsShown_106 (by decide) ?_
      cases hf
      exact hzz H locs ls hP hD hS (lv_sub hl [1, 2, 3, 4, 5, 0] rfl)
    refine zLpS3 (body := (fX6_oddsShown_L34 a3 gw gn_7 v8)) (b := ex) (fun (v9 : Int64) (v10 : Int32) (v11 : Int32) => ∀ (H : Heap) (locs : List Loc) (ls : Array Slot), va_P D vwCl (wX6 T hgl gl ++ wX8 T hgw gw ++ wX3 T hgn gn_7) H → va_D A (wX6 T hgl gl ++ wX8 T hgw gw ++ wX3 T hgn gn_7) → va_S A s.heap H locs → lv_has ls 12 [(0, .ref (hgl 0)), (1, .ref (hgw 0)), (2, .ref (hgn 0)), (3, .int a3), (4, .long v9), (6, .int v2), (7, .long v8), (9, .int v10), (10, .int v11)] → W p l e rX6_oddsShown s m args below meth c H locs 0 0 Q (F0 m 34 ls [])) ?_ zFU v1 a3 0 hlp H locs ls hP hD hS (lv_sub hl [3, 4, 5, 6, 7, 8, 2, 1, 0] rfl)
    intro v9 v10 v11 z hf hzz H locs ls hP hD hS hl
    unfold fX6_oddsShown_L34 at hf
    replace hf := zUk3 hf
    refine lv_iload hx hb dX6_oddsShown_34 (lv_at hl 8 rfl) ?_
    refine lv_bipush (v := 10) hx hb dX6_oddsShown_36 (by decide) ?_
    refine lv_icmp_ge (tgt := 103) hx hb dX6_oddsShown_38 (by decide) (fun hc => ?_) (fun hc => ?_)
    · replace hf := zIf_t hc hf
      cases hf
      exact hE34_103 v9 hzz.symm H locs ls hP hD hS (lv_sub hl [0, 1, 2, 3, 4, 5] rfl)
    · replace hf := zIf_f hc hf
      refine lv_iload hx hb dX6_oddsShown_41 (lv_at hl 7 rfl) ?_
      refine lv_if_eq (tgt := 103) hx hb dX6_oddsShown_43 (by decide) (fun hc => ?_) (fun hc => ?_)
      · replace hf := zIf_t hc hf
        cases hf
        exact hE34_103 v9 hzz.symm H locs ls hP hD hS (lv_sub hl [0, 1, 2, 3, 4, 5] rfl)
      · replace hf := zIf_f hc hf
        refine lv_aload_n hx hb dX6_oddsShown_46 rfl (lv_at hl 2 rfl) ?_
        refine lv_iload hx hb dX6_oddsShown_47 (lv_at hl 7 rfl) ?_
        refine lv_iload hx hb dX6_oddsShown_49 (lv_at hl 7 rfl) ?_
        refine lv_ineg hx hb dX6_oddsShown_51 ?_
        refine lv_iand hx hb dX6_oddsShown_52 ?_
        refine lv_aload_n hx hb dX6_oddsShown_53 rfl (lv_at hl 1 rfl) ?_
        obtain ⟨v13, hc54, hf⟩ := zB1_ok hf
        refine zCallVJI (wr := wX6 T hgl gl ++ wX3 T hgn gn_7) (ws' := wX6 T hgl gl ++ wX8 T hgw gw ++ wX3 T hgn gn_7) [] ⟨hx, hb, hml, hown, hts⟩ (pX8_everybody l D T X hgw H.size gw v13 hc54) (cwV 0 hts gX6_oddsShown_X8_everybody rfl rfl rfl (by decide +kernel) ⟨Nat.le_of_ble_eq_true rfl, Nat.le_of_ble_eq_true rfl⟩) hK hP hD hS hA hX [2, 3, 4, 5, 6, 7, 8, 9, 10, 11, 12] [0, 1, 13, 14] [0, 1, 4, 5, 6, 7, 8, 9, 10, 11, 12, 13, 14, 2, 3] rfl rfl rfl rfl 0 rfl rfl rfl hl.1 rfl (Nat.le_of_ble_eq_true rfl) dX6_oddsShown_54 ⟨Nat.zero_le _, Nat.zero_le _⟩ (fun H locs hP hD hS => ?_)
        obtain ⟨v14, hc57, hf⟩ := zB1_ok hf
        refine zCallVJI (wr := wX6 T hgl gl ++ wX8 T hgw gw) (ws' := wX6 T hgl gl ++ wX8 T hgw gw ++ wX3 T hgn gn_7) [.int (v10 &&& (-v10)), .int v13] ⟨hx, hb, hml, hown, hts⟩ (pX3_flood l D T X hgn H.size gn_7 (v10 &&& (-v10)) v13 v14 hc57) (cwV 2 hts gX6_oddsShown_X3_flood rfl rfl rfl (by decide +kernel) ⟨Nat.le_of_ble_eq_true rfl, Nat.le_of_ble_eq_true rfl⟩) hK hP hD hS hA hX [13, 14] [0, 1, 2, 3, 4, 5, 6, 7, 8, 9, 10, 11, 12] [0, 1, 2, 3, 4, 5, 6, 7, 8, 9, 10, 11, 12, 13, 14] rfl rfl rfl rfl 0 rfl rfl rfl hl.1 rfl (Nat.le_of_ble_eq_true rfl) dX6_oddsShown_57 ⟨Nat.zero_le _, Nat.zero_le _⟩ (fun H locs hP hD hS => ?_)
        refine lv_istore (lv' := [(11, .int v14), (0, .ref (hgl 0)), (1, .ref (hgw 0)), (2, .ref (hgn 0)), (3, .int a3), (4, .long v9), (6, .int v2), (7, .long v8), (9, .int v10), (10, .int v11)]) hx hb dX6_oddsShown_60 hl (by decide) rfl (fun ls hl => ?_)
        refine lv_aload_n hx hb dX6_oddsShown_62 rfl (lv_at hl 2 rfl) ?_
        refine lv_iload hx hb dX6_oddsShown_63 (lv_at hl 0 rfl) ?_
        obtain ⟨v15, hc65, hf⟩ := zB1_ok hf
        refine zCallVJI (wr := wX6 T hgl gl ++ wX3 T hgn gn_7) (ws' := wX6 T hgl gl ++ wX8 T hgw gw ++ wX3 T hgn gn_7) [.int v14] ⟨hx, hb, hml, hown, hts⟩ (pX8_isAsShown l D T X hgw H.size gw v14 v15 hc65) (cwV 1 hts gX6_oddsShown_X8_isAsShown rfl rfl rfl (by decide +kernel) ⟨Nat.le_of_ble_eq_true rfl, Nat.le_of_ble_eq_true rfl⟩) hK hP hD hS hA hX [2, 3, 4, 5, 6, 7, 8, 9, 10, 11, 12] [0, 1, 13, 14] [0, 1, 4, 5, 6, 7, 8, 9, 10, 11, 12, 13, 14, 2, 3] rfl rfl rfl rfl 0 rfl rfl rfl hl.1 rfl (Nat.le_of_ble_eq_true rfl) dX6_oddsShown_65 ⟨Nat.zero_le _, Nat.zero_le _⟩ (fun H locs hP hD hS => ?_)
        have hJ88 : ∀ (v16 : Int64) (H : Heap) (locs : List Loc) (ls : Array Slot), fX6_oddsShown_L34J88 v10 v11 v14 v16 = some z → va_P D vwCl (wX6 T hgl gl ++ wX8 T hgw gw ++ wX3 T hgn gn_7) H → va_D A (wX6 T hgl gl ++ wX8 T hgw gw ++ wX3 T hgn gn_7) → va_S A s.heap H locs → lv_has ls 12 [(0, .ref (hgl 0)), (1, .ref (hgw 0)), (2, .ref (hgn 0)), (3, .int a3), (4, .long v16), (6, .int v2), (7, .long v8), (9, .int v10), (10, .int v11), (11, .int v14)] → W p l e rX6_oddsShown s m args below meth c H locs 0 0 Q (F0 m 88 ls []) := by
          intro v16 H locs ls hf hP hD hS hl
          unfold fX6_oddsShown_L34J88 at hf
          refine lv_iload hx hb dX6_oddsShown_88 (lv_at hl 7 rfl) ?_
          refine lv_iload hx hb dX6_oddsShown_90 (lv_at hl 9 rfl) ?_
          refine lv_iconst (v := (-1)) hx hb dX6_oddsShown_92 (by decide) ?_
          refine lv_ixor hx hb dX6_oddsShown_93 ?_
          refine lv_iand hx hb dX6_oddsShown_94 ?_
          refine lv_topi (fun v17 ev17 => ?_)
          replace hf := zLt_at ev17 hf
          refine lv_istore (lv' := [(9, .int v17), (0, .ref (hgl 0)), (1, .ref (hgw 0)), (2, .ref (hgn 0)), (3, .int a3), (4, .long v16), (6, .int v2), (7, .long v8), (10, .int v11), (11, .int v14)]) hx hb dX6_oddsShown_95 hl (by decide) rfl (fun ls hl => ?_)
          obtain ⟨v18, ev18⟩ : ∃ y : Int32, y = v11 + 1 := ⟨_, rfl⟩
          replace hf := zLt_at ev18 hf
          refine lv_iinc (v := v18) (lv' := [(10, .int v18), (9, .int v17), (0, .ref (hgl 0)), (1, .ref (hgw 0)), (2, .ref (hgn 0)), (3, .int a3), (4, .long v16), (6, .int v2), (7, .long v8), (11, .int v14)]) hx hb dX6_oddsShown_97 hl (k := 8) rfl (by rw [ev18]; rfl) (by decide) rfl (fun ls hl => ?_)
          refine lv_goto (tgt := 34) hx hb dX6_oddsShown_100 (by decide) ?_
          cases hf
          exact hzz H locs ls hP hD hS (lv_sub hl [2, 3, 4, 5, 6, 7, 8, 1, 0] rfl)
        refine lv_if_eq (tgt := 88) hx hb dX6_oddsShown_68 (by decide) (fun hc => ?_) (fun hc => ?_)
        · replace hf := zIf_t hc hf
          exact hJ88 v9 H locs ls hf hP hD hS (lv_sub hl [1, 2, 3, 4, 5, 6, 7, 8, 9, 0] rfl)
        · replace hf := zIf_f hc hf
          refine lv_lload hx hb dX6_oddsShown_71 (lv_at hl 5 rfl) ?_
          refine lv_lload hx hb dX6_oddsShown_73 (lv_at hl 7 rfl) ?_
          refine lv_aload_n hx hb dX6_oddsShown_75 rfl (lv_at hl 2 rfl) ?_
          refine lv_iload hx hb dX6_oddsShown_76 (lv_at hl 0 rfl) ?_
          refine lv_iload_n hx hb dX6_oddsShown_78 rfl (lv_at hl 4 rfl) ?_
          refine lv_iand hx hb dX6_oddsShown_79 ?_
          obtain ⟨v19, hc80, hf⟩ := zB1_ok hf
          refine zCallVJI (wr := wX6 T hgl gl ++ wX3 T hgn gn_7) (ws' := wX6 T hgl gl ++ wX8 T hgw gw ++ wX3 T hgn gn_7) [.int (v14 &&& a3)] ⟨hx, hb, hml, hown, hts⟩ (pX8_weightOf l D T X hgw H.size gw (v14 &&& a3) v19 hc80) (cwV 1 hts gX6_oddsShown_X8_weightOf rfl rfl rfl (by decide +kernel) ⟨Nat.le_of_ble_eq_true rfl, Nat.le_of_ble_eq_true rfl⟩) hK hP hD hS hA hX [2, 3, 4, 5, 6, 7, 8, 9, 10, 11, 12] [0, 1, 13, 14] [0, 1, 4, 5, 6, 7, 8, 9, 10, 11, 12, 13, 14, 2, 3] rfl rfl rfl rfl 0 rfl rfl rfl hl.1 rfl (Nat.le_of_ble_eq_true rfl) dX6_oddsShown_80 ⟨Nat.zero_le _, Nat.zero_le _⟩ (fun H locs hP hD hS => ?_)
          refine lv_i2l hx hb dX6_oddsShown_83 rfl ?_
          refine lv_lmul hx hb dX6_oddsShown_84 ?_
          refine lv_ladd hx hb dX6_oddsShown_85 ?_
          refine lv_topl (fun v20 ev20 => ?_)
          replace hf := zLt_at ev20 hf
          refine lv_lstore (lv' := [(4, .long v20), (11, .int v14), (0, .ref (hgl 0)), (1, .ref (hgw 0)), (2, .ref (hgn 0)), (3, .int a3), (6, .int v2), (7, .long v8), (9, .int v10), (10, .int v11)]) hx hb dX6_oddsShown_86 hl (by decide) rfl (fun ls hl => ?_)
          exact hJ88 v20 H locs ls hf hP hD hS (lv_sub hl [2, 3, 4, 5, 0, 6, 7, 8, 9, 1] rfl)
set_option maxHeartbeats 4000000 in
set_option maxRecDepth 100000 in
theorem pX7_take (l : Launch) (D : va_G) (T : Nat → ClassId) (X : zFP) (hgt : Nat → Nat) (sz : Nat) (gt : zM) (a1 : Int64) (a2 : Int32) (r : Int32) (ngt : zM) (hf : fX7_take gt a1 a2 = some (r, ngt)) : Met l yX7_take wsX7_take rX7_take (zPre D T X [.ref (hgt 0), .long a1, .int a2] (wX7 T hgt gt) sz) (zQi D T r (wX7 T hgt ngt) (wX7 T hgt gt) sz) 0 0 (va_A (wX7 T hgt gt) sz) := by
  unfold fX7_take at hf
  refine zStart [(0, .ref (hgt 0)), (1, .long a1), (3, .int a2)] (by decide) rfl (Nat.le_of_ble_eq_true rfl) rfl ?_
  intro p e s m args below meth c A Q ls hx hb hr hml hown hlocks hts hsz hA0 hQ hA hK hX hP hD hS hl
  replace hown : s.vm.findClass RX7 = some m.cls := hown
  have hH := hsz
  have hiX7 : ∀ w ∈ u_ws RX7 TX7 6, w ∈ wsX7_take := fun w h => List.mem_cons_of_mem _ (List.mem_append_right _ (h))
  obtain ⟨H, hHe⟩ : ∃ H : Heap, H = s.heap := ⟨_, rfl⟩
  obtain ⟨locs, hLe⟩ : ∃ L : List Loc, L = [] := ⟨_, rfl⟩
  replace hP : va_P D vwCl (wX7 T hgt gt) H := by rw [hHe]; exact hP
  replace hS : va_S A s.heap H locs := by rw [hHe, hLe]; exact hS
  suffices hgo : W p l e rX7_take s m args below meth c H locs 0 0 Q (F0 m 0 ls []) by rw [hHe, hLe] at hgo; exact hgo
  clear hHe hLe
  refine lv_aload_n hx hb dX7_take_0 rfl (lv_at hl 0 rfl) ?_
  refine zGet (ci := 7) (C := RX7) (F := TX7) (N := 6) (v := .int (gt 0 1)) hx hb hts hiX7 hown hK hP 0 1 1 rfl rfl (by decide) rfl rfl rfl dX7_take_1 ?_
  refine lv_iload_n hx hb dX7_take_4 rfl (lv_at hl 2 rfl) ?_
  refine lv_iadd hx hb dX7_take_5 ?_
  refine lv_sipush (v := 200) hx hb dX7_take_6 (by decide) ?_
  refine lv_icmp_le (tgt := 14) hx hb dX7_take_9 (by decide) (fun hc => ?_) (fun hc => ?_)
  · replace hf := zIf_t hc hf
    refine lv_iconst (v := 0) hx hb dX7_take_14 (by decide) ?_
    refine lv_istore (lv' := [(4, .int 0), (0, .ref (hgt 0)), (1, .long a1), (3, .int a2)]) hx hb dX7_take_15 hl (by decide) rfl (fun ls hl => ?_)
    obtain ⟨ex, hlp, hf⟩ := zB1_ok hf
    have hE17_57 : ∀ (gt_3 : zM) , ex = gt_3 → ∀ (H : Heap) (locs : List Loc) (ls : Array Slot), va_P D vwCl (wX7 T hgt gt_3) H → va_D A (wX7 T hgt gt_3) → va_S A s.heap H locs → lv_has ls 5 [] → W p l e rX7_take s m args below meth c H locs 0 0 Q (F0 m 57 ls []) := by
      intro gt_3 hex H locs ls hP hD hS hl
      have hf := zEx1 hex hf
      refine lv_iconst (v := 1) hx hb dX7_take_57 (by decide) ?_
      obtain ⟨q1, q2⟩ := zI2 hf
      subst q1
      subst q2
      exact zRetZ hQ hx hb hr hlocks hA0 hK hP hD hS (by decide) rfl dX7_take_58
    refine zLpS2 (body := (fX7_take_L17 a1 a2)) (b := ex) (fun (v1 : Int32) (gt_2 : zM) => ∀ (H : Heap) (locs : List Loc) (ls : Array Slot), va_P D vwCl (wX7 T hgt gt_2) H → va_D A (wX7 T hgt gt_2) → va_S A s.heap H locs → lv_has ls 5 [(0, .ref (hgt 0)), (1, .long a1), (3, .int a2), (4, .int v1)] → W p l e rX7_take s m args below meth c H locs 0 0 Q (F0 m 17 ls [])) ?_ zFU 0 gt hlp H locs ls hP hD hS (lv_sub hl [1, 2, 3, 0] rfl)
    intro v1 gt_2 z hf hzz H locs ls hP hD hS hl
    unfold fX7_take_L17 at hf
    replace hf := zUk2 hf
    refine lv_iload hx hb dX7_take_17 (lv_at hl 3 rfl) ?_
    refine lv_iload_n hx hb dX7_take_19 rfl (lv_at hl 2 rfl) ?_
    refine lv_icmp_ge (tgt := 57) hx hb dX7_take_20 (by decide) (fun hc => ?_) (fun hc => ?_)
    · replace hf := zIf_t hc hf
      cases hf
      exact hE17_57 gt_2 hzz.symm H locs ls hP hD hS (lv_sub hl [] rfl)
    · replace hf := zIf_f hc hf
      refine lv_aload_n hx hb dX7_take_23 rfl (lv_at hl 0 rfl) ?_
      refine zGet (ci := 7) (C := RX7) (F := TX7) (N := 6) (v := .ref (hgt 1)) hx hb hts hiX7 hown hK hP 0 0 2 rfl rfl (by decide) rfl rfl rfl dX7_take_24 ?_
      refine lv_aload_n hx hb dX7_take_27 rfl (lv_at hl 0 rfl) ?_
      refine zGet (ci := 7) (C := RX7) (F := TX7) (N := 6) (v := .int (gt_2 0 1)) hx hb hts hiX7 hown hK hP 0 1 1 rfl rfl (by decide) rfl rfl rfl dX7_take_28 ?_
      refine lv_lload_n hx hb dX7_take_31 rfl (lv_at hl 1 rfl) ?_
      refine lv_bipush (v := 8) hx hb dX7_take_32 (by decide) ?_
      refine lv_iload hx hb dX7_take_34 (lv_at hl 3 rfl) ?_
      refine lv_imul hx hb dX7_take_36 ?_
      refine lv_lushr hx hb dX7_take_37 rfl ?_
      refine lv_l2i hx hb dX7_take_38 rfl ?_
      refine lv_i2b hx hb dX7_take_39 rfl ?_
      refine lv_topi (fun v4 ev4 => ?_)
      replace hf := zLt_at ev4 hf
      obtain ⟨hg, hf⟩ := zGd_ok hf
      refine zAstB (w := gt_2) hx hb hK hP hD hS (fun g => wX7 T hgt g) 1 1 rfl hg rfl dX7_take_40 (fun gt_5 egt_5 H locs hP hD hS => ?_)
      replace hP : va_P D vwCl (wX7 T hgt gt_5) H := hP
      replace hD : va_D A (wX7 T hgt gt_5) := hD
      replace hf := zLt_at egt_5 hf
      refine lv_aload_n hx hb dX7_take_41 rfl (lv_at hl 0 rfl) ?_
      refine lv_dup hx hb dX7_take_42 rfl ?_
      refine zGet (ci := 7) (C := RX7) (F := TX7) (N := 6) (v := .int (gt_5 0 1)) hx hb hts hiX7 hown hK hP 0 1 1 rfl rfl (by decide) rfl rfl rfl dX7_take_43 ?_
      refine lv_iconst (v := 1) hx hb dX7_take_46 (by decide) ?_
      refine lv_iadd hx hb dX7_take_47 ?_
      refine lv_topi (fun v6 ev6 => ?_)
      replace hf := zLt_at ev6 hf
      refine zPut (ci := 7) (C := RX7) (F := TX7) (N := 6) (x := v6) (w := gt_5) hx hb hts hiX7 tyX7 tyX7_ok nmX7 hown hK hP hD hS (fun g => wX7 T hgt g) 0 1 1 rfl rfl (by decide) rfl rfl rfl ⟨rfl, rfl⟩ (Nat.le_of_ble_eq_true rfl) rfl dX7_take_48 (fun gt_7 egt_7 H locs hP hD hS => ?_)
      replace hP : va_P D vwCl (wX7 T hgt gt_7) H := hP
      replace hD : va_D A (wX7 T hgt gt_7) := hD
      replace hf := zLt_at egt_7 hf
      obtain ⟨v8, ev8⟩ : ∃ y : Int32, y = v1 + 1 := ⟨_, rfl⟩
      replace hf := zLt_at ev8 hf
      refine lv_iinc (v := v8) (lv' := [(4, .int v8), (0, .ref (hgt 0)), (1, .long a1), (3, .int a2)]) hx hb dX7_take_51 hl (k := 3) rfl (by rw [ev8]; rfl) (by decide) rfl (fun ls hl => ?_)
      refine lv_goto (tgt := 17) hx hb dX7_take_54 (by decide) ?_
      cases hf
      exact hzz H locs ls hP hD hS (lv_sub hl [1, 2, 3, 0] rfl)
  · replace hf := zIf_f hc hf
    refine lv_iconst (v := 0) hx hb dX7_take_12 (by decide) ?_
    obtain ⟨q1, q2⟩ := zI2 hf
    subst q1
    subst q2
    exact zRetZ hQ hx hb hr hlocks hA0 hK hP hD hS (by decide) rfl dX7_take_13
set_option maxHeartbeats 4000000 in
set_option maxRecDepth 100000 in
theorem pX7_sortOf (l : Launch) (D : va_G) (T : Nat → ClassId) (X : zFP) (sz : Nat) (a1 : Int32) (r : Int32) (hf : fX7_sortOf a1 = some r) : Met l yX7_sortOf wsX7_sortOf rX7_sortOf (zPre D T X [.int a1] ([]) sz) (zQi D T r ([]) ([]) sz) 0 0 (va_A ([]) sz) := by
  unfold fX7_sortOf at hf
  refine zStart [(0, .int a1)] (by decide) rfl (Nat.le_of_ble_eq_true rfl) rfl ?_
  intro p e s m args below meth c A Q ls hx hb hr hml hown hlocks hts hsz hA0 hQ hA hK hX hP hD hS hl
  replace hown : s.vm.findClass RX7 = some m.cls := hown
  have hH := hsz
  obtain ⟨H, hHe⟩ : ∃ H : Heap, H = s.heap := ⟨_, rfl⟩
  obtain ⟨locs, hLe⟩ : ∃ L : List Loc, L = [] := ⟨_, rfl⟩
  replace hP : va_P D vwCl ([]) H := by rw [hHe]; exact hP
  replace hS : va_S A s.heap H locs := by rw [hHe, hLe]; exact hS
  suffices hgo : W p l e rX7_sortOf s m args below meth c H locs 0 0 Q (F0 m 0 ls []) by rw [hHe, hLe] at hgo; exact hgo
  clear hHe hLe
  refine lv_iload_n hx hb dX7_sortOf_0 rfl (lv_at hl 0 rfl) ?_
  refine lv_bipush (v := 97) hx hb dX7_sortOf_1 (by decide) ?_
  have hJ14 : ∀ (H : Heap) (locs : List Loc) (ls : Array Slot), fX7_sortOf_J14 a1 = some r → va_P D vwCl ([]) H → va_D A ([]) → va_S A s.heap H locs → lv_has ls 1 [(0, .int a1)] → W p l e rX7_sortOf s m args below meth c H locs 0 0 Q (F0 m 14 ls []) := by
    intro H locs ls hf hP hD hS hl
    unfold fX7_sortOf_J14 at hf
    refine lv_iload_n hx hb dX7_sortOf_14 rfl (lv_at hl 0 rfl) ?_
    refine lv_bipush (v := 48) hx hb dX7_sortOf_15 (by decide) ?_
    have hJ28 : ∀ (H : Heap) (locs : List Loc) (ls : Array Slot), fX7_sortOf_J28 a1 = some r → va_P D vwCl ([]) H → va_D A ([]) → va_S A s.heap H locs → lv_has ls 1 [(0, .int a1)] → W p l e rX7_sortOf s m args below meth c H locs 0 0 Q (F0 m 28 ls []) := by
      intro H locs ls hf hP hD hS hl
      unfold fX7_sortOf_J28 at hf
      refine lv_iload_n hx hb dX7_sortOf_28 rfl (lv_at hl 0 rfl) ?_
      refine lv_bipush (v := 59) hx hb dX7_sortOf_29 (by decide) ?_
      refine lv_icmp_ne (tgt := 38) hx hb dX7_sortOf_31 (by decide) (fun hc => ?_) (fun hc => ?_)
      · replace hf := zIf_f hc hf
        refine lv_iconst (v := 4) hx hb dX7_sortOf_38 (by decide) ?_
        obtain ⟨q1, -⟩ := zI1 hf
        subst q1
        exact zRetI hQ hx hb hr hlocks hA0 hK hP hD hS rfl dX7_sortOf_39
      · replace hf := zIf_t hc hf
        refine lv_iconst (v := 3) hx hb dX7_sortOf_34 (by decide) ?_
        refine lv_goto (tgt := 39) hx hb dX7_sortOf_35 (by decide) ?_
        obtain ⟨q1, -⟩ := zI1 hf
        subst q1
        exact zRetI hQ hx hb hr hlocks hA0 hK hP hD hS rfl dX7_sortOf_39
    refine lv_icmp_lt (tgt := 28) hx hb dX7_sortOf_17 (by decide) (fun hc => ?_) (fun hc => ?_)
    · replace hf := zIf_t hc hf
      exact hJ28 H locs ls hf hP hD hS hl
    · replace hf := zIf_f hc hf
      refine lv_iload_n hx hb dX7_sortOf_20 rfl (lv_at hl 0 rfl) ?_
      refine lv_bipush (v := 57) hx hb dX7_sortOf_21 (by decide) ?_
      refine lv_icmp_gt (tgt := 28) hx hb dX7_sortOf_23 (by decide) (fun hc => ?_) (fun hc => ?_)
      · replace hf := zIf_t hc hf
        exact hJ28 H locs ls hf hP hD hS hl
      · replace hf := zIf_f hc hf
        refine lv_iconst (v := 2) hx hb dX7_sortOf_26 (by decide) ?_
        obtain ⟨q1, -⟩ := zI1 hf
        subst q1
        exact zRetI hQ hx hb hr hlocks hA0 hK hP hD hS rfl dX7_sortOf_27
  refine lv_icmp_lt (tgt := 14) hx hb dX7_sortOf_3 (by decide) (fun hc => ?_) (fun hc => ?_)
  · replace hf := zIf_t hc hf
    exact hJ14 H locs ls hf hP hD hS hl
  · replace hf := zIf_f hc hf
    refine lv_iload_n hx hb dX7_sortOf_6 rfl (lv_at hl 0 rfl) ?_
    refine lv_bipush (v := 122) hx hb dX7_sortOf_7 (by decide) ?_
    refine lv_icmp_gt (tgt := 14) hx hb dX7_sortOf_9 (by decide) (fun hc => ?_) (fun hc => ?_)
    · replace hf := zIf_t hc hf
      exact hJ14 H locs ls hf hP hD hS hl
    · replace hf := zIf_f hc hf
      refine lv_iconst (v := 1) hx hb dX7_sortOf_12 (by decide) ?_
      obtain ⟨q1, -⟩ := zI1 hf
      subst q1
      exact zRetI hQ hx hb hr hlocks hA0 hK hP hD hS rfl dX7_sortOf_13
set_option maxHeartbeats 4000000 in
set_option maxRecDepth 100000 in
theorem pX7_readNumber (l : Launch) (D : va_G) (T : Nat → ClassId) (X : zFP) (hgt : Nat → Nat) (sz : Nat) (gt : zM) (ngt : zM) (hf : fX7_readNumber gt = some ngt) : Met l yX7_readNumber wsX7_readNumber rX7_readNumber (zPre D T X [.ref (hgt 0)] (wX7 T hgt gt) sz) (zQv D T (wX7 T hgt ngt) (wX7 T hgt gt) sz) 0 0 (va_A (wX7 T hgt gt) sz) := by
  unfold fX7_readNumber at hf
  refine zStart [(0, .ref (hgt 0))] (by decide) rfl (Nat.le_of_ble_eq_true rfl) rfl ?_
  intro p e s m args below meth c A Q ls hx hb hr hml hown hlocks hts hsz hA0 hQ hA hK hX hP hD hS hl
  replace hown : s.vm.findClass RX7 = some m.cls := hown
  have hH := hsz
  have hiX7 : ∀ w ∈ u_ws RX7 TX7 6, w ∈ wsX7_readNumber := fun w h => List.mem_cons_of_mem _ (List.mem_append_right _ (h))
  obtain ⟨H, hHe⟩ : ∃ H : Heap, H = s.heap := ⟨_, rfl⟩
  obtain ⟨locs, hLe⟩ : ∃ L : List Loc, L = [] := ⟨_, rfl⟩
  replace hP : va_P D vwCl (wX7 T hgt gt) H := by rw [hHe]; exact hP
  replace hS : va_S A s.heap H locs := by rw [hHe, hLe]; exact hS
  suffices hgo : W p l e rX7_readNumber s m args below meth c H locs 0 0 Q (F0 m 0 ls []) by rw [hHe, hLe] at hgo; exact hgo
  clear hHe hLe
  refine lv_aload_n hx hb dX7_readNumber_0 rfl (lv_at hl 0 rfl) ?_
  refine zGet (ci := 7) (C := RX7) (F := TX7) (N := 6) (v := .int (gt 0 3)) hx hb hts hiX7 hown hK hP 0 3 1 rfl rfl (by decide) rfl rfl rfl dX7_readNumber_1 ?_
  refine lv_aload_n hx hb dX7_readNumber_4 rfl (lv_at hl 0 rfl) ?_
  refine zGet (ci := 7) (C := RX7) (F := TX7) (N := 6) (v := .int (gt 0 2)) hx hb hts hiX7 hown hK hP 0 2 2 rfl rfl (by decide) rfl rfl rfl dX7_readNumber_5 ?_
  refine lv_isub hx hb dX7_readNumber_8 ?_
  refine lv_iconst (v := 2) hx hb dX7_readNumber_9 (by decide) ?_
  refine lv_icmp_le (tgt := 14) hx hb dX7_readNumber_10 (by decide) (fun hc => ?_) (fun hc => ?_)
  · replace hf := zIf_t hc hf
    refine lv_aload_n hx hb dX7_readNumber_14 rfl (lv_at hl 0 rfl) ?_
    refine lv_iconst (v := 0) hx hb dX7_readNumber_15 (by decide) ?_
    refine zPut (ci := 7) (C := RX7) (F := TX7) (N := 6) (x := 0) (w := gt) hx hb hts hiX7 tyX7 tyX7_ok nmX7 hown hK hP hD hS (fun g => wX7 T hgt g) 0 5 3 rfl rfl (by decide) rfl rfl rfl ⟨rfl, rfl⟩ (Nat.le_of_ble_eq_true rfl) rfl dX7_readNumber_16 (fun gt_1 egt_1 H locs hP hD hS => ?_)
    replace hP : va_P D vwCl (wX7 T hgt gt_1) H := hP
    replace hD : va_D A (wX7 T hgt gt_1) := hD
    replace hf := zLt_at egt_1 hf
    refine lv_aload_n hx hb dX7_readNumber_19 rfl (lv_at hl 0 rfl) ?_
    refine zGet (ci := 7) (C := RX7) (F := TX7) (N := 6) (v := .int (gt_1 0 2)) hx hb hts hiX7 hown hK hP 0 2 2 rfl rfl (by decide) rfl rfl rfl dX7_readNumber_20 ?_
    refine lv_topi (fun v2 ev2 => ?_)
    replace hf := zLt_at ev2 hf
    refine lv_istore_n (lv' := [(1, .int v2), (0, .ref (hgt 0))]) hx hb dX7_readNumber_23 rfl hl (by decide) rfl (fun ls hl => ?_)
    obtain ⟨ex, hlp, hf⟩ := zB1_ok hf
    have hE24_59 : ∀ (gt_5 : zM) , ex = gt_5 → ∀ (H : Heap) (locs : List Loc) (ls : Array Slot), va_P D vwCl (wX7 T hgt gt_5) H → va_D A (wX7 T hgt gt_5) → va_S A s.heap H locs → lv_has ls 2 [] → W p l e rX7_readNumber s m args below meth c H locs 0 0 Q (F0 m 59 ls []) := by
      intro gt_5 hex H locs ls hP hD hS hl
      have hf := zEx1 hex hf
      obtain ⟨q1, -⟩ := zI1 hf
      subst q1
      exact zRetV hQ hx hb hr hlocks hA0 hK hP hD hS dX7_readNumber_59
    refine zLpS2 (body := fX7_readNumber_L24) (b := ex) (fun (v3 : Int32) (gt_4 : zM) => ∀ (H : Heap) (locs : List Loc) (ls : Array Slot), va_P D vwCl (wX7 T hgt gt_4) H → va_D A (wX7 T hgt gt_4) → va_S A s.heap H locs → lv_has ls 2 [(0, .ref (hgt 0)), (1, .int v3)] → W p l e rX7_readNumber s m args below meth c H locs 0 0 Q (F0 m 24 ls [])) ?_ zFU v2 gt_1 hlp H locs ls hP hD hS (lv_sub hl [1, 0] rfl)
    intro v3 gt_4 z hf hzz H locs ls hP hD hS hl
    unfold fX7_readNumber_L24 at hf
    replace hf := zUk2 hf
    refine lv_iload_n hx hb dX7_readNumber_24 rfl (lv_at hl 1 rfl) ?_
    refine lv_aload_n hx hb dX7_readNumber_25 rfl (lv_at hl 0 rfl) ?_
    refine zGet (ci := 7) (C := RX7) (F := TX7) (N := 6) (v := .int (gt_4 0 3)) hx hb hts hiX7 hown hK hP 0 3 1 rfl rfl (by decide) rfl rfl rfl dX7_readNumber_26 ?_
    refine lv_icmp_ge (tgt := 59) hx hb dX7_readNumber_29 (by decide) (fun hc => ?_) (fun hc => ?_)
    · replace hf := zIf_t hc hf
      cases hf
      exact hE24_59 gt_4 hzz.symm H locs ls hP hD hS (lv_sub hl [] rfl)
    · replace hf := zIf_f hc hf
      refine lv_aload_n hx hb dX7_readNumber_32 rfl (lv_at hl 0 rfl) ?_
      refine lv_aload_n hx hb dX7_readNumber_33 rfl (lv_at hl 0 rfl) ?_
      refine zGet (ci := 7) (C := RX7) (F := TX7) (N := 6) (v := .int (gt_4 0 5)) hx hb hts hiX7 hown hK hP 0 5 3 rfl rfl (by decide) rfl rfl rfl dX7_readNumber_34 ?_
      refine lv_bipush (v := 10) hx hb dX7_readNumber_37 (by decide) ?_
      refine lv_imul hx hb dX7_readNumber_39 ?_
      refine lv_aload_n hx hb dX7_readNumber_40 rfl (lv_at hl 0 rfl) ?_
      refine zGet (ci := 7) (C := RX7) (F := TX7) (N := 6) (v := .ref (hgt 1)) hx hb hts hiX7 hown hK hP 0 0 4 rfl rfl (by decide) rfl rfl rfl dX7_readNumber_41 ?_
      refine lv_iload_n hx hb dX7_readNumber_44 rfl (lv_at hl 1 rfl) ?_
      obtain ⟨hg, hf⟩ := zGd_ok hf
      refine zAldB hx hb hK hP 1 rfl hg dX7_readNumber_45 (fun v6 ev6 => ?_)
      replace hf := zLt_at ev6 hf
      refine lv_bipush (v := 48) hx hb dX7_readNumber_46 (by decide) ?_
      refine lv_isub hx hb dX7_readNumber_48 ?_
      refine lv_iadd hx hb dX7_readNumber_49 ?_
      refine lv_topi (fun v7 ev7 => ?_)
      replace hf := zLt_at ev7 hf
      refine zPut (ci := 7) (C := RX7) (F := TX7) (N := 6) (x := v7) (w := gt_4) hx hb hts hiX7 tyX7 tyX7_ok nmX7 hown hK hP hD hS (fun g => wX7 T hgt g) 0 5 3 rfl rfl (by decide) rfl rfl rfl ⟨rfl, rfl⟩ (Nat.le_of_ble_eq_true rfl) rfl dX7_readNumber_50 (fun gt_8 egt_8 H locs hP hD hS => ?_)
      replace hP : va_P D vwCl (wX7 T hgt gt_8) H := hP
      replace hD : va_D A (wX7 T hgt gt_8) := hD
      replace hf := zLt_at egt_8 hf
      obtain ⟨v9, ev9⟩ : ∃ y : Int32, y = v3 + 1 := ⟨_, rfl⟩
      replace hf := zLt_at ev9 hf
      refine lv_iinc (v := v9) (lv' := [(1, .int v9), (0, .ref (hgt 0))]) hx hb dX7_readNumber_53 hl (k := 1) rfl (by rw [ev9]; rfl) (by decide) rfl (fun ls hl => ?_)
      refine lv_goto (tgt := 24) hx hb dX7_readNumber_56 (by decide) ?_
      cases hf
      exact hzz H locs ls hP hD hS (lv_sub hl [1, 0] rfl)
  · replace hf := zIf_f hc hf
    obtain ⟨q1, -⟩ := zI1 hf
    subst q1
    exact zRetV hQ hx hb hr hlocks hA0 hK hP hD hS dX7_readNumber_13
