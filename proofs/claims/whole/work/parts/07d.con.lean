-- X9_tieOf X9_first X9_cut X9_cutOf X9_uncut X9_open X9_layOpenTies X9_joined X9_isEither X9_sets X9_taleRefusal X9_partOf X9_chance X9_reach X9_seen X9_who X9_fewest X9_countOrSet X9_between X9_small X9_sit X9_early X9_could X9_seed X9_run X9_leastKnowing X9_guards
set_option maxHeartbeats 4000000 in
set_option maxRecDepth 100000 in
theorem pX9_tieOf (l : Launch) (D : va_G) (T : Nat → ClassId) (X : zFP) (ad : Nat → Nat → Nat) (sz : Nat) (gx : zM) (gow : zM) (a1 : Int32) (a2 : Int32) (r : Int32) (hf : fX9_tieOf gx gow a1 a2 = some r) : Met l yX9_tieOf wsX9_tieOf rX9_tieOf (zPre D T X [.ref (ad 0 0), .int a1, .int a2] (wX9 T ad gx ++ wX8 T (ad 1) gow) sz) (zQi D T r (wX9 T ad gx ++ wX8 T (ad 1) gow) (wX9 T ad gx ++ wX8 T (ad 1) gow) sz) 0 0 (va_A (wX9 T ad gx ++ wX8 T (ad 1) gow) sz) := by
  unfold fX9_tieOf at hf
  refine zStart [(0, .ref (ad 0 0)), (1, .int a1), (2, .int a2)] (by decide) rfl (Nat.le_of_ble_eq_true rfl) rfl ?_
  intro p e s m args below meth c A Q ls hx hb hr hml hown hlocks hts hsz hA0 hQ hA hK hX hP hD hS hl
  replace hown : s.vm.findClass RX9 = some m.cls := hown
  have hH := hsz
  have hiX8 : ∀ w ∈ u_ws RX8 TX8 14, w ∈ wsX9_tieOf := fun w h => List.mem_cons_of_mem _ (List.mem_append_right _ (h))
  have hiX9 : ∀ w ∈ u_ws RX9 TX9 12, w ∈ wsX9_tieOf := fun w h => List.mem_cons_of_mem _ (List.mem_append_left _ (List.mem_append_right _ (h)))
  obtain ⟨H, hHe⟩ : ∃ H : Heap, H = s.heap := ⟨_, rfl⟩
  obtain ⟨locs, hLe⟩ : ∃ L : List Loc, L = [] := ⟨_, rfl⟩
  replace hP : va_P D vwCl (wX9 T ad gx ++ wX8 T (ad 1) gow) H := by rw [hHe]; exact hP
  replace hS : va_S A s.heap H locs := by rw [hHe, hLe]; exact hS
  suffices hgo : W p l e rX9_tieOf s m args below meth c H locs 0 0 Q (F0 m 0 ls []) by rw [hHe, hLe] at hgo; exact hgo
  clear hHe hLe
  refine lv_aload_n hx hb dX9_tieOf_0 rfl (lv_at hl 0 rfl) ?_
  refine zGet (ci := 9) (C := RX9) (F := TX9) (N := 12) (v := .ref (ad 1 0)) hx hb hts hiX9 hown hK hP 0 0 1 rfl rfl (by decide) rfl rfl rfl dX9_tieOf_1 ?_
  refine lv_iload_n hx hb dX9_tieOf_4 rfl (lv_at hl 1 rfl) ?_
  obtain ⟨v1, hc5, hf⟩ := zB1_ok hf
  refine zCallVJI (wr := wX9 T ad gx) (ws' := wX9 T ad gx ++ wX8 T (ad 1) gow) [.int a1] ⟨hx, hb, hml, hown, hts⟩ (pX8_hasTie l D T X (ad 1) H.size gow a1 v1 hc5) (cwV 1 hts gX9_tieOf_X8_hasTie rfl rfl rfl (by decide +kernel) ⟨Nat.le_of_ble_eq_true rfl, Nat.le_of_ble_eq_true rfl⟩) hK hP hD hS hA hX [1, 2, 3, 4, 5, 6, 7, 8, 9, 10, 11] [0] [0, 1, 2, 3, 4, 5, 6, 7, 8, 9, 10, 11] rfl rfl rfl rfl 0 rfl rfl rfl hl.1 rfl (Nat.le_of_ble_eq_true rfl) dX9_tieOf_5 ⟨Nat.zero_le _, Nat.zero_le _⟩ (fun H locs hP hD hS => ?_)
  refine lv_if_ne (tgt := 13) hx hb dX9_tieOf_8 (by decide) (fun hc => ?_) (fun hc => ?_)
  · replace hf := zIf_f hc hf
    refine lv_iload_n hx hb dX9_tieOf_13 rfl (lv_at hl 2 rfl) ?_
    refine zSw (x := a2) (k := 0) (fun hc => ?_) (fun hk0 => ?_)
    · replace hf := zIf_t hc hf
      refine lv_tableIn (off := 34) (tgt := 48) hx hb dX9_tieOf_14 (by rw [hc]; decide) (by rw [hc]; decide) (by rw [hc]; decide) (by decide) ?_
      refine lv_aload_n hx hb dX9_tieOf_48 rfl (lv_at hl 0 rfl) ?_
      refine zGet (ci := 9) (C := RX9) (F := TX9) (N := 12) (v := .ref (ad 1 0)) hx hb hts hiX9 hown hK hP 0 0 1 rfl rfl (by decide) rfl rfl rfl dX9_tieOf_49 ?_
      refine zGet (ci := 8) (C := RX8) (F := TX8) (N := 14) (v := .ref (ad 1 3)) hx hb hts hiX8 hown hK hP 1 4 2 rfl rfl (by decide) rfl rfl rfl dX9_tieOf_52 ?_
      refine lv_iload_n hx hb dX9_tieOf_55 rfl (lv_at hl 1 rfl) ?_
      obtain ⟨hg, hf⟩ := zGd_ok hf
      refine zAldI hx hb hK hP 4 rfl hg dX9_tieOf_56 (fun v2 ev2 => ?_)
      replace hf := zLt_at ev2 hf
      obtain ⟨q1, -⟩ := zI1 hf
      subst q1
      exact zRetI hQ hx hb hr hlocks hA0 hK hP hD hS rfl dX9_tieOf_57
    replace hf := zIf_f hk0 hf
    refine zSw (x := a2) (k := 1) (fun hc => ?_) (fun hk1 => ?_)
    · replace hf := zIf_t hc hf
      refine lv_tableIn (off := 44) (tgt := 58) hx hb dX9_tieOf_14 (by rw [hc]; decide) (by rw [hc]; decide) (by rw [hc]; decide) (by decide) ?_
      refine lv_aload_n hx hb dX9_tieOf_58 rfl (lv_at hl 0 rfl) ?_
      refine zGet (ci := 9) (C := RX9) (F := TX9) (N := 12) (v := .ref (ad 1 0)) hx hb hts hiX9 hown hK hP 0 0 1 rfl rfl (by decide) rfl rfl rfl dX9_tieOf_59 ?_
      refine zGet (ci := 8) (C := RX8) (F := TX8) (N := 14) (v := .ref (ad 1 4)) hx hb hts hiX8 hown hK hP 1 5 3 rfl rfl (by decide) rfl rfl rfl dX9_tieOf_62 ?_
      refine lv_iload_n hx hb dX9_tieOf_65 rfl (lv_at hl 1 rfl) ?_
      obtain ⟨hg, hf⟩ := zGd_ok hf
      refine zAldI hx hb hK hP 5 rfl hg dX9_tieOf_66 (fun v3 ev3 => ?_)
      replace hf := zLt_at ev3 hf
      obtain ⟨q1, -⟩ := zI1 hf
      subst q1
      exact zRetI hQ hx hb hr hlocks hA0 hK hP hD hS rfl dX9_tieOf_67
    replace hf := zIf_f hk1 hf
    refine zSw (x := a2) (k := 2) (fun hc => ?_) (fun hk2 => ?_)
    · replace hf := zIf_t hc hf
      refine lv_tableIn (off := 54) (tgt := 68) hx hb dX9_tieOf_14 (by rw [hc]; decide) (by rw [hc]; decide) (by rw [hc]; decide) (by decide) ?_
      refine lv_aload_n hx hb dX9_tieOf_68 rfl (lv_at hl 0 rfl) ?_
      refine zGet (ci := 9) (C := RX9) (F := TX9) (N := 12) (v := .ref (ad 1 0)) hx hb hts hiX9 hown hK hP 0 0 1 rfl rfl (by decide) rfl rfl rfl dX9_tieOf_69 ?_
      refine zGet (ci := 8) (C := RX8) (F := TX8) (N := 14) (v := .ref (ad 1 5)) hx hb hts hiX8 hown hK hP 1 6 4 rfl rfl (by decide) rfl rfl rfl dX9_tieOf_72 ?_
      refine lv_iload_n hx hb dX9_tieOf_75 rfl (lv_at hl 1 rfl) ?_
      obtain ⟨hg, hf⟩ := zGd_ok hf
      refine zAldI hx hb hK hP 6 rfl hg dX9_tieOf_76 (fun v4 ev4 => ?_)
      replace hf := zLt_at ev4 hf
      obtain ⟨q1, -⟩ := zI1 hf
      subst q1
      exact zRetI hQ hx hb hr hlocks hA0 hK hP hD hS rfl dX9_tieOf_77
    replace hf := zIf_f hk2 hf
    refine zSw (x := a2) (k := 3) (fun hc => ?_) (fun hk3 => ?_)
    · replace hf := zIf_t hc hf
      refine lv_tableIn (off := 64) (tgt := 78) hx hb dX9_tieOf_14 (by rw [hc]; decide) (by rw [hc]; decide) (by rw [hc]; decide) (by decide) ?_
      refine lv_aload_n hx hb dX9_tieOf_78 rfl (lv_at hl 0 rfl) ?_
      refine zGet (ci := 9) (C := RX9) (F := TX9) (N := 12) (v := .ref (ad 1 0)) hx hb hts hiX9 hown hK hP 0 0 1 rfl rfl (by decide) rfl rfl rfl dX9_tieOf_79 ?_
      refine zGet (ci := 8) (C := RX8) (F := TX8) (N := 14) (v := .ref (ad 1 6)) hx hb hts hiX8 hown hK hP 1 7 5 rfl rfl (by decide) rfl rfl rfl dX9_tieOf_82 ?_
      refine lv_iload_n hx hb dX9_tieOf_85 rfl (lv_at hl 1 rfl) ?_
      obtain ⟨hg, hf⟩ := zGd_ok hf
      refine zAldI hx hb hK hP 7 rfl hg dX9_tieOf_86 (fun v5 ev5 => ?_)
      replace hf := zLt_at ev5 hf
      obtain ⟨q1, -⟩ := zI1 hf
      subst q1
      exact zRetI hQ hx hb hr hlocks hA0 hK hP hD hS rfl dX9_tieOf_87
    replace hf := zIf_f hk3 hf
    refine zSw (x := a2) (k := 4) (fun hc => ?_) (fun hk4 => ?_)
    · replace hf := zIf_t hc hf
      refine lv_tableIn (off := 74) (tgt := 88) hx hb dX9_tieOf_14 (by rw [hc]; decide) (by rw [hc]; decide) (by rw [hc]; decide) (by decide) ?_
      refine lv_aload_n hx hb dX9_tieOf_88 rfl (lv_at hl 0 rfl) ?_
      refine zGet (ci := 9) (C := RX9) (F := TX9) (N := 12) (v := .ref (ad 1 0)) hx hb hts hiX9 hown hK hP 0 0 1 rfl rfl (by decide) rfl rfl rfl dX9_tieOf_89 ?_
      refine zGet (ci := 8) (C := RX8) (F := TX8) (N := 14) (v := .ref (ad 1 7)) hx hb hts hiX8 hown hK hP 1 8 6 rfl rfl (by decide) rfl rfl rfl dX9_tieOf_92 ?_
      refine lv_iload_n hx hb dX9_tieOf_95 rfl (lv_at hl 1 rfl) ?_
      obtain ⟨hg, hf⟩ := zGd_ok hf
      refine zAldZ hx hb hK hP 8 rfl hg dX9_tieOf_96 (fun v6 ev6 => ?_)
      replace hf := zLt_at ev6 hf
      refine lv_if_eq (tgt := 104) hx hb dX9_tieOf_97 (by decide) (fun hc => ?_) (fun hc => ?_)
      · replace hf := zIf_t hc hf
        refine lv_iconst (v := 0) hx hb dX9_tieOf_104 (by decide) ?_
        obtain ⟨q1, -⟩ := zI1 hf
        subst q1
        exact zRetI hQ hx hb hr hlocks hA0 hK hP hD hS rfl dX9_tieOf_105
      · replace hf := zIf_f hc hf
        refine lv_iconst (v := 1) hx hb dX9_tieOf_100 (by decide) ?_
        refine lv_goto (tgt := 105) hx hb dX9_tieOf_101 (by decide) ?_
        obtain ⟨q1, -⟩ := zI1 hf
        subst q1
        exact zRetI hQ hx hb hr hlocks hA0 hK hP hD hS rfl dX9_tieOf_105
    replace hf := zIf_f hk4 hf
    refine lv_tableOut (tgt := 106) hx hb dX9_tieOf_14 (by have := zNe hk0 (z := 0) (by decide); have := zNe hk1 (z := 1) (by decide); have := zNe hk2 (z := 2) (by decide); have := zNe hk3 (z := 3) (by decide); have := zNe hk4 (z := 4) (by decide); omega) (by decide) ?_
    refine lv_iconst (v := (-1)) hx hb dX9_tieOf_106 (by decide) ?_
    obtain ⟨q1, -⟩ := zI1 hf
    subst q1
    exact zRetI hQ hx hb hr hlocks hA0 hK hP hD hS rfl dX9_tieOf_107
  · replace hf := zIf_t hc hf
    refine lv_iconst (v := (-1)) hx hb dX9_tieOf_11 (by decide) ?_
    obtain ⟨q1, -⟩ := zI1 hf
    subst q1
    exact zRetI hQ hx hb hr hlocks hA0 hK hP hD hS rfl dX9_tieOf_12
set_option maxHeartbeats 4000000 in
set_option maxRecDepth 100000 in
theorem pX9_first (l : Launch) (D : va_G) (T : Nat → ClassId) (X : zFP) (ad : Nat → Nat → Nat) (sz : Nat) (gx : zM) (gow : zM) (a1 : Int32) (a2 : Int32) (r : Int32) (ngow : zM) (hf : fX9_first gx gow a1 a2 = some (r, ngow)) : Met l yX9_first wsX9_first rX9_first (zPre D T X [.ref (ad 0 0), .int a1, .int a2] (wX9 T ad gx ++ wX8 T (ad 1) gow) sz) (zQi D T r (wX9 T ad gx ++ wX8 T (ad 1) ngow) (wX9 T ad gx ++ wX8 T (ad 1) gow) sz) 0 0 (va_A (wX9 T ad gx ++ wX8 T (ad 1) gow) sz) := by
  unfold fX9_first at hf
  refine zStart [(0, .ref (ad 0 0)), (1, .int a1), (2, .int a2)] (by decide) rfl (Nat.le_of_ble_eq_true rfl) rfl ?_
  intro p e s m args below meth c A Q ls hx hb hr hml hown hlocks hts hsz hA0 hQ hA hK hX hP hD hS hl
  replace hown : s.vm.findClass RX9 = some m.cls := hown
  have hH := hsz
  have hiX8 : ∀ w ∈ u_ws RX8 TX8 14, w ∈ wsX9_first := fun w h => List.mem_cons_of_mem _ (List.mem_append_right _ (h))
  have hiX9 : ∀ w ∈ u_ws RX9 TX9 12, w ∈ wsX9_first := fun w h => List.mem_cons_of_mem _ (List.mem_append_left _ (List.mem_append_right _ (h)))
  obtain ⟨H, hHe⟩ : ∃ H : Heap, H = s.heap := ⟨_, rfl⟩
  obtain ⟨locs, hLe⟩ : ∃ L : List Loc, L = [] := ⟨_, rfl⟩
  replace hP : va_P D vwCl (wX9 T ad gx ++ wX8 T (ad 1) gow) H := by rw [hHe]; exact hP
  replace hS : va_S A s.heap H locs := by rw [hHe, hLe]; exact hS
  suffices hgo : W p l e rX9_first s m args below meth c H locs 0 0 Q (F0 m 0 ls []) by rw [hHe, hLe] at hgo; exact hgo
  clear hHe hLe
  refine lv_aload_n hx hb dX9_first_0 rfl (lv_at hl 0 rfl) ?_
  refine zGet (ci := 9) (C := RX9) (F := TX9) (N := 12) (v := .ref (ad 1 0)) hx hb hts hiX9 hown hK hP 0 0 1 rfl rfl (by decide) rfl rfl rfl dX9_first_1 ?_
  refine lv_iload_n hx hb dX9_first_4 rfl (lv_at hl 1 rfl) ?_
  obtain ⟨v1, hc5, hf⟩ := zB1_ok hf
  refine zCallVJI (wr := wX9 T ad gx) (ws' := wX9 T ad gx ++ wX8 T (ad 1) gow) [.int a1] ⟨hx, hb, hml, hown, hts⟩ (pX8_hasPerson l D T X (ad 1) H.size gow a1 v1 hc5) (cwV 1 hts gX9_first_X8_hasPerson rfl rfl rfl (by decide +kernel) ⟨Nat.le_of_ble_eq_true rfl, Nat.le_of_ble_eq_true rfl⟩) hK hP hD hS hA hX [1, 2, 3, 4, 5, 6, 7, 8, 9, 10, 11] [0] [0, 1, 2, 3, 4, 5, 6, 7, 8, 9, 10, 11] rfl rfl rfl rfl 0 rfl rfl rfl hl.1 rfl (Nat.le_of_ble_eq_true rfl) dX9_first_5 ⟨Nat.zero_le _, Nat.zero_le _⟩ (fun H locs hP hD hS => ?_)
  refine lv_if_eq (tgt := 21) hx hb dX9_first_8 (by decide) (fun hc => ?_) (fun hc => ?_)
  · replace hf := zIf_t hc hf
    refine lv_iconst (v := (-1)) hx hb dX9_first_21 (by decide) ?_
    obtain ⟨q1, q2⟩ := zI2 hf
    subst q1
    subst q2
    exact zRetI hQ hx hb hr hlocks hA0 hK hP hD hS rfl dX9_first_22
  · replace hf := zIf_f hc hf
    refine lv_iload_n hx hb dX9_first_11 rfl (lv_at hl 2 rfl) ?_
    refine lv_if_lt (tgt := 21) hx hb dX9_first_12 (by decide) (fun hc => ?_) (fun hc => ?_)
    · replace hf := zIf_t hc hf
      refine lv_iconst (v := (-1)) hx hb dX9_first_21 (by decide) ?_
      obtain ⟨q1, q2⟩ := zI2 hf
      subst q1
      subst q2
      exact zRetI hQ hx hb hr hlocks hA0 hK hP hD hS rfl dX9_first_22
    · replace hf := zIf_f hc hf
      refine lv_iload_n hx hb dX9_first_15 rfl (lv_at hl 2 rfl) ?_
      refine lv_bipush (v := 9) hx hb dX9_first_16 (by decide) ?_
      refine lv_icmp_le (tgt := 23) hx hb dX9_first_18 (by decide) (fun hc => ?_) (fun hc => ?_)
      · replace hf := zIf_t hc hf
        refine lv_aload_n hx hb dX9_first_23 rfl (lv_at hl 0 rfl) ?_
        refine zGet (ci := 9) (C := RX9) (F := TX9) (N := 12) (v := .ref (ad 1 0)) hx hb hts hiX9 hown hK hP 0 0 1 rfl rfl (by decide) rfl rfl rfl dX9_first_24 ?_
        refine zGet (ci := 8) (C := RX8) (F := TX8) (N := 14) (v := .ref (ad 1 1)) hx hb hts hiX8 hown hK hP 1 1 2 rfl rfl (by decide) rfl rfl rfl dX9_first_27 ?_
        refine lv_iload_n hx hb dX9_first_30 rfl (lv_at hl 1 rfl) ?_
        obtain ⟨hg, hf⟩ := zGd_ok hf
        refine zAldI hx hb hK hP 2 rfl hg dX9_first_31 (fun v2 ev2 => ?_)
        replace hf := zLt_at ev2 hf
        refine lv_istore_n (lv' := [(3, .int v2), (0, .ref (ad 0 0)), (1, .int a1), (2, .int a2)]) hx hb dX9_first_32 rfl hl (by decide) rfl (fun ls hl => ?_)
        refine lv_aload_n hx hb dX9_first_33 rfl (lv_at hl 1 rfl) ?_
        refine zGet (ci := 9) (C := RX9) (F := TX9) (N := 12) (v := .ref (ad 1 0)) hx hb hts hiX9 hown hK hP 0 0 1 rfl rfl (by decide) rfl rfl rfl dX9_first_34 ?_
        refine zGet (ci := 8) (C := RX8) (F := TX8) (N := 14) (v := .ref (ad 1 1)) hx hb hts hiX8 hown hK hP 1 1 2 rfl rfl (by decide) rfl rfl rfl dX9_first_37 ?_
        refine lv_iload_n hx hb dX9_first_40 rfl (lv_at hl 2 rfl) ?_
        refine lv_iload_n hx hb dX9_first_41 rfl (lv_at hl 3 rfl) ?_
        obtain ⟨hg, hf⟩ := zGd_ok hf
        refine zAstI (w := gow) hx hb hK hP hD hS (fun g => wX9 T ad gx ++ wX8 T (ad 1) g) 2 1 rfl hg rfl dX9_first_42 (fun gow_3 egow_3 H locs hP hD hS => ?_)
        replace hP : va_P D vwCl (wX9 T ad gx ++ wX8 T (ad 1) gow_3) H := hP
        replace hD : va_D A (wX9 T ad gx ++ wX8 T (ad 1) gow_3) := hD
        replace hf := zLt_at egow_3 hf
        refine lv_iload_n hx hb dX9_first_43 rfl (lv_at hl 0 rfl) ?_
        obtain ⟨q1, q2⟩ := zI2 hf
        subst q1
        subst q2
        exact zRetI hQ hx hb hr hlocks hA0 hK hP hD hS rfl dX9_first_44
      · replace hf := zIf_f hc hf
        refine lv_iconst (v := (-1)) hx hb dX9_first_21 (by decide) ?_
        obtain ⟨q1, q2⟩ := zI2 hf
        subst q1
        subst q2
        exact zRetI hQ hx hb hr hlocks hA0 hK hP hD hS rfl dX9_first_22
set_option maxHeartbeats 4000000 in
set_option maxRecDepth 100000 in
theorem pX9_cut (l : Launch) (D : va_G) (T : Nat → ClassId) (X : zFP) (ad : Nat → Nat → Nat) (sz : Nat) (gx : zM) (gow : zM) (a1 : Int32) (a2 : Int32) (a3 : Int32) (r : Int32) (ngow : zM) (hf : fX9_cut gx gow a1 a2 a3 = some (r, ngow)) : Met l yX9_cut wsX9_cut rX9_cut (zPre D T X [.ref (ad 0 0), .int a1, .int a2, .int a3] (wX9 T ad gx ++ wX8 T (ad 1) gow) sz) (zQi D T r (wX9 T ad gx ++ wX8 T (ad 1) ngow) (wX9 T ad gx ++ wX8 T (ad 1) gow) sz) 0 0 (va_A (wX9 T ad gx ++ wX8 T (ad 1) gow) sz) := by
  unfold fX9_cut at hf
  refine zStart [(0, .ref (ad 0 0)), (1, .int a1), (2, .int a2), (3, .int a3)] (by decide) rfl (Nat.le_of_ble_eq_true rfl) rfl ?_
  intro p e s m args below meth c A Q ls hx hb hr hml hown hlocks hts hsz hA0 hQ hA hK hX hP hD hS hl
  replace hown : s.vm.findClass RX9 = some m.cls := hown
  have hH := hsz
  have hiX8 : ∀ w ∈ u_ws RX8 TX8 14, w ∈ wsX9_cut := fun w h => List.mem_cons_of_mem _ (List.mem_append_right _ (h))
  have hiX9 : ∀ w ∈ u_ws RX9 TX9 12, w ∈ wsX9_cut := fun w h => List.mem_cons_of_mem _ (List.mem_append_left _ (List.mem_append_right _ (h)))
  obtain ⟨H, hHe⟩ : ∃ H : Heap, H = s.heap := ⟨_, rfl⟩
  obtain ⟨locs, hLe⟩ : ∃ L : List Loc, L = [] := ⟨_, rfl⟩
  replace hP : va_P D vwCl (wX9 T ad gx ++ wX8 T (ad 1) gow) H := by rw [hHe]; exact hP
  replace hS : va_S A s.heap H locs := by rw [hHe, hLe]; exact hS
  suffices hgo : W p l e rX9_cut s m args below meth c H locs 0 0 Q (F0 m 0 ls []) by rw [hHe, hLe] at hgo; exact hgo
  clear hHe hLe
  refine lv_iload_n hx hb dX9_cut_0 rfl (lv_at hl 1 rfl) ?_
  refine lv_iconst (v := 1) hx hb dX9_cut_1 (by decide) ?_
  refine lv_icmp_lt (tgt := 21) hx hb dX9_cut_2 (by decide) (fun hc => ?_) (fun hc => ?_)
  · replace hf := zIf_t hc hf
    refine lv_iconst (v := (-1)) hx hb dX9_cut_21 (by decide) ?_
    obtain ⟨q1, q2⟩ := zI2 hf
    subst q1
    subst q2
    exact zRetI hQ hx hb hr hlocks hA0 hK hP hD hS rfl dX9_cut_22
  · replace hf := zIf_f hc hf
    refine lv_iload_n hx hb dX9_cut_5 rfl (lv_at hl 1 rfl) ?_
    refine lv_bipush (v := 6) hx hb dX9_cut_6 (by decide) ?_
    refine lv_icmp_gt (tgt := 21) hx hb dX9_cut_8 (by decide) (fun hc => ?_) (fun hc => ?_)
    · replace hf := zIf_t hc hf
      refine lv_iconst (v := (-1)) hx hb dX9_cut_21 (by decide) ?_
      obtain ⟨q1, q2⟩ := zI2 hf
      subst q1
      subst q2
      exact zRetI hQ hx hb hr hlocks hA0 hK hP hD hS rfl dX9_cut_22
    · replace hf := zIf_f hc hf
      refine lv_iload_n hx hb dX9_cut_11 rfl (lv_at hl 3 rfl) ?_
      refine lv_if_lt (tgt := 21) hx hb dX9_cut_12 (by decide) (fun hc => ?_) (fun hc => ?_)
      · replace hf := zIf_t hc hf
        refine lv_iconst (v := (-1)) hx hb dX9_cut_21 (by decide) ?_
        obtain ⟨q1, q2⟩ := zI2 hf
        subst q1
        subst q2
        exact zRetI hQ hx hb hr hlocks hA0 hK hP hD hS rfl dX9_cut_22
      · replace hf := zIf_f hc hf
        refine lv_iload_n hx hb dX9_cut_15 rfl (lv_at hl 3 rfl) ?_
        refine lv_bipush (v := 99) hx hb dX9_cut_16 (by decide) ?_
        refine lv_icmp_le (tgt := 23) hx hb dX9_cut_18 (by decide) (fun hc => ?_) (fun hc => ?_)
        · replace hf := zIf_t hc hf
          refine lv_iload_n hx hb dX9_cut_23 rfl (lv_at hl 1 rfl) ?_
          refine lv_iconst (v := 1) hx hb dX9_cut_24 (by decide) ?_
          have hJ38 : ∀ (v1 : Int32) (H : Heap) (locs : List Loc) (ls : Array Slot), fX9_cut_J38 a1 a2 a3 gow v1 = some (r, ngow) → va_P D vwCl (wX9 T ad gx ++ wX8 T (ad 1) gow) H → va_D A (wX9 T ad gx ++ wX8 T (ad 1) gow) → va_S A s.heap H locs → lv_has ls 5 [(0, .ref (ad 0 0)), (1, .int a1), (2, .int a2), (3, .int a3)] → W p l e rX9_cut s m args below meth c H locs 0 0 Q (F0 m 38 ls [.int v1]) := by
            intro v1 H locs ls hf hP hD hS hl
            unfold fX9_cut_J38 at hf
            refine lv_istore (lv' := [(4, .int v1), (0, .ref (ad 0 0)), (1, .int a1), (2, .int a2), (3, .int a3)]) hx hb dX9_cut_38 hl (by decide) rfl (fun ls hl => ?_)
            refine lv_iload hx hb dX9_cut_40 (lv_at hl 0 rfl) ?_
            have hJ72 : ∀ (H : Heap) (locs : List Loc) (ls : Array Slot), fX9_cut_J72 a1 a2 a3 gow = some (r, ngow) → va_P D vwCl (wX9 T ad gx ++ wX8 T (ad 1) gow) H → va_D A (wX9 T ad gx ++ wX8 T (ad 1) gow) → va_S A s.heap H locs → lv_has ls 5 [(0, .ref (ad 0 0)), (1, .int a1), (2, .int a2), (3, .int a3)] → W p l e rX9_cut s m args below meth c H locs 0 0 Q (F0 m 72 ls []) := by
              intro H locs ls hf hP hD hS hl
              unfold fX9_cut_J72 at hf
              refine lv_aload_n hx hb dX9_cut_72 rfl (lv_at hl 0 rfl) ?_
              refine zGet (ci := 9) (C := RX9) (F := TX9) (N := 12) (v := .ref (ad 1 0)) hx hb hts hiX9 hown hK hP 0 0 1 rfl rfl (by decide) rfl rfl rfl dX9_cut_73 ?_
              refine zGet (ci := 8) (C := RX8) (F := TX8) (N := 14) (v := .int (gow 0 9)) hx hb hts hiX8 hown hK hP 1 9 2 rfl rfl (by decide) rfl rfl rfl dX9_cut_76 ?_
              refine lv_bipush (v := 8) hx hb dX9_cut_79 (by decide) ?_
              refine lv_icmp_lt (tgt := 89) hx hb dX9_cut_81 (by decide) (fun hc => ?_) (fun hc => ?_)
              · replace hf := zIf_t hc hf
                refine lv_aload_n hx hb dX9_cut_89 rfl (lv_at hl 0 rfl) ?_
                refine zGet (ci := 9) (C := RX9) (F := TX9) (N := 12) (v := .ref (ad 1 0)) hx hb hts hiX9 hown hK hP 0 0 1 rfl rfl (by decide) rfl rfl rfl dX9_cut_90 ?_
                refine lv_iload_n hx hb dX9_cut_93 rfl (lv_at hl 1 rfl) ?_
                refine lv_iload_n hx hb dX9_cut_94 rfl (lv_at hl 2 rfl) ?_
                refine lv_iload_n hx hb dX9_cut_95 rfl (lv_at hl 3 rfl) ?_
                obtain ⟨v2, gow_3, hc96, hf⟩ := zB2_ok hf
                refine zCallVJI (wr := wX9 T ad gx) (ws' := wX9 T ad gx ++ wX8 T (ad 1) gow_3) [.int a1, .int a2, .int a3] ⟨hx, hb, hml, hown, hts⟩ (pX8_addCut l D T X (ad 1) H.size gow a1 a2 a3 v2 gow_3 hc96) (cwV 3 hts gX9_cut_X8_addCut rfl rfl rfl (by decide +kernel) ⟨Nat.le_of_ble_eq_true rfl, Nat.le_of_ble_eq_true rfl⟩) hK hP hD hS hA hX [1, 2, 3, 4, 5, 6, 7, 8, 9, 10, 11] [0] [0, 1, 2, 3, 4, 5, 6, 7, 8, 9, 10, 11] rfl rfl rfl rfl 0 rfl rfl rfl hl.1 rfl (Nat.le_of_ble_eq_true rfl) dX9_cut_96 ⟨Nat.zero_le _, Nat.zero_le _⟩ (fun H locs hP hD hS => ?_)
                obtain ⟨q1, q2⟩ := zI2 hf
                subst q1
                subst q2
                exact zRetI hQ hx hb hr hlocks hA0 hK hP hD hS rfl dX9_cut_99
              · replace hf := zIf_f hc hf
                refine lv_bipush (v := (-2)) hx hb dX9_cut_84 (by decide) ?_
                refine lv_goto (tgt := 99) hx hb dX9_cut_86 (by decide) ?_
                obtain ⟨q1, q2⟩ := zI2 hf
                subst q1
                subst q2
                exact zRetI hQ hx hb hr hlocks hA0 hK hP hD hS rfl dX9_cut_99
            refine lv_if_eq (tgt := 59) hx hb dX9_cut_42 (by decide) (fun hc => ?_) (fun hc => ?_)
            · replace hf := zIf_t hc hf
              refine lv_aload_n hx hb dX9_cut_59 rfl (lv_at hl 1 rfl) ?_
              refine zGet (ci := 9) (C := RX9) (F := TX9) (N := 12) (v := .ref (ad 1 0)) hx hb hts hiX9 hown hK hP 0 0 1 rfl rfl (by decide) rfl rfl rfl dX9_cut_60 ?_
              refine lv_iload_n hx hb dX9_cut_63 rfl (lv_at hl 3 rfl) ?_
              obtain ⟨v4, hc64, hf⟩ := zB1_ok hf
              refine zCallVJI (wr := wX9 T ad gx) (ws' := wX9 T ad gx ++ wX8 T (ad 1) gow) [.int a2] ⟨hx, hb, hml, hown, hts⟩ (pX8_hasSet l D T X (ad 1) H.size gow a2 v4 hc64) (cwV 1 hts gX9_cut_X8_hasSet rfl rfl rfl (by decide +kernel) ⟨Nat.le_of_ble_eq_true rfl, Nat.le_of_ble_eq_true rfl⟩) hK hP hD hS hA hX [1, 2, 3, 4, 5, 6, 7, 8, 9, 10, 11] [0] [0, 1, 2, 3, 4, 5, 6, 7, 8, 9, 10, 11] rfl rfl rfl rfl 0 rfl rfl rfl hl.1 rfl (Nat.le_of_ble_eq_true rfl) dX9_cut_64 ⟨Nat.zero_le _, Nat.zero_le _⟩ (fun H locs hP hD hS => ?_)
              refine lv_if_ne (tgt := 72) hx hb dX9_cut_67 (by decide) (fun hc => ?_) (fun hc => ?_)
              · replace hf := zIf_f hc hf
                exact hJ72 H locs ls hf hP hD hS (lv_sub hl [1, 2, 3, 4] rfl)
              · replace hf := zIf_t hc hf
                refine lv_iconst (v := (-1)) hx hb dX9_cut_70 (by decide) ?_
                obtain ⟨q1, q2⟩ := zI2 hf
                subst q1
                subst q2
                exact zRetI hQ hx hb hr hlocks hA0 hK hP hD hS rfl dX9_cut_71
            · replace hf := zIf_f hc hf
              refine lv_aload_n hx hb dX9_cut_45 rfl (lv_at hl 1 rfl) ?_
              refine zGet (ci := 9) (C := RX9) (F := TX9) (N := 12) (v := .ref (ad 1 0)) hx hb hts hiX9 hown hK hP 0 0 1 rfl rfl (by decide) rfl rfl rfl dX9_cut_46 ?_
              refine lv_iload_n hx hb dX9_cut_49 rfl (lv_at hl 3 rfl) ?_
              obtain ⟨v5, hc50, hf⟩ := zB1_ok hf
              refine zCallVJI (wr := wX9 T ad gx) (ws' := wX9 T ad gx ++ wX8 T (ad 1) gow) [.int a2] ⟨hx, hb, hml, hown, hts⟩ (pX8_hasTie l D T X (ad 1) H.size gow a2 v5 hc50) (cwV 1 hts gX9_cut_X8_hasTie rfl rfl rfl (by decide +kernel) ⟨Nat.le_of_ble_eq_true rfl, Nat.le_of_ble_eq_true rfl⟩) hK hP hD hS hA hX [1, 2, 3, 4, 5, 6, 7, 8, 9, 10, 11] [0] [0, 1, 2, 3, 4, 5, 6, 7, 8, 9, 10, 11] rfl rfl rfl rfl 0 rfl rfl rfl hl.1 rfl (Nat.le_of_ble_eq_true rfl) dX9_cut_50 ⟨Nat.zero_le _, Nat.zero_le _⟩ (fun H locs hP hD hS => ?_)
              refine lv_if_ne (tgt := 72) hx hb dX9_cut_53 (by decide) (fun hc => ?_) (fun hc => ?_)
              · replace hf := zIf_f hc hf
                exact hJ72 H locs ls hf hP hD hS (lv_sub hl [1, 2, 3, 4] rfl)
              · replace hf := zIf_t hc hf
                refine lv_goto (tgt := 70) hx hb dX9_cut_56 (by decide) ?_
                refine lv_iconst (v := (-1)) hx hb dX9_cut_70 (by decide) ?_
                obtain ⟨q1, q2⟩ := zI2 hf
                subst q1
                subst q2
                exact zRetI hQ hx hb hr hlocks hA0 hK hP hD hS rfl dX9_cut_71
          have hJ33 : ∀ (H : Heap) (locs : List Loc) (ls : Array Slot), fX9_cut_J33 a1 a2 a3 gow = some (r, ngow) → va_P D vwCl (wX9 T ad gx ++ wX8 T (ad 1) gow) H → va_D A (wX9 T ad gx ++ wX8 T (ad 1) gow) → va_S A s.heap H locs → lv_has ls 5 [(0, .ref (ad 0 0)), (1, .int a1), (2, .int a2), (3, .int a3)] → W p l e rX9_cut s m args below meth c H locs 0 0 Q (F0 m 33 ls []) := by
            intro H locs ls hf hP hD hS hl
            unfold fX9_cut_J33 at hf
            refine lv_iconst (v := 1) hx hb dX9_cut_33 (by decide) ?_
            refine lv_goto (tgt := 38) hx hb dX9_cut_34 (by decide) ?_
            exact hJ38 1 H locs ls hf hP hD hS hl
          refine lv_icmp_eq (tgt := 33) hx hb dX9_cut_25 (by decide) (fun hc => ?_) (fun hc => ?_)
          · replace hf := zIf_t hc hf
            exact hJ33 H locs ls hf hP hD hS hl
          · replace hf := zIf_f hc hf
            refine lv_iload_n hx hb dX9_cut_28 rfl (lv_at hl 1 rfl) ?_
            refine lv_iconst (v := 4) hx hb dX9_cut_29 (by decide) ?_
            refine lv_icmp_ne (tgt := 37) hx hb dX9_cut_30 (by decide) (fun hc => ?_) (fun hc => ?_)
            · replace hf := zIf_f hc hf
              refine lv_iconst (v := 0) hx hb dX9_cut_37 (by decide) ?_
              exact hJ38 0 H locs ls hf hP hD hS hl
            · replace hf := zIf_t hc hf
              exact hJ33 H locs ls hf hP hD hS hl
        · replace hf := zIf_f hc hf
          refine lv_iconst (v := (-1)) hx hb dX9_cut_21 (by decide) ?_
          obtain ⟨q1, q2⟩ := zI2 hf
          subst q1
          subst q2
          exact zRetI hQ hx hb hr hlocks hA0 hK hP hD hS rfl dX9_cut_22
set_option maxHeartbeats 4000000 in
set_option maxRecDepth 100000 in
theorem pX9_cutOf (l : Launch) (D : va_G) (T : Nat → ClassId) (X : zFP) (ad : Nat → Nat → Nat) (sz : Nat) (gx : zM) (gow : zM) (a1 : Int32) (a2 : Int32) (r : Int32) (hf : fX9_cutOf gx gow a1 a2 = some r) : Met l yX9_cutOf wsX9_cutOf rX9_cutOf (zPre D T X [.ref (ad 0 0), .int a1, .int a2] (wX9 T ad gx ++ wX8 T (ad 1) gow) sz) (zQi D T r (wX9 T ad gx ++ wX8 T (ad 1) gow) (wX9 T ad gx ++ wX8 T (ad 1) gow) sz) 0 0 (va_A (wX9 T ad gx ++ wX8 T (ad 1) gow) sz) := by
  unfold fX9_cutOf at hf
  refine zStart [(0, .ref (ad 0 0)), (1, .int a1), (2, .int a2)] (by decide) rfl (Nat.le_of_ble_eq_true rfl) rfl ?_
  intro p e s m args below meth c A Q ls hx hb hr hml hown hlocks hts hsz hA0 hQ hA hK hX hP hD hS hl
  replace hown : s.vm.findClass RX9 = some m.cls := hown
  have hH := hsz
  have hiX8 : ∀ w ∈ u_ws RX8 TX8 14, w ∈ wsX9_cutOf := fun w h => List.mem_cons_of_mem _ (List.mem_append_right _ (h))
  have hiX9 : ∀ w ∈ u_ws RX9 TX9 12, w ∈ wsX9_cutOf := fun w h => List.mem_cons_of_mem _ (List.mem_append_left _ (List.mem_append_right _ (h)))
  obtain ⟨H, hHe⟩ : ∃ H : Heap, H = s.heap := ⟨_, rfl⟩
  obtain ⟨locs, hLe⟩ : ∃ L : List Loc, L = [] := ⟨_, rfl⟩
  replace hP : va_P D vwCl (wX9 T ad gx ++ wX8 T (ad 1) gow) H := by rw [hHe]; exact hP
  replace hS : va_S A s.heap H locs := by rw [hHe, hLe]; exact hS
  suffices hgo : W p l e rX9_cutOf s m args below meth c H locs 0 0 Q (F0 m 0 ls []) by rw [hHe, hLe] at hgo; exact hgo
  clear hHe hLe
  refine lv_aload_n hx hb dX9_cutOf_0 rfl (lv_at hl 0 rfl) ?_
  refine zGet (ci := 9) (C := RX9) (F := TX9) (N := 12) (v := .ref (ad 1 0)) hx hb hts hiX9 hown hK hP 0 0 1 rfl rfl (by decide) rfl rfl rfl dX9_cutOf_1 ?_
  refine lv_iload_n hx hb dX9_cutOf_4 rfl (lv_at hl 1 rfl) ?_
  obtain ⟨v1, hc5, hf⟩ := zB1_ok hf
  refine zCallVJI (wr := wX9 T ad gx) (ws' := wX9 T ad gx ++ wX8 T (ad 1) gow) [.int a1] ⟨hx, hb, hml, hown, hts⟩ (pX8_hasCut l D T X (ad 1) H.size gow a1 v1 hc5) (cwV 1 hts gX9_cutOf_X8_hasCut rfl rfl rfl (by decide +kernel) ⟨Nat.le_of_ble_eq_true rfl, Nat.le_of_ble_eq_true rfl⟩) hK hP hD hS hA hX [1, 2, 3, 4, 5, 6, 7, 8, 9, 10, 11] [0] [0, 1, 2, 3, 4, 5, 6, 7, 8, 9, 10, 11] rfl rfl rfl rfl 0 rfl rfl rfl hl.1 rfl (Nat.le_of_ble_eq_true rfl) dX9_cutOf_5 ⟨Nat.zero_le _, Nat.zero_le _⟩ (fun H locs hP hD hS => ?_)
  refine lv_if_ne (tgt := 13) hx hb dX9_cutOf_8 (by decide) (fun hc => ?_) (fun hc => ?_)
  · replace hf := zIf_f hc hf
    refine lv_iload_n hx hb dX9_cutOf_13 rfl (lv_at hl 2 rfl) ?_
    refine zSw (x := a2) (k := 0) (fun hc => ?_) (fun hk0 => ?_)
    · replace hf := zIf_t hc hf
      refine lv_tableIn (off := 26) (tgt := 40) hx hb dX9_cutOf_14 (by rw [hc]; decide) (by rw [hc]; decide) (by rw [hc]; decide) (by decide) ?_
      refine lv_aload_n hx hb dX9_cutOf_40 rfl (lv_at hl 0 rfl) ?_
      refine zGet (ci := 9) (C := RX9) (F := TX9) (N := 12) (v := .ref (ad 1 0)) hx hb hts hiX9 hown hK hP 0 0 1 rfl rfl (by decide) rfl rfl rfl dX9_cutOf_41 ?_
      refine zGet (ci := 8) (C := RX8) (F := TX8) (N := 14) (v := .ref (ad 1 8)) hx hb hts hiX8 hown hK hP 1 10 2 rfl rfl (by decide) rfl rfl rfl dX9_cutOf_44 ?_
      refine lv_iload_n hx hb dX9_cutOf_47 rfl (lv_at hl 1 rfl) ?_
      obtain ⟨hg, hf⟩ := zGd_ok hf
      refine zAldI hx hb hK hP 9 rfl hg dX9_cutOf_48 (fun v2 ev2 => ?_)
      replace hf := zLt_at ev2 hf
      obtain ⟨q1, -⟩ := zI1 hf
      subst q1
      exact zRetI hQ hx hb hr hlocks hA0 hK hP hD hS rfl dX9_cutOf_49
    replace hf := zIf_f hk0 hf
    refine zSw (x := a2) (k := 1) (fun hc => ?_) (fun hk1 => ?_)
    · replace hf := zIf_t hc hf
      refine lv_tableIn (off := 36) (tgt := 50) hx hb dX9_cutOf_14 (by rw [hc]; decide) (by rw [hc]; decide) (by rw [hc]; decide) (by decide) ?_
      refine lv_aload_n hx hb dX9_cutOf_50 rfl (lv_at hl 0 rfl) ?_
      refine zGet (ci := 9) (C := RX9) (F := TX9) (N := 12) (v := .ref (ad 1 0)) hx hb hts hiX9 hown hK hP 0 0 1 rfl rfl (by decide) rfl rfl rfl dX9_cutOf_51 ?_
      refine zGet (ci := 8) (C := RX8) (F := TX8) (N := 14) (v := .ref (ad 1 9)) hx hb hts hiX8 hown hK hP 1 11 3 rfl rfl (by decide) rfl rfl rfl dX9_cutOf_54 ?_
      refine lv_iload_n hx hb dX9_cutOf_57 rfl (lv_at hl 1 rfl) ?_
      obtain ⟨hg, hf⟩ := zGd_ok hf
      refine zAldI hx hb hK hP 10 rfl hg dX9_cutOf_58 (fun v3 ev3 => ?_)
      replace hf := zLt_at ev3 hf
      obtain ⟨q1, -⟩ := zI1 hf
      subst q1
      exact zRetI hQ hx hb hr hlocks hA0 hK hP hD hS rfl dX9_cutOf_59
    replace hf := zIf_f hk1 hf
    refine zSw (x := a2) (k := 2) (fun hc => ?_) (fun hk2 => ?_)
    · replace hf := zIf_t hc hf
      refine lv_tableIn (off := 46) (tgt := 60) hx hb dX9_cutOf_14 (by rw [hc]; decide) (by rw [hc]; decide) (by rw [hc]; decide) (by decide) ?_
      refine lv_aload_n hx hb dX9_cutOf_60 rfl (lv_at hl 0 rfl) ?_
      refine zGet (ci := 9) (C := RX9) (F := TX9) (N := 12) (v := .ref (ad 1 0)) hx hb hts hiX9 hown hK hP 0 0 1 rfl rfl (by decide) rfl rfl rfl dX9_cutOf_61 ?_
      refine zGet (ci := 8) (C := RX8) (F := TX8) (N := 14) (v := .ref (ad 1 10)) hx hb hts hiX8 hown hK hP 1 12 4 rfl rfl (by decide) rfl rfl rfl dX9_cutOf_64 ?_
      refine lv_iload_n hx hb dX9_cutOf_67 rfl (lv_at hl 1 rfl) ?_
      obtain ⟨hg, hf⟩ := zGd_ok hf
      refine zAldI hx hb hK hP 11 rfl hg dX9_cutOf_68 (fun v4 ev4 => ?_)
      replace hf := zLt_at ev4 hf
      obtain ⟨q1, -⟩ := zI1 hf
      subst q1
      exact zRetI hQ hx hb hr hlocks hA0 hK hP hD hS rfl dX9_cutOf_69
    replace hf := zIf_f hk2 hf
    refine lv_tableOut (tgt := 70) hx hb dX9_cutOf_14 (by have := zNe hk0 (z := 0) (by decide); have := zNe hk1 (z := 1) (by decide); have := zNe hk2 (z := 2) (by decide); omega) (by decide) ?_
    refine lv_iconst (v := (-1)) hx hb dX9_cutOf_70 (by decide) ?_
    obtain ⟨q1, -⟩ := zI1 hf
    subst q1
    exact zRetI hQ hx hb hr hlocks hA0 hK hP hD hS rfl dX9_cutOf_71
  · replace hf := zIf_t hc hf
    refine lv_iconst (v := (-1)) hx hb dX9_cutOf_11 (by decide) ?_
    obtain ⟨q1, -⟩ := zI1 hf
    subst q1
    exact zRetI hQ hx hb hr hlocks hA0 hK hP hD hS rfl dX9_cutOf_12
set_option maxHeartbeats 4000000 in
set_option maxRecDepth 100000 in
theorem pX9_uncut (l : Launch) (D : va_G) (T : Nat → ClassId) (X : zFP) (ad : Nat → Nat → Nat) (sz : Nat) (gx : zM) (gow : zM) (r : Int32) (ngow : zM) (hf : fX9_uncut gx gow = some (r, ngow)) : Met l yX9_uncut wsX9_uncut rX9_uncut (zPre D T X [.ref (ad 0 0)] (wX9 T ad gx ++ wX8 T (ad 1) gow) sz) (zQi D T r (wX9 T ad gx ++ wX8 T (ad 1) ngow) (wX9 T ad gx ++ wX8 T (ad 1) gow) sz) 0 0 (va_A (wX9 T ad gx ++ wX8 T (ad 1) gow) sz) := by
  unfold fX9_uncut at hf
  refine zStart [(0, .ref (ad 0 0))] (by decide) rfl (Nat.le_of_ble_eq_true rfl) rfl ?_
  intro p e s m args below meth c A Q ls hx hb hr hml hown hlocks hts hsz hA0 hQ hA hK hX hP hD hS hl
  replace hown : s.vm.findClass RX9 = some m.cls := hown
  have hH := hsz
  have hiX8 : ∀ w ∈ u_ws RX8 TX8 14, w ∈ wsX9_uncut := fun w h => List.mem_cons_of_mem _ (List.mem_append_right _ (h))
  have hiX9 : ∀ w ∈ u_ws RX9 TX9 12, w ∈ wsX9_uncut := fun w h => List.mem_cons_of_mem _ (List.mem_append_left _ (List.mem_append_right _ (h)))
  obtain ⟨H, hHe⟩ : ∃ H : Heap, H = s.heap := ⟨_, rfl⟩
  obtain ⟨locs, hLe⟩ : ∃ L : List Loc, L = [] := ⟨_, rfl⟩
  replace hP : va_P D vwCl (wX9 T ad gx ++ wX8 T (ad 1) gow) H := by rw [hHe]; exact hP
  replace hS : va_S A s.heap H locs := by rw [hHe, hLe]; exact hS
  suffices hgo : W p l e rX9_uncut s m args below meth c H locs 0 0 Q (F0 m 0 ls []) by rw [hHe, hLe] at hgo; exact hgo
  clear hHe hLe
  refine lv_aload_n hx hb dX9_uncut_0 rfl (lv_at hl 0 rfl) ?_
  refine zGet (ci := 9) (C := RX9) (F := TX9) (N := 12) (v := .ref (ad 1 0)) hx hb hts hiX9 hown hK hP 0 0 1 rfl rfl (by decide) rfl rfl rfl dX9_uncut_1 ?_
  refine zGet (ci := 8) (C := RX8) (F := TX8) (N := 14) (v := .int (gow 0 9)) hx hb hts hiX8 hown hK hP 1 9 2 rfl rfl (by decide) rfl rfl rfl dX9_uncut_4 ?_
  refine lv_if_ne (tgt := 13) hx hb dX9_uncut_7 (by decide) (fun hc => ?_) (fun hc => ?_)
  · replace hf := zIf_f hc hf
    refine lv_aload_n hx hb dX9_uncut_13 rfl (lv_at hl 0 rfl) ?_
    refine zGet (ci := 9) (C := RX9) (F := TX9) (N := 12) (v := .ref (ad 1 0)) hx hb hts hiX9 hown hK hP 0 0 1 rfl rfl (by decide) rfl rfl rfl dX9_uncut_14 ?_
    refine lv_dup hx hb dX9_uncut_17 rfl ?_
    refine zGet (ci := 8) (C := RX8) (F := TX8) (N := 14) (v := .int (gow 0 9)) hx hb hts hiX8 hown hK hP 1 9 2 rfl rfl (by decide) rfl rfl rfl dX9_uncut_18 ?_
    refine lv_iconst (v := 1) hx hb dX9_uncut_21 (by decide) ?_
    refine lv_isub hx hb dX9_uncut_22 ?_
    refine lv_topi (fun v1 ev1 => ?_)
    replace hf := zLt_at ev1 hf
    refine zPut (ci := 8) (C := RX8) (F := TX8) (N := 14) (x := v1) (w := gow) hx hb hts hiX8 tyX8 tyX8_ok nmX8 hown hK hP hD hS (fun g => wX9 T ad gx ++ wX8 T (ad 1) g) 1 9 2 rfl rfl (by decide) rfl rfl rfl ⟨rfl, rfl⟩ (Nat.le_of_ble_eq_true rfl) rfl dX9_uncut_23 (fun gow_2 egow_2 H locs hP hD hS => ?_)
    replace hP : va_P D vwCl (wX9 T ad gx ++ wX8 T (ad 1) gow_2) H := hP
    replace hD : va_D A (wX9 T ad gx ++ wX8 T (ad 1) gow_2) := hD
    replace hf := zLt_at egow_2 hf
    refine lv_aload_n hx hb dX9_uncut_26 rfl (lv_at hl 0 rfl) ?_
    refine zGet (ci := 9) (C := RX9) (F := TX9) (N := 12) (v := .ref (ad 1 0)) hx hb hts hiX9 hown hK hP 0 0 1 rfl rfl (by decide) rfl rfl rfl dX9_uncut_27 ?_
    refine zGet (ci := 8) (C := RX8) (F := TX8) (N := 14) (v := .int (gow_2 0 9)) hx hb hts hiX8 hown hK hP 1 9 2 rfl rfl (by decide) rfl rfl rfl dX9_uncut_30 ?_
    obtain ⟨q1, q2⟩ := zI2 hf
    subst q1
    subst q2
    exact zRetI hQ hx hb hr hlocks hA0 hK hP hD hS rfl dX9_uncut_33
  · replace hf := zIf_t hc hf
    refine lv_bipush (v := (-3)) hx hb dX9_uncut_10 (by decide) ?_
    obtain ⟨q1, q2⟩ := zI2 hf
    subst q1
    subst q2
    exact zRetI hQ hx hb hr hlocks hA0 hK hP hD hS rfl dX9_uncut_12
set_option maxHeartbeats 4000000 in
set_option maxRecDepth 100000 in
theorem pX9_open (l : Launch) (D : va_G) (T : Nat → ClassId) (X : zFP) (ad : Nat → Nat → Nat) (sz : Nat) (gx : zM) (gow : zM) (a1 : Int32) (a2 : Int32) (r : Int32) (hf : fX9_open gx gow a1 a2 = some r) : Met l yX9_open wsX9_open rX9_open (zPre D T X [.ref (ad 0 0), .int a1, .int a2] (wX9 T ad gx ++ wX8 T (ad 1) gow) sz) (zQi D T r (wX9 T ad gx ++ wX8 T (ad 1) gow) (wX9 T ad gx ++ wX8 T (ad 1) gow) sz) 0 0 (va_A (wX9 T ad gx ++ wX8 T (ad 1) gow) sz) := by
  unfold fX9_open at hf
  refine zStart [(0, .ref (ad 0 0)), (1, .int a1), (2, .int a2)] (by decide) rfl (Nat.le_of_ble_eq_true rfl) rfl ?_
  intro p e s m args below meth c A Q ls hx hb hr hml hown hlocks hts hsz hA0 hQ hA hK hX hP hD hS hl
  replace hown : s.vm.findClass RX9 = some m.cls := hown
  have hH := hsz
  have hiX9 : ∀ w ∈ u_ws RX9 TX9 12, w ∈ wsX9_open := fun w h => List.mem_cons_of_mem _ (List.mem_append_left _ (List.mem_append_right _ (h)))
  obtain ⟨H, hHe⟩ : ∃ H : Heap, H = s.heap := ⟨_, rfl⟩
  obtain ⟨locs, hLe⟩ : ∃ L : List Loc, L = [] := ⟨_, rfl⟩
  replace hP : va_P D vwCl (wX9 T ad gx ++ wX8 T (ad 1) gow) H := by rw [hHe]; exact hP
  replace hS : va_S A s.heap H locs := by rw [hHe, hLe]; exact hS
  suffices hgo : W p l e rX9_open s m args below meth c H locs 0 0 Q (F0 m 0 ls []) by rw [hHe, hLe] at hgo; exact hgo
  clear hHe hLe
  refine lv_aload_n hx hb dX9_open_0 rfl (lv_at hl 0 rfl) ?_
  refine zGet (ci := 9) (C := RX9) (F := TX9) (N := 12) (v := .ref (ad 1 0)) hx hb hts hiX9 hown hK hP 0 0 1 rfl rfl (by decide) rfl rfl rfl dX9_open_1 ?_
  refine lv_iload_n hx hb dX9_open_4 rfl (lv_at hl 1 rfl) ?_
  obtain ⟨v1, hc5, hf⟩ := zB1_ok hf
  refine zCallVJI (wr := wX9 T ad gx) (ws' := wX9 T ad gx ++ wX8 T (ad 1) gow) [.int a1] ⟨hx, hb, hml, hown, hts⟩ (pX8_hasTie l D T X (ad 1) H.size gow a1 v1 hc5) (cwV 1 hts gX9_open_X8_hasTie rfl rfl rfl (by decide +kernel) ⟨Nat.le_of_ble_eq_true rfl, Nat.le_of_ble_eq_true rfl⟩) hK hP hD hS hA hX [1, 2, 3, 4, 5, 6, 7, 8, 9, 10, 11] [0] [0, 1, 2, 3, 4, 5, 6, 7, 8, 9, 10, 11] rfl rfl rfl rfl 0 rfl rfl rfl hl.1 rfl (Nat.le_of_ble_eq_true rfl) dX9_open_5 ⟨Nat.zero_le _, Nat.zero_le _⟩ (fun H locs hP hD hS => ?_)
  refine lv_if_eq (tgt := 21) hx hb dX9_open_8 (by decide) (fun hc => ?_) (fun hc => ?_)
  · replace hf := zIf_t hc hf
    refine lv_iconst (v := (-1)) hx hb dX9_open_21 (by decide) ?_
    obtain ⟨q1, -⟩ := zI1 hf
    subst q1
    exact zRetI hQ hx hb hr hlocks hA0 hK hP hD hS rfl dX9_open_22
  · replace hf := zIf_f hc hf
    refine lv_iload_n hx hb dX9_open_11 rfl (lv_at hl 2 rfl) ?_
    refine lv_if_lt (tgt := 21) hx hb dX9_open_12 (by decide) (fun hc => ?_) (fun hc => ?_)
    · replace hf := zIf_t hc hf
      refine lv_iconst (v := (-1)) hx hb dX9_open_21 (by decide) ?_
      obtain ⟨q1, -⟩ := zI1 hf
      subst q1
      exact zRetI hQ hx hb hr hlocks hA0 hK hP hD hS rfl dX9_open_22
    · replace hf := zIf_f hc hf
      refine lv_iload_n hx hb dX9_open_15 rfl (lv_at hl 2 rfl) ?_
      refine lv_bipush (v := 100) hx hb dX9_open_16 (by decide) ?_
      refine lv_icmp_lt (tgt := 23) hx hb dX9_open_18 (by decide) (fun hc => ?_) (fun hc => ?_)
      · replace hf := zIf_t hc hf
        refine lv_aload_n hx hb dX9_open_23 rfl (lv_at hl 0 rfl) ?_
        refine zGet (ci := 9) (C := RX9) (F := TX9) (N := 12) (v := .ref (ad 1 0)) hx hb hts hiX9 hown hK hP 0 0 1 rfl rfl (by decide) rfl rfl rfl dX9_open_24 ?_
        refine lv_iload_n hx hb dX9_open_27 rfl (lv_at hl 1 rfl) ?_
        refine lv_iload_n hx hb dX9_open_28 rfl (lv_at hl 2 rfl) ?_
        obtain ⟨v2, hc29, hf⟩ := zB1_ok hf
        refine zCallVJI (wr := wX9 T ad gx) (ws' := wX9 T ad gx ++ wX8 T (ad 1) gow) [.int a1, .int a2] ⟨hx, hb, hml, hown, hts⟩ (pX8_isOpen l D T X (ad 1) H.size gow a1 a2 v2 hc29) (cwV 2 hts gX9_open_X8_isOpen rfl rfl rfl (by decide +kernel) ⟨Nat.le_of_ble_eq_true rfl, Nat.le_of_ble_eq_true rfl⟩) hK hP hD hS hA hX [1, 2, 3, 4, 5, 6, 7, 8, 9, 10, 11] [0] [0, 1, 2, 3, 4, 5, 6, 7, 8, 9, 10, 11] rfl rfl rfl rfl 0 rfl rfl rfl hl.1 rfl (Nat.le_of_ble_eq_true rfl) dX9_open_29 ⟨Nat.zero_le _, Nat.zero_le _⟩ (fun H locs hP hD hS => ?_)
        refine lv_if_eq (tgt := 39) hx hb dX9_open_32 (by decide) (fun hc => ?_) (fun hc => ?_)
        · replace hf := zIf_t hc hf
          refine lv_iconst (v := 0) hx hb dX9_open_39 (by decide) ?_
          obtain ⟨q1, -⟩ := zI1 hf
          subst q1
          exact zRetI hQ hx hb hr hlocks hA0 hK hP hD hS rfl dX9_open_40
        · replace hf := zIf_f hc hf
          refine lv_iconst (v := 1) hx hb dX9_open_35 (by decide) ?_
          refine lv_goto (tgt := 40) hx hb dX9_open_36 (by decide) ?_
          obtain ⟨q1, -⟩ := zI1 hf
          subst q1
          exact zRetI hQ hx hb hr hlocks hA0 hK hP hD hS rfl dX9_open_40
      · replace hf := zIf_f hc hf
        refine lv_iconst (v := (-1)) hx hb dX9_open_21 (by decide) ?_
        obtain ⟨q1, -⟩ := zI1 hf
        subst q1
        exact zRetI hQ hx hb hr hlocks hA0 hK hP hD hS rfl dX9_open_22
set_option maxHeartbeats 4000000 in
set_option maxRecDepth 100000 in
theorem pX9_layOpenTies (l : Launch) (D : va_G) (T : Nat → ClassId) (X : zFP) (ad : Nat → Nat → Nat) (sz : Nat) (gx : zM) (gow : zM) (gn : zM) (ngn : zM) (hf : fX9_layOpenTies gx gow gn = some ngn) : Met l yX9_layOpenTies wsX9_layOpenTies rX9_layOpenTies (zPre D T X [.ref (ad 0 0)] (wX9 T ad gx ++ wX8 T (ad 1) gow ++ wX3 T (ad 5) gn) sz) (zQv D T (wX9 T ad gx ++ wX8 T (ad 1) gow ++ wX3 T (ad 5) ngn) (wX9 T ad gx ++ wX8 T (ad 1) gow ++ wX3 T (ad 5) gn) sz) 0 0 (va_A (wX9 T ad gx ++ wX8 T (ad 1) gow ++ wX3 T (ad 5) gn) sz) := by
  unfold fX9_layOpenTies at hf
  refine zStart [(0, .ref (ad 0 0))] (by decide) rfl (Nat.le_of_ble_eq_true rfl) rfl ?_
  intro p e s m args below meth c A Q ls hx hb hr hml hown hlocks hts hsz hA0 hQ hA hK hX hP hD hS hl
  replace hown : s.vm.findClass RX9 = some m.cls := hown
  have hH := hsz
  have hiX9 : ∀ w ∈ u_ws RX9 TX9 12, w ∈ wsX9_layOpenTies := fun w h => List.mem_cons_of_mem _ (List.mem_append_left _ (List.mem_append_left _ (List.mem_append_right _ (h))))
  obtain ⟨H, hHe⟩ : ∃ H : Heap, H = s.heap := ⟨_, rfl⟩
  obtain ⟨locs, hLe⟩ : ∃ L : List Loc, L = [] := ⟨_, rfl⟩
  replace hP : va_P D vwCl (wX9 T ad gx ++ wX8 T (ad 1) gow ++ wX3 T (ad 5) gn) H := by rw [hHe]; exact hP
  replace hS : va_S A s.heap H locs := by rw [hHe, hLe]; exact hS
  suffices hgo : W p l e rX9_layOpenTies s m args below meth c H locs 0 0 Q (F0 m 0 ls []) by rw [hHe, hLe] at hgo; exact hgo
  clear hHe hLe
  refine lv_aload_n hx hb dX9_layOpenTies_0 rfl (lv_at hl 0 rfl) ?_
  refine zGet (ci := 9) (C := RX9) (F := TX9) (N := 12) (v := .ref (ad 5 0)) hx hb hts hiX9 hown hK hP 0 5 1 rfl rfl (by decide) rfl rfl rfl dX9_layOpenTies_1 ?_
  refine lv_aload_n hx hb dX9_layOpenTies_4 rfl (lv_at hl 0 rfl) ?_
  refine zGet (ci := 9) (C := RX9) (F := TX9) (N := 12) (v := .ref (ad 1 0)) hx hb hts hiX9 hown hK hP 0 0 2 rfl rfl (by decide) rfl rfl rfl dX9_layOpenTies_5 ?_
  refine lv_aload_n hx hb dX9_layOpenTies_8 rfl (lv_at hl 0 rfl) ?_
  refine zGet (ci := 9) (C := RX9) (F := TX9) (N := 12) (v := .ref (ad 1 0)) hx hb hts hiX9 hown hK hP 0 0 2 rfl rfl (by decide) rfl rfl rfl dX9_layOpenTies_9 ?_
  refine lv_iconst (v := 0) hx hb dX9_layOpenTies_12 (by decide) ?_
  obtain ⟨v1, hc13, hf⟩ := zB1_ok hf
  refine zCallVJI (wr := wX9 T ad gx ++ wX3 T (ad 5) gn) (ws' := wX9 T ad gx ++ wX8 T (ad 1) gow ++ wX3 T (ad 5) gn) [.int 0] ⟨hx, hb, hml, hown, hts⟩ (pX8_openTies l D T X (ad 1) H.size gow 0 v1 hc13) (cwV 1 hts gX9_layOpenTies_X8_openTies rfl rfl rfl (by decide +kernel) ⟨Nat.le_of_ble_eq_true rfl, Nat.le_of_ble_eq_true rfl⟩) hK hP hD hS hA hX [1, 2, 3, 4, 5, 6, 7, 8, 9, 10, 11] [0, 12, 13] [0, 3, 4, 5, 6, 7, 8, 9, 10, 11, 12, 13, 1, 2] rfl rfl rfl rfl 0 rfl rfl rfl hl.1 rfl (Nat.le_of_ble_eq_true rfl) dX9_layOpenTies_13 ⟨Nat.zero_le _, Nat.zero_le _⟩ (fun H locs hP hD hS => ?_)
  obtain ⟨gn_2, hc16, hf⟩ := zB1_ok hf
  refine zCallVJV (wr := wX9 T ad gx) (ws' := wX9 T ad gx ++ wX8 T (ad 1) gow ++ wX3 T (ad 5) gn_2) [.ref (ad 1 0), .int v1] ⟨hx, hb, hml, hown, hts⟩ (pX3_lay l D T X (ad 5) (ad 1) H.size gn gow v1 gn_2 hc16) (cwV 2 hts gX9_layOpenTies_X3_lay rfl rfl rfl (by decide +kernel) ⟨Nat.le_of_ble_eq_true rfl, Nat.le_of_ble_eq_true rfl⟩) hK hP hD hS hA hX [12, 13, 1, 2, 3, 4, 5, 6, 7, 8, 9, 10, 11] [0] [0, 3, 4, 5, 6, 7, 8, 9, 10, 11, 12, 13, 1, 2] rfl rfl rfl rfl 0 rfl rfl rfl hl.1 rfl (Nat.le_of_ble_eq_true rfl) dX9_layOpenTies_16 ⟨Nat.zero_le _, Nat.zero_le _⟩ (fun H locs hP hD hS => ?_)
  obtain ⟨q1, -⟩ := zI1 hf
  subst q1
  exact zRetV hQ hx hb hr hlocks hA0 hK hP hD hS dX9_layOpenTies_19
set_option maxHeartbeats 4000000 in
set_option maxRecDepth 100000 in
theorem pX9_joined (l : Launch) (D : va_G) (T : Nat → ClassId) (X : zFP) (ad : Nat → Nat → Nat) (sz : Nat) (gx : zM) (gow : zM) (gn : zM) (a1 : Int32) (r : Int32) (ngn : zM) (hf : fX9_joined gx gow gn a1 = some (r, ngn)) : Met l yX9_joined wsX9_joined rX9_joined (zPre D T X [.ref (ad 0 0), .int a1] (wX9 T ad gx ++ wX8 T (ad 1) gow ++ wX3 T (ad 5) gn) sz) (zQi D T r (wX9 T ad gx ++ wX8 T (ad 1) gow ++ wX3 T (ad 5) ngn) (wX9 T ad gx ++ wX8 T (ad 1) gow ++ wX3 T (ad 5) gn) sz) 0 0 (va_A (wX9 T ad gx ++ wX8 T (ad 1) gow ++ wX3 T (ad 5) gn) sz) := by
  unfold fX9_joined at hf
  refine zStart [(0, .ref (ad 0 0)), (1, .int a1)] (by decide) rfl (Nat.le_of_ble_eq_true rfl) rfl ?_
  intro p e s m args below meth c A Q ls hx hb hr hml hown hlocks hts hsz hA0 hQ hA hK hX hP hD hS hl
  replace hown : s.vm.findClass RX9 = some m.cls := hown
  have hH := hsz
  have hiX9 : ∀ w ∈ u_ws RX9 TX9 12, w ∈ wsX9_joined := fun w h => List.mem_cons_of_mem _ (List.mem_append_left _ (List.mem_append_left _ (List.mem_append_right _ (h))))
  obtain ⟨H, hHe⟩ : ∃ H : Heap, H = s.heap := ⟨_, rfl⟩
  obtain ⟨locs, hLe⟩ : ∃ L : List Loc, L = [] := ⟨_, rfl⟩
  replace hP : va_P D vwCl (wX9 T ad gx ++ wX8 T (ad 1) gow ++ wX3 T (ad 5) gn) H := by rw [hHe]; exact hP
  replace hS : va_S A s.heap H locs := by rw [hHe, hLe]; exact hS
  suffices hgo : W p l e rX9_joined s m args below meth c H locs 0 0 Q (F0 m 0 ls []) by rw [hHe, hLe] at hgo; exact hgo
  clear hHe hLe
  refine lv_aload_n hx hb dX9_joined_0 rfl (lv_at hl 0 rfl) ?_
  refine zGet (ci := 9) (C := RX9) (F := TX9) (N := 12) (v := .ref (ad 1 0)) hx hb hts hiX9 hown hK hP 0 0 1 rfl rfl (by decide) rfl rfl rfl dX9_joined_1 ?_
  refine lv_iload_n hx hb dX9_joined_4 rfl (lv_at hl 1 rfl) ?_
  obtain ⟨v1, hc5, hf⟩ := zB1_ok hf
  refine zCallVJI (wr := wX9 T ad gx ++ wX3 T (ad 5) gn) (ws' := wX9 T ad gx ++ wX8 T (ad 1) gow ++ wX3 T (ad 5) gn) [.int a1] ⟨hx, hb, hml, hown, hts⟩ (pX8_hasPerson l D T X (ad 1) H.size gow a1 v1 hc5) (cwV 1 hts gX9_joined_X8_hasPerson rfl rfl rfl (by decide +kernel) ⟨Nat.le_of_ble_eq_true rfl, Nat.le_of_ble_eq_true rfl⟩) hK hP hD hS hA hX [1, 2, 3, 4, 5, 6, 7, 8, 9, 10, 11] [0, 12, 13] [0, 3, 4, 5, 6, 7, 8, 9, 10, 11, 12, 13, 1, 2] rfl rfl rfl rfl 0 rfl rfl rfl hl.1 rfl (Nat.le_of_ble_eq_true rfl) dX9_joined_5 ⟨Nat.zero_le _, Nat.zero_le _⟩ (fun H locs hP hD hS => ?_)
  refine lv_if_ne (tgt := 13) hx hb dX9_joined_8 (by decide) (fun hc => ?_) (fun hc => ?_)
  · replace hf := zIf_f hc hf
    refine lv_aload_n hx hb dX9_joined_13 rfl (lv_at hl 0 rfl) ?_
    obtain ⟨gn_2, hc14, hf⟩ := zB1_ok hf
    refine zCallVEV [] ⟨hx, hb, hml, hown, hts⟩ (pX9_layOpenTies l D T X ad H.size gx gow gn gn_2 hc14) (cwV 0 hts gX9_joined_X9_layOpenTies rfl rfl rfl (by decide +kernel) ⟨Nat.le_of_ble_eq_true rfl, Nat.le_of_ble_eq_true rfl⟩) hK hP hD hS hA hX 0 rfl rfl rfl hl.1 rfl (Nat.le_of_ble_eq_true rfl) dX9_joined_14 ⟨Nat.zero_le _, Nat.zero_le _⟩ (fun H locs hP hD hS => ?_)
    refine lv_aload_n hx hb dX9_joined_17 rfl (lv_at hl 0 rfl) ?_
    refine zGet (ci := 9) (C := RX9) (F := TX9) (N := 12) (v := .ref (ad 5 0)) hx hb hts hiX9 hown hK hP 0 5 2 rfl rfl (by decide) rfl rfl rfl dX9_joined_18 ?_
    refine lv_iconst (v := 1) hx hb dX9_joined_21 (by decide) ?_
    refine lv_iload_n hx hb dX9_joined_22 rfl (lv_at hl 1 rfl) ?_
    refine lv_ishl hx hb dX9_joined_23 ?_
    refine lv_aload_n hx hb dX9_joined_24 rfl (lv_at hl 0 rfl) ?_
    refine zGet (ci := 9) (C := RX9) (F := TX9) (N := 12) (v := .ref (ad 1 0)) hx hb hts hiX9 hown hK hP 0 0 1 rfl rfl (by decide) rfl rfl rfl dX9_joined_25 ?_
    obtain ⟨v3, hc28, hf⟩ := zB1_ok hf
    refine zCallVJI (wr := wX9 T ad gx ++ wX3 T (ad 5) gn_2) (ws' := wX9 T ad gx ++ wX8 T (ad 1) gow ++ wX3 T (ad 5) gn_2) [] ⟨hx, hb, hml, hown, hts⟩ (pX8_everybody l D T X (ad 1) H.size gow v3 hc28) (cwV 0 hts gX9_joined_X8_everybody rfl rfl rfl (by decide +kernel) ⟨Nat.le_of_ble_eq_true rfl, Nat.le_of_ble_eq_true rfl⟩) hK hP hD hS hA hX [1, 2, 3, 4, 5, 6, 7, 8, 9, 10, 11] [0, 12, 13] [0, 3, 4, 5, 6, 7, 8, 9, 10, 11, 12, 13, 1, 2] rfl rfl rfl rfl 0 rfl rfl rfl hl.1 rfl (Nat.le_of_ble_eq_true rfl) dX9_joined_28 ⟨Nat.zero_le _, Nat.zero_le _⟩ (fun H locs hP hD hS => ?_)
    obtain ⟨v4, hc31, hf⟩ := zB1_ok hf
    refine zCallVJI (wr := wX9 T ad gx ++ wX8 T (ad 1) gow) (ws' := wX9 T ad gx ++ wX8 T (ad 1) gow ++ wX3 T (ad 5) gn_2) [.int ((1 : Int32) <<< (a1 &&& 31)), .int v3] ⟨hx, hb, hml, hown, hts⟩ (pX3_flood l D T X (ad 5) H.size gn_2 ((1 : Int32) <<< (a1 &&& 31)) v3 v4 hc31) (cwV 2 hts gX9_joined_X3_flood rfl rfl rfl (by decide +kernel) ⟨Nat.le_of_ble_eq_true rfl, Nat.le_of_ble_eq_true rfl⟩) hK hP hD hS hA hX [12, 13] [0, 1, 2, 3, 4, 5, 6, 7, 8, 9, 10, 11] [0, 1, 2, 3, 4, 5, 6, 7, 8, 9, 10, 11, 12, 13] rfl rfl rfl rfl 0 rfl rfl rfl hl.1 rfl (Nat.le_of_ble_eq_true rfl) dX9_joined_31 ⟨Nat.zero_le _, Nat.zero_le _⟩ (fun H locs hP hD hS => ?_)
    obtain ⟨q1, q2⟩ := zI2 hf
    subst q1
    subst q2
    exact zRetI hQ hx hb hr hlocks hA0 hK hP hD hS rfl dX9_joined_34
  · replace hf := zIf_t hc hf
    refine lv_iconst (v := (-1)) hx hb dX9_joined_11 (by decide) ?_
    obtain ⟨q1, q2⟩ := zI2 hf
    subst q1
    subst q2
    exact zRetI hQ hx hb hr hlocks hA0 hK hP hD hS rfl dX9_joined_12
set_option maxHeartbeats 4000000 in
set_option maxRecDepth 100000 in
theorem pX9_isEither (l : Launch) (D : va_G) (T : Nat → ClassId) (X : zFP) (sz : Nat) (a1 : Int32) (r : Int32) (hf : fX9_isEither a1 = some r) : Met l yX9_isEither wsX9_isEither rX9_isEither (zPre D T X [.int a1] ([]) sz) (zQi D T r ([]) ([]) sz) 0 0 (va_A ([]) sz) := by
  unfold fX9_isEither at hf
  refine zStart [(0, .int a1)] (by decide) rfl (Nat.le_of_ble_eq_true rfl) rfl ?_
  intro p e s m args below meth c A Q ls hx hb hr hml hown hlocks hts hsz hA0 hQ hA hK hX hP hD hS hl
  replace hown : s.vm.findClass RX9 = some m.cls := hown
  have hH := hsz
  obtain ⟨H, hHe⟩ : ∃ H : Heap, H = s.heap := ⟨_, rfl⟩
  obtain ⟨locs, hLe⟩ : ∃ L : List Loc, L = [] := ⟨_, rfl⟩
  replace hP : va_P D vwCl ([]) H := by rw [hHe]; exact hP
  replace hS : va_S A s.heap H locs := by rw [hHe, hLe]; exact hS
  suffices hgo : W p l e rX9_isEither s m args below meth c H locs 0 0 Q (F0 m 0 ls []) by rw [hHe, hLe] at hgo; exact hgo
  clear hHe hLe
  refine lv_iload_n hx hb dX9_isEither_0 rfl (lv_at hl 0 rfl) ?_
  refine lv_if_eq (tgt := 9) hx hb dX9_isEither_1 (by decide) (fun hc => ?_) (fun hc => ?_)
  · replace hf := zIf_t hc hf
    refine lv_iconst (v := 1) hx hb dX9_isEither_9 (by decide) ?_
    refine lv_goto (tgt := 14) hx hb dX9_isEither_10 (by decide) ?_
    obtain ⟨q1, -⟩ := zI1 hf
    subst q1
    exact zRetZ hQ hx hb hr hlocks hA0 hK hP hD hS (by decide) rfl dX9_isEither_14
  · replace hf := zIf_f hc hf
    refine lv_iload_n hx hb dX9_isEither_4 rfl (lv_at hl 0 rfl) ?_
    refine lv_iconst (v := 1) hx hb dX9_isEither_5 (by decide) ?_
    refine lv_icmp_ne (tgt := 13) hx hb dX9_isEither_6 (by decide) (fun hc => ?_) (fun hc => ?_)
    · replace hf := zIf_f hc hf
      refine lv_iconst (v := 0) hx hb dX9_isEither_13 (by decide) ?_
      obtain ⟨q1, -⟩ := zI1 hf
      subst q1
      exact zRetZ hQ hx hb hr hlocks hA0 hK hP hD hS (by decide) rfl dX9_isEither_14
    · replace hf := zIf_t hc hf
      refine lv_iconst (v := 1) hx hb dX9_isEither_9 (by decide) ?_
      refine lv_goto (tgt := 14) hx hb dX9_isEither_10 (by decide) ?_
      obtain ⟨q1, -⟩ := zI1 hf
      subst q1
      exact zRetZ hQ hx hb hr hlocks hA0 hK hP hD hS (by decide) rfl dX9_isEither_14
set_option maxHeartbeats 4000000 in
set_option maxRecDepth 100000 in
theorem pX9_sets (l : Launch) (D : va_G) (T : Nat → ClassId) (X : zFP) (ad : Nat → Nat → Nat) (sz : Nat) (gx : zM) (gow : zM) (gn : zM) (a1 : Int32) (r : Int32) (ngn : zM) (hf : fX9_sets gx gow gn a1 = some (r, ngn)) : Met l yX9_sets wsX9_sets rX9_sets (zPre D T X [.ref (ad 0 0), .int a1] (wX9 T ad gx ++ wX8 T (ad 1) gow ++ wX3 T (ad 5) gn) sz) (zQi D T r (wX9 T ad gx ++ wX8 T (ad 1) gow ++ wX3 T (ad 5) ngn) (wX9 T ad gx ++ wX8 T (ad 1) gow ++ wX3 T (ad 5) gn) sz) 0 0 (va_A (wX9 T ad gx ++ wX8 T (ad 1) gow ++ wX3 T (ad 5) gn) sz) := by
  unfold fX9_sets at hf
  refine zStart [(0, .ref (ad 0 0)), (1, .int a1)] (by decide) rfl (Nat.le_of_ble_eq_true rfl) rfl ?_
  intro p e s m args below meth c A Q ls hx hb hr hml hown hlocks hts hsz hA0 hQ hA hK hX hP hD hS hl
  replace hown : s.vm.findClass RX9 = some m.cls := hown
  have hH := hsz
  have hiX9 : ∀ w ∈ u_ws RX9 TX9 12, w ∈ wsX9_sets := fun w h => List.mem_cons_of_mem _ (List.mem_append_left _ (List.mem_append_left _ (List.mem_append_right _ (h))))
  obtain ⟨H, hHe⟩ : ∃ H : Heap, H = s.heap := ⟨_, rfl⟩
  obtain ⟨locs, hLe⟩ : ∃ L : List Loc, L = [] := ⟨_, rfl⟩
  replace hP : va_P D vwCl (wX9 T ad gx ++ wX8 T (ad 1) gow ++ wX3 T (ad 5) gn) H := by rw [hHe]; exact hP
  replace hS : va_S A s.heap H locs := by rw [hHe, hLe]; exact hS
  suffices hgo : W p l e rX9_sets s m args below meth c H locs 0 0 Q (F0 m 0 ls []) by rw [hHe, hLe] at hgo; exact hgo
  clear hHe hLe
  refine lv_iload_n hx hb dX9_sets_0 rfl (lv_at hl 1 rfl) ?_
  obtain ⟨v1, hc1, hf⟩ := zB1_ok hf
  refine zCallS0I [.int a1] ⟨hx, hb, hml, hown, hts⟩ (pX9_isEither l D T X H.size a1 v1 hc1) (va_cwS 1 hts gX9_sets_X9_isEither rfl rfl rfl (by decide +kernel) ⟨Nat.le_of_ble_eq_true rfl, Nat.le_of_ble_eq_true rfl⟩) hK hP hD hS hA hX rfl hl.1 rfl (Nat.le_of_ble_eq_true rfl) dX9_sets_1 ⟨Nat.zero_le _, Nat.zero_le _⟩ (fun H locs hP hD hS => ?_)
  refine lv_if_ne (tgt := 9) hx hb dX9_sets_4 (by decide) (fun hc => ?_) (fun hc => ?_)
  · replace hf := zIf_f hc hf
    refine lv_aload_n hx hb dX9_sets_9 rfl (lv_at hl 0 rfl) ?_
    obtain ⟨gn_2, hc10, hf⟩ := zB1_ok hf
    refine zCallVEV [] ⟨hx, hb, hml, hown, hts⟩ (pX9_layOpenTies l D T X ad H.size gx gow gn gn_2 hc10) (cwV 0 hts gX9_sets_X9_layOpenTies rfl rfl rfl (by decide +kernel) ⟨Nat.le_of_ble_eq_true rfl, Nat.le_of_ble_eq_true rfl⟩) hK hP hD hS hA hX 0 rfl rfl rfl hl.1 rfl (Nat.le_of_ble_eq_true rfl) dX9_sets_10 ⟨Nat.zero_le _, Nat.zero_le _⟩ (fun H locs hP hD hS => ?_)
    refine lv_iload_n hx hb dX9_sets_13 rfl (lv_at hl 1 rfl) ?_
    refine lv_if_ne (tgt := 34) hx hb dX9_sets_14 (by decide) (fun hc => ?_) (fun hc => ?_)
    · replace hf := zIf_f hc hf
      refine lv_aload_n hx hb dX9_sets_34 rfl (lv_at hl 0 rfl) ?_
      refine zGet (ci := 9) (C := RX9) (F := TX9) (N := 12) (v := .ref (ad 5 0)) hx hb hts hiX9 hown hK hP 0 5 1 rfl rfl (by decide) rfl rfl rfl dX9_sets_35 ?_
      refine lv_aload_n hx hb dX9_sets_38 rfl (lv_at hl 0 rfl) ?_
      refine zGet (ci := 9) (C := RX9) (F := TX9) (N := 12) (v := .ref (ad 1 0)) hx hb hts hiX9 hown hK hP 0 0 2 rfl rfl (by decide) rfl rfl rfl dX9_sets_39 ?_
      obtain ⟨v3, hc42, hf⟩ := zB1_ok hf
      refine zCallVJI (wr := wX9 T ad gx ++ wX3 T (ad 5) gn_2) (ws' := wX9 T ad gx ++ wX8 T (ad 1) gow ++ wX3 T (ad 5) gn_2) [] ⟨hx, hb, hml, hown, hts⟩ (pX8_everybody l D T X (ad 1) H.size gow v3 hc42) (cwV 0 hts gX9_sets_X8_everybody rfl rfl rfl (by decide +kernel) ⟨Nat.le_of_ble_eq_true rfl, Nat.le_of_ble_eq_true rfl⟩) hK hP hD hS hA hX [1, 2, 3, 4, 5, 6, 7, 8, 9, 10, 11] [0, 12, 13] [0, 3, 4, 5, 6, 7, 8, 9, 10, 11, 12, 13, 1, 2] rfl rfl rfl rfl 0 rfl rfl rfl hl.1 rfl (Nat.le_of_ble_eq_true rfl) dX9_sets_42 ⟨Nat.zero_le _, Nat.zero_le _⟩ (fun H locs hP hD hS => ?_)
      obtain ⟨v4, hc45, hf⟩ := zB1_ok hf
      refine zCallVJI (wr := wX9 T ad gx ++ wX8 T (ad 1) gow) (ws' := wX9 T ad gx ++ wX8 T (ad 1) gow ++ wX3 T (ad 5) gn_2) [.int v3] ⟨hx, hb, hml, hown, hts⟩ (pX3_greatestSet l D T X (ad 5) H.size gn_2 v3 v4 hc45) (cwV 1 hts gX9_sets_X3_greatestSet rfl rfl rfl (by decide +kernel) ⟨Nat.le_of_ble_eq_true rfl, Nat.le_of_ble_eq_true rfl⟩) hK hP hD hS hA hX [12, 13] [0, 1, 2, 3, 4, 5, 6, 7, 8, 9, 10, 11] [0, 1, 2, 3, 4, 5, 6, 7, 8, 9, 10, 11, 12, 13] rfl rfl rfl rfl 0 rfl rfl rfl hl.1 rfl (Nat.le_of_ble_eq_true rfl) dX9_sets_45 ⟨Nat.zero_le _, Nat.zero_le _⟩ (fun H locs hP hD hS => ?_)
      obtain ⟨q1, q2⟩ := zI2 hf
      subst q1
      subst q2
      exact zRetI hQ hx hb hr hlocks hA0 hK hP hD hS rfl dX9_sets_48
    · replace hf := zIf_t hc hf
      refine lv_aload_n hx hb dX9_sets_17 rfl (lv_at hl 0 rfl) ?_
      refine zGet (ci := 9) (C := RX9) (F := TX9) (N := 12) (v := .ref (ad 5 0)) hx hb hts hiX9 hown hK hP 0 5 1 rfl rfl (by decide) rfl rfl rfl dX9_sets_18 ?_
      refine lv_aload_n hx hb dX9_sets_21 rfl (lv_at hl 0 rfl) ?_
      refine zGet (ci := 9) (C := RX9) (F := TX9) (N := 12) (v := .ref (ad 1 0)) hx hb hts hiX9 hown hK hP 0 0 2 rfl rfl (by decide) rfl rfl rfl dX9_sets_22 ?_
      obtain ⟨v5, hc25, hf⟩ := zB1_ok hf
      refine zCallVJI (wr := wX9 T ad gx ++ wX3 T (ad 5) gn_2) (ws' := wX9 T ad gx ++ wX8 T (ad 1) gow ++ wX3 T (ad 5) gn_2) [] ⟨hx, hb, hml, hown, hts⟩ (pX8_everybody l D T X (ad 1) H.size gow v5 hc25) (cwV 0 hts gX9_sets_X8_everybody rfl rfl rfl (by decide +kernel) ⟨Nat.le_of_ble_eq_true rfl, Nat.le_of_ble_eq_true rfl⟩) hK hP hD hS hA hX [1, 2, 3, 4, 5, 6, 7, 8, 9, 10, 11] [0, 12, 13] [0, 3, 4, 5, 6, 7, 8, 9, 10, 11, 12, 13, 1, 2] rfl rfl rfl rfl 0 rfl rfl rfl hl.1 rfl (Nat.le_of_ble_eq_true rfl) dX9_sets_25 ⟨Nat.zero_le _, Nat.zero_le _⟩ (fun H locs hP hD hS => ?_)
      obtain ⟨v6, hc28, hf⟩ := zB1_ok hf
      refine zCallVJI (wr := wX9 T ad gx ++ wX8 T (ad 1) gow) (ws' := wX9 T ad gx ++ wX8 T (ad 1) gow ++ wX3 T (ad 5) gn_2) [.int v5] ⟨hx, hb, hml, hown, hts⟩ (pX3_howManySets l D T X (ad 5) H.size gn_2 v5 v6 hc28) (cwV 1 hts gX9_sets_X3_howManySets rfl rfl rfl (by decide +kernel) ⟨Nat.le_of_ble_eq_true rfl, Nat.le_of_ble_eq_true rfl⟩) hK hP hD hS hA hX [12, 13] [0, 1, 2, 3, 4, 5, 6, 7, 8, 9, 10, 11] [0, 1, 2, 3, 4, 5, 6, 7, 8, 9, 10, 11, 12, 13] rfl rfl rfl rfl 0 rfl rfl rfl hl.1 rfl (Nat.le_of_ble_eq_true rfl) dX9_sets_28 ⟨Nat.zero_le _, Nat.zero_le _⟩ (fun H locs hP hD hS => ?_)
      refine lv_goto (tgt := 48) hx hb dX9_sets_31 (by decide) ?_
      obtain ⟨q1, q2⟩ := zI2 hf
      subst q1
      subst q2
      exact zRetI hQ hx hb hr hlocks hA0 hK hP hD hS rfl dX9_sets_48
  · replace hf := zIf_t hc hf
    refine lv_iconst (v := (-1)) hx hb dX9_sets_7 (by decide) ?_
    obtain ⟨q1, q2⟩ := zI2 hf
    subst q1
    subst q2
    exact zRetI hQ hx hb hr hlocks hA0 hK hP hD hS rfl dX9_sets_8
set_option maxHeartbeats 4000000 in
set_option maxRecDepth 100000 in
theorem pX9_taleRefusal (l : Launch) (D : va_G) (T : Nat → ClassId) (X : zFP) (ad : Nat → Nat → Nat) (sz : Nat) (gx : zM) (gow : zM) (r : Int32) (hf : fX9_taleRefusal gx gow = some r) : Met l yX9_taleRefusal wsX9_taleRefusal rX9_taleRefusal (zPre D T X [.ref (ad 0 0)] (wX9 T ad gx ++ wX8 T (ad 1) gow) sz) (zQi D T r (wX9 T ad gx ++ wX8 T (ad 1) gow) (wX9 T ad gx ++ wX8 T (ad 1) gow) sz) 0 0 (va_A (wX9 T ad gx ++ wX8 T (ad 1) gow) sz) := by
  unfold fX9_taleRefusal at hf
  refine zStart [(0, .ref (ad 0 0))] (by decide) rfl (Nat.le_of_ble_eq_true rfl) rfl ?_
  intro p e s m args below meth c A Q ls hx hb hr hml hown hlocks hts hsz hA0 hQ hA hK hX hP hD hS hl
  replace hown : s.vm.findClass RX9 = some m.cls := hown
  have hH := hsz
  have hiX9 : ∀ w ∈ u_ws RX9 TX9 12, w ∈ wsX9_taleRefusal := fun w h => List.mem_cons_of_mem _ (List.mem_append_left _ (List.mem_append_right _ (h)))
  obtain ⟨H, hHe⟩ : ∃ H : Heap, H = s.heap := ⟨_, rfl⟩
  obtain ⟨locs, hLe⟩ : ∃ L : List Loc, L = [] := ⟨_, rfl⟩
  replace hP : va_P D vwCl (wX9 T ad gx ++ wX8 T (ad 1) gow) H := by rw [hHe]; exact hP
  replace hS : va_S A s.heap H locs := by rw [hHe, hLe]; exact hS
  suffices hgo : W p l e rX9_taleRefusal s m args below meth c H locs 0 0 Q (F0 m 0 ls []) by rw [hHe, hLe] at hgo; exact hgo
  clear hHe hLe
  refine lv_aload_n hx hb dX9_taleRefusal_0 rfl (lv_at hl 0 rfl) ?_
  refine zGet (ci := 9) (C := RX9) (F := TX9) (N := 12) (v := .ref (ad 1 0)) hx hb hts hiX9 hown hK hP 0 0 1 rfl rfl (by decide) rfl rfl rfl dX9_taleRefusal_1 ?_
  refine lv_aload_n hx hb dX9_taleRefusal_4 rfl (lv_at hl 0 rfl) ?_
  refine zGet (ci := 9) (C := RX9) (F := TX9) (N := 12) (v := .ref (ad 1 0)) hx hb hts hiX9 hown hK hP 0 0 1 rfl rfl (by decide) rfl rfl rfl dX9_taleRefusal_5 ?_
  obtain ⟨v1, hc8, hf⟩ := zB1_ok hf
  refine zCallVJI (wr := wX9 T ad gx) (ws' := wX9 T ad gx ++ wX8 T (ad 1) gow) [] ⟨hx, hb, hml, hown, hts⟩ (pX8_everybody l D T X (ad 1) H.size gow v1 hc8) (cwV 0 hts gX9_taleRefusal_X8_everybody rfl rfl rfl (by decide +kernel) ⟨Nat.le_of_ble_eq_true rfl, Nat.le_of_ble_eq_true rfl⟩) hK hP hD hS hA hX [1, 2, 3, 4, 5, 6, 7, 8, 9, 10, 11] [0] [0, 1, 2, 3, 4, 5, 6, 7, 8, 9, 10, 11] rfl rfl rfl rfl 0 rfl rfl rfl hl.1 rfl (Nat.le_of_ble_eq_true rfl) dX9_taleRefusal_8 ⟨Nat.zero_le _, Nat.zero_le _⟩ (fun H locs hP hD hS => ?_)
  obtain ⟨v2, hc11, hf⟩ := zB1_ok hf
  refine zCallVJI (wr := wX9 T ad gx) (ws' := wX9 T ad gx ++ wX8 T (ad 1) gow) [.int v1] ⟨hx, hb, hml, hown, hts⟩ (pX8_weightOf l D T X (ad 1) H.size gow v1 v2 hc11) (cwV 1 hts gX9_taleRefusal_X8_weightOf rfl rfl rfl (by decide +kernel) ⟨Nat.le_of_ble_eq_true rfl, Nat.le_of_ble_eq_true rfl⟩) hK hP hD hS hA hX [1, 2, 3, 4, 5, 6, 7, 8, 9, 10, 11] [0] [0, 1, 2, 3, 4, 5, 6, 7, 8, 9, 10, 11] rfl rfl rfl rfl 0 rfl rfl rfl hl.1 rfl (Nat.le_of_ble_eq_true rfl) dX9_taleRefusal_11 ⟨Nat.zero_le _, Nat.zero_le _⟩ (fun H locs hP hD hS => ?_)
  refine lv_if_ne (tgt := 20) hx hb dX9_taleRefusal_14 (by decide) (fun hc => ?_) (fun hc => ?_)
  · replace hf := zIf_f hc hf
    refine lv_aload_n hx hb dX9_taleRefusal_20 rfl (lv_at hl 0 rfl) ?_
    refine zGet (ci := 9) (C := RX9) (F := TX9) (N := 12) (v := .ref (ad 1 0)) hx hb hts hiX9 hown hK hP 0 0 1 rfl rfl (by decide) rfl rfl rfl dX9_taleRefusal_21 ?_
    obtain ⟨v3, hc24, hf⟩ := zB1_ok hf
    refine zCallVJI (wr := wX9 T ad gx) (ws' := wX9 T ad gx ++ wX8 T (ad 1) gow) [] ⟨hx, hb, hml, hown, hts⟩ (pX8_unsureTies l D T X (ad 1) H.size gow v3 hc24) (cwV 0 hts gX9_taleRefusal_X8_unsureTies rfl rfl rfl (by decide +kernel) ⟨Nat.le_of_ble_eq_true rfl, Nat.le_of_ble_eq_true rfl⟩) hK hP hD hS hA hX [1, 2, 3, 4, 5, 6, 7, 8, 9, 10, 11] [0] [0, 1, 2, 3, 4, 5, 6, 7, 8, 9, 10, 11] rfl rfl rfl rfl 0 rfl rfl rfl hl.1 rfl (Nat.le_of_ble_eq_true rfl) dX9_taleRefusal_24 ⟨Nat.zero_le _, Nat.zero_le _⟩ (fun H locs hP hD hS => ?_)
    obtain ⟨v4, hc27, hf⟩ := zB1_ok hf
    refine zCallS0I [.int v3] ⟨hx, hb, hml, hown, hts⟩ (pJ6_bitCount_0f7a4 l D T X H.size v3 v4 hc27) (va_cwS 1 hts gX9_taleRefusal_J6_bitCount_0f7a4 rfl rfl rfl (by decide +kernel) ⟨Nat.le_of_ble_eq_true rfl, Nat.le_of_ble_eq_true rfl⟩) hK hP hD hS hA hX rfl hl.1 rfl (Nat.le_of_ble_eq_true rfl) dX9_taleRefusal_27 ⟨Nat.zero_le _, Nat.zero_le _⟩ (fun H locs hP hD hS => ?_)
    refine lv_bipush (v := 9) hx hb dX9_taleRefusal_30 (by decide) ?_
    refine lv_icmp_le (tgt := 40) hx hb dX9_taleRefusal_32 (by decide) (fun hc => ?_) (fun hc => ?_)
    · replace hf := zIf_t hc hf
      refine lv_iconst (v := 0) hx hb dX9_taleRefusal_40 (by decide) ?_
      obtain ⟨q1, -⟩ := zI1 hf
      subst q1
      exact zRetI hQ hx hb hr hlocks hA0 hK hP hD hS rfl dX9_taleRefusal_41
    · replace hf := zIf_f hc hf
      refine lv_bipush (v := (-4)) hx hb dX9_taleRefusal_35 (by decide) ?_
      refine lv_goto (tgt := 41) hx hb dX9_taleRefusal_37 (by decide) ?_
      obtain ⟨q1, -⟩ := zI1 hf
      subst q1
      exact zRetI hQ hx hb hr hlocks hA0 hK hP hD hS rfl dX9_taleRefusal_41
  · replace hf := zIf_t hc hf
    refine lv_bipush (v := (-3)) hx hb dX9_taleRefusal_17 (by decide) ?_
    obtain ⟨q1, -⟩ := zI1 hf
    subst q1
    exact zRetI hQ hx hb hr hlocks hA0 hK hP hD hS rfl dX9_taleRefusal_19
set_option maxHeartbeats 4000000 in
set_option maxRecDepth 100000 in
theorem pX9_partOf (l : Launch) (D : va_G) (T : Nat → ClassId) (X : zFP) (sz : Nat) (a1 : Int64) (a2 : Int64) (a3 : Int32) (r : Int64) (hf : fX9_partOf a1 a2 a3 = some r) : Met l yX9_partOf wsX9_partOf rX9_partOf (zPre D T X [.long a1, .long a2, .int a3] ([]) sz) (zQl D T r ([]) ([]) sz) 0 0 (va_A ([]) sz) := by
  unfold fX9_partOf at hf
  refine zStart [(0, .long a1), (2, .long a2), (4, .int a3)] (by decide) rfl (Nat.le_of_ble_eq_true rfl) rfl ?_
  intro p e s m args below meth c A Q ls hx hb hr hml hown hlocks hts hsz hA0 hQ hA hK hX hP hD hS hl
  replace hown : s.vm.findClass RX9 = some m.cls := hown
  have hH := hsz
  obtain ⟨H, hHe⟩ : ∃ H : Heap, H = s.heap := ⟨_, rfl⟩
  obtain ⟨locs, hLe⟩ : ∃ L : List Loc, L = [] := ⟨_, rfl⟩
  replace hP : va_P D vwCl ([]) H := by rw [hHe]; exact hP
  replace hS : va_S A s.heap H locs := by rw [hHe, hLe]; exact hS
  suffices hgo : W p l e rX9_partOf s m args below meth c H locs 0 0 Q (F0 m 0 ls []) by rw [hHe, hLe] at hgo; exact hgo
  clear hHe hLe
  refine lv_lload_n hx hb dX9_partOf_0 rfl (lv_at hl 0 rfl) ?_
  refine lv_lstore (lv' := [(5, .long a1), (0, .long a1), (2, .long a2), (4, .int a3)]) hx hb dX9_partOf_1 hl (by decide) rfl (fun ls hl => ?_)
  refine lv_lload_n hx hb dX9_partOf_3 rfl (lv_at hl 2 rfl) ?_
  refine lv_lstore (lv' := [(7, .long a2), (5, .long a1), (0, .long a1), (2, .long a2), (4, .int a3)]) hx hb dX9_partOf_4 hl (by decide) rfl (fun ls hl => ?_)
  refine lv_iconst (v := 0) hx hb dX9_partOf_6 (by decide) ?_
  refine lv_istore (lv' := [(9, .int 0), (7, .long a2), (5, .long a1), (0, .long a1), (2, .long a2), (4, .int a3)]) hx hb dX9_partOf_7 hl (by decide) rfl (fun ls hl => ?_)
  obtain ⟨ex, hlp, hf⟩ := zB1_ok hf
  have hE9_45 : ∀ (v4 : Int64) , ex = v4 → ∀ (H : Heap) (locs : List Loc) (ls : Array Slot), va_P D vwCl ([]) H → va_D A ([]) → va_S A s.heap H locs → lv_has ls 12 [(0, .long a1), (2, .long a2), (4, .int a3), (5, .long v4)] → W p l e rX9_partOf s m args below meth c H locs 0 0 Q (F0 m 45 ls []) := by
    intro v4 hex H locs ls hP hD hS hl
    have hf := zEx1 hex hf
    refine lv_lload hx hb dX9_partOf_45 (lv_at hl 3 rfl) ?_
    refine lv_lconst (v := 0) hx hb dX9_partOf_47 (by decide) ?_
    refine W.lcmp hx hb dX9_partOf_48 ?_
    refine lv_if_ne (tgt := 56) hx hb dX9_partOf_49 (by decide) (fun hc => ?_) (fun hc => ?_)
    · replace hf := zIf_f hc hf
      refine lv_iload hx hb dX9_partOf_56 (lv_at hl 2 rfl) ?_
      refine lv_if_ne (tgt := 65) hx hb dX9_partOf_58 (by decide) (fun hc => ?_) (fun hc => ?_)
      · replace hf := zIf_f hc hf
        refine lv_lload_n hx hb dX9_partOf_65 rfl (lv_at hl 1 rfl) ?_
        refine lv_lload hx hb dX9_partOf_66 (lv_at hl 3 rfl) ?_
        obtain ⟨hg, hf⟩ := zGd_ok hf
        refine lv_ldiv hx hb dX9_partOf_68 (zNzL_ok hg) ?_
        obtain ⟨q1, -⟩ := zI1 hf
        subst q1
        exact zRetL hQ hx hb hr hlocks hA0 hK hP hD hS rfl dX9_partOf_69
      · replace hf := zIf_t hc hf
        refine lv_lload_n hx hb dX9_partOf_61 rfl (lv_at hl 0 rfl) ?_
        refine lv_goto (tgt := 66) hx hb dX9_partOf_62 (by decide) ?_
        refine lv_lload hx hb dX9_partOf_66 (lv_at hl 3 rfl) ?_
        obtain ⟨hg, hf⟩ := zGd_ok hf
        refine lv_ldiv hx hb dX9_partOf_68 (zNzL_ok hg) ?_
        obtain ⟨q1, -⟩ := zI1 hf
        subst q1
        exact zRetL hQ hx hb hr hlocks hA0 hK hP hD hS rfl dX9_partOf_69
    · replace hf := zIf_t hc hf
      refine lv_iload hx hb dX9_partOf_52 (lv_at hl 2 rfl) ?_
      refine lv_i2l hx hb dX9_partOf_54 rfl ?_
      obtain ⟨q1, -⟩ := zI1 hf
      subst q1
      exact zRetL hQ hx hb hr hlocks hA0 hK hP hD hS rfl dX9_partOf_55
  refine zLpS3 (body := fX9_partOf_L9) (b := ex) (fun (v1 : Int64) (v2 : Int64) (v3 : Int32) => ∀ (H : Heap) (locs : List Loc) (ls : Array Slot), va_P D vwCl ([]) H → va_D A ([]) → va_S A s.heap H locs → lv_has ls 12 [(0, .long a1), (2, .long a2), (4, .int a3), (5, .long v1), (7, .long v2), (9, .int v3)] → W p l e rX9_partOf s m args below meth c H locs 0 0 Q (F0 m 9 ls [])) ?_ zFU a1 a2 0 hlp H locs ls hP hD hS (lv_sub hl [3, 4, 5, 2, 1, 0] rfl)
  intro v1 v2 v3 z hf hzz H locs ls hP hD hS hl
  unfold fX9_partOf_L9 at hf
  replace hf := zUk3 hf
  refine lv_iload hx hb dX9_partOf_9 (lv_at hl 5 rfl) ?_
  refine lv_sipush (v := 200) hx hb dX9_partOf_11 (by decide) ?_
  refine lv_icmp_ge (tgt := 45) hx hb dX9_partOf_14 (by decide) (fun hc => ?_) (fun hc => ?_)
  · replace hf := zIf_t hc hf
    cases hf
    exact hE9_45 v1 hzz.symm H locs ls hP hD hS (lv_sub hl [0, 1, 2, 3] rfl)
  · replace hf := zIf_f hc hf
    refine lv_lload hx hb dX9_partOf_17 (lv_at hl 4 rfl) ?_
    refine lv_lconst (v := 0) hx hb dX9_partOf_19 (by decide) ?_
    refine W.lcmp hx hb dX9_partOf_20 ?_
    refine lv_if_eq (tgt := 45) hx hb dX9_partOf_21 (by decide) (fun hc => ?_) (fun hc => ?_)
    · replace hf := zIf_t hc hf
      cases hf
      exact hE9_45 v1 hzz.symm H locs ls hP hD hS (lv_sub hl [0, 1, 2, 3] rfl)
    · replace hf := zIf_f hc hf
      refine lv_lload hx hb dX9_partOf_24 (lv_at hl 3 rfl) ?_
      refine lv_lload hx hb dX9_partOf_26 (lv_at hl 4 rfl) ?_
      obtain ⟨hg, hf⟩ := zGd_ok hf
      refine lv_lrem hx hb dX9_partOf_28 (zNzL_ok hg) ?_
      refine lv_topl (fun v5 ev5 => ?_)
      replace hf := zLt_at ev5 hf
      refine lv_lstore (lv' := [(10, .long v5), (0, .long a1), (2, .long a2), (4, .int a3), (5, .long v1), (7, .long v2), (9, .int v3)]) hx hb dX9_partOf_29 hl (by decide) rfl (fun ls hl => ?_)
      refine lv_lload hx hb dX9_partOf_31 (lv_at hl 5 rfl) ?_
      refine lv_lstore (lv' := [(5, .long v2), (10, .long v5), (0, .long a1), (2, .long a2), (4, .int a3), (7, .long v2), (9, .int v3)]) hx hb dX9_partOf_33 hl (by decide) rfl (fun ls hl => ?_)
      refine lv_lload hx hb dX9_partOf_35 (lv_at hl 1 rfl) ?_
      refine lv_lstore (lv' := [(7, .long v5), (5, .long v2), (10, .long v5), (0, .long a1), (2, .long a2), (4, .int a3), (9, .int v3)]) hx hb dX9_partOf_37 hl (by decide) rfl (fun ls hl => ?_)
      obtain ⟨v6, ev6⟩ : ∃ y : Int32, y = v3 + 1 := ⟨_, rfl⟩
      replace hf := zLt_at ev6 hf
      refine lv_iinc (v := v6) (lv' := [(9, .int v6), (7, .long v5), (5, .long v2), (10, .long v5), (0, .long a1), (2, .long a2), (4, .int a3)]) hx hb dX9_partOf_39 hl (k := 6) rfl (by rw [ev6]; rfl) (by decide) rfl (fun ls hl => ?_)
      refine lv_goto (tgt := 9) hx hb dX9_partOf_42 (by decide) ?_
      cases hf
      exact hzz H locs ls hP hD hS (lv_sub hl [4, 5, 6, 2, 1, 0] rfl)
set_option maxHeartbeats 4000000 in
set_option maxRecDepth 100000 in
theorem pX9_chance (l : Launch) (D : va_G) (T : Nat → ClassId) (X : zFP) (ad : Nat → Nat → Nat) (sz : Nat) (gx : zM) (gow : zM) (gn : zM) (gl : zM) (a1 : Int32) (a2 : Int32) (r : Int32) (ngn : zM) (ngl : zM) (hf : fX9_chance gx gow gn gl a1 a2 = some (r, ngn, ngl)) : Met l yX9_chance wsX9_chance rX9_chance (zPre D T X [.ref (ad 0 0), .int a1, .int a2] (wX9 T ad gx ++ wX8 T (ad 1) gow ++ wX3 T (ad 5) gn ++ wX6 T (ad 6) gl) sz) (zQi D T r (wX9 T ad gx ++ wX8 T (ad 1) gow ++ wX3 T (ad 5) ngn ++ wX6 T (ad 6) ngl) (wX9 T ad gx ++ wX8 T (ad 1) gow ++ wX3 T (ad 5) gn ++ wX6 T (ad 6) gl) sz) 0 0 (va_A (wX9 T ad gx ++ wX8 T (ad 1) gow ++ wX3 T (ad 5) gn ++ wX6 T (ad 6) gl) sz) := by
  unfold fX9_chance at hf
  refine zStart [(0, .ref (ad 0 0)), (1, .int a1), (2, .int a2)] (by decide) rfl (Nat.le_of_ble_eq_true rfl) rfl ?_
  intro p e s m args below meth c A Q ls hx hb hr hml hown hlocks hts hsz hA0 hQ hA hK hX hP hD hS hl
  replace hown : s.vm.findClass RX9 = some m.cls := hown
  have hH := hsz
  have hiX9 : ∀ w ∈ u_ws RX9 TX9 12, w ∈ wsX9_chance := fun w h => List.mem_cons_of_mem _ (List.mem_append_left _ (List.mem_append_left _ (List.mem_append_left _ (List.mem_append_right _ (h)))))
  obtain ⟨H, hHe⟩ : ∃ H : Heap, H = s.heap := ⟨_, rfl⟩
  obtain ⟨locs, hLe⟩ : ∃ L : List Loc, L = [] := ⟨_, rfl⟩
  replace hP : va_P D vwCl (wX9 T ad gx ++ wX8 T (ad 1) gow ++ wX3 T (ad 5) gn ++ wX6 T (ad 6) gl) H := by rw [hHe]; exact hP
  replace hS : va_S A s.heap H locs := by rw [hHe, hLe]; exact hS
  suffices hgo : W p l e rX9_chance s m args below meth c H locs 0 0 Q (F0 m 0 ls []) by rw [hHe, hLe] at hgo; exact hgo
  clear hHe hLe
  refine lv_aload_n hx hb dX9_chance_0 rfl (lv_at hl 0 rfl) ?_
  refine zGet (ci := 9) (C := RX9) (F := TX9) (N := 12) (v := .ref (ad 1 0)) hx hb hts hiX9 hown hK hP 0 0 1 rfl rfl (by decide) rfl rfl rfl dX9_chance_1 ?_
  refine lv_iload_n hx hb dX9_chance_4 rfl (lv_at hl 1 rfl) ?_
  obtain ⟨v1, hc5, hf⟩ := zB1_ok hf
  refine zCallVJI (wr := wX9 T ad gx ++ wX3 T (ad 5) gn ++ wX6 T (ad 6) gl) (ws' := wX9 T ad gx ++ wX8 T (ad 1) gow ++ wX3 T (ad 5) gn ++ wX6 T (ad 6) gl) [.int a1] ⟨hx, hb, hml, hown, hts⟩ (pX8_hasPerson l D T X (ad 1) H.size gow a1 v1 hc5) (cwV 1 hts gX9_chance_X8_hasPerson rfl rfl rfl (by decide +kernel) ⟨Nat.le_of_ble_eq_true rfl, Nat.le_of_ble_eq_true rfl⟩) hK hP hD hS hA hX [1, 2, 3, 4, 5, 6, 7, 8, 9, 10, 11] [0, 12, 13, 14, 15] [0, 5, 6, 7, 8, 9, 10, 11, 12, 13, 14, 15, 1, 2, 3, 4] rfl rfl rfl rfl 0 rfl rfl rfl hl.1 rfl (Nat.le_of_ble_eq_true rfl) dX9_chance_5 ⟨Nat.zero_le _, Nat.zero_le _⟩ (fun H locs hP hD hS => ?_)
  refine lv_if_eq (tgt := 18) hx hb dX9_chance_8 (by decide) (fun hc => ?_) (fun hc => ?_)
  · replace hf := zIf_t hc hf
    refine lv_iconst (v := (-1)) hx hb dX9_chance_18 (by decide) ?_
    obtain ⟨q1, q2, q3⟩ := zI3 hf
    subst q1
    subst q2
    subst q3
    exact zRetI hQ hx hb hr hlocks hA0 hK hP hD hS rfl dX9_chance_19
  · replace hf := zIf_f hc hf
    refine lv_iload_n hx hb dX9_chance_11 rfl (lv_at hl 2 rfl) ?_
    obtain ⟨v2, hc12, hf⟩ := zB1_ok hf
    refine zCallS0I [.int a2] ⟨hx, hb, hml, hown, hts⟩ (pX9_isEither l D T X H.size a2 v2 hc12) (va_cwS 1 hts gX9_chance_X9_isEither rfl rfl rfl (by decide +kernel) ⟨Nat.le_of_ble_eq_true rfl, Nat.le_of_ble_eq_true rfl⟩) hK hP hD hS hA hX rfl hl.1 rfl (Nat.le_of_ble_eq_true rfl) dX9_chance_12 ⟨Nat.zero_le _, Nat.zero_le _⟩ (fun H locs hP hD hS => ?_)
    refine lv_if_ne (tgt := 20) hx hb dX9_chance_15 (by decide) (fun hc => ?_) (fun hc => ?_)
    · replace hf := zIf_f hc hf
      refine lv_aload_n hx hb dX9_chance_20 rfl (lv_at hl 0 rfl) ?_
      obtain ⟨v3, hc21, hf⟩ := zB1_ok hf
      refine zCallVJI (wr := wX3 T (ad 5) gn ++ wX6 T (ad 6) gl) (ws' := wX9 T ad gx ++ wX8 T (ad 1) gow ++ wX3 T (ad 5) gn ++ wX6 T (ad 6) gl) [] ⟨hx, hb, hml, hown, hts⟩ (pX9_taleRefusal l D T X ad H.size gx gow v3 hc21) (cwV 0 hts gX9_chance_X9_taleRefusal rfl rfl rfl (by decide +kernel) ⟨Nat.le_of_ble_eq_true rfl, Nat.le_of_ble_eq_true rfl⟩) hK hP hD hS hA hX [0, 1, 2, 3, 4, 5, 6, 7, 8, 9, 10, 11] [12, 13, 14, 15] [4, 5, 6, 7, 8, 9, 10, 11, 12, 13, 14, 15, 0, 1, 2, 3] rfl rfl rfl rfl 0 rfl rfl rfl hl.1 rfl (Nat.le_of_ble_eq_true rfl) dX9_chance_21 ⟨Nat.zero_le _, Nat.zero_le _⟩ (fun H locs hP hD hS => ?_)
      refine lv_istore_n (lv' := [(3, .int v3), (0, .ref (ad 0 0)), (1, .int a1), (2, .int a2)]) hx hb dX9_chance_24 rfl hl (by decide) rfl (fun ls hl => ?_)
      refine lv_iload_n hx hb dX9_chance_25 rfl (lv_at hl 0 rfl) ?_
      refine lv_if_eq (tgt := 31) hx hb dX9_chance_26 (by decide) (fun hc => ?_) (fun hc => ?_)
      · replace hf := zIf_t hc hf
        refine lv_aload_n hx hb dX9_chance_31 rfl (lv_at hl 1 rfl) ?_
        refine zGet (ci := 9) (C := RX9) (F := TX9) (N := 12) (v := .ref (ad 6 0)) hx hb hts hiX9 hown hK hP 0 6 2 rfl rfl (by decide) rfl rfl rfl dX9_chance_32 ?_
        refine lv_aload_n hx hb dX9_chance_35 rfl (lv_at hl 1 rfl) ?_
        refine zGet (ci := 9) (C := RX9) (F := TX9) (N := 12) (v := .ref (ad 1 0)) hx hb hts hiX9 hown hK hP 0 0 1 rfl rfl (by decide) rfl rfl rfl dX9_chance_36 ?_
        obtain ⟨gl_4, hc39, hf⟩ := zB1_ok hf
        refine zCallVJV (wr := wX9 T ad gx ++ wX3 T (ad 5) gn) (ws' := wX9 T ad gx ++ wX8 T (ad 1) gow ++ wX3 T (ad 5) gn ++ wX6 T (ad 6) gl_4) [.ref (ad 1 0)] ⟨hx, hb, hml, hown, hts⟩ (pX6_gather l D T X (ad 6) (ad 1) H.size gl gow gl_4 hc39) (cwV 1 hts gX9_chance_X6_gather rfl rfl rfl (by decide +kernel) ⟨Nat.le_of_ble_eq_true rfl, Nat.le_of_ble_eq_true rfl⟩) hK hP hD hS hA hX [14, 15, 1, 2, 3, 4, 5, 6, 7, 8, 9, 10, 11] [0, 12, 13] [0, 5, 6, 7, 8, 9, 10, 11, 12, 13, 14, 15, 1, 2, 3, 4] rfl rfl rfl rfl 0 rfl rfl rfl hl.1 rfl (Nat.le_of_ble_eq_true rfl) dX9_chance_39 ⟨Nat.zero_le _, Nat.zero_le _⟩ (fun H locs hP hD hS => ?_)
        refine lv_aload_n hx hb dX9_chance_42 rfl (lv_at hl 1 rfl) ?_
        refine zGet (ci := 9) (C := RX9) (F := TX9) (N := 12) (v := .ref (ad 6 0)) hx hb hts hiX9 hown hK hP 0 6 2 rfl rfl (by decide) rfl rfl rfl dX9_chance_43 ?_
        refine lv_aload_n hx hb dX9_chance_46 rfl (lv_at hl 1 rfl) ?_
        refine zGet (ci := 9) (C := RX9) (F := TX9) (N := 12) (v := .ref (ad 1 0)) hx hb hts hiX9 hown hK hP 0 0 1 rfl rfl (by decide) rfl rfl rfl dX9_chance_47 ?_
        refine lv_aload_n hx hb dX9_chance_50 rfl (lv_at hl 1 rfl) ?_
        refine zGet (ci := 9) (C := RX9) (F := TX9) (N := 12) (v := .ref (ad 5 0)) hx hb hts hiX9 hown hK hP 0 5 3 rfl rfl (by decide) rfl rfl rfl dX9_chance_51 ?_
        refine lv_iload_n hx hb dX9_chance_54 rfl (lv_at hl 2 rfl) ?_
        obtain ⟨v5, gn_6, hc55, hf⟩ := zB2_ok hf
        refine zCallVJL (wr := wX9 T ad gx) (ws' := wX9 T ad gx ++ wX8 T (ad 1) gow ++ wX3 T (ad 5) gn_6 ++ wX6 T (ad 6) gl_4) [.ref (ad 1 0), .ref (ad 5 0), .int a1] ⟨hx, hb, hml, hown, hts⟩ (pX6_oddsToKnow l D T X (ad 6) (ad 1) (ad 5) H.size gl_4 gow gn a1 v5 gn_6 hc55) (cwV 3 hts gX9_chance_X6_oddsToKnow rfl rfl rfl (by decide +kernel) ⟨Nat.le_of_ble_eq_true rfl, Nat.le_of_ble_eq_true rfl⟩) hK hP hD hS hA hX [14, 15, 1, 2, 3, 4, 5, 6, 7, 8, 9, 10, 11, 12, 13] [0] [0, 3, 4, 5, 6, 7, 8, 9, 10, 11, 12, 13, 14, 15, 1, 2] rfl rfl rfl rfl 0 rfl rfl rfl hl.1 rfl (Nat.le_of_ble_eq_true rfl) dX9_chance_55 ⟨Nat.zero_le _, Nat.zero_le _⟩ (fun H locs hP hD hS => ?_)
        refine lv_aload_n hx hb dX9_chance_58 rfl (lv_at hl 1 rfl) ?_
        refine zGet (ci := 9) (C := RX9) (F := TX9) (N := 12) (v := .ref (ad 6 0)) hx hb hts hiX9 hown hK hP 0 6 2 rfl rfl (by decide) rfl rfl rfl dX9_chance_59 ?_
        refine lv_aload_n hx hb dX9_chance_62 rfl (lv_at hl 1 rfl) ?_
        refine zGet (ci := 9) (C := RX9) (F := TX9) (N := 12) (v := .ref (ad 1 0)) hx hb hts hiX9 hown hK hP 0 0 1 rfl rfl (by decide) rfl rfl rfl dX9_chance_63 ?_
        obtain ⟨v7, hc66, hf⟩ := zB1_ok hf
        refine zCallVJL (wr := wX9 T ad gx ++ wX3 T (ad 5) gn_6) (ws' := wX9 T ad gx ++ wX8 T (ad 1) gow ++ wX3 T (ad 5) gn_6 ++ wX6 T (ad 6) gl_4) [.ref (ad 1 0)] ⟨hx, hb, hml, hown, hts⟩ (pX6_allOdds l D T X (ad 6) (ad 1) H.size gl_4 gow v7 hc66) (cwV 1 hts gX9_chance_X6_allOdds rfl rfl rfl (by decide +kernel) ⟨Nat.le_of_ble_eq_true rfl, Nat.le_of_ble_eq_true rfl⟩) hK hP hD hS hA hX [14, 15, 1, 2, 3, 4, 5, 6, 7, 8, 9, 10, 11] [0, 12, 13] [0, 5, 6, 7, 8, 9, 10, 11, 12, 13, 14, 15, 1, 2, 3, 4] rfl rfl rfl rfl 0 rfl rfl rfl hl.1 rfl (Nat.le_of_ble_eq_true rfl) dX9_chance_66 ⟨Nat.zero_le _, Nat.zero_le _⟩ (fun H locs hP hD hS => ?_)
        refine lv_iload_n hx hb dX9_chance_69 rfl (lv_at hl 3 rfl) ?_
        obtain ⟨v8, hc70, hf⟩ := zB1_ok hf
        refine zCallS0L [.long v5, .long v7, .int a2] ⟨hx, hb, hml, hown, hts⟩ (pX9_partOf l D T X H.size v5 v7 a2 v8 hc70) (va_cwS 3 hts gX9_chance_X9_partOf rfl rfl rfl (by decide +kernel) ⟨Nat.le_of_ble_eq_true rfl, Nat.le_of_ble_eq_true rfl⟩) hK hP hD hS hA hX rfl hl.1 rfl (Nat.le_of_ble_eq_true rfl) dX9_chance_70 ⟨Nat.zero_le _, Nat.zero_le _⟩ (fun H locs hP hD hS => ?_)
        refine lv_l2i hx hb dX9_chance_73 rfl ?_
        obtain ⟨q1, q2, q3⟩ := zI3 hf
        subst q1
        subst q2
        subst q3
        exact zRetI hQ hx hb hr hlocks hA0 hK hP hD hS rfl dX9_chance_74
      · replace hf := zIf_f hc hf
        refine lv_iload_n hx hb dX9_chance_29 rfl (lv_at hl 0 rfl) ?_
        obtain ⟨q1, q2, q3⟩ := zI3 hf
        subst q1
        subst q2
        subst q3
        exact zRetI hQ hx hb hr hlocks hA0 hK hP hD hS rfl dX9_chance_30
    · replace hf := zIf_t hc hf
      refine lv_iconst (v := (-1)) hx hb dX9_chance_18 (by decide) ?_
      obtain ⟨q1, q2, q3⟩ := zI3 hf
      subst q1
      subst q2
      subst q3
      exact zRetI hQ hx hb hr hlocks hA0 hK hP hD hS rfl dX9_chance_19
set_option maxHeartbeats 4000000 in
set_option maxRecDepth 100000 in
theorem pX9_reach (l : Launch) (D : va_G) (T : Nat → ClassId) (X : zFP) (ad : Nat → Nat → Nat) (sz : Nat) (gx : zM) (gow : zM) (gn : zM) (gl : zM) (a1 : Int32) (r : Int64) (ngn : zM) (ngl : zM) (hf : fX9_reach gx gow gn gl a1 = some (r, ngn, ngl)) : Met l yX9_reach wsX9_reach rX9_reach (zPre D T X [.ref (ad 0 0), .int a1] (wX9 T ad gx ++ wX8 T (ad 1) gow ++ wX3 T (ad 5) gn ++ wX6 T (ad 6) gl) sz) (zQl D T r (wX9 T ad gx ++ wX8 T (ad 1) gow ++ wX3 T (ad 5) ngn ++ wX6 T (ad 6) ngl) (wX9 T ad gx ++ wX8 T (ad 1) gow ++ wX3 T (ad 5) gn ++ wX6 T (ad 6) gl) sz) 0 0 (va_A (wX9 T ad gx ++ wX8 T (ad 1) gow ++ wX3 T (ad 5) gn ++ wX6 T (ad 6) gl) sz) := by
  unfold fX9_reach at hf
  refine zStart [(0, .ref (ad 0 0)), (1, .int a1)] (by decide) rfl (Nat.le_of_ble_eq_true rfl) rfl ?_
  intro p e s m args below meth c A Q ls hx hb hr hml hown hlocks hts hsz hA0 hQ hA hK hX hP hD hS hl
  replace hown : s.vm.findClass RX9 = some m.cls := hown
  have hH := hsz
  have hiX9 : ∀ w ∈ u_ws RX9 TX9 12, w ∈ wsX9_reach := fun w h => List.mem_cons_of_mem _ (List.mem_append_left _ (List.mem_append_left _ (List.mem_append_left _ (List.mem_append_right _ (h)))))
  obtain ⟨H, hHe⟩ : ∃ H : Heap, H = s.heap := ⟨_, rfl⟩
  obtain ⟨locs, hLe⟩ : ∃ L : List Loc, L = [] := ⟨_, rfl⟩
  replace hP : va_P D vwCl (wX9 T ad gx ++ wX8 T (ad 1) gow ++ wX3 T (ad 5) gn ++ wX6 T (ad 6) gl) H := by rw [hHe]; exact hP
  replace hS : va_S A s.heap H locs := by rw [hHe, hLe]; exact hS
  suffices hgo : W p l e rX9_reach s m args below meth c H locs 0 0 Q (F0 m 0 ls []) by rw [hHe, hLe] at hgo; exact hgo
  clear hHe hLe
  refine lv_iload_n hx hb dX9_reach_0 rfl (lv_at hl 1 rfl) ?_
  obtain ⟨v1, hc1, hf⟩ := zB1_ok hf
  refine zCallS0I [.int a1] ⟨hx, hb, hml, hown, hts⟩ (pX9_isEither l D T X H.size a1 v1 hc1) (va_cwS 1 hts gX9_reach_X9_isEither rfl rfl rfl (by decide +kernel) ⟨Nat.le_of_ble_eq_true rfl, Nat.le_of_ble_eq_true rfl⟩) hK hP hD hS hA hX rfl hl.1 rfl (Nat.le_of_ble_eq_true rfl) dX9_reach_1 ⟨Nat.zero_le _, Nat.zero_le _⟩ (fun H locs hP hD hS => ?_)
  refine lv_if_ne (tgt := 11) hx hb dX9_reach_4 (by decide) (fun hc => ?_) (fun hc => ?_)
  · replace hf := zIf_f hc hf
    refine lv_aload_n hx hb dX9_reach_11 rfl (lv_at hl 0 rfl) ?_
    obtain ⟨v2, hc12, hf⟩ := zB1_ok hf
    refine zCallVJI (wr := wX3 T (ad 5) gn ++ wX6 T (ad 6) gl) (ws' := wX9 T ad gx ++ wX8 T (ad 1) gow ++ wX3 T (ad 5) gn ++ wX6 T (ad 6) gl) [] ⟨hx, hb, hml, hown, hts⟩ (pX9_taleRefusal l D T X ad H.size gx gow v2 hc12) (cwV 0 hts gX9_reach_X9_taleRefusal rfl rfl rfl (by decide +kernel) ⟨Nat.le_of_ble_eq_true rfl, Nat.le_of_ble_eq_true rfl⟩) hK hP hD hS hA hX [0, 1, 2, 3, 4, 5, 6, 7, 8, 9, 10, 11] [12, 13, 14, 15] [4, 5, 6, 7, 8, 9, 10, 11, 12, 13, 14, 15, 0, 1, 2, 3] rfl rfl rfl rfl 0 rfl rfl rfl hl.1 rfl (Nat.le_of_ble_eq_true rfl) dX9_reach_12 ⟨Nat.zero_le _, Nat.zero_le _⟩ (fun H locs hP hD hS => ?_)
    refine lv_istore_n (lv' := [(2, .int v2), (0, .ref (ad 0 0)), (1, .int a1)]) hx hb dX9_reach_15 rfl hl (by decide) rfl (fun ls hl => ?_)
    refine lv_iload_n hx hb dX9_reach_16 rfl (lv_at hl 0 rfl) ?_
    refine lv_if_eq (tgt := 23) hx hb dX9_reach_17 (by decide) (fun hc => ?_) (fun hc => ?_)
    · replace hf := zIf_t hc hf
      refine lv_aload_n hx hb dX9_reach_23 rfl (lv_at hl 1 rfl) ?_
      refine zGet (ci := 9) (C := RX9) (F := TX9) (N := 12) (v := .ref (ad 6 0)) hx hb hts hiX9 hown hK hP 0 6 2 rfl rfl (by decide) rfl rfl rfl dX9_reach_24 ?_
      refine lv_aload_n hx hb dX9_reach_27 rfl (lv_at hl 1 rfl) ?_
      refine zGet (ci := 9) (C := RX9) (F := TX9) (N := 12) (v := .ref (ad 1 0)) hx hb hts hiX9 hown hK hP 0 0 3 rfl rfl (by decide) rfl rfl rfl dX9_reach_28 ?_
      obtain ⟨gl_3, hc31, hf⟩ := zB1_ok hf
      refine zCallVJV (wr := wX9 T ad gx ++ wX3 T (ad 5) gn) (ws' := wX9 T ad gx ++ wX8 T (ad 1) gow ++ wX3 T (ad 5) gn ++ wX6 T (ad 6) gl_3) [.ref (ad 1 0)] ⟨hx, hb, hml, hown, hts⟩ (pX6_gather l D T X (ad 6) (ad 1) H.size gl gow gl_3 hc31) (cwV 1 hts gX9_reach_X6_gather rfl rfl rfl (by decide +kernel) ⟨Nat.le_of_ble_eq_true rfl, Nat.le_of_ble_eq_true rfl⟩) hK hP hD hS hA hX [14, 15, 1, 2, 3, 4, 5, 6, 7, 8, 9, 10, 11] [0, 12, 13] [0, 5, 6, 7, 8, 9, 10, 11, 12, 13, 14, 15, 1, 2, 3, 4] rfl rfl rfl rfl 0 rfl rfl rfl hl.1 rfl (Nat.le_of_ble_eq_true rfl) dX9_reach_31 ⟨Nat.zero_le _, Nat.zero_le _⟩ (fun H locs hP hD hS => ?_)
      refine lv_aload_n hx hb dX9_reach_34 rfl (lv_at hl 1 rfl) ?_
      refine zGet (ci := 9) (C := RX9) (F := TX9) (N := 12) (v := .ref (ad 6 0)) hx hb hts hiX9 hown hK hP 0 6 2 rfl rfl (by decide) rfl rfl rfl dX9_reach_35 ?_
      refine lv_aload_n hx hb dX9_reach_38 rfl (lv_at hl 1 rfl) ?_
      refine zGet (ci := 9) (C := RX9) (F := TX9) (N := 12) (v := .ref (ad 1 0)) hx hb hts hiX9 hown hK hP 0 0 3 rfl rfl (by decide) rfl rfl rfl dX9_reach_39 ?_
      refine lv_aload_n hx hb dX9_reach_42 rfl (lv_at hl 1 rfl) ?_
      refine zGet (ci := 9) (C := RX9) (F := TX9) (N := 12) (v := .ref (ad 5 0)) hx hb hts hiX9 hown hK hP 0 5 4 rfl rfl (by decide) rfl rfl rfl dX9_reach_43 ?_
      obtain ⟨v4, gn_5, hc46, hf⟩ := zB2_ok hf
      refine zCallVJL (wr := wX9 T ad gx) (ws' := wX9 T ad gx ++ wX8 T (ad 1) gow ++ wX3 T (ad 5) gn_5 ++ wX6 T (ad 6) gl_3) [.ref (ad 1 0), .ref (ad 5 0)] ⟨hx, hb, hml, hown, hts⟩ (pX6_meanKnowing l D T X (ad 6) (ad 1) (ad 5) H.size gl_3 gow gn v4 gn_5 hc46) (cwV 2 hts gX9_reach_X6_meanKnowing rfl rfl rfl (by decide +kernel) ⟨Nat.le_of_ble_eq_true rfl, Nat.le_of_ble_eq_true rfl⟩) hK hP hD hS hA hX [14, 15, 1, 2, 3, 4, 5, 6, 7, 8, 9, 10, 11, 12, 13] [0] [0, 3, 4, 5, 6, 7, 8, 9, 10, 11, 12, 13, 14, 15, 1, 2] rfl rfl rfl rfl 0 rfl rfl rfl hl.1 rfl (Nat.le_of_ble_eq_true rfl) dX9_reach_46 ⟨Nat.zero_le _, Nat.zero_le _⟩ (fun H locs hP hD hS => ?_)
      refine lv_aload_n hx hb dX9_reach_49 rfl (lv_at hl 1 rfl) ?_
      refine zGet (ci := 9) (C := RX9) (F := TX9) (N := 12) (v := .ref (ad 6 0)) hx hb hts hiX9 hown hK hP 0 6 2 rfl rfl (by decide) rfl rfl rfl dX9_reach_50 ?_
      refine lv_aload_n hx hb dX9_reach_53 rfl (lv_at hl 1 rfl) ?_
      refine zGet (ci := 9) (C := RX9) (F := TX9) (N := 12) (v := .ref (ad 1 0)) hx hb hts hiX9 hown hK hP 0 0 3 rfl rfl (by decide) rfl rfl rfl dX9_reach_54 ?_
      obtain ⟨v6, hc57, hf⟩ := zB1_ok hf
      refine zCallVJL (wr := wX9 T ad gx ++ wX3 T (ad 5) gn_5) (ws' := wX9 T ad gx ++ wX8 T (ad 1) gow ++ wX3 T (ad 5) gn_5 ++ wX6 T (ad 6) gl_3) [.ref (ad 1 0)] ⟨hx, hb, hml, hown, hts⟩ (pX6_allOdds l D T X (ad 6) (ad 1) H.size gl_3 gow v6 hc57) (cwV 1 hts gX9_reach_X6_allOdds rfl rfl rfl (by decide +kernel) ⟨Nat.le_of_ble_eq_true rfl, Nat.le_of_ble_eq_true rfl⟩) hK hP hD hS hA hX [14, 15, 1, 2, 3, 4, 5, 6, 7, 8, 9, 10, 11] [0, 12, 13] [0, 5, 6, 7, 8, 9, 10, 11, 12, 13, 14, 15, 1, 2, 3, 4] rfl rfl rfl rfl 0 rfl rfl rfl hl.1 rfl (Nat.le_of_ble_eq_true rfl) dX9_reach_57 ⟨Nat.zero_le _, Nat.zero_le _⟩ (fun H locs hP hD hS => ?_)
      refine lv_iload_n hx hb dX9_reach_60 rfl (lv_at hl 2 rfl) ?_
      obtain ⟨v7, hc61, hf⟩ := zB1_ok hf
      refine zCallS0L [.long v4, .long v6, .int a1] ⟨hx, hb, hml, hown, hts⟩ (pX9_partOf l D T X H.size v4 v6 a1 v7 hc61) (va_cwS 3 hts gX9_reach_X9_partOf rfl rfl rfl (by decide +kernel) ⟨Nat.le_of_ble_eq_true rfl, Nat.le_of_ble_eq_true rfl⟩) hK hP hD hS hA hX rfl hl.1 rfl (Nat.le_of_ble_eq_true rfl) dX9_reach_61 ⟨Nat.zero_le _, Nat.zero_le _⟩ (fun H locs hP hD hS => ?_)
      obtain ⟨q1, q2, q3⟩ := zI3 hf
      subst q1
      subst q2
      subst q3
      exact zRetL hQ hx hb hr hlocks hA0 hK hP hD hS rfl dX9_reach_64
    · replace hf := zIf_f hc hf
      refine lv_iload_n hx hb dX9_reach_20 rfl (lv_at hl 0 rfl) ?_
      refine lv_i2l hx hb dX9_reach_21 rfl ?_
      obtain ⟨q1, q2, q3⟩ := zI3 hf
      subst q1
      subst q2
      subst q3
      exact zRetL hQ hx hb hr hlocks hA0 hK hP hD hS rfl dX9_reach_22
  · replace hf := zIf_t hc hf
    refine lv_ldc2 (v := (-1)) hx hb hown (hts _ (List.mem_of_getElem? (i := 1) rfl)) dX9_reach_7 ?_
    obtain ⟨q1, q2, q3⟩ := zI3 hf
    subst q1
    subst q2
    subst q3
    exact zRetL hQ hx hb hr hlocks hA0 hK hP hD hS rfl dX9_reach_10
set_option maxHeartbeats 4000000 in
set_option maxRecDepth 100000 in
theorem pX9_seen (l : Launch) (D : va_G) (T : Nat → ClassId) (X : zFP) (ad : Nat → Nat → Nat) (sz : Nat) (gx : zM) (gow : zM) (a1 : Int32) (a2 : Int32) (r : Int32) (ngow : zM) (hf : fX9_seen gx gow a1 a2 = some (r, ngow)) : Met l yX9_seen wsX9_seen rX9_seen (zPre D T X [.ref (ad 0 0), .int a1, .int a2] (wX9 T ad gx ++ wX8 T (ad 1) gow) sz) (zQi D T r (wX9 T ad gx ++ wX8 T (ad 1) ngow) (wX9 T ad gx ++ wX8 T (ad 1) gow) sz) 0 0 (va_A (wX9 T ad gx ++ wX8 T (ad 1) gow) sz) := by
  unfold fX9_seen at hf
  refine zStart [(0, .ref (ad 0 0)), (1, .int a1), (2, .int a2)] (by decide) rfl (Nat.le_of_ble_eq_true rfl) rfl ?_
  intro p e s m args below meth c A Q ls hx hb hr hml hown hlocks hts hsz hA0 hQ hA hK hX hP hD hS hl
  replace hown : s.vm.findClass RX9 = some m.cls := hown
  have hH := hsz
  have hiX8 : ∀ w ∈ u_ws RX8 TX8 14, w ∈ wsX9_seen := fun w h => List.mem_cons_of_mem _ (List.mem_append_right _ (h))
  have hiX9 : ∀ w ∈ u_ws RX9 TX9 12, w ∈ wsX9_seen := fun w h => List.mem_cons_of_mem _ (List.mem_append_left _ (List.mem_append_right _ (h)))
  obtain ⟨H, hHe⟩ : ∃ H : Heap, H = s.heap := ⟨_, rfl⟩
  obtain ⟨locs, hLe⟩ : ∃ L : List Loc, L = [] := ⟨_, rfl⟩
  replace hP : va_P D vwCl (wX9 T ad gx ++ wX8 T (ad 1) gow) H := by rw [hHe]; exact hP
  replace hS : va_S A s.heap H locs := by rw [hHe, hLe]; exact hS
  suffices hgo : W p l e rX9_seen s m args below meth c H locs 0 0 Q (F0 m 0 ls []) by rw [hHe, hLe] at hgo; exact hgo
  clear hHe hLe
  refine lv_aload_n hx hb dX9_seen_0 rfl (lv_at hl 0 rfl) ?_
  refine zGet (ci := 9) (C := RX9) (F := TX9) (N := 12) (v := .ref (ad 1 0)) hx hb hts hiX9 hown hK hP 0 0 1 rfl rfl (by decide) rfl rfl rfl dX9_seen_1 ?_
  refine lv_iload_n hx hb dX9_seen_4 rfl (lv_at hl 1 rfl) ?_
  obtain ⟨v1, hc5, hf⟩ := zB1_ok hf
  refine zCallVJI (wr := wX9 T ad gx) (ws' := wX9 T ad gx ++ wX8 T (ad 1) gow) [.int a1] ⟨hx, hb, hml, hown, hts⟩ (pX8_hasPerson l D T X (ad 1) H.size gow a1 v1 hc5) (cwV 1 hts gX9_seen_X8_hasPerson rfl rfl rfl (by decide +kernel) ⟨Nat.le_of_ble_eq_true rfl, Nat.le_of_ble_eq_true rfl⟩) hK hP hD hS hA hX [1, 2, 3, 4, 5, 6, 7, 8, 9, 10, 11] [0] [0, 1, 2, 3, 4, 5, 6, 7, 8, 9, 10, 11] rfl rfl rfl rfl 0 rfl rfl rfl hl.1 rfl (Nat.le_of_ble_eq_true rfl) dX9_seen_5 ⟨Nat.zero_le _, Nat.zero_le _⟩ (fun H locs hP hD hS => ?_)
  refine lv_if_eq (tgt := 21) hx hb dX9_seen_8 (by decide) (fun hc => ?_) (fun hc => ?_)
  · replace hf := zIf_t hc hf
    refine lv_iconst (v := (-1)) hx hb dX9_seen_21 (by decide) ?_
    obtain ⟨q1, q2⟩ := zI2 hf
    subst q1
    subst q2
    exact zRetI hQ hx hb hr hlocks hA0 hK hP hD hS rfl dX9_seen_22
  · replace hf := zIf_f hc hf
    refine lv_iload_n hx hb dX9_seen_11 rfl (lv_at hl 2 rfl) ?_
    refine lv_iconst (v := (-1)) hx hb dX9_seen_12 (by decide) ?_
    refine lv_icmp_lt (tgt := 21) hx hb dX9_seen_13 (by decide) (fun hc => ?_) (fun hc => ?_)
    · replace hf := zIf_t hc hf
      refine lv_iconst (v := (-1)) hx hb dX9_seen_21 (by decide) ?_
      obtain ⟨q1, q2⟩ := zI2 hf
      subst q1
      subst q2
      exact zRetI hQ hx hb hr hlocks hA0 hK hP hD hS rfl dX9_seen_22
    · replace hf := zIf_f hc hf
      refine lv_iload_n hx hb dX9_seen_16 rfl (lv_at hl 2 rfl) ?_
      refine lv_iconst (v := 1) hx hb dX9_seen_17 (by decide) ?_
      refine lv_icmp_le (tgt := 23) hx hb dX9_seen_18 (by decide) (fun hc => ?_) (fun hc => ?_)
      · replace hf := zIf_t hc hf
        refine lv_aload_n hx hb dX9_seen_23 rfl (lv_at hl 0 rfl) ?_
        refine zGet (ci := 9) (C := RX9) (F := TX9) (N := 12) (v := .ref (ad 1 0)) hx hb hts hiX9 hown hK hP 0 0 1 rfl rfl (by decide) rfl rfl rfl dX9_seen_24 ?_
        refine zGet (ci := 8) (C := RX8) (F := TX8) (N := 14) (v := .ref (ad 1 2)) hx hb hts hiX8 hown hK hP 1 2 2 rfl rfl (by decide) rfl rfl rfl dX9_seen_27 ?_
        refine lv_iload_n hx hb dX9_seen_30 rfl (lv_at hl 1 rfl) ?_
        obtain ⟨hg, hf⟩ := zGd_ok hf
        refine zAldI hx hb hK hP 3 rfl hg dX9_seen_31 (fun v2 ev2 => ?_)
        replace hf := zLt_at ev2 hf
        refine lv_istore_n (lv' := [(3, .int v2), (0, .ref (ad 0 0)), (1, .int a1), (2, .int a2)]) hx hb dX9_seen_32 rfl hl (by decide) rfl (fun ls hl => ?_)
        refine lv_aload_n hx hb dX9_seen_33 rfl (lv_at hl 1 rfl) ?_
        refine zGet (ci := 9) (C := RX9) (F := TX9) (N := 12) (v := .ref (ad 1 0)) hx hb hts hiX9 hown hK hP 0 0 1 rfl rfl (by decide) rfl rfl rfl dX9_seen_34 ?_
        refine zGet (ci := 8) (C := RX8) (F := TX8) (N := 14) (v := .ref (ad 1 2)) hx hb hts hiX8 hown hK hP 1 2 2 rfl rfl (by decide) rfl rfl rfl dX9_seen_37 ?_
        refine lv_iload_n hx hb dX9_seen_40 rfl (lv_at hl 2 rfl) ?_
        refine lv_iload_n hx hb dX9_seen_41 rfl (lv_at hl 3 rfl) ?_
        obtain ⟨hg, hf⟩ := zGd_ok hf
        refine zAstI (w := gow) hx hb hK hP hD hS (fun g => wX9 T ad gx ++ wX8 T (ad 1) g) 3 2 rfl hg rfl dX9_seen_42 (fun gow_3 egow_3 H locs hP hD hS => ?_)
        replace hP : va_P D vwCl (wX9 T ad gx ++ wX8 T (ad 1) gow_3) H := hP
        replace hD : va_D A (wX9 T ad gx ++ wX8 T (ad 1) gow_3) := hD
        replace hf := zLt_at egow_3 hf
        refine lv_iload_n hx hb dX9_seen_43 rfl (lv_at hl 0 rfl) ?_
        refine lv_if_ge (tgt := 52) hx hb dX9_seen_44 (by decide) (fun hc => ?_) (fun hc => ?_)
        · replace hf := zIf_t hc hf
          refine lv_iload_n hx hb dX9_seen_52 rfl (lv_at hl 0 rfl) ?_
          obtain ⟨q1, q2⟩ := zI2 hf
          subst q1
          subst q2
          exact zRetI hQ hx hb hr hlocks hA0 hK hP hD hS rfl dX9_seen_53
        · replace hf := zIf_f hc hf
          refine lv_bipush (v := (-9)) hx hb dX9_seen_47 (by decide) ?_
          refine lv_goto (tgt := 53) hx hb dX9_seen_49 (by decide) ?_
          obtain ⟨q1, q2⟩ := zI2 hf
          subst q1
          subst q2
          exact zRetI hQ hx hb hr hlocks hA0 hK hP hD hS rfl dX9_seen_53
      · replace hf := zIf_f hc hf
        refine lv_iconst (v := (-1)) hx hb dX9_seen_21 (by decide) ?_
        obtain ⟨q1, q2⟩ := zI2 hf
        subst q1
        subst q2
        exact zRetI hQ hx hb hr hlocks hA0 hK hP hD hS rfl dX9_seen_22
set_option maxHeartbeats 4000000 in
set_option maxRecDepth 100000 in
theorem pX9_who (l : Launch) (D : va_G) (T : Nat → ClassId) (X : zFP) (ad : Nat → Nat → Nat) (sz : Nat) (gx : zM) (gow : zM) (gn : zM) (gl : zM) (a1 : Int32) (a2 : Int32) (r : Int32) (ngn : zM) (ngl : zM) (hf : fX9_who gx gow gn gl a1 a2 = some (r, ngn, ngl)) : Met l yX9_who wsX9_who rX9_who (zPre D T X [.ref (ad 0 0), .int a1, .int a2] (wX9 T ad gx ++ wX8 T (ad 1) gow ++ wX3 T (ad 5) gn ++ wX6 T (ad 6) gl) sz) (zQi D T r (wX9 T ad gx ++ wX8 T (ad 1) gow ++ wX3 T (ad 5) ngn ++ wX6 T (ad 6) ngl) (wX9 T ad gx ++ wX8 T (ad 1) gow ++ wX3 T (ad 5) gn ++ wX6 T (ad 6) gl) sz) 0 0 (va_A (wX9 T ad gx ++ wX8 T (ad 1) gow ++ wX3 T (ad 5) gn ++ wX6 T (ad 6) gl) sz) := by
  unfold fX9_who at hf
  refine zStart [(0, .ref (ad 0 0)), (1, .int a1), (2, .int a2)] (by decide) rfl (Nat.le_of_ble_eq_true rfl) rfl ?_
  intro p e s m args below meth c A Q ls hx hb hr hml hown hlocks hts hsz hA0 hQ hA hK hX hP hD hS hl
  replace hown : s.vm.findClass RX9 = some m.cls := hown
  have hH := hsz
  have hiX9 : ∀ w ∈ u_ws RX9 TX9 12, w ∈ wsX9_who := fun w h => List.mem_cons_of_mem _ (List.mem_append_left _ (List.mem_append_left _ (List.mem_append_left _ (List.mem_append_right _ (h)))))
  obtain ⟨H, hHe⟩ : ∃ H : Heap, H = s.heap := ⟨_, rfl⟩
  obtain ⟨locs, hLe⟩ : ∃ L : List Loc, L = [] := ⟨_, rfl⟩
  replace hP : va_P D vwCl (wX9 T ad gx ++ wX8 T (ad 1) gow ++ wX3 T (ad 5) gn ++ wX6 T (ad 6) gl) H := by rw [hHe]; exact hP
  replace hS : va_S A s.heap H locs := by rw [hHe, hLe]; exact hS
  suffices hgo : W p l e rX9_who s m args below meth c H locs 0 0 Q (F0 m 0 ls []) by rw [hHe, hLe] at hgo; exact hgo
  clear hHe hLe
  refine lv_aload_n hx hb dX9_who_0 rfl (lv_at hl 0 rfl) ?_
  refine zGet (ci := 9) (C := RX9) (F := TX9) (N := 12) (v := .ref (ad 1 0)) hx hb hts hiX9 hown hK hP 0 0 1 rfl rfl (by decide) rfl rfl rfl dX9_who_1 ?_
  refine lv_iload_n hx hb dX9_who_4 rfl (lv_at hl 1 rfl) ?_
  obtain ⟨v1, hc5, hf⟩ := zB1_ok hf
  refine zCallVJI (wr := wX9 T ad gx ++ wX3 T (ad 5) gn ++ wX6 T (ad 6) gl) (ws' := wX9 T ad gx ++ wX8 T (ad 1) gow ++ wX3 T (ad 5) gn ++ wX6 T (ad 6) gl) [.int a1] ⟨hx, hb, hml, hown, hts⟩ (pX8_hasPerson l D T X (ad 1) H.size gow a1 v1 hc5) (cwV 1 hts gX9_who_X8_hasPerson rfl rfl rfl (by decide +kernel) ⟨Nat.le_of_ble_eq_true rfl, Nat.le_of_ble_eq_true rfl⟩) hK hP hD hS hA hX [1, 2, 3, 4, 5, 6, 7, 8, 9, 10, 11] [0, 12, 13, 14, 15] [0, 5, 6, 7, 8, 9, 10, 11, 12, 13, 14, 15, 1, 2, 3, 4] rfl rfl rfl rfl 0 rfl rfl rfl hl.1 rfl (Nat.le_of_ble_eq_true rfl) dX9_who_5 ⟨Nat.zero_le _, Nat.zero_le _⟩ (fun H locs hP hD hS => ?_)
  refine lv_if_eq (tgt := 18) hx hb dX9_who_8 (by decide) (fun hc => ?_) (fun hc => ?_)
  · replace hf := zIf_t hc hf
    refine lv_iconst (v := (-1)) hx hb dX9_who_18 (by decide) ?_
    obtain ⟨q1, q2, q3⟩ := zI3 hf
    subst q1
    subst q2
    subst q3
    exact zRetI hQ hx hb hr hlocks hA0 hK hP hD hS rfl dX9_who_19
  · replace hf := zIf_f hc hf
    refine lv_iload_n hx hb dX9_who_11 rfl (lv_at hl 2 rfl) ?_
    obtain ⟨v2, hc12, hf⟩ := zB1_ok hf
    refine zCallS0I [.int a2] ⟨hx, hb, hml, hown, hts⟩ (pX9_isEither l D T X H.size a2 v2 hc12) (va_cwS 1 hts gX9_who_X9_isEither rfl rfl rfl (by decide +kernel) ⟨Nat.le_of_ble_eq_true rfl, Nat.le_of_ble_eq_true rfl⟩) hK hP hD hS hA hX rfl hl.1 rfl (Nat.le_of_ble_eq_true rfl) dX9_who_12 ⟨Nat.zero_le _, Nat.zero_le _⟩ (fun H locs hP hD hS => ?_)
    refine lv_if_ne (tgt := 20) hx hb dX9_who_15 (by decide) (fun hc => ?_) (fun hc => ?_)
    · replace hf := zIf_f hc hf
      refine lv_aload_n hx hb dX9_who_20 rfl (lv_at hl 0 rfl) ?_
      refine zGet (ci := 9) (C := RX9) (F := TX9) (N := 12) (v := .ref (ad 1 0)) hx hb hts hiX9 hown hK hP 0 0 1 rfl rfl (by decide) rfl rfl rfl dX9_who_21 ?_
      obtain ⟨v3, hc24, hf⟩ := zB1_ok hf
      refine zCallVJI (wr := wX9 T ad gx ++ wX3 T (ad 5) gn ++ wX6 T (ad 6) gl) (ws' := wX9 T ad gx ++ wX8 T (ad 1) gow ++ wX3 T (ad 5) gn ++ wX6 T (ad 6) gl) [] ⟨hx, hb, hml, hown, hts⟩ (pX8_unsureTies l D T X (ad 1) H.size gow v3 hc24) (cwV 0 hts gX9_who_X8_unsureTies rfl rfl rfl (by decide +kernel) ⟨Nat.le_of_ble_eq_true rfl, Nat.le_of_ble_eq_true rfl⟩) hK hP hD hS hA hX [1, 2, 3, 4, 5, 6, 7, 8, 9, 10, 11] [0, 12, 13, 14, 15] [0, 5, 6, 7, 8, 9, 10, 11, 12, 13, 14, 15, 1, 2, 3, 4] rfl rfl rfl rfl 0 rfl rfl rfl hl.1 rfl (Nat.le_of_ble_eq_true rfl) dX9_who_24 ⟨Nat.zero_le _, Nat.zero_le _⟩ (fun H locs hP hD hS => ?_)
      obtain ⟨v4, hc27, hf⟩ := zB1_ok hf
      refine zCallS0I [.int v3] ⟨hx, hb, hml, hown, hts⟩ (pJ6_bitCount_0f7a4 l D T X H.size v3 v4 hc27) (va_cwS 1 hts gX9_who_J6_bitCount_0f7a4 rfl rfl rfl (by decide +kernel) ⟨Nat.le_of_ble_eq_true rfl, Nat.le_of_ble_eq_true rfl⟩) hK hP hD hS hA hX rfl hl.1 rfl (Nat.le_of_ble_eq_true rfl) dX9_who_27 ⟨Nat.zero_le _, Nat.zero_le _⟩ (fun H locs hP hD hS => ?_)
      refine lv_bipush (v := 9) hx hb dX9_who_30 (by decide) ?_
      refine lv_icmp_le (tgt := 38) hx hb dX9_who_32 (by decide) (fun hc => ?_) (fun hc => ?_)
      · replace hf := zIf_t hc hf
        refine lv_aload_n hx hb dX9_who_38 rfl (lv_at hl 0 rfl) ?_
        refine zGet (ci := 9) (C := RX9) (F := TX9) (N := 12) (v := .ref (ad 6 0)) hx hb hts hiX9 hown hK hP 0 6 2 rfl rfl (by decide) rfl rfl rfl dX9_who_39 ?_
        refine lv_aload_n hx hb dX9_who_42 rfl (lv_at hl 0 rfl) ?_
        refine zGet (ci := 9) (C := RX9) (F := TX9) (N := 12) (v := .ref (ad 1 0)) hx hb hts hiX9 hown hK hP 0 0 1 rfl rfl (by decide) rfl rfl rfl dX9_who_43 ?_
        obtain ⟨gl_5, hc46, hf⟩ := zB1_ok hf
        refine zCallVJV (wr := wX9 T ad gx ++ wX3 T (ad 5) gn) (ws' := wX9 T ad gx ++ wX8 T (ad 1) gow ++ wX3 T (ad 5) gn ++ wX6 T (ad 6) gl_5) [.ref (ad 1 0)] ⟨hx, hb, hml, hown, hts⟩ (pX6_gather l D T X (ad 6) (ad 1) H.size gl gow gl_5 hc46) (cwV 1 hts gX9_who_X6_gather rfl rfl rfl (by decide +kernel) ⟨Nat.le_of_ble_eq_true rfl, Nat.le_of_ble_eq_true rfl⟩) hK hP hD hS hA hX [14, 15, 1, 2, 3, 4, 5, 6, 7, 8, 9, 10, 11] [0, 12, 13] [0, 5, 6, 7, 8, 9, 10, 11, 12, 13, 14, 15, 1, 2, 3, 4] rfl rfl rfl rfl 0 rfl rfl rfl hl.1 rfl (Nat.le_of_ble_eq_true rfl) dX9_who_46 ⟨Nat.zero_le _, Nat.zero_le _⟩ (fun H locs hP hD hS => ?_)
        refine lv_aload_n hx hb dX9_who_49 rfl (lv_at hl 0 rfl) ?_
        refine zGet (ci := 9) (C := RX9) (F := TX9) (N := 12) (v := .ref (ad 6 0)) hx hb hts hiX9 hown hK hP 0 6 2 rfl rfl (by decide) rfl rfl rfl dX9_who_50 ?_
        refine lv_aload_n hx hb dX9_who_53 rfl (lv_at hl 0 rfl) ?_
        refine zGet (ci := 9) (C := RX9) (F := TX9) (N := 12) (v := .ref (ad 1 0)) hx hb hts hiX9 hown hK hP 0 0 1 rfl rfl (by decide) rfl rfl rfl dX9_who_54 ?_
        refine lv_aload_n hx hb dX9_who_57 rfl (lv_at hl 0 rfl) ?_
        refine zGet (ci := 9) (C := RX9) (F := TX9) (N := 12) (v := .ref (ad 5 0)) hx hb hts hiX9 hown hK hP 0 5 3 rfl rfl (by decide) rfl rfl rfl dX9_who_58 ?_
        refine lv_aload_n hx hb dX9_who_61 rfl (lv_at hl 0 rfl) ?_
        refine zGet (ci := 9) (C := RX9) (F := TX9) (N := 12) (v := .ref (ad 1 0)) hx hb hts hiX9 hown hK hP 0 0 1 rfl rfl (by decide) rfl rfl rfl dX9_who_62 ?_
        obtain ⟨v6, hc65, hf⟩ := zB1_ok hf
        refine zCallVJI (wr := wX9 T ad gx ++ wX3 T (ad 5) gn ++ wX6 T (ad 6) gl_5) (ws' := wX9 T ad gx ++ wX8 T (ad 1) gow ++ wX3 T (ad 5) gn ++ wX6 T (ad 6) gl_5) [] ⟨hx, hb, hml, hown, hts⟩ (pX8_everybody l D T X (ad 1) H.size gow v6 hc65) (cwV 0 hts gX9_who_X8_everybody rfl rfl rfl (by decide +kernel) ⟨Nat.le_of_ble_eq_true rfl, Nat.le_of_ble_eq_true rfl⟩) hK hP hD hS hA hX [1, 2, 3, 4, 5, 6, 7, 8, 9, 10, 11] [0, 12, 13, 14, 15] [0, 5, 6, 7, 8, 9, 10, 11, 12, 13, 14, 15, 1, 2, 3, 4] rfl rfl rfl rfl 0 rfl rfl rfl hl.1 rfl (Nat.le_of_ble_eq_true rfl) dX9_who_65 ⟨Nat.zero_le _, Nat.zero_le _⟩ (fun H locs hP hD hS => ?_)
        obtain ⟨v7, gn_8, hc68, hf⟩ := zB2_ok hf
        refine zCallVJL (wr := wX9 T ad gx) (ws' := wX9 T ad gx ++ wX8 T (ad 1) gow ++ wX3 T (ad 5) gn_8 ++ wX6 T (ad 6) gl_5) [.ref (ad 1 0), .ref (ad 5 0), .int v6] ⟨hx, hb, hml, hown, hts⟩ (pX6_oddsShown l D T X (ad 6) (ad 1) (ad 5) H.size gl_5 gow gn v6 v7 gn_8 hc68) (cwV 3 hts gX9_who_X6_oddsShown rfl rfl rfl (by decide +kernel) ⟨Nat.le_of_ble_eq_true rfl, Nat.le_of_ble_eq_true rfl⟩) hK hP hD hS hA hX [14, 15, 1, 2, 3, 4, 5, 6, 7, 8, 9, 10, 11, 12, 13] [0] [0, 3, 4, 5, 6, 7, 8, 9, 10, 11, 12, 13, 14, 15, 1, 2] rfl rfl rfl rfl 0 rfl rfl rfl hl.1 rfl (Nat.le_of_ble_eq_true rfl) dX9_who_68 ⟨Nat.zero_le _, Nat.zero_le _⟩ (fun H locs hP hD hS => ?_)
        refine lv_lstore_n (lv' := [(3, .long v7), (0, .ref (ad 0 0)), (1, .int a1), (2, .int a2)]) hx hb dX9_who_71 rfl hl (by decide) rfl (fun ls hl => ?_)
        refine lv_lload_n hx hb dX9_who_72 rfl (lv_at hl 0 rfl) ?_
        refine lv_lconst (v := 0) hx hb dX9_who_73 (by decide) ?_
        refine W.lcmp hx hb dX9_who_74 ?_
        refine lv_if_ne (tgt := 81) hx hb dX9_who_75 (by decide) (fun hc => ?_) (fun hc => ?_)
        · replace hf := zIf_f hc hf
          refine lv_aload_n hx hb dX9_who_81 rfl (lv_at hl 1 rfl) ?_
          refine zGet (ci := 9) (C := RX9) (F := TX9) (N := 12) (v := .ref (ad 6 0)) hx hb hts hiX9 hown hK hP 0 6 2 rfl rfl (by decide) rfl rfl rfl dX9_who_82 ?_
          refine lv_aload_n hx hb dX9_who_85 rfl (lv_at hl 1 rfl) ?_
          refine zGet (ci := 9) (C := RX9) (F := TX9) (N := 12) (v := .ref (ad 1 0)) hx hb hts hiX9 hown hK hP 0 0 1 rfl rfl (by decide) rfl rfl rfl dX9_who_86 ?_
          refine lv_aload_n hx hb dX9_who_89 rfl (lv_at hl 1 rfl) ?_
          refine zGet (ci := 9) (C := RX9) (F := TX9) (N := 12) (v := .ref (ad 5 0)) hx hb hts hiX9 hown hK hP 0 5 3 rfl rfl (by decide) rfl rfl rfl dX9_who_90 ?_
          refine lv_iconst (v := 1) hx hb dX9_who_93 (by decide) ?_
          refine lv_iload_n hx hb dX9_who_94 rfl (lv_at hl 2 rfl) ?_
          refine lv_ishl hx hb dX9_who_95 ?_
          obtain ⟨v9, gn_10, hc96, hf⟩ := zB2_ok hf
          refine zCallVJL (wr := wX9 T ad gx) (ws' := wX9 T ad gx ++ wX8 T (ad 1) gow ++ wX3 T (ad 5) gn_10 ++ wX6 T (ad 6) gl_5) [.ref (ad 1 0), .ref (ad 5 0), .int ((1 : Int32) <<< (a1 &&& 31))] ⟨hx, hb, hml, hown, hts⟩ (pX6_oddsShown l D T X (ad 6) (ad 1) (ad 5) H.size gl_5 gow gn_8 ((1 : Int32) <<< (a1 &&& 31)) v9 gn_10 hc96) (cwV 3 hts gX9_who_X6_oddsShown rfl rfl rfl (by decide +kernel) ⟨Nat.le_of_ble_eq_true rfl, Nat.le_of_ble_eq_true rfl⟩) hK hP hD hS hA hX [14, 15, 1, 2, 3, 4, 5, 6, 7, 8, 9, 10, 11, 12, 13] [0] [0, 3, 4, 5, 6, 7, 8, 9, 10, 11, 12, 13, 14, 15, 1, 2] rfl rfl rfl rfl 0 rfl rfl rfl hl.1 rfl (Nat.le_of_ble_eq_true rfl) dX9_who_96 ⟨Nat.zero_le _, Nat.zero_le _⟩ (fun H locs hP hD hS => ?_)
          refine lv_lload_n hx hb dX9_who_99 rfl (lv_at hl 0 rfl) ?_
          refine lv_iload_n hx hb dX9_who_100 rfl (lv_at hl 3 rfl) ?_
          obtain ⟨v11, hc101, hf⟩ := zB1_ok hf
          refine zCallS0L [.long v9, .long v7, .int a2] ⟨hx, hb, hml, hown, hts⟩ (pX9_partOf l D T X H.size v9 v7 a2 v11 hc101) (va_cwS 3 hts gX9_who_X9_partOf rfl rfl rfl (by decide +kernel) ⟨Nat.le_of_ble_eq_true rfl, Nat.le_of_ble_eq_true rfl⟩) hK hP hD hS hA hX rfl hl.1 rfl (Nat.le_of_ble_eq_true rfl) dX9_who_101 ⟨Nat.zero_le _, Nat.zero_le _⟩ (fun H locs hP hD hS => ?_)
          refine lv_l2i hx hb dX9_who_104 rfl ?_
          obtain ⟨q1, q2, q3⟩ := zI3 hf
          subst q1
          subst q2
          subst q3
          exact zRetI hQ hx hb hr hlocks hA0 hK hP hD hS rfl dX9_who_105
        · replace hf := zIf_t hc hf
          refine lv_bipush (v := (-3)) hx hb dX9_who_78 (by decide) ?_
          obtain ⟨q1, q2, q3⟩ := zI3 hf
          subst q1
          subst q2
          subst q3
          exact zRetI hQ hx hb hr hlocks hA0 hK hP hD hS rfl dX9_who_80
      · replace hf := zIf_f hc hf
        refine lv_bipush (v := (-4)) hx hb dX9_who_35 (by decide) ?_
        obtain ⟨q1, q2, q3⟩ := zI3 hf
        subst q1
        subst q2
        subst q3
        exact zRetI hQ hx hb hr hlocks hA0 hK hP hD hS rfl dX9_who_37
    · replace hf := zIf_t hc hf
      refine lv_iconst (v := (-1)) hx hb dX9_who_18 (by decide) ?_
      obtain ⟨q1, q2, q3⟩ := zI3 hf
      subst q1
      subst q2
      subst q3
      exact zRetI hQ hx hb hr hlocks hA0 hK hP hD hS rfl dX9_who_19
set_option maxHeartbeats 4000000 in
set_option maxRecDepth 100000 in
theorem pX9_fewest (l : Launch) (D : va_G) (T : Nat → ClassId) (X : zFP) (ad : Nat → Nat → Nat) (sz : Nat) (gx : zM) (gow : zM) (gp : zM) (a1 : Int32) (a2 : Int32) (a3 : Int32) (r : Int32) (ngp : zM) (hf : fX9_fewest gx gow gp a1 a2 a3 = some (r, ngp)) : Met l yX9_fewest wsX9_fewest rX9_fewest (zPre D T X [.ref (ad 0 0), .int a1, .int a2, .int a3] (wX9 T ad gx ++ wX8 T (ad 1) gow ++ wX4 T (ad 7) gp) sz) (zQi D T r (wX9 T ad gx ++ wX8 T (ad 1) gow ++ wX4 T (ad 7) ngp) (wX9 T ad gx ++ wX8 T (ad 1) gow ++ wX4 T (ad 7) gp) sz) 0 0 (va_A (wX9 T ad gx ++ wX8 T (ad 1) gow ++ wX4 T (ad 7) gp) sz) := by
  unfold fX9_fewest at hf
  refine zStart [(0, .ref (ad 0 0)), (1, .int a1), (2, .int a2), (3, .int a3)] (by decide) rfl (Nat.le_of_ble_eq_true rfl) rfl ?_
  intro p e s m args below meth c A Q ls hx hb hr hml hown hlocks hts hsz hA0 hQ hA hK hX hP hD hS hl
  replace hown : s.vm.findClass RX9 = some m.cls := hown
  have hH := hsz
  have hiX9 : ∀ w ∈ u_ws RX9 TX9 12, w ∈ wsX9_fewest := fun w h => List.mem_cons_of_mem _ (List.mem_append_left _ (List.mem_append_left _ (List.mem_append_right _ (h))))
  obtain ⟨H, hHe⟩ : ∃ H : Heap, H = s.heap := ⟨_, rfl⟩
  obtain ⟨locs, hLe⟩ : ∃ L : List Loc, L = [] := ⟨_, rfl⟩
  replace hP : va_P D vwCl (wX9 T ad gx ++ wX8 T (ad 1) gow ++ wX4 T (ad 7) gp) H := by rw [hHe]; exact hP
  replace hS : va_S A s.heap H locs := by rw [hHe, hLe]; exact hS
  suffices hgo : W p l e rX9_fewest s m args below meth c H locs 0 0 Q (F0 m 0 ls []) by rw [hHe, hLe] at hgo; exact hgo
  clear hHe hLe
  refine lv_aload_n hx hb dX9_fewest_0 rfl (lv_at hl 0 rfl) ?_
  refine lv_iload_n hx hb dX9_fewest_1 rfl (lv_at hl 1 rfl) ?_
  refine lv_iload_n hx hb dX9_fewest_2 rfl (lv_at hl 2 rfl) ?_
  obtain ⟨v1, hc3, hf⟩ := zB1_ok hf
  refine zCallVJI (wr := wX4 T (ad 7) gp) (ws' := wX9 T ad gx ++ wX8 T (ad 1) gow ++ wX4 T (ad 7) gp) [.int a1, .int a2] ⟨hx, hb, hml, hown, hts⟩ (pX9_isPair l D T X ad H.size gx gow a1 a2 v1 hc3) (cwV 2 hts gX9_fewest_X9_isPair rfl rfl rfl (by decide +kernel) ⟨Nat.le_of_ble_eq_true rfl, Nat.le_of_ble_eq_true rfl⟩) hK hP hD hS hA hX [0, 1, 2, 3, 4, 5, 6, 7, 8, 9, 10, 11] [12, 13] [2, 3, 4, 5, 6, 7, 8, 9, 10, 11, 12, 13, 0, 1] rfl rfl rfl rfl 0 rfl rfl rfl hl.1 rfl (Nat.le_of_ble_eq_true rfl) dX9_fewest_3 ⟨Nat.zero_le _, Nat.zero_le _⟩ (fun H locs hP hD hS => ?_)
  refine lv_if_eq (tgt := 16) hx hb dX9_fewest_6 (by decide) (fun hc => ?_) (fun hc => ?_)
  · replace hf := zIf_t hc hf
    refine lv_iconst (v := (-1)) hx hb dX9_fewest_16 (by decide) ?_
    obtain ⟨q1, q2⟩ := zI2 hf
    subst q1
    subst q2
    exact zRetI hQ hx hb hr hlocks hA0 hK hP hD hS rfl dX9_fewest_17
  · replace hf := zIf_f hc hf
    refine lv_iload_n hx hb dX9_fewest_9 rfl (lv_at hl 3 rfl) ?_
    obtain ⟨v2, hc10, hf⟩ := zB1_ok hf
    refine zCallS0I [.int a3] ⟨hx, hb, hml, hown, hts⟩ (pX9_isEither l D T X H.size a3 v2 hc10) (va_cwS 1 hts gX9_fewest_X9_isEither rfl rfl rfl (by decide +kernel) ⟨Nat.le_of_ble_eq_true rfl, Nat.le_of_ble_eq_true rfl⟩) hK hP hD hS hA hX rfl hl.1 rfl (Nat.le_of_ble_eq_true rfl) dX9_fewest_10 ⟨Nat.zero_le _, Nat.zero_le _⟩ (fun H locs hP hD hS => ?_)
    refine lv_if_ne (tgt := 18) hx hb dX9_fewest_13 (by decide) (fun hc => ?_) (fun hc => ?_)
    · replace hf := zIf_f hc hf
      refine lv_aload_n hx hb dX9_fewest_18 rfl (lv_at hl 0 rfl) ?_
      refine zGet (ci := 9) (C := RX9) (F := TX9) (N := 12) (v := .ref (ad 1 0)) hx hb hts hiX9 hown hK hP 0 0 1 rfl rfl (by decide) rfl rfl rfl dX9_fewest_19 ?_
      refine lv_iconst (v := 0) hx hb dX9_fewest_22 (by decide) ?_
      obtain ⟨v3, hc23, hf⟩ := zB1_ok hf
      refine zCallVJI (wr := wX9 T ad gx ++ wX4 T (ad 7) gp) (ws' := wX9 T ad gx ++ wX8 T (ad 1) gow ++ wX4 T (ad 7) gp) [.int 0] ⟨hx, hb, hml, hown, hts⟩ (pX8_openTies l D T X (ad 1) H.size gow 0 v3 hc23) (cwV 1 hts gX9_fewest_X8_openTies rfl rfl rfl (by decide +kernel) ⟨Nat.le_of_ble_eq_true rfl, Nat.le_of_ble_eq_true rfl⟩) hK hP hD hS hA hX [1, 2, 3, 4, 5, 6, 7, 8, 9, 10, 11] [0, 12, 13] [0, 3, 4, 5, 6, 7, 8, 9, 10, 11, 12, 13, 1, 2] rfl rfl rfl rfl 0 rfl rfl rfl hl.1 rfl (Nat.le_of_ble_eq_true rfl) dX9_fewest_23 ⟨Nat.zero_le _, Nat.zero_le _⟩ (fun H locs hP hD hS => ?_)
      refine lv_istore (lv' := [(4, .int v3), (0, .ref (ad 0 0)), (1, .int a1), (2, .int a2), (3, .int a3)]) hx hb dX9_fewest_26 hl (by decide) rfl (fun ls hl => ?_)
      refine lv_bipush (v := (-3)) hx hb dX9_fewest_28 (by decide) ?_
      refine lv_istore (lv' := [(5, .int (-3)), (4, .int v3), (0, .ref (ad 0 0)), (1, .int a1), (2, .int a2), (3, .int a3)]) hx hb dX9_fewest_30 hl (by decide) rfl (fun ls hl => ?_)
      refine lv_iconst (v := 0) hx hb dX9_fewest_32 (by decide) ?_
      refine lv_istore (lv' := [(6, .int 0), (5, .int (-3)), (4, .int v3), (0, .ref (ad 0 0)), (1, .int a1), (2, .int a2), (3, .int a3)]) hx hb dX9_fewest_33 hl (by decide) rfl (fun ls hl => ?_)
      obtain ⟨ex, hlp, hf⟩ := zB1_ok hf
      have hE35_140 : ∀ (v7 : Int32) (gp_8 : zM) , ex = (v7, gp_8) → ∀ (H : Heap) (locs : List Loc) (ls : Array Slot), va_P D vwCl (wX9 T ad gx ++ wX8 T (ad 1) gow ++ wX4 T (ad 7) gp_8) H → va_D A (wX9 T ad gx ++ wX8 T (ad 1) gow ++ wX4 T (ad 7) gp_8) → va_S A s.heap H locs → lv_has ls 9 [(5, .int v7)] → W p l e rX9_fewest s m args below meth c H locs 0 0 Q (F0 m 140 ls []) := by
        intro v7 gp_8 hex H locs ls hP hD hS hl
        have hf := zEx2 hex hf
        refine lv_iload hx hb dX9_fewest_140 (lv_at hl 0 rfl) ?_
        obtain ⟨q1, q2⟩ := zI2 hf
        subst q1
        subst q2
        exact zRetI hQ hx hb hr hlocks hA0 hK hP hD hS rfl dX9_fewest_142
      refine zLpS3 (body := (fX9_fewest_L35 a1 a2 a3 gow v3)) (b := ex) (fun (v4 : Int32) (v5 : Int32) (gp_6 : zM) => ∀ (H : Heap) (locs : List Loc) (ls : Array Slot), va_P D vwCl (wX9 T ad gx ++ wX8 T (ad 1) gow ++ wX4 T (ad 7) gp_6) H → va_D A (wX9 T ad gx ++ wX8 T (ad 1) gow ++ wX4 T (ad 7) gp_6) → va_S A s.heap H locs → lv_has ls 9 [(0, .ref (ad 0 0)), (1, .int a1), (2, .int a2), (3, .int a3), (4, .int v3), (5, .int v4), (6, .int v5)] → W p l e rX9_fewest s m args below meth c H locs 0 0 Q (F0 m 35 ls [])) ?_ zFU (-3) 0 gp hlp H locs ls hP hD hS (lv_sub hl [3, 4, 5, 6, 2, 1, 0] rfl)
      intro v4 v5 gp_6 z hf hzz H locs ls hP hD hS hl
      unfold fX9_fewest_L35 at hf
      replace hf := zUk3 hf
      refine lv_iload hx hb dX9_fewest_35 (lv_at hl 6 rfl) ?_
      refine lv_aload_n hx hb dX9_fewest_37 rfl (lv_at hl 0 rfl) ?_
      refine zGet (ci := 9) (C := RX9) (F := TX9) (N := 12) (v := .ref (ad 1 0)) hx hb hts hiX9 hown hK hP 0 0 1 rfl rfl (by decide) rfl rfl rfl dX9_fewest_38 ?_
      obtain ⟨v9, hc41, hf⟩ := zB1_ok hf
      refine zCallVJI (wr := wX9 T ad gx ++ wX4 T (ad 7) gp_6) (ws' := wX9 T ad gx ++ wX8 T (ad 1) gow ++ wX4 T (ad 7) gp_6) [] ⟨hx, hb, hml, hown, hts⟩ (pX8_everybody l D T X (ad 1) H.size gow v9 hc41) (cwV 0 hts gX9_fewest_X8_everybody rfl rfl rfl (by decide +kernel) ⟨Nat.le_of_ble_eq_true rfl, Nat.le_of_ble_eq_true rfl⟩) hK hP hD hS hA hX [1, 2, 3, 4, 5, 6, 7, 8, 9, 10, 11] [0, 12, 13] [0, 3, 4, 5, 6, 7, 8, 9, 10, 11, 12, 13, 1, 2] rfl rfl rfl rfl 0 rfl rfl rfl hl.1 rfl (Nat.le_of_ble_eq_true rfl) dX9_fewest_41 ⟨Nat.zero_le _, Nat.zero_le _⟩ (fun H locs hP hD hS => ?_)
      refine lv_icmp_gt (tgt := 140) hx hb dX9_fewest_44 (by decide) (fun hc => ?_) (fun hc => ?_)
      · replace hf := zIf_t hc hf
        cases hf
        exact hE35_140 v4 gp_6 hzz.symm H locs ls hP hD hS (lv_sub hl [5] rfl)
      · replace hf := zIf_f hc hf
        refine lv_iload hx hb dX9_fewest_47 (lv_at hl 6 rfl) ?_
        refine lv_iload_n hx hb dX9_fewest_49 rfl (lv_at hl 1 rfl) ?_
        refine lv_ishr hx hb dX9_fewest_50 ?_
        refine lv_iconst (v := 1) hx hb dX9_fewest_51 (by decide) ?_
        refine lv_iand hx hb dX9_fewest_52 ?_
        have hJ134 : ∀ (v10 : Int32) (gp_11 : zM) (H : Heap) (locs : List Loc) (ls : Array Slot), fX9_fewest_L35J134 v5 v10 gp_11 = some z → va_P D vwCl (wX9 T ad gx ++ wX8 T (ad 1) gow ++ wX4 T (ad 7) gp_11) H → va_D A (wX9 T ad gx ++ wX8 T (ad 1) gow ++ wX4 T (ad 7) gp_11) → va_S A s.heap H locs → lv_has ls 9 [(0, .ref (ad 0 0)), (1, .int a1), (2, .int a2), (3, .int a3), (4, .int v3), (5, .int v10), (6, .int v5)] → W p l e rX9_fewest s m args below meth c H locs 0 0 Q (F0 m 134 ls []) := by
          intro v10 gp_11 H locs ls hf hP hD hS hl
          unfold fX9_fewest_L35J134 at hf
          obtain ⟨v12, ev12⟩ : ∃ y : Int32, y = v5 + 1 := ⟨_, rfl⟩
          replace hf := zLt_at ev12 hf
          refine lv_iinc (v := v12) (lv' := [(6, .int v12), (0, .ref (ad 0 0)), (1, .int a1), (2, .int a2), (3, .int a3), (4, .int v3), (5, .int v10)]) hx hb dX9_fewest_134 hl (k := 6) rfl (by rw [ev12]; rfl) (by decide) rfl (fun ls hl => ?_)
          refine lv_goto (tgt := 35) hx hb dX9_fewest_137 (by decide) ?_
          cases hf
          exact hzz H locs ls hP hD hS (lv_sub hl [1, 2, 3, 4, 5, 6, 0] rfl)
        refine lv_if_eq (tgt := 134) hx hb dX9_fewest_53 (by decide) (fun hc => ?_) (fun hc => ?_)
        · replace hf := zIf_t hc hf
          exact hJ134 v4 gp_6 H locs ls hf hP hD hS hl
        · replace hf := zIf_f hc hf
          refine lv_iload hx hb dX9_fewest_56 (lv_at hl 6 rfl) ?_
          refine lv_iload_n hx hb dX9_fewest_58 rfl (lv_at hl 2 rfl) ?_
          refine lv_ishr hx hb dX9_fewest_59 ?_
          refine lv_iconst (v := 1) hx hb dX9_fewest_60 (by decide) ?_
          refine lv_iand hx hb dX9_fewest_61 ?_
          refine lv_if_eq (tgt := 68) hx hb dX9_fewest_62 (by decide) (fun hc => ?_) (fun hc => ?_)
          · replace hf := zIf_t hc hf
            refine lv_aload_n hx hb dX9_fewest_68 rfl (lv_at hl 0 rfl) ?_
            refine zGet (ci := 9) (C := RX9) (F := TX9) (N := 12) (v := .ref (ad 7 0)) hx hb hts hiX9 hown hK hP 0 7 2 rfl rfl (by decide) rfl rfl rfl dX9_fewest_69 ?_
            refine lv_iload hx hb dX9_fewest_72 (lv_at hl 6 rfl) ?_
            obtain ⟨gp_13, hc74, hf⟩ := zB1_ok hf
            refine zCallVJV (wr := wX9 T ad gx ++ wX8 T (ad 1) gow) (ws' := wX9 T ad gx ++ wX8 T (ad 1) gow ++ wX4 T (ad 7) gp_13) [.int v5] ⟨hx, hb, hml, hown, hts⟩ (pX4_halve l D T X (ad 7) H.size gp_6 v5 gp_13 hc74) (cwV 1 hts gX9_fewest_X4_halve rfl rfl rfl (by decide +kernel) ⟨Nat.le_of_ble_eq_true rfl, Nat.le_of_ble_eq_true rfl⟩) hK hP hD hS hA hX [12, 13] [0, 1, 2, 3, 4, 5, 6, 7, 8, 9, 10, 11] [0, 1, 2, 3, 4, 5, 6, 7, 8, 9, 10, 11, 12, 13] rfl rfl rfl rfl 0 rfl rfl rfl hl.1 rfl (Nat.le_of_ble_eq_true rfl) dX9_fewest_74 ⟨Nat.zero_le _, Nat.zero_le _⟩ (fun H locs hP hD hS => ?_)
            refine lv_aload_n hx hb dX9_fewest_77 rfl (lv_at hl 0 rfl) ?_
            refine zGet (ci := 9) (C := RX9) (F := TX9) (N := 12) (v := .ref (ad 7 0)) hx hb hts hiX9 hown hK hP 0 7 2 rfl rfl (by decide) rfl rfl rfl dX9_fewest_78 ?_
            refine lv_aload_n hx hb dX9_fewest_81 rfl (lv_at hl 0 rfl) ?_
            refine zGet (ci := 9) (C := RX9) (F := TX9) (N := 12) (v := .ref (ad 1 0)) hx hb hts hiX9 hown hK hP 0 0 1 rfl rfl (by decide) rfl rfl rfl dX9_fewest_82 ?_
            refine lv_iload hx hb dX9_fewest_85 (lv_at hl 4 rfl) ?_
            obtain ⟨v14, hc87, hf⟩ := zB1_ok hf
            refine zCallVJI (wr := wX9 T ad gx) (ws' := wX9 T ad gx ++ wX8 T (ad 1) gow ++ wX4 T (ad 7) gp_13) [.ref (ad 1 0), .int v3] ⟨hx, hb, hml, hown, hts⟩ (pX4_cost l D T X (ad 7) (ad 1) H.size gp_13 gow v3 v14 hc87) (cwV 2 hts gX9_fewest_X4_cost rfl rfl rfl (by decide +kernel) ⟨Nat.le_of_ble_eq_true rfl, Nat.le_of_ble_eq_true rfl⟩) hK hP hD hS hA hX [12, 13, 1, 2, 3, 4, 5, 6, 7, 8, 9, 10, 11] [0] [0, 3, 4, 5, 6, 7, 8, 9, 10, 11, 12, 13, 1, 2] rfl rfl rfl rfl 0 rfl rfl rfl hl.1 rfl (Nat.le_of_ble_eq_true rfl) dX9_fewest_87 ⟨Nat.zero_le _, Nat.zero_le _⟩ (fun H locs hP hD hS => ?_)
            refine lv_istore (lv' := [(7, .int v14), (0, .ref (ad 0 0)), (1, .int a1), (2, .int a2), (3, .int a3), (4, .int v3), (5, .int v4), (6, .int v5)]) hx hb dX9_fewest_90 hl (by decide) rfl (fun ls hl => ?_)
            refine lv_iload_n hx hb dX9_fewest_92 rfl (lv_at hl 4 rfl) ?_
            have hJ111 : ∀ (v15 : Int32) (H : Heap) (locs : List Loc) (ls : Array Slot), fX9_fewest_L35J111 v4 v5 gp_13 v14 v15 = some z → va_P D vwCl (wX9 T ad gx ++ wX8 T (ad 1) gow ++ wX4 T (ad 7) gp_13) H → va_D A (wX9 T ad gx ++ wX8 T (ad 1) gow ++ wX4 T (ad 7) gp_13) → va_S A s.heap H locs → lv_has ls 9 [(0, .ref (ad 0 0)), (1, .int a1), (2, .int a2), (3, .int a3), (4, .int v3), (5, .int v4), (6, .int v5), (7, .int v14)] → W p l e rX9_fewest s m args below meth c H locs 0 0 Q (F0 m 111 ls [.int v15]) := by
              intro v15 H locs ls hf hP hD hS hl
              unfold fX9_fewest_L35J111 at hf
              refine lv_istore (lv' := [(8, .int v15), (0, .ref (ad 0 0)), (1, .int a1), (2, .int a2), (3, .int a3), (4, .int v3), (5, .int v4), (6, .int v5), (7, .int v14)]) hx hb dX9_fewest_111 hl (by decide) rfl (fun ls hl => ?_)
              refine lv_iload hx hb dX9_fewest_113 (lv_at hl 8 rfl) ?_
              refine lv_if_lt (tgt := 134) hx hb dX9_fewest_115 (by decide) (fun hc => ?_) (fun hc => ?_)
              · replace hf := zIf_t hc hf
                exact hJ134 v4 gp_13 H locs ls hf hP hD hS (lv_sub hl [1, 2, 3, 4, 5, 6, 7] rfl)
              · replace hf := zIf_f hc hf
                refine lv_iload hx hb dX9_fewest_118 (lv_at hl 6 rfl) ?_
                have hJ130 : ∀ (H : Heap) (locs : List Loc) (ls : Array Slot), fX9_fewest_L35J130 v5 gp_13 v15 = some z → va_P D vwCl (wX9 T ad gx ++ wX8 T (ad 1) gow ++ wX4 T (ad 7) gp_13) H → va_D A (wX9 T ad gx ++ wX8 T (ad 1) gow ++ wX4 T (ad 7) gp_13) → va_S A s.heap H locs → lv_has ls 9 [(0, .ref (ad 0 0)), (1, .int a1), (2, .int a2), (3, .int a3), (4, .int v3), (6, .int v5), (8, .int v15)] → W p l e rX9_fewest s m args below meth c H locs 0 0 Q (F0 m 130 ls []) := by
                  intro H locs ls hf hP hD hS hl
                  unfold fX9_fewest_L35J130 at hf
                  refine lv_iload hx hb dX9_fewest_130 (lv_at hl 6 rfl) ?_
                  refine lv_istore (lv' := [(5, .int v15), (0, .ref (ad 0 0)), (1, .int a1), (2, .int a2), (3, .int a3), (4, .int v3), (6, .int v5), (8, .int v15)]) hx hb dX9_fewest_132 hl (by decide) rfl (fun ls hl => ?_)
                  exact hJ134 v15 gp_13 H locs ls hf hP hD hS (lv_sub hl [1, 2, 3, 4, 5, 0, 6] rfl)
                refine lv_if_lt (tgt := 130) hx hb dX9_fewest_120 (by decide) (fun hc => ?_) (fun hc => ?_)
                · replace hf := zIf_t hc hf
                  exact hJ130 H locs ls hf hP hD hS (lv_sub hl [1, 2, 3, 4, 5, 7, 0] rfl)
                · replace hf := zIf_f hc hf
                  refine lv_iload hx hb dX9_fewest_123 (lv_at hl 0 rfl) ?_
                  refine lv_iload hx hb dX9_fewest_125 (lv_at hl 6 rfl) ?_
                  refine lv_icmp_ge (tgt := 134) hx hb dX9_fewest_127 (by decide) (fun hc => ?_) (fun hc => ?_)
                  · replace hf := zIf_t hc hf
                    exact hJ134 v4 gp_13 H locs ls hf hP hD hS (lv_sub hl [1, 2, 3, 4, 5, 6, 7] rfl)
                  · replace hf := zIf_f hc hf
                    exact hJ130 H locs ls hf hP hD hS (lv_sub hl [1, 2, 3, 4, 5, 7, 0] rfl)
            refine lv_if_ne (tgt := 105) hx hb dX9_fewest_93 (by decide) (fun hc => ?_) (fun hc => ?_)
            · replace hf := zIf_f hc hf
              refine lv_iload hx hb dX9_fewest_105 (lv_at hl 0 rfl) ?_
              refine lv_sipush (v := 2048) hx hb dX9_fewest_107 (by decide) ?_
              refine lv_irem hx hb dX9_fewest_110 (by decide) ?_
              exact hJ111 (v14 - v14 / 2048 * 2048) H locs ls hf hP hD hS (lv_sub hl [1, 2, 3, 4, 5, 6, 7, 0] rfl)
            · replace hf := zIf_t hc hf
              refine lv_iload hx hb dX9_fewest_96 (lv_at hl 0 rfl) ?_
              refine lv_sipush (v := 2048) hx hb dX9_fewest_98 (by decide) ?_
              refine lv_idiv hx hb dX9_fewest_101 (by decide) ?_
              refine lv_goto (tgt := 111) hx hb dX9_fewest_102 (by decide) ?_
              exact hJ111 (v14 / 2048) H locs ls hf hP hD hS (lv_sub hl [1, 2, 3, 4, 5, 6, 7, 0] rfl)
          · replace hf := zIf_f hc hf
            refine lv_goto (tgt := 134) hx hb dX9_fewest_65 (by decide) ?_
            exact hJ134 v4 gp_6 H locs ls hf hP hD hS hl
    · replace hf := zIf_t hc hf
      refine lv_iconst (v := (-1)) hx hb dX9_fewest_16 (by decide) ?_
      obtain ⟨q1, q2⟩ := zI2 hf
      subst q1
      subst q2
      exact zRetI hQ hx hb hr hlocks hA0 hK hP hD hS rfl dX9_fewest_17
set_option maxHeartbeats 4000000 in
set_option maxRecDepth 100000 in
theorem pX9_countOrSet (l : Launch) (D : va_G) (T : Nat → ClassId) (X : zFP) (sz : Nat) (a1 : Int32) (a2 : Int32) (r : Int32) (hf : fX9_countOrSet a1 a2 = some r) : Met l yX9_countOrSet wsX9_countOrSet rX9_countOrSet (zPre D T X [.int a1, .int a2] ([]) sz) (zQi D T r ([]) ([]) sz) 0 0 (va_A ([]) sz) := by
  unfold fX9_countOrSet at hf
  refine zStart [(0, .int a1), (1, .int a2)] (by decide) rfl (Nat.le_of_ble_eq_true rfl) rfl ?_
  intro p e s m args below meth c A Q ls hx hb hr hml hown hlocks hts hsz hA0 hQ hA hK hX hP hD hS hl
  replace hown : s.vm.findClass RX9 = some m.cls := hown
  have hH := hsz
  obtain ⟨H, hHe⟩ : ∃ H : Heap, H = s.heap := ⟨_, rfl⟩
  obtain ⟨locs, hLe⟩ : ∃ L : List Loc, L = [] := ⟨_, rfl⟩
  replace hP : va_P D vwCl ([]) H := by rw [hHe]; exact hP
  replace hS : va_S A s.heap H locs := by rw [hHe, hLe]; exact hS
  suffices hgo : W p l e rX9_countOrSet s m args below meth c H locs 0 0 Q (F0 m 0 ls []) by rw [hHe, hLe] at hgo; exact hgo
  clear hHe hLe
  refine lv_iload_n hx hb dX9_countOrSet_0 rfl (lv_at hl 1 rfl) ?_
  refine lv_if_ne (tgt := 11) hx hb dX9_countOrSet_1 (by decide) (fun hc => ?_) (fun hc => ?_)
  · replace hf := zIf_f hc hf
    refine lv_iload_n hx hb dX9_countOrSet_11 rfl (lv_at hl 0 rfl) ?_
    obtain ⟨q1, -⟩ := zI1 hf
    subst q1
    exact zRetI hQ hx hb hr hlocks hA0 hK hP hD hS rfl dX9_countOrSet_12
  · replace hf := zIf_t hc hf
    refine lv_iload_n hx hb dX9_countOrSet_4 rfl (lv_at hl 0 rfl) ?_
    obtain ⟨v1, hc5, hf⟩ := zB1_ok hf
    refine zCallS0I [.int a1] ⟨hx, hb, hml, hown, hts⟩ (pJ6_bitCount_0f7a4 l D T X H.size a1 v1 hc5) (va_cwS 1 hts gX9_countOrSet_J6_bitCount_0f7a4 rfl rfl rfl (by decide +kernel) ⟨Nat.le_of_ble_eq_true rfl, Nat.le_of_ble_eq_true rfl⟩) hK hP hD hS hA hX rfl hl.1 rfl (Nat.le_of_ble_eq_true rfl) dX9_countOrSet_5 ⟨Nat.zero_le _, Nat.zero_le _⟩ (fun H locs hP hD hS => ?_)
    refine lv_goto (tgt := 12) hx hb dX9_countOrSet_8 (by decide) ?_
    obtain ⟨q1, -⟩ := zI1 hf
    subst q1
    exact zRetI hQ hx hb hr hlocks hA0 hK hP hD hS rfl dX9_countOrSet_12
set_option maxHeartbeats 4000000 in
set_option maxRecDepth 100000 in
theorem pX9_between (l : Launch) (D : va_G) (T : Nat → ClassId) (X : zFP) (ad : Nat → Nat → Nat) (sz : Nat) (gx : zM) (gow : zM) (gn : zM) (a1 : Int32) (a2 : Int32) (a3 : Int32) (r : Int32) (ngn : zM) (hf : fX9_between gx gow gn a1 a2 a3 = some (r, ngn)) : Met l yX9_between wsX9_between rX9_between (zPre D T X [.ref (ad 0 0), .int a1, .int a2, .int a3] (wX9 T ad gx ++ wX8 T (ad 1) gow ++ wX3 T (ad 5) gn) sz) (zQi D T r (wX9 T ad gx ++ wX8 T (ad 1) gow ++ wX3 T (ad 5) ngn) (wX9 T ad gx ++ wX8 T (ad 1) gow ++ wX3 T (ad 5) gn) sz) 0 0 (va_A (wX9 T ad gx ++ wX8 T (ad 1) gow ++ wX3 T (ad 5) gn) sz) := by
  unfold fX9_between at hf
  refine zStart [(0, .ref (ad 0 0)), (1, .int a1), (2, .int a2), (3, .int a3)] (by decide) rfl (Nat.le_of_ble_eq_true rfl) rfl ?_
  intro p e s m args below meth c A Q ls hx hb hr hml hown hlocks hts hsz hA0 hQ hA hK hX hP hD hS hl
  replace hown : s.vm.findClass RX9 = some m.cls := hown
  have hH := hsz
  have hiX3 : ∀ w ∈ u_ws RX3 TX3 1, w ∈ wsX9_between := fun w h => List.mem_cons_of_mem _ (List.mem_append_left _ (List.mem_append_right _ (h)))
  have hiX9 : ∀ w ∈ u_ws RX9 TX9 12, w ∈ wsX9_between := fun w h => List.mem_cons_of_mem _ (List.mem_append_left _ (List.mem_append_left _ (List.mem_append_right _ (h))))
  obtain ⟨H, hHe⟩ : ∃ H : Heap, H = s.heap := ⟨_, rfl⟩
  obtain ⟨locs, hLe⟩ : ∃ L : List Loc, L = [] := ⟨_, rfl⟩
  replace hP : va_P D vwCl (wX9 T ad gx ++ wX8 T (ad 1) gow ++ wX3 T (ad 5) gn) H := by rw [hHe]; exact hP
  replace hS : va_S A s.heap H locs := by rw [hHe, hLe]; exact hS
  suffices hgo : W p l e rX9_between s m args below meth c H locs 0 0 Q (F0 m 0 ls []) by rw [hHe, hLe] at hgo; exact hgo
  clear hHe hLe
  refine lv_aload_n hx hb dX9_between_0 rfl (lv_at hl 0 rfl) ?_
  refine lv_iload_n hx hb dX9_between_1 rfl (lv_at hl 1 rfl) ?_
  refine lv_iload_n hx hb dX9_between_2 rfl (lv_at hl 2 rfl) ?_
  obtain ⟨v1, hc3, hf⟩ := zB1_ok hf
  refine zCallVJI (wr := wX3 T (ad 5) gn) (ws' := wX9 T ad gx ++ wX8 T (ad 1) gow ++ wX3 T (ad 5) gn) [.int a1, .int a2] ⟨hx, hb, hml, hown, hts⟩ (pX9_isPair l D T X ad H.size gx gow a1 a2 v1 hc3) (cwV 2 hts gX9_between_X9_isPair rfl rfl rfl (by decide +kernel) ⟨Nat.le_of_ble_eq_true rfl, Nat.le_of_ble_eq_true rfl⟩) hK hP hD hS hA hX [0, 1, 2, 3, 4, 5, 6, 7, 8, 9, 10, 11] [12, 13] [2, 3, 4, 5, 6, 7, 8, 9, 10, 11, 12, 13, 0, 1] rfl rfl rfl rfl 0 rfl rfl rfl hl.1 rfl (Nat.le_of_ble_eq_true rfl) dX9_between_3 ⟨Nat.zero_le _, Nat.zero_le _⟩ (fun H locs hP hD hS => ?_)
  refine lv_if_eq (tgt := 16) hx hb dX9_between_6 (by decide) (fun hc => ?_) (fun hc => ?_)
  · replace hf := zIf_t hc hf
    refine lv_iconst (v := (-1)) hx hb dX9_between_16 (by decide) ?_
    obtain ⟨q1, q2⟩ := zI2 hf
    subst q1
    subst q2
    exact zRetI hQ hx hb hr hlocks hA0 hK hP hD hS rfl dX9_between_17
  · replace hf := zIf_f hc hf
    refine lv_iload_n hx hb dX9_between_9 rfl (lv_at hl 3 rfl) ?_
    obtain ⟨v2, hc10, hf⟩ := zB1_ok hf
    refine zCallS0I [.int a3] ⟨hx, hb, hml, hown, hts⟩ (pX9_isEither l D T X H.size a3 v2 hc10) (va_cwS 1 hts gX9_between_X9_isEither rfl rfl rfl (by decide +kernel) ⟨Nat.le_of_ble_eq_true rfl, Nat.le_of_ble_eq_true rfl⟩) hK hP hD hS hA hX rfl hl.1 rfl (Nat.le_of_ble_eq_true rfl) dX9_between_10 ⟨Nat.zero_le _, Nat.zero_le _⟩ (fun H locs hP hD hS => ?_)
    refine lv_if_ne (tgt := 18) hx hb dX9_between_13 (by decide) (fun hc => ?_) (fun hc => ?_)
    · replace hf := zIf_f hc hf
      refine lv_aload_n hx hb dX9_between_18 rfl (lv_at hl 0 rfl) ?_
      obtain ⟨gn_3, hc19, hf⟩ := zB1_ok hf
      refine zCallVEV [] ⟨hx, hb, hml, hown, hts⟩ (pX9_layOpenTies l D T X ad H.size gx gow gn gn_3 hc19) (cwV 0 hts gX9_between_X9_layOpenTies rfl rfl rfl (by decide +kernel) ⟨Nat.le_of_ble_eq_true rfl, Nat.le_of_ble_eq_true rfl⟩) hK hP hD hS hA hX 0 rfl rfl rfl hl.1 rfl (Nat.le_of_ble_eq_true rfl) dX9_between_19 ⟨Nat.zero_le _, Nat.zero_le _⟩ (fun H locs hP hD hS => ?_)
      refine lv_aload_n hx hb dX9_between_22 rfl (lv_at hl 0 rfl) ?_
      refine zGet (ci := 9) (C := RX9) (F := TX9) (N := 12) (v := .ref (ad 5 0)) hx hb hts hiX9 hown hK hP 0 5 1 rfl rfl (by decide) rfl rfl rfl dX9_between_23 ?_
      refine zGet (ci := 3) (C := RX3) (F := TX3) (N := 1) (v := .ref (ad 5 1)) hx hb hts hiX3 hown hK hP 12 0 2 rfl rfl (by decide) rfl rfl rfl dX9_between_26 ?_
      refine lv_iload_n hx hb dX9_between_29 rfl (lv_at hl 1 rfl) ?_
      obtain ⟨hg, hf⟩ := zGd_ok hf
      refine zAldI hx hb hK hP 13 rfl hg dX9_between_30 (fun v4 ev4 => ?_)
      replace hf := zLt_at ev4 hf
      refine lv_iload_n hx hb dX9_between_31 rfl (lv_at hl 2 rfl) ?_
      refine lv_ishr hx hb dX9_between_32 ?_
      refine lv_iconst (v := 1) hx hb dX9_between_33 (by decide) ?_
      refine lv_iand hx hb dX9_between_34 ?_
      refine lv_if_eq (tgt := 41) hx hb dX9_between_35 (by decide) (fun hc => ?_) (fun hc => ?_)
      · replace hf := zIf_t hc hf
        refine lv_aload_n hx hb dX9_between_41 rfl (lv_at hl 0 rfl) ?_
        refine zGet (ci := 9) (C := RX9) (F := TX9) (N := 12) (v := .ref (ad 1 0)) hx hb hts hiX9 hown hK hP 0 0 3 rfl rfl (by decide) rfl rfl rfl dX9_between_42 ?_
        obtain ⟨v5, hc45, hf⟩ := zB1_ok hf
        refine zCallVJI (wr := wX9 T ad gx ++ wX3 T (ad 5) gn_3) (ws' := wX9 T ad gx ++ wX8 T (ad 1) gow ++ wX3 T (ad 5) gn_3) [] ⟨hx, hb, hml, hown, hts⟩ (pX8_everybody l D T X (ad 1) H.size gow v5 hc45) (cwV 0 hts gX9_between_X8_everybody rfl rfl rfl (by decide +kernel) ⟨Nat.le_of_ble_eq_true rfl, Nat.le_of_ble_eq_true rfl⟩) hK hP hD hS hA hX [1, 2, 3, 4, 5, 6, 7, 8, 9, 10, 11] [0, 12, 13] [0, 3, 4, 5, 6, 7, 8, 9, 10, 11, 12, 13, 1, 2] rfl rfl rfl rfl 0 rfl rfl rfl hl.1 rfl (Nat.le_of_ble_eq_true rfl) dX9_between_45 ⟨Nat.zero_le _, Nat.zero_le _⟩ (fun H locs hP hD hS => ?_)
        refine lv_istore (lv' := [(4, .int v5), (0, .ref (ad 0 0)), (1, .int a1), (2, .int a2), (3, .int a3)]) hx hb dX9_between_48 hl (by decide) rfl (fun ls hl => ?_)
        refine lv_iconst (v := 1) hx hb dX9_between_50 (by decide) ?_
        refine lv_iload_n hx hb dX9_between_51 rfl (lv_at hl 2 rfl) ?_
        refine lv_ishl hx hb dX9_between_52 ?_
        refine lv_iconst (v := 1) hx hb dX9_between_53 (by decide) ?_
        refine lv_iload_n hx hb dX9_between_54 rfl (lv_at hl 3 rfl) ?_
        refine lv_ishl hx hb dX9_between_55 ?_
        refine lv_ior hx hb dX9_between_56 ?_
        refine lv_topi (fun v6 ev6 => ?_)
        replace hf := zLt_at ev6 hf
        refine lv_istore (lv' := [(5, .int v6), (4, .int v5), (0, .ref (ad 0 0)), (1, .int a1), (2, .int a2), (3, .int a3)]) hx hb dX9_between_57 hl (by decide) rfl (fun ls hl => ?_)
        refine lv_iload hx hb dX9_between_59 (lv_at hl 1 rfl) ?_
        refine lv_iload hx hb dX9_between_61 (lv_at hl 0 rfl) ?_
        refine lv_iconst (v := (-1)) hx hb dX9_between_63 (by decide) ?_
        refine lv_ixor hx hb dX9_between_64 ?_
        refine lv_iand hx hb dX9_between_65 ?_
        refine lv_topi (fun v7 ev7 => ?_)
        replace hf := zLt_at ev7 hf
        refine lv_istore (lv' := [(6, .int v7), (5, .int v6), (4, .int v5), (0, .ref (ad 0 0)), (1, .int a1), (2, .int a2), (3, .int a3)]) hx hb dX9_between_66 hl (by decide) rfl (fun ls hl => ?_)
        refine lv_iconst (v := 0) hx hb dX9_between_68 (by decide) ?_
        refine lv_istore (lv' := [(7, .int 0), (6, .int v7), (5, .int v6), (4, .int v5), (0, .ref (ad 0 0)), (1, .int a1), (2, .int a2), (3, .int a3)]) hx hb dX9_between_69 hl (by decide) rfl (fun ls hl => ?_)
        obtain ⟨ex, hlp, hf⟩ := zB1_ok hf
        have hE71_145 : ∀ (v10 : Int32) , ex = v10 → ∀ (H : Heap) (locs : List Loc) (ls : Array Slot), va_P D vwCl (wX9 T ad gx ++ wX8 T (ad 1) gow ++ wX3 T (ad 5) gn_3) H → va_D A (wX9 T ad gx ++ wX8 T (ad 1) gow ++ wX3 T (ad 5) gn_3) → va_S A s.heap H locs → lv_has ls 9 [(3, .int a3), (6, .int v10)] → W p l e rX9_between s m args below meth c H locs 0 0 Q (F0 m 145 ls []) := by
          intro v10 hex H locs ls hP hD hS hl
          have hf := zEx1 hex hf
          refine lv_iload hx hb dX9_between_145 (lv_at hl 1 rfl) ?_
          refine lv_iload_n hx hb dX9_between_147 rfl (lv_at hl 0 rfl) ?_
          obtain ⟨v17, hc148, hf⟩ := zB1_ok hf
          refine zCallS0I [.int v10, .int a3] ⟨hx, hb, hml, hown, hts⟩ (pX9_countOrSet l D T X H.size v10 a3 v17 hc148) (va_cwS 2 hts gX9_between_X9_countOrSet rfl rfl rfl (by decide +kernel) ⟨Nat.le_of_ble_eq_true rfl, Nat.le_of_ble_eq_true rfl⟩) hK hP hD hS hA hX rfl hl.1 rfl (Nat.le_of_ble_eq_true rfl) dX9_between_148 ⟨Nat.zero_le _, Nat.zero_le _⟩ (fun H locs hP hD hS => ?_)
          obtain ⟨q1, q2⟩ := zI2 hf
          subst q1
          subst q2
          exact zRetI hQ hx hb hr hlocks hA0 hK hP hD hS rfl dX9_between_151
        refine zLpS2 (body := (fX9_between_L71 a1 a2 gn_3 v5 v6)) (b := ex) (fun (v8 : Int32) (v9 : Int32) => ∀ (H : Heap) (locs : List Loc) (ls : Array Slot), va_P D vwCl (wX9 T ad gx ++ wX8 T (ad 1) gow ++ wX3 T (ad 5) gn_3) H → va_D A (wX9 T ad gx ++ wX8 T (ad 1) gow ++ wX3 T (ad 5) gn_3) → va_S A s.heap H locs → lv_has ls 9 [(0, .ref (ad 0 0)), (1, .int a1), (2, .int a2), (3, .int a3), (4, .int v5), (5, .int v6), (6, .int v8), (7, .int v9)] → W p l e rX9_between s m args below meth c H locs 0 0 Q (F0 m 71 ls [])) ?_ zFU v7 0 hlp H locs ls hP hD hS (lv_sub hl [4, 5, 6, 7, 3, 2, 1, 0] rfl)
        intro v8 v9 z hf hzz H locs ls hP hD hS hl
        unfold fX9_between_L71 at hf
        replace hf := zUk2 hf
        refine lv_iload hx hb dX9_between_71 (lv_at hl 7 rfl) ?_
        refine lv_iload hx hb dX9_between_73 (lv_at hl 4 rfl) ?_
        refine lv_icmp_gt (tgt := 145) hx hb dX9_between_75 (by decide) (fun hc => ?_) (fun hc => ?_)
        · replace hf := zIf_t hc hf
          cases hf
          exact hE71_145 v8 hzz.symm H locs ls hP hD hS (lv_sub hl [3, 6] rfl)
        · replace hf := zIf_f hc hf
          refine lv_iload hx hb dX9_between_78 (lv_at hl 7 rfl) ?_
          refine lv_iload hx hb dX9_between_80 (lv_at hl 5 rfl) ?_
          refine lv_iand hx hb dX9_between_82 ?_
          have hJ104 : ∀ (v11 : Int32) (H : Heap) (locs : List Loc) (ls : Array Slot), fX9_between_L71J104 a1 a2 gn_3 v5 v8 v9 v11 = some z → va_P D vwCl (wX9 T ad gx ++ wX8 T (ad 1) gow ++ wX3 T (ad 5) gn_3) H → va_D A (wX9 T ad gx ++ wX8 T (ad 1) gow ++ wX3 T (ad 5) gn_3) → va_S A s.heap H locs → lv_has ls 9 [(0, .ref (ad 0 0)), (1, .int a1), (2, .int a2), (3, .int a3), (4, .int v5), (5, .int v6), (6, .int v8), (7, .int v9)] → W p l e rX9_between s m args below meth c H locs 0 0 Q (F0 m 104 ls [.int v11]) := by
            intro v11 H locs ls hf hP hD hS hl
            unfold fX9_between_L71J104 at hf
            refine lv_istore (lv' := [(8, .int v11), (0, .ref (ad 0 0)), (1, .int a1), (2, .int a2), (3, .int a3), (4, .int v5), (5, .int v6), (6, .int v8), (7, .int v9)]) hx hb dX9_between_104 hl (by decide) rfl (fun ls hl => ?_)
            refine lv_iload hx hb dX9_between_106 (lv_at hl 0 rfl) ?_
            have hJ139 : ∀ (v12 : Int32) (H : Heap) (locs : List Loc) (ls : Array Slot), fX9_between_L71J139 v9 v12 = some z → va_P D vwCl (wX9 T ad gx ++ wX8 T (ad 1) gow ++ wX3 T (ad 5) gn_3) H → va_D A (wX9 T ad gx ++ wX8 T (ad 1) gow ++ wX3 T (ad 5) gn_3) → va_S A s.heap H locs → lv_has ls 9 [(0, .ref (ad 0 0)), (1, .int a1), (2, .int a2), (3, .int a3), (4, .int v5), (5, .int v6), (6, .int v12), (7, .int v9)] → W p l e rX9_between s m args below meth c H locs 0 0 Q (F0 m 139 ls []) := by
              intro v12 H locs ls hf hP hD hS hl
              unfold fX9_between_L71J139 at hf
              obtain ⟨v13, ev13⟩ : ∃ y : Int32, y = v9 + 1 := ⟨_, rfl⟩
              replace hf := zLt_at ev13 hf
              refine lv_iinc (v := v13) (lv' := [(7, .int v13), (0, .ref (ad 0 0)), (1, .int a1), (2, .int a2), (3, .int a3), (4, .int v5), (5, .int v6), (6, .int v12)]) hx hb dX9_between_139 hl (k := 7) rfl (by rw [ev13]; rfl) (by decide) rfl (fun ls hl => ?_)
              refine lv_goto (tgt := 71) hx hb dX9_between_142 (by decide) ?_
              cases hf
              exact hzz H locs ls hP hD hS (lv_sub hl [1, 2, 3, 4, 5, 6, 7, 0] rfl)
            refine lv_if_eq (tgt := 139) hx hb dX9_between_108 (by decide) (fun hc => ?_) (fun hc => ?_)
            · replace hf := zIf_t hc hf
              exact hJ139 v8 H locs ls hf hP hD hS (lv_sub hl [1, 2, 3, 4, 5, 6, 7, 8] rfl)
            · replace hf := zIf_f hc hf
              refine lv_aload_n hx hb dX9_between_111 rfl (lv_at hl 1 rfl) ?_
              refine zGet (ci := 9) (C := RX9) (F := TX9) (N := 12) (v := .ref (ad 5 0)) hx hb hts hiX9 hown hK hP 0 5 1 rfl rfl (by decide) rfl rfl rfl dX9_between_112 ?_
              refine lv_iconst (v := 1) hx hb dX9_between_115 (by decide) ?_
              refine lv_iload_n hx hb dX9_between_116 rfl (lv_at hl 2 rfl) ?_
              refine lv_ishl hx hb dX9_between_117 ?_
              refine lv_iload hx hb dX9_between_118 (lv_at hl 5 rfl) ?_
              refine lv_iload hx hb dX9_between_120 (lv_at hl 8 rfl) ?_
              refine lv_iconst (v := (-1)) hx hb dX9_between_122 (by decide) ?_
              refine lv_ixor hx hb dX9_between_123 ?_
              refine lv_iand hx hb dX9_between_124 ?_
              obtain ⟨v14, hc125, hf⟩ := zB1_ok hf
              refine zCallVJI (wr := wX9 T ad gx ++ wX8 T (ad 1) gow) (ws' := wX9 T ad gx ++ wX8 T (ad 1) gow ++ wX3 T (ad 5) gn_3) [.int ((1 : Int32) <<< (a1 &&& 31)), .int (v5 &&& (v9 ^^^ (-1)))] ⟨hx, hb, hml, hown, hts⟩ (pX3_flood l D T X (ad 5) H.size gn_3 ((1 : Int32) <<< (a1 &&& 31)) (v5 &&& (v9 ^^^ (-1))) v14 hc125) (cwV 2 hts gX9_between_X3_flood rfl rfl rfl (by decide +kernel) ⟨Nat.le_of_ble_eq_true rfl, Nat.le_of_ble_eq_true rfl⟩) hK hP hD hS hA hX [12, 13] [0, 1, 2, 3, 4, 5, 6, 7, 8, 9, 10, 11] [0, 1, 2, 3, 4, 5, 6, 7, 8, 9, 10, 11, 12, 13] rfl rfl rfl rfl 0 rfl rfl rfl hl.1 rfl (Nat.le_of_ble_eq_true rfl) dX9_between_125 ⟨Nat.zero_le _, Nat.zero_le _⟩ (fun H locs hP hD hS => ?_)
              refine lv_iload_n hx hb dX9_between_128 rfl (lv_at hl 3 rfl) ?_
              refine lv_ishr hx hb dX9_between_129 ?_
              refine lv_iconst (v := 1) hx hb dX9_between_130 (by decide) ?_
              refine lv_iand hx hb dX9_between_131 ?_
              refine lv_if_ne (tgt := 139) hx hb dX9_between_132 (by decide) (fun hc => ?_) (fun hc => ?_)
              · replace hf := zIf_f hc hf
                exact hJ139 v8 H locs ls hf hP hD hS (lv_sub hl [1, 2, 3, 4, 5, 6, 7, 8] rfl)
              · replace hf := zIf_t hc hf
                refine lv_iload hx hb dX9_between_135 (lv_at hl 8 rfl) ?_
                refine lv_istore (lv' := [(6, .int v9), (8, .int v11), (0, .ref (ad 0 0)), (1, .int a1), (2, .int a2), (3, .int a3), (4, .int v5), (5, .int v6), (7, .int v9)]) hx hb dX9_between_137 hl (by decide) rfl (fun ls hl => ?_)
                exact hJ139 v9 H locs ls hf hP hD hS (lv_sub hl [2, 3, 4, 5, 6, 7, 0, 8] rfl)
          have hJ103 : ∀ (H : Heap) (locs : List Loc) (ls : Array Slot), fX9_between_L71J103 a1 a2 gn_3 v5 v8 v9 = some z → va_P D vwCl (wX9 T ad gx ++ wX8 T (ad 1) gow ++ wX3 T (ad 5) gn_3) H → va_D A (wX9 T ad gx ++ wX8 T (ad 1) gow ++ wX3 T (ad 5) gn_3) → va_S A s.heap H locs → lv_has ls 9 [(0, .ref (ad 0 0)), (1, .int a1), (2, .int a2), (3, .int a3), (4, .int v5), (5, .int v6), (6, .int v8), (7, .int v9)] → W p l e rX9_between s m args below meth c H locs 0 0 Q (F0 m 103 ls []) := by
            intro H locs ls hf hP hD hS hl
            unfold fX9_between_L71J103 at hf
            refine lv_iconst (v := 0) hx hb dX9_between_103 (by decide) ?_
            exact hJ104 0 H locs ls hf hP hD hS hl
          refine lv_if_ne (tgt := 103) hx hb dX9_between_83 (by decide) (fun hc => ?_) (fun hc => ?_)
          · replace hf := zIf_f hc hf
            exact hJ103 H locs ls hf hP hD hS hl
          · replace hf := zIf_t hc hf
            refine lv_iload hx hb dX9_between_86 (lv_at hl 7 rfl) ?_
            obtain ⟨v15, hc88, hf⟩ := zB1_ok hf
            refine zCallS0I [.int v9] ⟨hx, hb, hml, hown, hts⟩ (pJ6_bitCount_0f7a4 l D T X H.size v9 v15 hc88) (va_cwS 1 hts gX9_between_J6_bitCount_0f7a4 rfl rfl rfl (by decide +kernel) ⟨Nat.le_of_ble_eq_true rfl, Nat.le_of_ble_eq_true rfl⟩) hK hP hD hS hA hX rfl hl.1 rfl (Nat.le_of_ble_eq_true rfl) dX9_between_88 ⟨Nat.zero_le _, Nat.zero_le _⟩ (fun H locs hP hD hS => ?_)
            refine lv_iload hx hb dX9_between_91 (lv_at hl 6 rfl) ?_
            obtain ⟨v16, hc93, hf⟩ := zB1_ok hf
            refine zCallS0I [.int v8] ⟨hx, hb, hml, hown, hts⟩ (pJ6_bitCount_0f7a4 l D T X H.size v8 v16 hc93) (va_cwS 1 hts gX9_between_J6_bitCount_0f7a4 rfl rfl rfl (by decide +kernel) ⟨Nat.le_of_ble_eq_true rfl, Nat.le_of_ble_eq_true rfl⟩) hK hP hD hS hA hX rfl hl.1 rfl (Nat.le_of_ble_eq_true rfl) dX9_between_93 ⟨Nat.zero_le _, Nat.zero_le _⟩ (fun H locs hP hD hS => ?_)
            refine lv_icmp_ge (tgt := 103) hx hb dX9_between_96 (by decide) (fun hc => ?_) (fun hc => ?_)
            · replace hf := zIf_t hc hf
              exact hJ103 H locs ls hf hP hD hS hl
            · replace hf := zIf_f hc hf
              refine lv_iconst (v := 1) hx hb dX9_between_99 (by decide) ?_
              refine lv_goto (tgt := 104) hx hb dX9_between_100 (by decide) ?_
              exact hJ104 1 H locs ls hf hP hD hS hl
      · replace hf := zIf_f hc hf
        refine lv_bipush (v := (-3)) hx hb dX9_between_38 (by decide) ?_
        obtain ⟨q1, q2⟩ := zI2 hf
        subst q1
        subst q2
        exact zRetI hQ hx hb hr hlocks hA0 hK hP hD hS rfl dX9_between_40
    · replace hf := zIf_t hc hf
      refine lv_iconst (v := (-1)) hx hb dX9_between_16 (by decide) ?_
      obtain ⟨q1, q2⟩ := zI2 hf
      subst q1
      subst q2
      exact zRetI hQ hx hb hr hlocks hA0 hK hP hD hS rfl dX9_between_17
set_option maxHeartbeats 4000000 in
set_option maxRecDepth 100000 in
theorem pX9_small (l : Launch) (D : va_G) (T : Nat → ClassId) (X : zFP) (ad : Nat → Nat → Nat) (sz : Nat) (gx : zM) (gow : zM) (gp : zM) (a1 : Int32) (a2 : Int32) (r : Int32) (ngp : zM) (hf : fX9_small gx gow gp a1 a2 = some (r, ngp)) : Met l yX9_small wsX9_small rX9_small (zPre D T X [.ref (ad 0 0), .int a1, .int a2] (wX9 T ad gx ++ wX8 T (ad 1) gow ++ wX4 T (ad 7) gp) sz) (zQi D T r (wX9 T ad gx ++ wX8 T (ad 1) gow ++ wX4 T (ad 7) ngp) (wX9 T ad gx ++ wX8 T (ad 1) gow ++ wX4 T (ad 7) gp) sz) 0 0 (va_A (wX9 T ad gx ++ wX8 T (ad 1) gow ++ wX4 T (ad 7) gp) sz) := by
  unfold fX9_small at hf
  refine zStart [(0, .ref (ad 0 0)), (1, .int a1), (2, .int a2)] (by decide) rfl (Nat.le_of_ble_eq_true rfl) rfl ?_
  intro p e s m args below meth c A Q ls hx hb hr hml hown hlocks hts hsz hA0 hQ hA hK hX hP hD hS hl
  replace hown : s.vm.findClass RX9 = some m.cls := hown
  have hH := hsz
  have hiX8 : ∀ w ∈ u_ws RX8 TX8 14, w ∈ wsX9_small := fun w h => List.mem_cons_of_mem _ (List.mem_append_left _ (List.mem_append_right _ (h)))
  have hiX9 : ∀ w ∈ u_ws RX9 TX9 12, w ∈ wsX9_small := fun w h => List.mem_cons_of_mem _ (List.mem_append_left _ (List.mem_append_left _ (List.mem_append_right _ (h))))
  obtain ⟨H, hHe⟩ : ∃ H : Heap, H = s.heap := ⟨_, rfl⟩
  obtain ⟨locs, hLe⟩ : ∃ L : List Loc, L = [] := ⟨_, rfl⟩
  replace hP : va_P D vwCl (wX9 T ad gx ++ wX8 T (ad 1) gow ++ wX4 T (ad 7) gp) H := by rw [hHe]; exact hP
  replace hS : va_S A s.heap H locs := by rw [hHe, hLe]; exact hS
  suffices hgo : W p l e rX9_small s m args below meth c H locs 0 0 Q (F0 m 0 ls []) by rw [hHe, hLe] at hgo; exact hgo
  clear hHe hLe
  refine lv_iload_n hx hb dX9_small_0 rfl (lv_at hl 1 rfl) ?_
  refine lv_iconst (v := 1) hx hb dX9_small_1 (by decide) ?_
  refine lv_icmp_lt (tgt := 18) hx hb dX9_small_2 (by decide) (fun hc => ?_) (fun hc => ?_)
  · replace hf := zIf_t hc hf
    refine lv_iconst (v := (-1)) hx hb dX9_small_18 (by decide) ?_
    obtain ⟨q1, q2⟩ := zI2 hf
    subst q1
    subst q2
    exact zRetI hQ hx hb hr hlocks hA0 hK hP hD hS rfl dX9_small_19
  · replace hf := zIf_f hc hf
    refine lv_iload_n hx hb dX9_small_5 rfl (lv_at hl 1 rfl) ?_
    refine lv_bipush (v := 10) hx hb dX9_small_6 (by decide) ?_
    refine lv_icmp_gt (tgt := 18) hx hb dX9_small_8 (by decide) (fun hc => ?_) (fun hc => ?_)
    · replace hf := zIf_t hc hf
      refine lv_iconst (v := (-1)) hx hb dX9_small_18 (by decide) ?_
      obtain ⟨q1, q2⟩ := zI2 hf
      subst q1
      subst q2
      exact zRetI hQ hx hb hr hlocks hA0 hK hP hD hS rfl dX9_small_19
    · replace hf := zIf_f hc hf
      refine lv_iload_n hx hb dX9_small_11 rfl (lv_at hl 2 rfl) ?_
      obtain ⟨v1, hc12, hf⟩ := zB1_ok hf
      refine zCallS0I [.int a2] ⟨hx, hb, hml, hown, hts⟩ (pX9_isEither l D T X H.size a2 v1 hc12) (va_cwS 1 hts gX9_small_X9_isEither rfl rfl rfl (by decide +kernel) ⟨Nat.le_of_ble_eq_true rfl, Nat.le_of_ble_eq_true rfl⟩) hK hP hD hS hA hX rfl hl.1 rfl (Nat.le_of_ble_eq_true rfl) dX9_small_12 ⟨Nat.zero_le _, Nat.zero_le _⟩ (fun H locs hP hD hS => ?_)
      refine lv_if_ne (tgt := 20) hx hb dX9_small_15 (by decide) (fun hc => ?_) (fun hc => ?_)
      · replace hf := zIf_f hc hf
        refine lv_aload_n hx hb dX9_small_20 rfl (lv_at hl 0 rfl) ?_
        refine zGet (ci := 9) (C := RX9) (F := TX9) (N := 12) (v := .ref (ad 1 0)) hx hb hts hiX9 hown hK hP 0 0 1 rfl rfl (by decide) rfl rfl rfl dX9_small_21 ?_
        refine zGet (ci := 8) (C := RX8) (F := TX8) (N := 14) (v := .int (gow 0 0)) hx hb hts hiX8 hown hK hP 1 0 2 rfl rfl (by decide) rfl rfl rfl dX9_small_24 ?_
        refine lv_bipush (v := 7) hx hb dX9_small_27 (by decide) ?_
        refine lv_icmp_le (tgt := 35) hx hb dX9_small_29 (by decide) (fun hc => ?_) (fun hc => ?_)
        · replace hf := zIf_t hc hf
          refine lv_aload_n hx hb dX9_small_35 rfl (lv_at hl 0 rfl) ?_
          refine zGet (ci := 9) (C := RX9) (F := TX9) (N := 12) (v := .ref (ad 1 0)) hx hb hts hiX9 hown hK hP 0 0 1 rfl rfl (by decide) rfl rfl rfl dX9_small_36 ?_
          refine lv_iconst (v := 0) hx hb dX9_small_39 (by decide) ?_
          obtain ⟨v2, hc40, hf⟩ := zB1_ok hf
          refine zCallVJI (wr := wX9 T ad gx ++ wX4 T (ad 7) gp) (ws' := wX9 T ad gx ++ wX8 T (ad 1) gow ++ wX4 T (ad 7) gp) [.int 0] ⟨hx, hb, hml, hown, hts⟩ (pX8_openTies l D T X (ad 1) H.size gow 0 v2 hc40) (cwV 1 hts gX9_small_X8_openTies rfl rfl rfl (by decide +kernel) ⟨Nat.le_of_ble_eq_true rfl, Nat.le_of_ble_eq_true rfl⟩) hK hP hD hS hA hX [1, 2, 3, 4, 5, 6, 7, 8, 9, 10, 11] [0, 12, 13] [0, 3, 4, 5, 6, 7, 8, 9, 10, 11, 12, 13, 1, 2] rfl rfl rfl rfl 0 rfl rfl rfl hl.1 rfl (Nat.le_of_ble_eq_true rfl) dX9_small_40 ⟨Nat.zero_le _, Nat.zero_le _⟩ (fun H locs hP hD hS => ?_)
          refine lv_istore_n (lv' := [(3, .int v2), (0, .ref (ad 0 0)), (1, .int a1), (2, .int a2)]) hx hb dX9_small_43 rfl hl (by decide) rfl (fun ls hl => ?_)
          refine lv_bipush (v := (-3)) hx hb dX9_small_44 (by decide) ?_
          refine lv_istore (lv' := [(4, .int (-3)), (3, .int v2), (0, .ref (ad 0 0)), (1, .int a1), (2, .int a2)]) hx hb dX9_small_46 hl (by decide) rfl (fun ls hl => ?_)
          refine lv_aload_n hx hb dX9_small_48 rfl (lv_at hl 2 rfl) ?_
          refine zGet (ci := 9) (C := RX9) (F := TX9) (N := 12) (v := .ref (ad 7 0)) hx hb hts hiX9 hown hK hP 0 7 3 rfl rfl (by decide) rfl rfl rfl dX9_small_49 ?_
          refine lv_aload_n hx hb dX9_small_52 rfl (lv_at hl 2 rfl) ?_
          refine zGet (ci := 9) (C := RX9) (F := TX9) (N := 12) (v := .ref (ad 1 0)) hx hb hts hiX9 hown hK hP 0 0 1 rfl rfl (by decide) rfl rfl rfl dX9_small_53 ?_
          refine zGet (ci := 8) (C := RX8) (F := TX8) (N := 14) (v := .int (gow 0 0)) hx hb hts hiX8 hown hK hP 1 0 2 rfl rfl (by decide) rfl rfl rfl dX9_small_56 ?_
          obtain ⟨v3, gp_4, hc59, hf⟩ := zB2_ok hf
          refine zCallVJI (wr := wX9 T ad gx ++ wX8 T (ad 1) gow) (ws' := wX9 T ad gx ++ wX8 T (ad 1) gow ++ wX4 T (ad 7) gp_4) [.int (gow 0 0)] ⟨hx, hb, hml, hown, hts⟩ (pX4_begin l D T X (ad 7) H.size gp (gow 0 0) v3 gp_4 hc59) (cwV 1 hts gX9_small_X4_begin rfl rfl rfl (by decide +kernel) ⟨Nat.le_of_ble_eq_true rfl, Nat.le_of_ble_eq_true rfl⟩) hK hP hD hS hA hX [12, 13] [0, 1, 2, 3, 4, 5, 6, 7, 8, 9, 10, 11] [0, 1, 2, 3, 4, 5, 6, 7, 8, 9, 10, 11, 12, 13] rfl rfl rfl rfl 0 rfl rfl rfl hl.1 rfl (Nat.le_of_ble_eq_true rfl) dX9_small_59 ⟨Nat.zero_le _, Nat.zero_le _⟩ (fun H locs hP hD hS => ?_)
          refine lv_istore (lv' := [(5, .int v3), (4, .int (-3)), (3, .int v2), (0, .ref (ad 0 0)), (1, .int a1), (2, .int a2)]) hx hb dX9_small_62 hl (by decide) rfl (fun ls hl => ?_)
          refine lv_iconst (v := 0) hx hb dX9_small_64 (by decide) ?_
          refine lv_istore (lv' := [(6, .int 0), (5, .int v3), (4, .int (-3)), (3, .int v2), (0, .ref (ad 0 0)), (1, .int a1), (2, .int a2)]) hx hb dX9_small_65 hl (by decide) rfl (fun ls hl => ?_)
          obtain ⟨ex, hlp, hf⟩ := zB1_ok hf
          have hE67_146 : ∀ (v9 : Int32) (gp_10 : zM) , ex = (v9, gp_10) → ∀ (H : Heap) (locs : List Loc) (ls : Array Slot), va_P D vwCl (wX9 T ad gx ++ wX8 T (ad 1) gow ++ wX4 T (ad 7) gp_10) H → va_D A (wX9 T ad gx ++ wX8 T (ad 1) gow ++ wX4 T (ad 7) gp_10) → va_S A s.heap H locs → lv_has ls 8 [(2, .int a2), (4, .int v9)] → W p l e rX9_small s m args below meth c H locs 0 0 Q (F0 m 146 ls []) := by
            intro v9 gp_10 hex H locs ls hP hD hS hl
            have hf := zEx2 hex hf
            refine lv_iload hx hb dX9_small_146 (lv_at hl 1 rfl) ?_
            refine lv_if_ge (tgt := 154) hx hb dX9_small_148 (by decide) (fun hc => ?_) (fun hc => ?_)
            · replace hf := zIf_t hc hf
              refine lv_iload_n hx hb dX9_small_154 rfl (lv_at hl 0 rfl) ?_
              refine lv_if_ne (tgt := 167) hx hb dX9_small_155 (by decide) (fun hc => ?_) (fun hc => ?_)
              · replace hf := zIf_f hc hf
                refine lv_iload hx hb dX9_small_167 (lv_at hl 1 rfl) ?_
                refine lv_sipush (v := 2048) hx hb dX9_small_169 (by decide) ?_
                refine lv_irem hx hb dX9_small_172 (by decide) ?_
                obtain ⟨q1, q2⟩ := zI2 hf
                subst q1
                subst q2
                exact zRetI hQ hx hb hr hlocks hA0 hK hP hD hS rfl dX9_small_173
              · replace hf := zIf_t hc hf
                refine lv_iload hx hb dX9_small_158 (lv_at hl 1 rfl) ?_
                refine lv_sipush (v := 2048) hx hb dX9_small_160 (by decide) ?_
                refine lv_idiv hx hb dX9_small_163 (by decide) ?_
                refine lv_goto (tgt := 173) hx hb dX9_small_164 (by decide) ?_
                obtain ⟨q1, q2⟩ := zI2 hf
                subst q1
                subst q2
                exact zRetI hQ hx hb hr hlocks hA0 hK hP hD hS rfl dX9_small_173
            · replace hf := zIf_f hc hf
              refine lv_bipush (v := (-3)) hx hb dX9_small_151 (by decide) ?_
              obtain ⟨q1, q2⟩ := zI2 hf
              subst q1
              subst q2
              exact zRetI hQ hx hb hr hlocks hA0 hK hP hD hS rfl dX9_small_153
          refine zLpS4 (body := (fX9_small_L67 a1 gow v2)) (b := ex) (fun (v5 : Int32) (v6 : Int32) (v7 : Int32) (gp_8 : zM) => ∀ (H : Heap) (locs : List Loc) (ls : Array Slot), va_P D vwCl (wX9 T ad gx ++ wX8 T (ad 1) gow ++ wX4 T (ad 7) gp_8) H → va_D A (wX9 T ad gx ++ wX8 T (ad 1) gow ++ wX4 T (ad 7) gp_8) → va_S A s.heap H locs → lv_has ls 8 [(0, .ref (ad 0 0)), (1, .int a1), (2, .int a2), (3, .int v2), (4, .int v5), (5, .int v6), (6, .int v7)] → W p l e rX9_small s m args below meth c H locs 0 0 Q (F0 m 67 ls [])) ?_ zFU (-3) v3 0 gp_4 hlp H locs ls hP hD hS (lv_sub hl [4, 5, 6, 3, 2, 1, 0] rfl)
          intro v5 v6 v7 gp_8 z hf hzz H locs ls hP hD hS hl
          unfold fX9_small_L67 at hf
          replace hf := zUk4 hf
          refine lv_iload hx hb dX9_small_67 (lv_at hl 6 rfl) ?_
          refine lv_sipush (v := 877) hx hb dX9_small_69 (by decide) ?_
          refine lv_icmp_ge (tgt := 146) hx hb dX9_small_72 (by decide) (fun hc => ?_) (fun hc => ?_)
          · replace hf := zIf_t hc hf
            cases hf
            exact hE67_146 v5 gp_8 hzz.symm H locs ls hP hD hS (lv_sub hl [2, 4] rfl)
          · replace hf := zIf_f hc hf
            refine lv_iload hx hb dX9_small_75 (lv_at hl 5 rfl) ?_
            refine lv_if_eq (tgt := 146) hx hb dX9_small_77 (by decide) (fun hc => ?_) (fun hc => ?_)
            · replace hf := zIf_t hc hf
              cases hf
              exact hE67_146 v5 gp_8 hzz.symm H locs ls hP hD hS (lv_sub hl [2, 4] rfl)
            · replace hf := zIf_f hc hf
              refine lv_aload_n hx hb dX9_small_80 rfl (lv_at hl 0 rfl) ?_
              refine zGet (ci := 9) (C := RX9) (F := TX9) (N := 12) (v := .ref (ad 7 0)) hx hb hts hiX9 hown hK hP 0 7 3 rfl rfl (by decide) rfl rfl rfl dX9_small_81 ?_
              refine lv_iload_n hx hb dX9_small_84 rfl (lv_at hl 1 rfl) ?_
              obtain ⟨v11, hc85, hf⟩ := zB1_ok hf
              refine zCallVJI (wr := wX9 T ad gx ++ wX8 T (ad 1) gow) (ws' := wX9 T ad gx ++ wX8 T (ad 1) gow ++ wX4 T (ad 7) gp_8) [.int a1] ⟨hx, hb, hml, hown, hts⟩ (pX4_holds l D T X (ad 7) H.size gp_8 a1 v11 hc85) (cwV 1 hts gX9_small_X4_holds rfl rfl rfl (by decide +kernel) ⟨Nat.le_of_ble_eq_true rfl, Nat.le_of_ble_eq_true rfl⟩) hK hP hD hS hA hX [12, 13] [0, 1, 2, 3, 4, 5, 6, 7, 8, 9, 10, 11] [0, 1, 2, 3, 4, 5, 6, 7, 8, 9, 10, 11, 12, 13] rfl rfl rfl rfl 0 rfl rfl rfl hl.1 rfl (Nat.le_of_ble_eq_true rfl) dX9_small_85 ⟨Nat.zero_le _, Nat.zero_le _⟩ (fun H locs hP hD hS => ?_)
              have hJ108 : ∀ (v12 : Int32) (H : Heap) (locs : List Loc) (ls : Array Slot), fX9_small_L67J108 v5 v7 gp_8 v12 = some z → va_P D vwCl (wX9 T ad gx ++ wX8 T (ad 1) gow ++ wX4 T (ad 7) gp_8) H → va_D A (wX9 T ad gx ++ wX8 T (ad 1) gow ++ wX4 T (ad 7) gp_8) → va_S A s.heap H locs → lv_has ls 8 [(0, .ref (ad 0 0)), (1, .int a1), (2, .int a2), (3, .int v2), (4, .int v5), (6, .int v7)] → W p l e rX9_small s m args below meth c H locs 0 0 Q (F0 m 108 ls [.int v12]) := by
                intro v12 H locs ls hf hP hD hS hl
                unfold fX9_small_L67J108 at hf
                refine lv_istore (lv' := [(7, .int v12), (0, .ref (ad 0 0)), (1, .int a1), (2, .int a2), (3, .int v2), (4, .int v5), (6, .int v7)]) hx hb dX9_small_108 hl (by decide) rfl (fun ls hl => ?_)
                refine lv_iload hx hb dX9_small_110 (lv_at hl 0 rfl) ?_
                have hJ131 : ∀ (v13 : Int32) (H : Heap) (locs : List Loc) (ls : Array Slot), fX9_small_L67J131 v7 gp_8 v13 = some z → va_P D vwCl (wX9 T ad gx ++ wX8 T (ad 1) gow ++ wX4 T (ad 7) gp_8) H → va_D A (wX9 T ad gx ++ wX8 T (ad 1) gow ++ wX4 T (ad 7) gp_8) → va_S A s.heap H locs → lv_has ls 8 [(0, .ref (ad 0 0)), (1, .int a1), (2, .int a2), (3, .int v2), (4, .int v13), (6, .int v7)] → W p l e rX9_small s m args below meth c H locs 0 0 Q (F0 m 131 ls []) := by
                  intro v13 H locs ls hf hP hD hS hl
                  unfold fX9_small_L67J131 at hf
                  refine lv_aload_n hx hb dX9_small_131 rfl (lv_at hl 0 rfl) ?_
                  refine zGet (ci := 9) (C := RX9) (F := TX9) (N := 12) (v := .ref (ad 7 0)) hx hb hts hiX9 hown hK hP 0 7 3 rfl rfl (by decide) rfl rfl rfl dX9_small_132 ?_
                  obtain ⟨v14, gp_15, hc135, hf⟩ := zB2_ok hf
                  refine zCallVJI (wr := wX9 T ad gx ++ wX8 T (ad 1) gow) (ws' := wX9 T ad gx ++ wX8 T (ad 1) gow ++ wX4 T (ad 7) gp_15) [] ⟨hx, hb, hml, hown, hts⟩ (pX4_advance l D T X (ad 7) H.size gp_8 v14 gp_15 hc135) (cwV 0 hts gX9_small_X4_advance rfl rfl rfl (by decide +kernel) ⟨Nat.le_of_ble_eq_true rfl, Nat.le_of_ble_eq_true rfl⟩) hK hP hD hS hA hX [12, 13] [0, 1, 2, 3, 4, 5, 6, 7, 8, 9, 10, 11] [0, 1, 2, 3, 4, 5, 6, 7, 8, 9, 10, 11, 12, 13] rfl rfl rfl rfl 0 rfl rfl rfl hl.1 rfl (Nat.le_of_ble_eq_true rfl) dX9_small_135 ⟨Nat.zero_le _, Nat.zero_le _⟩ (fun H locs hP hD hS => ?_)
                  refine lv_istore (lv' := [(5, .int v14), (0, .ref (ad 0 0)), (1, .int a1), (2, .int a2), (3, .int v2), (4, .int v13), (6, .int v7)]) hx hb dX9_small_138 hl (by decide) rfl (fun ls hl => ?_)
                  obtain ⟨v16, ev16⟩ : ∃ y : Int32, y = v7 + 1 := ⟨_, rfl⟩
                  replace hf := zLt_at ev16 hf
                  refine lv_iinc (v := v16) (lv' := [(6, .int v16), (5, .int v14), (0, .ref (ad 0 0)), (1, .int a1), (2, .int a2), (3, .int v2), (4, .int v13)]) hx hb dX9_small_140 hl (k := 6) rfl (by rw [ev16]; rfl) (by decide) rfl (fun ls hl => ?_)
                  refine lv_goto (tgt := 67) hx hb dX9_small_143 (by decide) ?_
                  cases hf
                  exact hzz H locs ls hP hD hS (lv_sub hl [2, 3, 4, 5, 6, 1, 0] rfl)
                refine lv_if_lt (tgt := 131) hx hb dX9_small_112 (by decide) (fun hc => ?_) (fun hc => ?_)
                · replace hf := zIf_t hc hf
                  exact hJ131 v5 H locs ls hf hP hD hS (lv_sub hl [1, 2, 3, 4, 5, 6] rfl)
                · replace hf := zIf_f hc hf
                  refine lv_iload hx hb dX9_small_115 (lv_at hl 5 rfl) ?_
                  have hJ127 : ∀ (H : Heap) (locs : List Loc) (ls : Array Slot), fX9_small_L67J127 v7 gp_8 v12 = some z → va_P D vwCl (wX9 T ad gx ++ wX8 T (ad 1) gow ++ wX4 T (ad 7) gp_8) H → va_D A (wX9 T ad gx ++ wX8 T (ad 1) gow ++ wX4 T (ad 7) gp_8) → va_S A s.heap H locs → lv_has ls 8 [(0, .ref (ad 0 0)), (1, .int a1), (2, .int a2), (3, .int v2), (6, .int v7), (7, .int v12)] → W p l e rX9_small s m args below meth c H locs 0 0 Q (F0 m 127 ls []) := by
                    intro H locs ls hf hP hD hS hl
                    unfold fX9_small_L67J127 at hf
                    refine lv_iload hx hb dX9_small_127 (lv_at hl 5 rfl) ?_
                    refine lv_istore (lv' := [(4, .int v12), (0, .ref (ad 0 0)), (1, .int a1), (2, .int a2), (3, .int v2), (6, .int v7), (7, .int v12)]) hx hb dX9_small_129 hl (by decide) rfl (fun ls hl => ?_)
                    exact hJ131 v12 H locs ls hf hP hD hS (lv_sub hl [1, 2, 3, 4, 0, 5] rfl)
                  refine lv_if_lt (tgt := 127) hx hb dX9_small_117 (by decide) (fun hc => ?_) (fun hc => ?_)
                  · replace hf := zIf_t hc hf
                    exact hJ127 H locs ls hf hP hD hS (lv_sub hl [1, 2, 3, 4, 6, 0] rfl)
                  · replace hf := zIf_f hc hf
                    refine lv_iload hx hb dX9_small_120 (lv_at hl 0 rfl) ?_
                    refine lv_iload hx hb dX9_small_122 (lv_at hl 5 rfl) ?_
                    refine lv_icmp_ge (tgt := 131) hx hb dX9_small_124 (by decide) (fun hc => ?_) (fun hc => ?_)
                    · replace hf := zIf_t hc hf
                      exact hJ131 v5 H locs ls hf hP hD hS (lv_sub hl [1, 2, 3, 4, 5, 6] rfl)
                    · replace hf := zIf_f hc hf
                      exact hJ127 H locs ls hf hP hD hS (lv_sub hl [1, 2, 3, 4, 6, 0] rfl)
              refine lv_if_eq (tgt := 106) hx hb dX9_small_88 (by decide) (fun hc => ?_) (fun hc => ?_)
              · replace hf := zIf_t hc hf
                refine lv_bipush (v := (-3)) hx hb dX9_small_106 (by decide) ?_
                exact hJ108 (-3) H locs ls hf hP hD hS (lv_sub hl [0, 1, 2, 3, 4, 6] rfl)
              · replace hf := zIf_f hc hf
                refine lv_aload_n hx hb dX9_small_91 rfl (lv_at hl 0 rfl) ?_
                refine zGet (ci := 9) (C := RX9) (F := TX9) (N := 12) (v := .ref (ad 7 0)) hx hb hts hiX9 hown hK hP 0 7 3 rfl rfl (by decide) rfl rfl rfl dX9_small_92 ?_
                refine lv_aload_n hx hb dX9_small_95 rfl (lv_at hl 0 rfl) ?_
                refine zGet (ci := 9) (C := RX9) (F := TX9) (N := 12) (v := .ref (ad 1 0)) hx hb hts hiX9 hown hK hP 0 0 1 rfl rfl (by decide) rfl rfl rfl dX9_small_96 ?_
                refine lv_iload_n hx hb dX9_small_99 rfl (lv_at hl 3 rfl) ?_
                obtain ⟨v17, hc100, hf⟩ := zB1_ok hf
                refine zCallVJI (wr := wX9 T ad gx) (ws' := wX9 T ad gx ++ wX8 T (ad 1) gow ++ wX4 T (ad 7) gp_8) [.ref (ad 1 0), .int v2] ⟨hx, hb, hml, hown, hts⟩ (pX4_cost l D T X (ad 7) (ad 1) H.size gp_8 gow v2 v17 hc100) (cwV 2 hts gX9_small_X4_cost rfl rfl rfl (by decide +kernel) ⟨Nat.le_of_ble_eq_true rfl, Nat.le_of_ble_eq_true rfl⟩) hK hP hD hS hA hX [12, 13, 1, 2, 3, 4, 5, 6, 7, 8, 9, 10, 11] [0] [0, 3, 4, 5, 6, 7, 8, 9, 10, 11, 12, 13, 1, 2] rfl rfl rfl rfl 0 rfl rfl rfl hl.1 rfl (Nat.le_of_ble_eq_true rfl) dX9_small_100 ⟨Nat.zero_le _, Nat.zero_le _⟩ (fun H locs hP hD hS => ?_)
                refine lv_goto (tgt := 108) hx hb dX9_small_103 (by decide) ?_
                exact hJ108 v17 H locs ls hf hP hD hS (lv_sub hl [0, 1, 2, 3, 4, 6] rfl)
        · replace hf := zIf_f hc hf
          refine lv_bipush (v := (-4)) hx hb dX9_small_32 (by decide) ?_
          obtain ⟨q1, q2⟩ := zI2 hf
          subst q1
          subst q2
          exact zRetI hQ hx hb hr hlocks hA0 hK hP hD hS rfl dX9_small_34
      · replace hf := zIf_t hc hf
        refine lv_iconst (v := (-1)) hx hb dX9_small_18 (by decide) ?_
        obtain ⟨q1, q2⟩ := zI2 hf
        subst q1
        subst q2
        exact zRetI hQ hx hb hr hlocks hA0 hK hP hD hS rfl dX9_small_19
set_option maxHeartbeats 4000000 in
set_option maxRecDepth 100000 in
theorem pX9_sit (l : Launch) (D : va_G) (T : Nat → ClassId) (X : zFP) (ad : Nat → Nat → Nat) (sz : Nat) (gx : zM) (gow : zM) (gp : zM) (a1 : Int32) (a2 : Int32) (r : Int32) (ngp : zM) (hf : fX9_sit gx gow gp a1 a2 = some (r, ngp)) : Met l yX9_sit wsX9_sit rX9_sit (zPre D T X [.ref (ad 0 0), .int a1, .int a2] (wX9 T ad gx ++ wX8 T (ad 1) gow ++ wX4 T (ad 7) gp) sz) (zQi D T r (wX9 T ad gx ++ wX8 T (ad 1) gow ++ wX4 T (ad 7) ngp) (wX9 T ad gx ++ wX8 T (ad 1) gow ++ wX4 T (ad 7) gp) sz) 0 0 (va_A (wX9 T ad gx ++ wX8 T (ad 1) gow ++ wX4 T (ad 7) gp) sz) := by
  unfold fX9_sit at hf
  refine zStart [(0, .ref (ad 0 0)), (1, .int a1), (2, .int a2)] (by decide) rfl (Nat.le_of_ble_eq_true rfl) rfl ?_
  intro p e s m args below meth c A Q ls hx hb hr hml hown hlocks hts hsz hA0 hQ hA hK hX hP hD hS hl
  replace hown : s.vm.findClass RX9 = some m.cls := hown
  have hH := hsz
  have hiX8 : ∀ w ∈ u_ws RX8 TX8 14, w ∈ wsX9_sit := fun w h => List.mem_cons_of_mem _ (List.mem_append_left _ (List.mem_append_right _ (h)))
  have hiX9 : ∀ w ∈ u_ws RX9 TX9 12, w ∈ wsX9_sit := fun w h => List.mem_cons_of_mem _ (List.mem_append_left _ (List.mem_append_left _ (List.mem_append_right _ (h))))
  obtain ⟨H, hHe⟩ : ∃ H : Heap, H = s.heap := ⟨_, rfl⟩
  obtain ⟨locs, hLe⟩ : ∃ L : List Loc, L = [] := ⟨_, rfl⟩
  replace hP : va_P D vwCl (wX9 T ad gx ++ wX8 T (ad 1) gow ++ wX4 T (ad 7) gp) H := by rw [hHe]; exact hP
  replace hS : va_S A s.heap H locs := by rw [hHe, hLe]; exact hS
  suffices hgo : W p l e rX9_sit s m args below meth c H locs 0 0 Q (F0 m 0 ls []) by rw [hHe, hLe] at hgo; exact hgo
  clear hHe hLe
  refine lv_iload_n hx hb dX9_sit_0 rfl (lv_at hl 1 rfl) ?_
  refine lv_iconst (v := 1) hx hb dX9_sit_1 (by decide) ?_
  refine lv_icmp_lt (tgt := 18) hx hb dX9_sit_2 (by decide) (fun hc => ?_) (fun hc => ?_)
  · replace hf := zIf_t hc hf
    refine lv_iconst (v := (-1)) hx hb dX9_sit_18 (by decide) ?_
    obtain ⟨q1, q2⟩ := zI2 hf
    subst q1
    subst q2
    exact zRetI hQ hx hb hr hlocks hA0 hK hP hD hS rfl dX9_sit_19
  · replace hf := zIf_f hc hf
    refine lv_iload_n hx hb dX9_sit_5 rfl (lv_at hl 1 rfl) ?_
    refine lv_bipush (v := 10) hx hb dX9_sit_6 (by decide) ?_
    refine lv_icmp_gt (tgt := 18) hx hb dX9_sit_8 (by decide) (fun hc => ?_) (fun hc => ?_)
    · replace hf := zIf_t hc hf
      refine lv_iconst (v := (-1)) hx hb dX9_sit_18 (by decide) ?_
      obtain ⟨q1, q2⟩ := zI2 hf
      subst q1
      subst q2
      exact zRetI hQ hx hb hr hlocks hA0 hK hP hD hS rfl dX9_sit_19
    · replace hf := zIf_f hc hf
      refine lv_iload_n hx hb dX9_sit_11 rfl (lv_at hl 2 rfl) ?_
      obtain ⟨v1, hc12, hf⟩ := zB1_ok hf
      refine zCallS0I [.int a2] ⟨hx, hb, hml, hown, hts⟩ (pX9_isEither l D T X H.size a2 v1 hc12) (va_cwS 1 hts gX9_sit_X9_isEither rfl rfl rfl (by decide +kernel) ⟨Nat.le_of_ble_eq_true rfl, Nat.le_of_ble_eq_true rfl⟩) hK hP hD hS hA hX rfl hl.1 rfl (Nat.le_of_ble_eq_true rfl) dX9_sit_12 ⟨Nat.zero_le _, Nat.zero_le _⟩ (fun H locs hP hD hS => ?_)
      refine lv_if_ne (tgt := 20) hx hb dX9_sit_15 (by decide) (fun hc => ?_) (fun hc => ?_)
      · replace hf := zIf_f hc hf
        refine lv_aload_n hx hb dX9_sit_20 rfl (lv_at hl 0 rfl) ?_
        refine zGet (ci := 9) (C := RX9) (F := TX9) (N := 12) (v := .ref (ad 1 0)) hx hb hts hiX9 hown hK hP 0 0 1 rfl rfl (by decide) rfl rfl rfl dX9_sit_21 ?_
        refine zGet (ci := 8) (C := RX8) (F := TX8) (N := 14) (v := .int (gow 0 0)) hx hb hts hiX8 hown hK hP 1 0 2 rfl rfl (by decide) rfl rfl rfl dX9_sit_24 ?_
        refine lv_bipush (v := 7) hx hb dX9_sit_27 (by decide) ?_
        refine lv_icmp_le (tgt := 35) hx hb dX9_sit_29 (by decide) (fun hc => ?_) (fun hc => ?_)
        · replace hf := zIf_t hc hf
          refine lv_iconst (v := (-1)) hx hb dX9_sit_35 (by decide) ?_
          refine lv_istore_n (lv' := [(3, .int (-1)), (0, .ref (ad 0 0)), (1, .int a1), (2, .int a2)]) hx hb dX9_sit_36 rfl hl (by decide) rfl (fun ls hl => ?_)
          refine lv_iconst (v := 0) hx hb dX9_sit_37 (by decide) ?_
          refine lv_istore (lv' := [(4, .int 0), (3, .int (-1)), (0, .ref (ad 0 0)), (1, .int a1), (2, .int a2)]) hx hb dX9_sit_38 hl (by decide) rfl (fun ls hl => ?_)
          refine lv_aload_n hx hb dX9_sit_40 rfl (lv_at hl 2 rfl) ?_
          refine zGet (ci := 9) (C := RX9) (F := TX9) (N := 12) (v := .ref (ad 7 0)) hx hb hts hiX9 hown hK hP 0 7 3 rfl rfl (by decide) rfl rfl rfl dX9_sit_41 ?_
          refine lv_aload_n hx hb dX9_sit_44 rfl (lv_at hl 2 rfl) ?_
          refine zGet (ci := 9) (C := RX9) (F := TX9) (N := 12) (v := .ref (ad 1 0)) hx hb hts hiX9 hown hK hP 0 0 1 rfl rfl (by decide) rfl rfl rfl dX9_sit_45 ?_
          refine zGet (ci := 8) (C := RX8) (F := TX8) (N := 14) (v := .int (gow 0 0)) hx hb hts hiX8 hown hK hP 1 0 2 rfl rfl (by decide) rfl rfl rfl dX9_sit_48 ?_
          obtain ⟨v2, gp_3, hc51, hf⟩ := zB2_ok hf
          refine zCallVJI (wr := wX9 T ad gx ++ wX8 T (ad 1) gow) (ws' := wX9 T ad gx ++ wX8 T (ad 1) gow ++ wX4 T (ad 7) gp_3) [.int (gow 0 0)] ⟨hx, hb, hml, hown, hts⟩ (pX4_begin l D T X (ad 7) H.size gp (gow 0 0) v2 gp_3 hc51) (cwV 1 hts gX9_sit_X4_begin rfl rfl rfl (by decide +kernel) ⟨Nat.le_of_ble_eq_true rfl, Nat.le_of_ble_eq_true rfl⟩) hK hP hD hS hA hX [12, 13] [0, 1, 2, 3, 4, 5, 6, 7, 8, 9, 10, 11] [0, 1, 2, 3, 4, 5, 6, 7, 8, 9, 10, 11, 12, 13] rfl rfl rfl rfl 0 rfl rfl rfl hl.1 rfl (Nat.le_of_ble_eq_true rfl) dX9_sit_51 ⟨Nat.zero_le _, Nat.zero_le _⟩ (fun H locs hP hD hS => ?_)
          refine lv_istore (lv' := [(5, .int v2), (4, .int 0), (3, .int (-1)), (0, .ref (ad 0 0)), (1, .int a1), (2, .int a2)]) hx hb dX9_sit_54 hl (by decide) rfl (fun ls hl => ?_)
          refine lv_iconst (v := 0) hx hb dX9_sit_56 (by decide) ?_
          refine lv_istore (lv' := [(6, .int 0), (5, .int v2), (4, .int 0), (3, .int (-1)), (0, .ref (ad 0 0)), (1, .int a1), (2, .int a2)]) hx hb dX9_sit_57 hl (by decide) rfl (fun ls hl => ?_)
          obtain ⟨ex, hlp, hf⟩ := zB1_ok hf
          have hE59_136 : ∀ (v9 : Int32) (v10 : Int32) (gp_11 : zM) , ex = (v9, v10, gp_11) → ∀ (H : Heap) (locs : List Loc) (ls : Array Slot), va_P D vwCl (wX9 T ad gx ++ wX8 T (ad 1) gow ++ wX4 T (ad 7) gp_11) H → va_D A (wX9 T ad gx ++ wX8 T (ad 1) gow ++ wX4 T (ad 7) gp_11) → va_S A s.heap H locs → lv_has ls 8 [(2, .int a2), (3, .int v9), (4, .int v10)] → W p l e rX9_sit s m args below meth c H locs 0 0 Q (F0 m 136 ls []) := by
            intro v9 v10 gp_11 hex H locs ls hP hD hS hl
            have hf := zEx3 hex hf
            refine lv_iload_n hx hb dX9_sit_136 rfl (lv_at hl 0 rfl) ?_
            refine lv_if_ne (tgt := 144) hx hb dX9_sit_137 (by decide) (fun hc => ?_) (fun hc => ?_)
            · replace hf := zIf_f hc hf
              refine lv_iload hx hb dX9_sit_144 (lv_at hl 2 rfl) ?_
              obtain ⟨q1, q2⟩ := zI2 hf
              subst q1
              subst q2
              exact zRetI hQ hx hb hr hlocks hA0 hK hP hD hS rfl dX9_sit_146
            · replace hf := zIf_t hc hf
              refine lv_iload_n hx hb dX9_sit_140 rfl (lv_at hl 1 rfl) ?_
              refine lv_goto (tgt := 146) hx hb dX9_sit_141 (by decide) ?_
              obtain ⟨q1, q2⟩ := zI2 hf
              subst q1
              subst q2
              exact zRetI hQ hx hb hr hlocks hA0 hK hP hD hS rfl dX9_sit_146
          refine zLpS5 (body := (fX9_sit_L59 a1 gow)) (b := ex) (fun (v4 : Int32) (v5 : Int32) (v6 : Int32) (v7 : Int32) (gp_8 : zM) => ∀ (H : Heap) (locs : List Loc) (ls : Array Slot), va_P D vwCl (wX9 T ad gx ++ wX8 T (ad 1) gow ++ wX4 T (ad 7) gp_8) H → va_D A (wX9 T ad gx ++ wX8 T (ad 1) gow ++ wX4 T (ad 7) gp_8) → va_S A s.heap H locs → lv_has ls 8 [(0, .ref (ad 0 0)), (1, .int a1), (2, .int a2), (3, .int v4), (4, .int v5), (5, .int v6), (6, .int v7)] → W p l e rX9_sit s m args below meth c H locs 0 0 Q (F0 m 59 ls [])) ?_ zFU (-1) 0 v2 0 gp_3 hlp H locs ls hP hD hS (lv_sub hl [4, 5, 6, 3, 2, 1, 0] rfl)
          intro v4 v5 v6 v7 gp_8 z hf hzz H locs ls hP hD hS hl
          unfold fX9_sit_L59 at hf
          replace hf := zUk5 hf
          refine lv_iload hx hb dX9_sit_59 (lv_at hl 6 rfl) ?_
          refine lv_sipush (v := 877) hx hb dX9_sit_61 (by decide) ?_
          refine lv_icmp_ge (tgt := 136) hx hb dX9_sit_64 (by decide) (fun hc => ?_) (fun hc => ?_)
          · replace hf := zIf_t hc hf
            cases hf
            exact hE59_136 v4 v5 gp_8 hzz.symm H locs ls hP hD hS (lv_sub hl [2, 3, 4] rfl)
          · replace hf := zIf_f hc hf
            refine lv_iload hx hb dX9_sit_67 (lv_at hl 5 rfl) ?_
            refine lv_if_eq (tgt := 136) hx hb dX9_sit_69 (by decide) (fun hc => ?_) (fun hc => ?_)
            · replace hf := zIf_t hc hf
              cases hf
              exact hE59_136 v4 v5 gp_8 hzz.symm H locs ls hP hD hS (lv_sub hl [2, 3, 4] rfl)
            · replace hf := zIf_f hc hf
              refine lv_aload_n hx hb dX9_sit_72 rfl (lv_at hl 0 rfl) ?_
              refine zGet (ci := 9) (C := RX9) (F := TX9) (N := 12) (v := .ref (ad 7 0)) hx hb hts hiX9 hown hK hP 0 7 3 rfl rfl (by decide) rfl rfl rfl dX9_sit_73 ?_
              refine lv_iload_n hx hb dX9_sit_76 rfl (lv_at hl 1 rfl) ?_
              obtain ⟨v12, hc77, hf⟩ := zB1_ok hf
              refine zCallVJI (wr := wX9 T ad gx ++ wX8 T (ad 1) gow) (ws' := wX9 T ad gx ++ wX8 T (ad 1) gow ++ wX4 T (ad 7) gp_8) [.int a1] ⟨hx, hb, hml, hown, hts⟩ (pX4_holds l D T X (ad 7) H.size gp_8 a1 v12 hc77) (cwV 1 hts gX9_sit_X4_holds rfl rfl rfl (by decide +kernel) ⟨Nat.le_of_ble_eq_true rfl, Nat.le_of_ble_eq_true rfl⟩) hK hP hD hS hA hX [12, 13] [0, 1, 2, 3, 4, 5, 6, 7, 8, 9, 10, 11] [0, 1, 2, 3, 4, 5, 6, 7, 8, 9, 10, 11, 12, 13] rfl rfl rfl rfl 0 rfl rfl rfl hl.1 rfl (Nat.le_of_ble_eq_true rfl) dX9_sit_77 ⟨Nat.zero_le _, Nat.zero_le _⟩ (fun H locs hP hD hS => ?_)
              have hJ98 : ∀ (v13 : Int32) (H : Heap) (locs : List Loc) (ls : Array Slot), fX9_sit_L59J98 v4 v5 v7 gp_8 v13 = some z → va_P D vwCl (wX9 T ad gx ++ wX8 T (ad 1) gow ++ wX4 T (ad 7) gp_8) H → va_D A (wX9 T ad gx ++ wX8 T (ad 1) gow ++ wX4 T (ad 7) gp_8) → va_S A s.heap H locs → lv_has ls 8 [(0, .ref (ad 0 0)), (1, .int a1), (2, .int a2), (3, .int v4), (4, .int v5), (6, .int v7)] → W p l e rX9_sit s m args below meth c H locs 0 0 Q (F0 m 98 ls [.int v13]) := by
                intro v13 H locs ls hf hP hD hS hl
                unfold fX9_sit_L59J98 at hf
                refine lv_istore (lv' := [(7, .int v13), (0, .ref (ad 0 0)), (1, .int a1), (2, .int a2), (3, .int v4), (4, .int v5), (6, .int v7)]) hx hb dX9_sit_98 hl (by decide) rfl (fun ls hl => ?_)
                refine lv_iload hx hb dX9_sit_100 (lv_at hl 0 rfl) ?_
                refine lv_iload_n hx hb dX9_sit_102 rfl (lv_at hl 4 rfl) ?_
                have hJ112 : ∀ (v14 : Int32) (v15 : Int32) (H : Heap) (locs : List Loc) (ls : Array Slot), fX9_sit_L59J112 v7 gp_8 v13 v14 v15 = some z → va_P D vwCl (wX9 T ad gx ++ wX8 T (ad 1) gow ++ wX4 T (ad 7) gp_8) H → va_D A (wX9 T ad gx ++ wX8 T (ad 1) gow ++ wX4 T (ad 7) gp_8) → va_S A s.heap H locs → lv_has ls 8 [(0, .ref (ad 0 0)), (1, .int a1), (2, .int a2), (3, .int v14), (4, .int v15), (6, .int v7), (7, .int v13)] → W p l e rX9_sit s m args below meth c H locs 0 0 Q (F0 m 112 ls []) := by
                  intro v14 v15 H locs ls hf hP hD hS hl
                  unfold fX9_sit_L59J112 at hf
                  refine lv_iload hx hb dX9_sit_112 (lv_at hl 6 rfl) ?_
                  refine lv_iload_n hx hb dX9_sit_114 rfl (lv_at hl 3 rfl) ?_
                  have hJ121 : ∀ (v16 : Int32) (H : Heap) (locs : List Loc) (ls : Array Slot), fX9_sit_L59J121 v7 gp_8 v14 v16 = some z → va_P D vwCl (wX9 T ad gx ++ wX8 T (ad 1) gow ++ wX4 T (ad 7) gp_8) H → va_D A (wX9 T ad gx ++ wX8 T (ad 1) gow ++ wX4 T (ad 7) gp_8) → va_S A s.heap H locs → lv_has ls 8 [(0, .ref (ad 0 0)), (1, .int a1), (2, .int a2), (3, .int v14), (4, .int v16), (6, .int v7)] → W p l e rX9_sit s m args below meth c H locs 0 0 Q (F0 m 121 ls []) := by
                    intro v16 H locs ls hf hP hD hS hl
                    unfold fX9_sit_L59J121 at hf
                    refine lv_aload_n hx hb dX9_sit_121 rfl (lv_at hl 0 rfl) ?_
                    refine zGet (ci := 9) (C := RX9) (F := TX9) (N := 12) (v := .ref (ad 7 0)) hx hb hts hiX9 hown hK hP 0 7 3 rfl rfl (by decide) rfl rfl rfl dX9_sit_122 ?_
                    obtain ⟨v17, gp_18, hc125, hf⟩ := zB2_ok hf
                    refine zCallVJI (wr := wX9 T ad gx ++ wX8 T (ad 1) gow) (ws' := wX9 T ad gx ++ wX8 T (ad 1) gow ++ wX4 T (ad 7) gp_18) [] ⟨hx, hb, hml, hown, hts⟩ (pX4_advance l D T X (ad 7) H.size gp_8 v17 gp_18 hc125) (cwV 0 hts gX9_sit_X4_advance rfl rfl rfl (by decide +kernel) ⟨Nat.le_of_ble_eq_true rfl, Nat.le_of_ble_eq_true rfl⟩) hK hP hD hS hA hX [12, 13] [0, 1, 2, 3, 4, 5, 6, 7, 8, 9, 10, 11] [0, 1, 2, 3, 4, 5, 6, 7, 8, 9, 10, 11, 12, 13] rfl rfl rfl rfl 0 rfl rfl rfl hl.1 rfl (Nat.le_of_ble_eq_true rfl) dX9_sit_125 ⟨Nat.zero_le _, Nat.zero_le _⟩ (fun H locs hP hD hS => ?_)
                    refine lv_istore (lv' := [(5, .int v17), (0, .ref (ad 0 0)), (1, .int a1), (2, .int a2), (3, .int v14), (4, .int v16), (6, .int v7)]) hx hb dX9_sit_128 hl (by decide) rfl (fun ls hl => ?_)
                    obtain ⟨v19, ev19⟩ : ∃ y : Int32, y = v7 + 1 := ⟨_, rfl⟩
                    replace hf := zLt_at ev19 hf
                    refine lv_iinc (v := v19) (lv' := [(6, .int v19), (5, .int v17), (0, .ref (ad 0 0)), (1, .int a1), (2, .int a2), (3, .int v14), (4, .int v16)]) hx hb dX9_sit_130 hl (k := 6) rfl (by rw [ev19]; rfl) (by decide) rfl (fun ls hl => ?_)
                    refine lv_goto (tgt := 59) hx hb dX9_sit_133 (by decide) ?_
                    cases hf
                    exact hzz H locs ls hP hD hS (lv_sub hl [2, 3, 4, 5, 6, 1, 0] rfl)
                  refine lv_icmp_ne (tgt := 121) hx hb dX9_sit_115 (by decide) (fun hc => ?_) (fun hc => ?_)
                  · replace hf := zIf_f hc hf
                    exact hJ121 v15 H locs ls hf hP hD hS (lv_sub hl [0, 1, 2, 3, 4, 5] rfl)
                  · replace hf := zIf_t hc hf
                    obtain ⟨v20, ev20⟩ : ∃ y : Int32, y = v15 + 1 := ⟨_, rfl⟩
                    replace hf := zLt_at ev20 hf
                    refine lv_iinc (v := v20) (lv' := [(4, .int v20), (0, .ref (ad 0 0)), (1, .int a1), (2, .int a2), (3, .int v14), (6, .int v7), (7, .int v13)]) hx hb dX9_sit_118 hl (k := 4) rfl (by rw [ev20]; rfl) (by decide) rfl (fun ls hl => ?_)
                    exact hJ121 v20 H locs ls hf hP hD hS (lv_sub hl [1, 2, 3, 4, 0, 5] rfl)
                refine lv_icmp_le (tgt := 112) hx hb dX9_sit_103 (by decide) (fun hc => ?_) (fun hc => ?_)
                · replace hf := zIf_t hc hf
                  exact hJ112 v4 v5 H locs ls hf hP hD hS (lv_sub hl [1, 2, 3, 4, 5, 6, 0] rfl)
                · replace hf := zIf_f hc hf
                  refine lv_iload hx hb dX9_sit_106 (lv_at hl 0 rfl) ?_
                  refine lv_istore_n (lv' := [(3, .int v13), (7, .int v13), (0, .ref (ad 0 0)), (1, .int a1), (2, .int a2), (4, .int v5), (6, .int v7)]) hx hb dX9_sit_108 rfl hl (by decide) rfl (fun ls hl => ?_)
                  refine lv_iconst (v := 0) hx hb dX9_sit_109 (by decide) ?_
                  refine lv_istore (lv' := [(4, .int 0), (3, .int v13), (7, .int v13), (0, .ref (ad 0 0)), (1, .int a1), (2, .int a2), (6, .int v7)]) hx hb dX9_sit_110 hl (by decide) rfl (fun ls hl => ?_)
                  exact hJ112 v13 0 H locs ls hf hP hD hS (lv_sub hl [3, 4, 5, 1, 0, 6, 2] rfl)
              refine lv_if_eq (tgt := 97) hx hb dX9_sit_80 (by decide) (fun hc => ?_) (fun hc => ?_)
              · replace hf := zIf_t hc hf
                refine lv_iconst (v := (-1)) hx hb dX9_sit_97 (by decide) ?_
                exact hJ98 (-1) H locs ls hf hP hD hS (lv_sub hl [0, 1, 2, 3, 4, 6] rfl)
              · replace hf := zIf_f hc hf
                refine lv_aload_n hx hb dX9_sit_83 rfl (lv_at hl 0 rfl) ?_
                refine zGet (ci := 9) (C := RX9) (F := TX9) (N := 12) (v := .ref (ad 7 0)) hx hb hts hiX9 hown hK hP 0 7 3 rfl rfl (by decide) rfl rfl rfl dX9_sit_84 ?_
                refine lv_aload_n hx hb dX9_sit_87 rfl (lv_at hl 0 rfl) ?_
                refine zGet (ci := 9) (C := RX9) (F := TX9) (N := 12) (v := .ref (ad 1 0)) hx hb hts hiX9 hown hK hP 0 0 1 rfl rfl (by decide) rfl rfl rfl dX9_sit_88 ?_
                obtain ⟨v21, hc91, hf⟩ := zB1_ok hf
                refine zCallVJI (wr := wX9 T ad gx) (ws' := wX9 T ad gx ++ wX8 T (ad 1) gow ++ wX4 T (ad 7) gp_8) [.ref (ad 1 0)] ⟨hx, hb, hml, hown, hts⟩ (pX4_worthWithin l D T X (ad 7) (ad 1) H.size gp_8 gow v21 hc91) (cwV 1 hts gX9_sit_X4_worthWithin rfl rfl rfl (by decide +kernel) ⟨Nat.le_of_ble_eq_true rfl, Nat.le_of_ble_eq_true rfl⟩) hK hP hD hS hA hX [12, 13, 1, 2, 3, 4, 5, 6, 7, 8, 9, 10, 11] [0] [0, 3, 4, 5, 6, 7, 8, 9, 10, 11, 12, 13, 1, 2] rfl rfl rfl rfl 0 rfl rfl rfl hl.1 rfl (Nat.le_of_ble_eq_true rfl) dX9_sit_91 ⟨Nat.zero_le _, Nat.zero_le _⟩ (fun H locs hP hD hS => ?_)
                refine lv_goto (tgt := 98) hx hb dX9_sit_94 (by decide) ?_
                exact hJ98 v21 H locs ls hf hP hD hS (lv_sub hl [0, 1, 2, 3, 4, 6] rfl)
        · replace hf := zIf_f hc hf
          refine lv_bipush (v := (-4)) hx hb dX9_sit_32 (by decide) ?_
          obtain ⟨q1, q2⟩ := zI2 hf
          subst q1
          subst q2
          exact zRetI hQ hx hb hr hlocks hA0 hK hP hD hS rfl dX9_sit_34
      · replace hf := zIf_t hc hf
        refine lv_iconst (v := (-1)) hx hb dX9_sit_18 (by decide) ?_
        obtain ⟨q1, q2⟩ := zI2 hf
        subst q1
        subst q2
        exact zRetI hQ hx hb hr hlocks hA0 hK hP hD hS rfl dX9_sit_19
set_option maxHeartbeats 4000000 in
set_option maxRecDepth 100000 in
theorem pX9_early (l : Launch) (D : va_G) (T : Nat → ClassId) (X : zFP) (ad : Nat → Nat → Nat) (sz : Nat) (gx : zM) (gow : zM) (gd : zM) (a1 : Int32) (a2 : Int32) (r : Int32) (ngd : zM) (hf : fX9_early gx gow gd a1 a2 = some (r, ngd)) : Met l yX9_early wsX9_early rX9_early (zPre D T X [.ref (ad 0 0), .int a1, .int a2] (wX9 T ad gx ++ wX8 T (ad 1) gow ++ wX1 T (ad 8) gd) sz) (zQi D T r (wX9 T ad gx ++ wX8 T (ad 1) gow ++ wX1 T (ad 8) ngd) (wX9 T ad gx ++ wX8 T (ad 1) gow ++ wX1 T (ad 8) gd) sz) 0 0 (va_A (wX9 T ad gx ++ wX8 T (ad 1) gow ++ wX1 T (ad 8) gd) sz) := by
  unfold fX9_early at hf
  refine zStart [(0, .ref (ad 0 0)), (1, .int a1), (2, .int a2)] (by decide) rfl (Nat.le_of_ble_eq_true rfl) rfl ?_
  intro p e s m args below meth c A Q ls hx hb hr hml hown hlocks hts hsz hA0 hQ hA hK hX hP hD hS hl
  replace hown : s.vm.findClass RX9 = some m.cls := hown
  have hH := hsz
  have hiX1 : ∀ w ∈ u_ws RX1 TX1 2, w ∈ wsX9_early := fun w h => List.mem_cons_of_mem _ (List.mem_append_left _ (List.mem_append_right _ (h)))
  have hiX9 : ∀ w ∈ u_ws RX9 TX9 12, w ∈ wsX9_early := fun w h => List.mem_cons_of_mem _ (List.mem_append_left _ (List.mem_append_left _ (List.mem_append_right _ (h))))
  obtain ⟨H, hHe⟩ : ∃ H : Heap, H = s.heap := ⟨_, rfl⟩
  obtain ⟨locs, hLe⟩ : ∃ L : List Loc, L = [] := ⟨_, rfl⟩
  replace hP : va_P D vwCl (wX9 T ad gx ++ wX8 T (ad 1) gow ++ wX1 T (ad 8) gd) H := by rw [hHe]; exact hP
  replace hS : va_S A s.heap H locs := by rw [hHe, hLe]; exact hS
  suffices hgo : W p l e rX9_early s m args below meth c H locs 0 0 Q (F0 m 0 ls []) by rw [hHe, hLe] at hgo; exact hgo
  clear hHe hLe
  refine lv_aload_n hx hb dX9_early_0 rfl (lv_at hl 0 rfl) ?_
  refine zGet (ci := 9) (C := RX9) (F := TX9) (N := 12) (v := .ref (ad 1 0)) hx hb hts hiX9 hown hK hP 0 0 1 rfl rfl (by decide) rfl rfl rfl dX9_early_1 ?_
  refine lv_iload_n hx hb dX9_early_4 rfl (lv_at hl 1 rfl) ?_
  obtain ⟨v1, hc5, hf⟩ := zB1_ok hf
  refine zCallVJI (wr := wX9 T ad gx ++ wX1 T (ad 8) gd) (ws' := wX9 T ad gx ++ wX8 T (ad 1) gow ++ wX1 T (ad 8) gd) [.int a1] ⟨hx, hb, hml, hown, hts⟩ (pX8_hasPerson l D T X (ad 1) H.size gow a1 v1 hc5) (cwV 1 hts gX9_early_X8_hasPerson rfl rfl rfl (by decide +kernel) ⟨Nat.le_of_ble_eq_true rfl, Nat.le_of_ble_eq_true rfl⟩) hK hP hD hS hA hX [1, 2, 3, 4, 5, 6, 7, 8, 9, 10, 11] [0, 12, 13, 14] [0, 4, 5, 6, 7, 8, 9, 10, 11, 12, 13, 14, 1, 2, 3] rfl rfl rfl rfl 0 rfl rfl rfl hl.1 rfl (Nat.le_of_ble_eq_true rfl) dX9_early_5 ⟨Nat.zero_le _, Nat.zero_le _⟩ (fun H locs hP hD hS => ?_)
  refine lv_if_eq (tgt := 22) hx hb dX9_early_8 (by decide) (fun hc => ?_) (fun hc => ?_)
  · replace hf := zIf_t hc hf
    refine lv_iconst (v := (-1)) hx hb dX9_early_22 (by decide) ?_
    obtain ⟨q1, q2⟩ := zI2 hf
    subst q1
    subst q2
    exact zRetI hQ hx hb hr hlocks hA0 hK hP hD hS rfl dX9_early_23
  · replace hf := zIf_f hc hf
    refine lv_aload_n hx hb dX9_early_11 rfl (lv_at hl 0 rfl) ?_
    refine zGet (ci := 9) (C := RX9) (F := TX9) (N := 12) (v := .ref (ad 1 0)) hx hb hts hiX9 hown hK hP 0 0 1 rfl rfl (by decide) rfl rfl rfl dX9_early_12 ?_
    refine lv_iload_n hx hb dX9_early_15 rfl (lv_at hl 2 rfl) ?_
    obtain ⟨v2, hc16, hf⟩ := zB1_ok hf
    refine zCallVJI (wr := wX9 T ad gx ++ wX1 T (ad 8) gd) (ws' := wX9 T ad gx ++ wX8 T (ad 1) gow ++ wX1 T (ad 8) gd) [.int a2] ⟨hx, hb, hml, hown, hts⟩ (pX8_hasPerson l D T X (ad 1) H.size gow a2 v2 hc16) (cwV 1 hts gX9_early_X8_hasPerson rfl rfl rfl (by decide +kernel) ⟨Nat.le_of_ble_eq_true rfl, Nat.le_of_ble_eq_true rfl⟩) hK hP hD hS hA hX [1, 2, 3, 4, 5, 6, 7, 8, 9, 10, 11] [0, 12, 13, 14] [0, 4, 5, 6, 7, 8, 9, 10, 11, 12, 13, 14, 1, 2, 3] rfl rfl rfl rfl 0 rfl rfl rfl hl.1 rfl (Nat.le_of_ble_eq_true rfl) dX9_early_16 ⟨Nat.zero_le _, Nat.zero_le _⟩ (fun H locs hP hD hS => ?_)
    refine lv_if_ne (tgt := 24) hx hb dX9_early_19 (by decide) (fun hc => ?_) (fun hc => ?_)
    · replace hf := zIf_f hc hf
      refine lv_aload_n hx hb dX9_early_24 rfl (lv_at hl 0 rfl) ?_
      refine zGet (ci := 9) (C := RX9) (F := TX9) (N := 12) (v := .ref (ad 8 0)) hx hb hts hiX9 hown hK hP 0 8 2 rfl rfl (by decide) rfl rfl rfl dX9_early_25 ?_
      refine lv_aload_n hx hb dX9_early_28 rfl (lv_at hl 0 rfl) ?_
      refine zGet (ci := 9) (C := RX9) (F := TX9) (N := 12) (v := .ref (ad 1 0)) hx hb hts hiX9 hown hK hP 0 0 1 rfl rfl (by decide) rfl rfl rfl dX9_early_29 ?_
      refine lv_iload_n hx hb dX9_early_32 rfl (lv_at hl 1 rfl) ?_
      obtain ⟨gd_3, hc33, hf⟩ := zB1_ok hf
      refine zCallVJV (wr := wX9 T ad gx) (ws' := wX9 T ad gx ++ wX8 T (ad 1) gow ++ wX1 T (ad 8) gd_3) [.ref (ad 1 0), .int a1] ⟨hx, hb, hml, hown, hts⟩ (pX1_follow l D T X (ad 8) (ad 1) H.size gd gow a1 gd_3 hc33) (cwV 2 hts gX9_early_X1_follow rfl rfl rfl (by decide +kernel) ⟨Nat.le_of_ble_eq_true rfl, Nat.le_of_ble_eq_true rfl⟩) hK hP hD hS hA hX [12, 13, 14, 1, 2, 3, 4, 5, 6, 7, 8, 9, 10, 11] [0] [0, 4, 5, 6, 7, 8, 9, 10, 11, 12, 13, 14, 1, 2, 3] rfl rfl rfl rfl 0 rfl rfl rfl hl.1 rfl (Nat.le_of_ble_eq_true rfl) dX9_early_33 ⟨Nat.zero_le _, Nat.zero_le _⟩ (fun H locs hP hD hS => ?_)
      refine lv_aload_n hx hb dX9_early_36 rfl (lv_at hl 0 rfl) ?_
      refine zGet (ci := 9) (C := RX9) (F := TX9) (N := 12) (v := .ref (ad 8 0)) hx hb hts hiX9 hown hK hP 0 8 2 rfl rfl (by decide) rfl rfl rfl dX9_early_37 ?_
      refine zGet (ci := 1) (C := RX1) (F := TX1) (N := 2) (v := .ref (ad 8 1)) hx hb hts hiX1 hown hK hP 12 0 3 rfl rfl (by decide) rfl rfl rfl dX9_early_40 ?_
      refine lv_iload_n hx hb dX9_early_43 rfl (lv_at hl 2 rfl) ?_
      obtain ⟨hg, hf⟩ := zGd_ok hf
      refine zAldI hx hb hK hP 13 rfl hg dX9_early_44 (fun v4 ev4 => ?_)
      replace hf := zLt_at ev4 hf
      obtain ⟨q1, q2⟩ := zI2 hf
      subst q1
      subst q2
      exact zRetI hQ hx hb hr hlocks hA0 hK hP hD hS rfl dX9_early_45
    · replace hf := zIf_t hc hf
      refine lv_iconst (v := (-1)) hx hb dX9_early_22 (by decide) ?_
      obtain ⟨q1, q2⟩ := zI2 hf
      subst q1
      subst q2
      exact zRetI hQ hx hb hr hlocks hA0 hK hP hD hS rfl dX9_early_23
set_option maxHeartbeats 4000000 in
set_option maxRecDepth 100000 in
theorem pX9_could (l : Launch) (D : va_G) (T : Nat → ClassId) (X : zFP) (ad : Nat → Nat → Nat) (sz : Nat) (gx : zM) (gow : zM) (gd : zM) (a1 : Int32) (a2 : Int32) (r : Int32) (ngd : zM) (hf : fX9_could gx gow gd a1 a2 = some (r, ngd)) : Met l yX9_could wsX9_could rX9_could (zPre D T X [.ref (ad 0 0), .int a1, .int a2] (wX9 T ad gx ++ wX8 T (ad 1) gow ++ wX1 T (ad 8) gd) sz) (zQi D T r (wX9 T ad gx ++ wX8 T (ad 1) gow ++ wX1 T (ad 8) ngd) (wX9 T ad gx ++ wX8 T (ad 1) gow ++ wX1 T (ad 8) gd) sz) 0 0 (va_A (wX9 T ad gx ++ wX8 T (ad 1) gow ++ wX1 T (ad 8) gd) sz) := by
  unfold fX9_could at hf
  refine zStart [(0, .ref (ad 0 0)), (1, .int a1), (2, .int a2)] (by decide) rfl (Nat.le_of_ble_eq_true rfl) rfl ?_
  intro p e s m args below meth c A Q ls hx hb hr hml hown hlocks hts hsz hA0 hQ hA hK hX hP hD hS hl
  replace hown : s.vm.findClass RX9 = some m.cls := hown
  have hH := hsz
  have hiX9 : ∀ w ∈ u_ws RX9 TX9 12, w ∈ wsX9_could := fun w h => List.mem_cons_of_mem _ (List.mem_append_left _ (List.mem_append_left _ (List.mem_append_right _ (h))))
  obtain ⟨H, hHe⟩ : ∃ H : Heap, H = s.heap := ⟨_, rfl⟩
  obtain ⟨locs, hLe⟩ : ∃ L : List Loc, L = [] := ⟨_, rfl⟩
  replace hP : va_P D vwCl (wX9 T ad gx ++ wX8 T (ad 1) gow ++ wX1 T (ad 8) gd) H := by rw [hHe]; exact hP
  replace hS : va_S A s.heap H locs := by rw [hHe, hLe]; exact hS
  suffices hgo : W p l e rX9_could s m args below meth c H locs 0 0 Q (F0 m 0 ls []) by rw [hHe, hLe] at hgo; exact hgo
  clear hHe hLe
  refine lv_aload_n hx hb dX9_could_0 rfl (lv_at hl 0 rfl) ?_
  refine zGet (ci := 9) (C := RX9) (F := TX9) (N := 12) (v := .ref (ad 1 0)) hx hb hts hiX9 hown hK hP 0 0 1 rfl rfl (by decide) rfl rfl rfl dX9_could_1 ?_
  refine lv_iload_n hx hb dX9_could_4 rfl (lv_at hl 1 rfl) ?_
  obtain ⟨v1, hc5, hf⟩ := zB1_ok hf
  refine zCallVJI (wr := wX9 T ad gx ++ wX1 T (ad 8) gd) (ws' := wX9 T ad gx ++ wX8 T (ad 1) gow ++ wX1 T (ad 8) gd) [.int a1] ⟨hx, hb, hml, hown, hts⟩ (pX8_hasPerson l D T X (ad 1) H.size gow a1 v1 hc5) (cwV 1 hts gX9_could_X8_hasPerson rfl rfl rfl (by decide +kernel) ⟨Nat.le_of_ble_eq_true rfl, Nat.le_of_ble_eq_true rfl⟩) hK hP hD hS hA hX [1, 2, 3, 4, 5, 6, 7, 8, 9, 10, 11] [0, 12, 13, 14] [0, 4, 5, 6, 7, 8, 9, 10, 11, 12, 13, 14, 1, 2, 3] rfl rfl rfl rfl 0 rfl rfl rfl hl.1 rfl (Nat.le_of_ble_eq_true rfl) dX9_could_5 ⟨Nat.zero_le _, Nat.zero_le _⟩ (fun H locs hP hD hS => ?_)
  refine lv_if_eq (tgt := 21) hx hb dX9_could_8 (by decide) (fun hc => ?_) (fun hc => ?_)
  · replace hf := zIf_t hc hf
    refine lv_iconst (v := (-1)) hx hb dX9_could_21 (by decide) ?_
    obtain ⟨q1, q2⟩ := zI2 hf
    subst q1
    subst q2
    exact zRetI hQ hx hb hr hlocks hA0 hK hP hD hS rfl dX9_could_22
  · replace hf := zIf_f hc hf
    refine lv_iload_n hx hb dX9_could_11 rfl (lv_at hl 2 rfl) ?_
    refine lv_if_lt (tgt := 21) hx hb dX9_could_12 (by decide) (fun hc => ?_) (fun hc => ?_)
    · replace hf := zIf_t hc hf
      refine lv_iconst (v := (-1)) hx hb dX9_could_21 (by decide) ?_
      obtain ⟨q1, q2⟩ := zI2 hf
      subst q1
      subst q2
      exact zRetI hQ hx hb hr hlocks hA0 hK hP hD hS rfl dX9_could_22
    · replace hf := zIf_f hc hf
      refine lv_iload_n hx hb dX9_could_15 rfl (lv_at hl 2 rfl) ?_
      refine lv_bipush (v := 100) hx hb dX9_could_16 (by decide) ?_
      refine lv_icmp_le (tgt := 23) hx hb dX9_could_18 (by decide) (fun hc => ?_) (fun hc => ?_)
      · replace hf := zIf_t hc hf
        refine lv_aload_n hx hb dX9_could_23 rfl (lv_at hl 0 rfl) ?_
        refine zGet (ci := 9) (C := RX9) (F := TX9) (N := 12) (v := .ref (ad 8 0)) hx hb hts hiX9 hown hK hP 0 8 2 rfl rfl (by decide) rfl rfl rfl dX9_could_24 ?_
        refine lv_aload_n hx hb dX9_could_27 rfl (lv_at hl 0 rfl) ?_
        refine zGet (ci := 9) (C := RX9) (F := TX9) (N := 12) (v := .ref (ad 1 0)) hx hb hts hiX9 hown hK hP 0 0 1 rfl rfl (by decide) rfl rfl rfl dX9_could_28 ?_
        refine lv_iload_n hx hb dX9_could_31 rfl (lv_at hl 1 rfl) ?_
        obtain ⟨gd_2, hc32, hf⟩ := zB1_ok hf
        refine zCallVJV (wr := wX9 T ad gx) (ws' := wX9 T ad gx ++ wX8 T (ad 1) gow ++ wX1 T (ad 8) gd_2) [.ref (ad 1 0), .int a1] ⟨hx, hb, hml, hown, hts⟩ (pX1_follow l D T X (ad 8) (ad 1) H.size gd gow a1 gd_2 hc32) (cwV 2 hts gX9_could_X1_follow rfl rfl rfl (by decide +kernel) ⟨Nat.le_of_ble_eq_true rfl, Nat.le_of_ble_eq_true rfl⟩) hK hP hD hS hA hX [12, 13, 14, 1, 2, 3, 4, 5, 6, 7, 8, 9, 10, 11] [0] [0, 4, 5, 6, 7, 8, 9, 10, 11, 12, 13, 14, 1, 2, 3] rfl rfl rfl rfl 0 rfl rfl rfl hl.1 rfl (Nat.le_of_ble_eq_true rfl) dX9_could_32 ⟨Nat.zero_le _, Nat.zero_le _⟩ (fun H locs hP hD hS => ?_)
        refine lv_aload_n hx hb dX9_could_35 rfl (lv_at hl 0 rfl) ?_
        refine zGet (ci := 9) (C := RX9) (F := TX9) (N := 12) (v := .ref (ad 8 0)) hx hb hts hiX9 hown hK hP 0 8 2 rfl rfl (by decide) rfl rfl rfl dX9_could_36 ?_
        refine lv_iload_n hx hb dX9_could_39 rfl (lv_at hl 2 rfl) ?_
        obtain ⟨v3, hc40, hf⟩ := zB1_ok hf
        refine zCallVJI (wr := wX9 T ad gx ++ wX8 T (ad 1) gow) (ws' := wX9 T ad gx ++ wX8 T (ad 1) gow ++ wX1 T (ad 8) gd_2) [.int a2] ⟨hx, hb, hml, hown, hts⟩ (pX1_knowingBehind l D T X (ad 8) H.size gd_2 a2 v3 hc40) (cwV 1 hts gX9_could_X1_knowingBehind rfl rfl rfl (by decide +kernel) ⟨Nat.le_of_ble_eq_true rfl, Nat.le_of_ble_eq_true rfl⟩) hK hP hD hS hA hX [12, 13, 14] [0, 1, 2, 3, 4, 5, 6, 7, 8, 9, 10, 11] [0, 1, 2, 3, 4, 5, 6, 7, 8, 9, 10, 11, 12, 13, 14] rfl rfl rfl rfl 0 rfl rfl rfl hl.1 rfl (Nat.le_of_ble_eq_true rfl) dX9_could_40 ⟨Nat.zero_le _, Nat.zero_le _⟩ (fun H locs hP hD hS => ?_)
        obtain ⟨q1, q2⟩ := zI2 hf
        subst q1
        subst q2
        exact zRetI hQ hx hb hr hlocks hA0 hK hP hD hS rfl dX9_could_43
      · replace hf := zIf_f hc hf
        refine lv_iconst (v := (-1)) hx hb dX9_could_21 (by decide) ?_
        obtain ⟨q1, q2⟩ := zI2 hf
        subst q1
        subst q2
        exact zRetI hQ hx hb hr hlocks hA0 hK hP hD hS rfl dX9_could_22
set_option maxHeartbeats 4000000 in
set_option maxRecDepth 100000 in
theorem pX9_seed (l : Launch) (D : va_G) (T : Nat → ClassId) (X : zFP) (ad : Nat → Nat → Nat) (sz : Nat) (gx : zM) (gow : zM) (a1 : Int32) (r : Int32) (ngow : zM) (hf : fX9_seed gx gow a1 = some (r, ngow)) : Met l yX9_seed wsX9_seed rX9_seed (zPre D T X [.ref (ad 0 0), .int a1] (wX9 T ad gx ++ wX8 T (ad 1) gow) sz) (zQi D T r (wX9 T ad gx ++ wX8 T (ad 1) ngow) (wX9 T ad gx ++ wX8 T (ad 1) gow) sz) 0 0 (va_A (wX9 T ad gx ++ wX8 T (ad 1) gow) sz) := by
  unfold fX9_seed at hf
  refine zStart [(0, .ref (ad 0 0)), (1, .int a1)] (by decide) rfl (Nat.le_of_ble_eq_true rfl) rfl ?_
  intro p e s m args below meth c A Q ls hx hb hr hml hown hlocks hts hsz hA0 hQ hA hK hX hP hD hS hl
  replace hown : s.vm.findClass RX9 = some m.cls := hown
  have hH := hsz
  have hiX8 : ∀ w ∈ u_ws RX8 TX8 14, w ∈ wsX9_seed := fun w h => List.mem_cons_of_mem _ (List.mem_append_right _ (h))
  have hiX9 : ∀ w ∈ u_ws RX9 TX9 12, w ∈ wsX9_seed := fun w h => List.mem_cons_of_mem _ (List.mem_append_left _ (List.mem_append_right _ (h)))
  obtain ⟨H, hHe⟩ : ∃ H : Heap, H = s.heap := ⟨_, rfl⟩
  obtain ⟨locs, hLe⟩ : ∃ L : List Loc, L = [] := ⟨_, rfl⟩
  replace hP : va_P D vwCl (wX9 T ad gx ++ wX8 T (ad 1) gow) H := by rw [hHe]; exact hP
  replace hS : va_S A s.heap H locs := by rw [hHe, hLe]; exact hS
  suffices hgo : W p l e rX9_seed s m args below meth c H locs 0 0 Q (F0 m 0 ls []) by rw [hHe, hLe] at hgo; exact hgo
  clear hHe hLe
  refine lv_aload_n hx hb dX9_seed_0 rfl (lv_at hl 0 rfl) ?_
  refine zGet (ci := 9) (C := RX9) (F := TX9) (N := 12) (v := .ref (ad 1 0)) hx hb hts hiX9 hown hK hP 0 0 1 rfl rfl (by decide) rfl rfl rfl dX9_seed_1 ?_
  refine zGet (ci := 8) (C := RX8) (F := TX8) (N := 14) (v := .int (gow 0 13)) hx hb hts hiX8 hown hK hP 1 13 2 rfl rfl (by decide) rfl rfl rfl dX9_seed_4 ?_
  refine lv_topi (fun v1 ev1 => ?_)
  replace hf := zLt_at ev1 hf
  refine lv_istore_n (lv' := [(2, .int v1), (0, .ref (ad 0 0)), (1, .int a1)]) hx hb dX9_seed_7 rfl hl (by decide) rfl (fun ls hl => ?_)
  refine lv_aload_n hx hb dX9_seed_8 rfl (lv_at hl 1 rfl) ?_
  refine zGet (ci := 9) (C := RX9) (F := TX9) (N := 12) (v := .ref (ad 1 0)) hx hb hts hiX9 hown hK hP 0 0 1 rfl rfl (by decide) rfl rfl rfl dX9_seed_9 ?_
  refine lv_iload_n hx hb dX9_seed_12 rfl (lv_at hl 2 rfl) ?_
  refine zPut (ci := 8) (C := RX8) (F := TX8) (N := 14) (x := a1) (w := gow) hx hb hts hiX8 tyX8 tyX8_ok nmX8 hown hK hP hD hS (fun g => wX9 T ad gx ++ wX8 T (ad 1) g) 1 13 2 rfl rfl (by decide) rfl rfl rfl ⟨rfl, rfl⟩ (Nat.le_of_ble_eq_true rfl) rfl dX9_seed_13 (fun gow_2 egow_2 H locs hP hD hS => ?_)
  replace hP : va_P D vwCl (wX9 T ad gx ++ wX8 T (ad 1) gow_2) H := hP
  replace hD : va_D A (wX9 T ad gx ++ wX8 T (ad 1) gow_2) := hD
  replace hf := zLt_at egow_2 hf
  refine lv_iload_n hx hb dX9_seed_16 rfl (lv_at hl 0 rfl) ?_
  obtain ⟨q1, q2⟩ := zI2 hf
  subst q1
  subst q2
  exact zRetI hQ hx hb hr hlocks hA0 hK hP hD hS rfl dX9_seed_17
set_option maxHeartbeats 4000000 in
set_option maxRecDepth 100000 in
theorem pX9_run (l : Launch) (D : va_G) (T : Nat → ClassId) (X : zFP) (ad : Nat → Nat → Nat) (sz : Nat) (gx : zM) (gow : zM) (gd : zM) (a1 : Int32) (a2 : Int32) (r : Int32) (ngow : zM) (hf : fX9_run gx gow gd a1 a2 = some (r, ngow)) : Met l yX9_run wsX9_run rX9_run (zPre D T X [.ref (ad 0 0), .int a1, .int a2] (wX9 T ad gx ++ wX8 T (ad 1) gow ++ wX1 T (ad 8) gd) sz) (zQi D T r (wX9 T ad gx ++ wX8 T (ad 1) ngow ++ wX1 T (ad 8) gd) (wX9 T ad gx ++ wX8 T (ad 1) gow ++ wX1 T (ad 8) gd) sz) 0 0 (va_A (wX9 T ad gx ++ wX8 T (ad 1) gow ++ wX1 T (ad 8) gd) sz) := by
  unfold fX9_run at hf
  refine zStart [(0, .ref (ad 0 0)), (1, .int a1), (2, .int a2)] (by decide) rfl (Nat.le_of_ble_eq_true rfl) rfl ?_
  intro p e s m args below meth c A Q ls hx hb hr hml hown hlocks hts hsz hA0 hQ hA hK hX hP hD hS hl
  replace hown : s.vm.findClass RX9 = some m.cls := hown
  have hH := hsz
  have hiX9 : ∀ w ∈ u_ws RX9 TX9 12, w ∈ wsX9_run := fun w h => List.mem_cons_of_mem _ (List.mem_append_left _ (List.mem_append_right _ (h)))
  obtain ⟨H, hHe⟩ : ∃ H : Heap, H = s.heap := ⟨_, rfl⟩
  obtain ⟨locs, hLe⟩ : ∃ L : List Loc, L = [] := ⟨_, rfl⟩
  replace hP : va_P D vwCl (wX9 T ad gx ++ wX8 T (ad 1) gow ++ wX1 T (ad 8) gd) H := by rw [hHe]; exact hP
  replace hS : va_S A s.heap H locs := by rw [hHe, hLe]; exact hS
  suffices hgo : W p l e rX9_run s m args below meth c H locs 0 0 Q (F0 m 0 ls []) by rw [hHe, hLe] at hgo; exact hgo
  clear hHe hLe
  refine lv_aload_n hx hb dX9_run_0 rfl (lv_at hl 0 rfl) ?_
  refine zGet (ci := 9) (C := RX9) (F := TX9) (N := 12) (v := .ref (ad 1 0)) hx hb hts hiX9 hown hK hP 0 0 1 rfl rfl (by decide) rfl rfl rfl dX9_run_1 ?_
  refine lv_iload_n hx hb dX9_run_4 rfl (lv_at hl 1 rfl) ?_
  obtain ⟨v1, hc5, hf⟩ := zB1_ok hf
  refine zCallVJI (wr := wX9 T ad gx ++ wX1 T (ad 8) gd) (ws' := wX9 T ad gx ++ wX8 T (ad 1) gow ++ wX1 T (ad 8) gd) [.int a1] ⟨hx, hb, hml, hown, hts⟩ (pX8_hasPerson l D T X (ad 1) H.size gow a1 v1 hc5) (cwV 1 hts gX9_run_X8_hasPerson rfl rfl rfl (by decide +kernel) ⟨Nat.le_of_ble_eq_true rfl, Nat.le_of_ble_eq_true rfl⟩) hK hP hD hS hA hX [1, 2, 3, 4, 5, 6, 7, 8, 9, 10, 11] [0, 12, 13, 14] [0, 4, 5, 6, 7, 8, 9, 10, 11, 12, 13, 14, 1, 2, 3] rfl rfl rfl rfl 0 rfl rfl rfl hl.1 rfl (Nat.le_of_ble_eq_true rfl) dX9_run_5 ⟨Nat.zero_le _, Nat.zero_le _⟩ (fun H locs hP hD hS => ?_)
  refine lv_if_eq (tgt := 21) hx hb dX9_run_8 (by decide) (fun hc => ?_) (fun hc => ?_)
  · replace hf := zIf_t hc hf
    refine lv_iconst (v := (-1)) hx hb dX9_run_21 (by decide) ?_
    obtain ⟨q1, q2⟩ := zI2 hf
    subst q1
    subst q2
    exact zRetI hQ hx hb hr hlocks hA0 hK hP hD hS rfl dX9_run_22
  · replace hf := zIf_f hc hf
    refine lv_iload_n hx hb dX9_run_11 rfl (lv_at hl 2 rfl) ?_
    refine lv_if_lt (tgt := 21) hx hb dX9_run_12 (by decide) (fun hc => ?_) (fun hc => ?_)
    · replace hf := zIf_t hc hf
      refine lv_iconst (v := (-1)) hx hb dX9_run_21 (by decide) ?_
      obtain ⟨q1, q2⟩ := zI2 hf
      subst q1
      subst q2
      exact zRetI hQ hx hb hr hlocks hA0 hK hP hD hS rfl dX9_run_22
    · replace hf := zIf_f hc hf
      refine lv_iload_n hx hb dX9_run_15 rfl (lv_at hl 2 rfl) ?_
      refine lv_bipush (v := 20) hx hb dX9_run_16 (by decide) ?_
      refine lv_icmp_le (tgt := 23) hx hb dX9_run_18 (by decide) (fun hc => ?_) (fun hc => ?_)
      · replace hf := zIf_t hc hf
        refine lv_iconst (v := 1) hx hb dX9_run_23 (by decide) ?_
        refine lv_iload_n hx hb dX9_run_24 rfl (lv_at hl 1 rfl) ?_
        refine lv_ishl hx hb dX9_run_25 ?_
        refine lv_topi (fun v2 ev2 => ?_)
        replace hf := zLt_at ev2 hf
        refine lv_istore_n (lv' := [(3, .int v2), (0, .ref (ad 0 0)), (1, .int a1), (2, .int a2)]) hx hb dX9_run_26 rfl hl (by decide) rfl (fun ls hl => ?_)
        refine lv_iconst (v := 0) hx hb dX9_run_27 (by decide) ?_
        refine lv_istore (lv' := [(4, .int 0), (3, .int v2), (0, .ref (ad 0 0)), (1, .int a1), (2, .int a2)]) hx hb dX9_run_28 hl (by decide) rfl (fun ls hl => ?_)
        obtain ⟨ex, hlp, hf⟩ := zB1_ok hf
        have hE30_57 : ∀ (v6 : Int32) (gow_7 : zM) , ex = (v6, gow_7) → ∀ (H : Heap) (locs : List Loc) (ls : Array Slot), va_P D vwCl (wX9 T ad gx ++ wX8 T (ad 1) gow_7 ++ wX1 T (ad 8) gd) H → va_D A (wX9 T ad gx ++ wX8 T (ad 1) gow_7 ++ wX1 T (ad 8) gd) → va_S A s.heap H locs → lv_has ls 5 [(3, .int v6)] → W p l e rX9_run s m args below meth c H locs 0 0 Q (F0 m 57 ls []) := by
          intro v6 gow_7 hex H locs ls hP hD hS hl
          have hf := zEx2 hex hf
          refine lv_iload_n hx hb dX9_run_57 rfl (lv_at hl 0 rfl) ?_
          obtain ⟨q1, q2⟩ := zI2 hf
          subst q1
          subst q2
          exact zRetI hQ hx hb hr hlocks hA0 hK hP hD hS rfl dX9_run_58
        refine zLpS3 (body := (fX9_run_L30 a2 gd)) (b := ex) (fun (v3 : Int32) (v4 : Int32) (gow_5 : zM) => ∀ (H : Heap) (locs : List Loc) (ls : Array Slot), va_P D vwCl (wX9 T ad gx ++ wX8 T (ad 1) gow_5 ++ wX1 T (ad 8) gd) H → va_D A (wX9 T ad gx ++ wX8 T (ad 1) gow_5 ++ wX1 T (ad 8) gd) → va_S A s.heap H locs → lv_has ls 5 [(0, .ref (ad 0 0)), (2, .int a2), (3, .int v3), (4, .int v4)] → W p l e rX9_run s m args below meth c H locs 0 0 Q (F0 m 30 ls [])) ?_ zFU v2 0 gow hlp H locs ls hP hD hS (lv_sub hl [2, 4, 1, 0] rfl)
        intro v3 v4 gow_5 z hf hzz H locs ls hP hD hS hl
        unfold fX9_run_L30 at hf
        replace hf := zUk3 hf
        refine lv_iload hx hb dX9_run_30 (lv_at hl 3 rfl) ?_
        refine lv_iload_n hx hb dX9_run_32 rfl (lv_at hl 1 rfl) ?_
        refine lv_icmp_ge (tgt := 57) hx hb dX9_run_33 (by decide) (fun hc => ?_) (fun hc => ?_)
        · replace hf := zIf_t hc hf
          cases hf
          exact hE30_57 v3 gow_5 hzz.symm H locs ls hP hD hS (lv_sub hl [2] rfl)
        · replace hf := zIf_f hc hf
          refine lv_aload_n hx hb dX9_run_36 rfl (lv_at hl 0 rfl) ?_
          refine zGet (ci := 9) (C := RX9) (F := TX9) (N := 12) (v := .ref (ad 8 0)) hx hb hts hiX9 hown hK hP 0 8 2 rfl rfl (by decide) rfl rfl rfl dX9_run_37 ?_
          refine lv_aload_n hx hb dX9_run_40 rfl (lv_at hl 0 rfl) ?_
          refine zGet (ci := 9) (C := RX9) (F := TX9) (N := 12) (v := .ref (ad 1 0)) hx hb hts hiX9 hown hK hP 0 0 1 rfl rfl (by decide) rfl rfl rfl dX9_run_41 ?_
          refine lv_iload_n hx hb dX9_run_44 rfl (lv_at hl 2 rfl) ?_
          refine lv_iload hx hb dX9_run_45 (lv_at hl 3 rfl) ?_
          obtain ⟨v8, gow_9, hc47, hf⟩ := zB2_ok hf
          refine zCallVJI (wr := wX9 T ad gx) (ws' := wX9 T ad gx ++ wX8 T (ad 1) gow_9 ++ wX1 T (ad 8) gd) [.ref (ad 1 0), .int v3, .int v4] ⟨hx, hb, hml, hown, hts⟩ (pX1_chanceDay l D T X (ad 8) (ad 1) H.size gd gow_5 v3 v4 v8 gow_9 hc47) (cwV 3 hts gX9_run_X1_chanceDay rfl rfl rfl (by decide +kernel) ⟨Nat.le_of_ble_eq_true rfl, Nat.le_of_ble_eq_true rfl⟩) hK hP hD hS hA hX [12, 13, 14, 1, 2, 3, 4, 5, 6, 7, 8, 9, 10, 11] [0] [0, 4, 5, 6, 7, 8, 9, 10, 11, 12, 13, 14, 1, 2, 3] rfl rfl rfl rfl 0 rfl rfl rfl hl.1 rfl (Nat.le_of_ble_eq_true rfl) dX9_run_47 ⟨Nat.zero_le _, Nat.zero_le _⟩ (fun H locs hP hD hS => ?_)
          refine lv_istore_n (lv' := [(3, .int v8), (0, .ref (ad 0 0)), (2, .int a2), (4, .int v4)]) hx hb dX9_run_50 rfl hl (by decide) rfl (fun ls hl => ?_)
          obtain ⟨v10, ev10⟩ : ∃ y : Int32, y = v4 + 1 := ⟨_, rfl⟩
          replace hf := zLt_at ev10 hf
          refine lv_iinc (v := v10) (lv' := [(4, .int v10), (3, .int v8), (0, .ref (ad 0 0)), (2, .int a2)]) hx hb dX9_run_51 hl (k := 3) rfl (by rw [ev10]; rfl) (by decide) rfl (fun ls hl => ?_)
          refine lv_goto (tgt := 30) hx hb dX9_run_54 (by decide) ?_
          cases hf
          exact hzz H locs ls hP hD hS (lv_sub hl [2, 3, 1, 0] rfl)
      · replace hf := zIf_f hc hf
        refine lv_iconst (v := (-1)) hx hb dX9_run_21 (by decide) ?_
        obtain ⟨q1, q2⟩ := zI2 hf
        subst q1
        subst q2
        exact zRetI hQ hx hb hr hlocks hA0 hK hP hD hS rfl dX9_run_22
set_option maxHeartbeats 4000000 in
set_option maxRecDepth 100000 in
theorem pX9_knowingWithout_B (l : Launch) (D : va_G) (T : Nat → ClassId) (X : zFP) (ad : Nat → Nat → Nat) (sz : Nat) (rm : Room) (hrm : rm.cells = 0 ∧ rm.slots = 0 ∧ 4 ≤ rm.frames ∧ 200 ≤ rm.locals) (lk : zM → zM → zM → Int32 → Int32 → Int32 → Option Int32) (gx : zM) (gow : zM) (gn : zM) (a1 : Int32) (a2 : Int32) (a3 : Int32) (a4 : Int32) (r : Int32) (ih : ∀ (ad : Nat → Nat → Nat) (sz : Nat) (gx : zM) (gow : zM) (gn : zM) (a1 : Int32) (a2 : Int32) (a3 : Int32) (r : Int32) , lk gx gow gn a1 a2 a3 = some r → Met l yX9_leastKnowing wsX9_leastKnowing rm (zPre D T X [.ref (ad 0 0), .int a1, .int a2, .int a3] (wX9 T ad gx ++ wX8 T (ad 1) gow ++ wX3 T (ad 5) gn) sz) (zQi D T r (wX9 T ad gx ++ wX8 T (ad 1) gow ++ wX3 T (ad 5) gn) (wX9 T ad gx ++ wX8 T (ad 1) gow ++ wX3 T (ad 5) gn) sz) 0 0 (va_A (wX9 T ad gx ++ wX8 T (ad 1) gow ++ wX3 T (ad 5) gn) sz)) (hf : fX9_knowingWithout_B lk gx gow gn a1 a2 a3 a4 = some r) : Met l yX9_knowingWithout wsX9_knowingWithout (rX9_knowingWithout_B rm) (zPre D T X [.ref (ad 0 0), .int a1, .int a2, .int a3, .int a4] (wX9 T ad gx ++ wX8 T (ad 1) gow ++ wX3 T (ad 5) gn) sz) (zQi D T r (wX9 T ad gx ++ wX8 T (ad 1) gow ++ wX3 T (ad 5) gn) (wX9 T ad gx ++ wX8 T (ad 1) gow ++ wX3 T (ad 5) gn) sz) 0 0 (va_A (wX9 T ad gx ++ wX8 T (ad 1) gow ++ wX3 T (ad 5) gn) sz) := by
  unfold fX9_knowingWithout_B at hf
  refine zStart [(0, .ref (ad 0 0)), (1, .int a1), (2, .int a2), (3, .int a3), (4, .int a4)] (by decide) rfl (Nat.le_of_ble_eq_true rfl) rfl ?_
  intro p e s m args below meth c A Q ls hx hb hr hml hown hlocks hts hsz hA0 hQ hA hK hX hP hD hS hl
  replace hown : s.vm.findClass RX9 = some m.cls := hown
  have hH := hsz
  have hiX9 : ∀ w ∈ u_ws RX9 TX9 12, w ∈ wsX9_knowingWithout := fun w h => List.mem_cons_of_mem _ (List.mem_append_left _ (List.mem_append_left _ (List.mem_append_right _ (h))))
  obtain ⟨H, hHe⟩ : ∃ H : Heap, H = s.heap := ⟨_, rfl⟩
  obtain ⟨locs, hLe⟩ : ∃ L : List Loc, L = [] := ⟨_, rfl⟩
  replace hP : va_P D vwCl (wX9 T ad gx ++ wX8 T (ad 1) gow ++ wX3 T (ad 5) gn) H := by rw [hHe]; exact hP
  replace hS : va_S A s.heap H locs := by rw [hHe, hLe]; exact hS
  suffices hgo : W p l e (rX9_knowingWithout_B rm) s m args below meth c H locs 0 0 Q (F0 m 0 ls []) by rw [hHe, hLe] at hgo; exact hgo
  clear hHe hLe
  refine lv_iload_n hx hb dX9_knowingWithout_0 rfl (lv_at hl 3 rfl) ?_
  refine lv_iconst (v := 1) hx hb dX9_knowingWithout_1 (by decide) ?_
  refine lv_iload_n hx hb dX9_knowingWithout_2 rfl (lv_at hl 1 rfl) ?_
  refine lv_ishl hx hb dX9_knowingWithout_3 ?_
  refine lv_ior hx hb dX9_knowingWithout_4 ?_
  refine lv_topi (fun v1 ev1 => ?_)
  replace hf := zLt_at ev1 hf
  refine lv_istore (lv' := [(5, .int v1), (0, .ref (ad 0 0)), (1, .int a1), (2, .int a2), (3, .int a3), (4, .int a4)]) hx hb dX9_knowingWithout_5 hl (by decide) rfl (fun ls hl => ?_)
  refine lv_aload_n hx hb dX9_knowingWithout_7 rfl (lv_at hl 1 rfl) ?_
  refine lv_iload_n hx hb dX9_knowingWithout_8 rfl (lv_at hl 3 rfl) ?_
  refine lv_aload_n hx hb dX9_knowingWithout_9 rfl (lv_at hl 1 rfl) ?_
  refine zGet (ci := 9) (C := RX9) (F := TX9) (N := 12) (v := .ref (ad 5 0)) hx hb hts hiX9 hown hK hP 0 5 1 rfl rfl (by decide) rfl rfl rfl dX9_knowingWithout_10 ?_
  refine lv_iload_n hx hb dX9_knowingWithout_13 rfl (lv_at hl 3 rfl) ?_
  obtain ⟨v2, hc14, hf⟩ := zB1_ok hf
  refine zCallVJI (wr := wX9 T ad gx ++ wX8 T (ad 1) gow) (ws' := wX9 T ad gx ++ wX8 T (ad 1) gow ++ wX3 T (ad 5) gn) [.int a2] ⟨hx, hb, hml, hown, hts⟩ (pX3_around l D T X (ad 5) H.size gn a2 v2 hc14) (cwV 1 hts gX9_knowingWithout_X3_around rfl rfl rfl (by decide +kernel) ⟨by have h1 := hrm.2.2.1; have h2 := hrm.2.2.2; show 0 + 1 ≤ rm.frames + 1; omega, by have h1 := hrm.2.2.1; have h2 := hrm.2.2.2; show 8 + (4 + 11) + 0 ≤ rm.locals + 25; omega⟩) hK hP hD hS hA hX [12, 13] [0, 1, 2, 3, 4, 5, 6, 7, 8, 9, 10, 11] [0, 1, 2, 3, 4, 5, 6, 7, 8, 9, 10, 11, 12, 13] rfl rfl rfl rfl 0 rfl rfl rfl hl.1 rfl (Nat.le_of_ble_eq_true rfl) dX9_knowingWithout_14 ⟨Nat.zero_le _, Nat.zero_le _⟩ (fun H locs hP hD hS => ?_)
  refine lv_iload hx hb dX9_knowingWithout_17 (lv_at hl 0 rfl) ?_
  refine lv_iconst (v := (-1)) hx hb dX9_knowingWithout_19 (by decide) ?_
  refine lv_ixor hx hb dX9_knowingWithout_20 ?_
  refine lv_iand hx hb dX9_knowingWithout_21 ?_
  refine lv_ior hx hb dX9_knowingWithout_22 ?_
  refine lv_iload hx hb dX9_knowingWithout_23 (lv_at hl 0 rfl) ?_
  refine lv_iload hx hb dX9_knowingWithout_25 (lv_at hl 5 rfl) ?_
  refine lv_iconst (v := 1) hx hb dX9_knowingWithout_27 (by decide) ?_
  refine lv_iadd hx hb dX9_knowingWithout_28 ?_
  obtain ⟨v3, hc29, hf⟩ := zB1_ok hf
  refine zCallVEI [.int (a2 ||| (v2 &&& (v1 ^^^ (-1)))), .int v1, .int (a4 + 1)] ⟨hx, hb, hml, hown, hts⟩ (ih ad H.size gx gow gn (a2 ||| (v2 &&& (v1 ^^^ (-1)))) v1 (a4 + 1) v3 hc29) (cwV 3 hts gX9_knowingWithout_X9_leastKnowing rfl hrm.1 hrm.2.1 (by decide +kernel) ⟨by show rm.frames + 1 ≤ rm.frames + 1; omega, by show 8 + (6 + 11) + rm.locals ≤ rm.locals + 25; omega⟩) hK hP hD hS hA hX 0 rfl rfl rfl hl.1 rfl (Nat.le_of_ble_eq_true rfl) dX9_knowingWithout_29 ⟨Nat.zero_le _, Nat.zero_le _⟩ (fun H locs hP hD hS => ?_)
  obtain ⟨q1, -⟩ := zI1 hf
  subst q1
  exact zRetI hQ hx hb hr hlocks hA0 hK hP hD hS rfl dX9_knowingWithout_32
set_option maxHeartbeats 4000000 in
set_option maxRecDepth 100000 in
theorem pX9_leastKnowing_B (l : Launch) (D : va_G) (T : Nat → ClassId) (X : zFP) (ad : Nat → Nat → Nat) (sz : Nat) (rm : Room) (hrm : rm.cells = 0 ∧ rm.slots = 0 ∧ 4 ≤ rm.frames ∧ 200 ≤ rm.locals) (lk : zM → zM → zM → Int32 → Int32 → Int32 → Option Int32) (gx : zM) (gow : zM) (gn : zM) (a1 : Int32) (a2 : Int32) (a3 : Int32) (r : Int32) (ih : ∀ (ad : Nat → Nat → Nat) (sz : Nat) (gx : zM) (gow : zM) (gn : zM) (a1 : Int32) (a2 : Int32) (a3 : Int32) (r : Int32) , lk gx gow gn a1 a2 a3 = some r → Met l yX9_leastKnowing wsX9_leastKnowing rm (zPre D T X [.ref (ad 0 0), .int a1, .int a2, .int a3] (wX9 T ad gx ++ wX8 T (ad 1) gow ++ wX3 T (ad 5) gn) sz) (zQi D T r (wX9 T ad gx ++ wX8 T (ad 1) gow ++ wX3 T (ad 5) gn) (wX9 T ad gx ++ wX8 T (ad 1) gow ++ wX3 T (ad 5) gn) sz) 0 0 (va_A (wX9 T ad gx ++ wX8 T (ad 1) gow ++ wX3 T (ad 5) gn) sz)) (hf : fX9_leastKnowing_B lk gx gow gn a1 a2 a3 = some r) : Met l yX9_leastKnowing wsX9_leastKnowing (rX9_leastKnowing_B rm) (zPre D T X [.ref (ad 0 0), .int a1, .int a2, .int a3] (wX9 T ad gx ++ wX8 T (ad 1) gow ++ wX3 T (ad 5) gn) sz) (zQi D T r (wX9 T ad gx ++ wX8 T (ad 1) gow ++ wX3 T (ad 5) gn) (wX9 T ad gx ++ wX8 T (ad 1) gow ++ wX3 T (ad 5) gn) sz) 0 0 (va_A (wX9 T ad gx ++ wX8 T (ad 1) gow ++ wX3 T (ad 5) gn) sz) := by
  unfold fX9_leastKnowing_B at hf
  refine zStart [(0, .ref (ad 0 0)), (1, .int a1), (2, .int a2), (3, .int a3)] (by decide) rfl (Nat.le_of_ble_eq_true rfl) rfl ?_
  intro p e s m args below meth c A Q ls hx hb hr hml hown hlocks hts hsz hA0 hQ hA hK hX hP hD hS hl
  replace hown : s.vm.findClass RX9 = some m.cls := hown
  have hH := hsz
  have hiX8 : ∀ w ∈ u_ws RX8 TX8 14, w ∈ wsX9_leastKnowing := fun w h => List.mem_cons_of_mem _ (List.mem_append_right _ (h))
  have hiX9 : ∀ w ∈ u_ws RX9 TX9 12, w ∈ wsX9_leastKnowing := fun w h => List.mem_cons_of_mem _ (List.mem_append_left _ (List.mem_append_left _ (List.mem_append_right _ (h))))
  obtain ⟨H, hHe⟩ : ∃ H : Heap, H = s.heap := ⟨_, rfl⟩
  obtain ⟨locs, hLe⟩ : ∃ L : List Loc, L = [] := ⟨_, rfl⟩
  replace hP : va_P D vwCl (wX9 T ad gx ++ wX8 T (ad 1) gow ++ wX3 T (ad 5) gn) H := by rw [hHe]; exact hP
  replace hS : va_S A s.heap H locs := by rw [hHe, hLe]; exact hS
  suffices hgo : W p l e (rX9_leastKnowing_B rm) s m args below meth c H locs 0 0 Q (F0 m 0 ls []) by rw [hHe, hLe] at hgo; exact hgo
  clear hHe hLe
  refine lv_iload_n hx hb dX9_leastKnowing_0 rfl (lv_at hl 3 rfl) ?_
  refine lv_bipush (v := 10) hx hb dX9_leastKnowing_1 (by decide) ?_
  have hJ18 : ∀ (H : Heap) (locs : List Loc) (ls : Array Slot), fX9_leastKnowing_B_J18 a1 = some r → va_P D vwCl (wX9 T ad gx ++ wX8 T (ad 1) gow ++ wX3 T (ad 5) gn) H → va_D A (wX9 T ad gx ++ wX8 T (ad 1) gow ++ wX3 T (ad 5) gn) → va_S A s.heap H locs → lv_has ls 6 [(1, .int a1)] → W p l e (rX9_leastKnowing_B rm) s m args below meth c H locs 0 0 Q (F0 m 18 ls []) := by
    intro H locs ls hf hP hD hS hl
    unfold fX9_leastKnowing_B_J18 at hf
    refine lv_iload_n hx hb dX9_leastKnowing_18 rfl (lv_at hl 0 rfl) ?_
    obtain ⟨v1, hc19, hf⟩ := zB1_ok hf
    refine zCallS0I [.int a1] ⟨hx, hb, hml, hown, hts⟩ (pJ6_bitCount_0f7a4 l D T X H.size a1 v1 hc19) (va_cwS 1 hts gX9_leastKnowing_J6_bitCount_0f7a4 rfl rfl rfl (by decide +kernel) ⟨by have h1 := hrm.2.2.1; have h2 := hrm.2.2.2; show 0 + 1 ≤ rm.frames + 2; omega, by have h1 := hrm.2.2.1; have h2 := hrm.2.2.2; show 8 + (1 + 11) + 0 ≤ rm.locals + 50; omega⟩) hK hP hD hS hA hX rfl hl.1 rfl (Nat.le_of_ble_eq_true rfl) dX9_leastKnowing_19 ⟨Nat.zero_le _, Nat.zero_le _⟩ (fun H locs hP hD hS => ?_)
    obtain ⟨q1, -⟩ := zI1 hf
    subst q1
    exact zRetI hQ hx hb hr hlocks hA0 hK hP hD hS rfl dX9_leastKnowing_22
  refine lv_icmp_gt (tgt := 18) hx hb dX9_leastKnowing_3 (by decide) (fun hc => ?_) (fun hc => ?_)
  · replace hf := zIf_t hc hf
    exact hJ18 H locs ls hf hP hD hS (lv_sub hl [1] rfl)
  · replace hf := zIf_f hc hf
    refine lv_aload_n hx hb dX9_leastKnowing_6 rfl (lv_at hl 0 rfl) ?_
    refine zGet (ci := 9) (C := RX9) (F := TX9) (N := 12) (v := .ref (ad 5 0)) hx hb hts hiX9 hown hK hP 0 5 1 rfl rfl (by decide) rfl rfl rfl dX9_leastKnowing_7 ?_
    refine lv_iload_n hx hb dX9_leastKnowing_10 rfl (lv_at hl 1 rfl) ?_
    refine lv_iload_n hx hb dX9_leastKnowing_11 rfl (lv_at hl 2 rfl) ?_
    obtain ⟨v2, hc12, hf⟩ := zB1_ok hf
    refine zCallVJI (wr := wX9 T ad gx ++ wX8 T (ad 1) gow) (ws' := wX9 T ad gx ++ wX8 T (ad 1) gow ++ wX3 T (ad 5) gn) [.int a1, .int a2] ⟨hx, hb, hml, hown, hts⟩ (pX3_isThreatened l D T X (ad 5) H.size gn a1 a2 v2 hc12) (cwV 2 hts gX9_leastKnowing_X3_isThreatened rfl rfl rfl (by decide +kernel) ⟨by have h1 := hrm.2.2.1; have h2 := hrm.2.2.2; show 1 + 1 ≤ rm.frames + 2; omega, by have h1 := hrm.2.2.1; have h2 := hrm.2.2.2; show 8 + (3 + 11) + 23 ≤ rm.locals + 50; omega⟩) hK hP hD hS hA hX [12, 13] [0, 1, 2, 3, 4, 5, 6, 7, 8, 9, 10, 11] [0, 1, 2, 3, 4, 5, 6, 7, 8, 9, 10, 11, 12, 13] rfl rfl rfl rfl 0 rfl rfl rfl hl.1 rfl (Nat.le_of_ble_eq_true rfl) dX9_leastKnowing_12 ⟨Nat.zero_le _, Nat.zero_le _⟩ (fun H locs hP hD hS => ?_)
    refine lv_if_ne (tgt := 23) hx hb dX9_leastKnowing_15 (by decide) (fun hc => ?_) (fun hc => ?_)
    · replace hf := zIf_f hc hf
      refine lv_bipush (v := 11) hx hb dX9_leastKnowing_23 (by decide) ?_
      refine lv_istore (lv' := [(4, .int 11), (0, .ref (ad 0 0)), (1, .int a1), (2, .int a2), (3, .int a3)]) hx hb dX9_leastKnowing_25 hl (by decide) rfl (fun ls hl => ?_)
      refine lv_iconst (v := 0) hx hb dX9_leastKnowing_27 (by decide) ?_
      refine lv_istore (lv' := [(5, .int 0), (4, .int 11), (0, .ref (ad 0 0)), (1, .int a1), (2, .int a2), (3, .int a3)]) hx hb dX9_leastKnowing_28 hl (by decide) rfl (fun ls hl => ?_)
      obtain ⟨ex, hlp, hf⟩ := zB1_ok hf
      have hE30_75 : ∀ (v5 : Int32) , ex = v5 → ∀ (H : Heap) (locs : List Loc) (ls : Array Slot), va_P D vwCl (wX9 T ad gx ++ wX8 T (ad 1) gow ++ wX3 T (ad 5) gn) H → va_D A (wX9 T ad gx ++ wX8 T (ad 1) gow ++ wX3 T (ad 5) gn) → va_S A s.heap H locs → lv_has ls 6 [(4, .int v5)] → W p l e (rX9_leastKnowing_B rm) s m args below meth c H locs 0 0 Q (F0 m 75 ls []) := by
        intro v5 hex H locs ls hP hD hS hl
        have hf := zEx1 hex hf
        refine lv_iload hx hb dX9_leastKnowing_75 (lv_at hl 0 rfl) ?_
        obtain ⟨q1, -⟩ := zI1 hf
        subst q1
        exact zRetI hQ hx hb hr hlocks hA0 hK hP hD hS rfl dX9_leastKnowing_77
      refine zLpS2 (body := (fX9_leastKnowing_B_L30 a1 a2 a3 gx gow gn lk)) (b := ex) (fun (v3 : Int32) (v4 : Int32) => ∀ (H : Heap) (locs : List Loc) (ls : Array Slot), va_P D vwCl (wX9 T ad gx ++ wX8 T (ad 1) gow ++ wX3 T (ad 5) gn) H → va_D A (wX9 T ad gx ++ wX8 T (ad 1) gow ++ wX3 T (ad 5) gn) → va_S A s.heap H locs → lv_has ls 6 [(0, .ref (ad 0 0)), (1, .int a1), (2, .int a2), (3, .int a3), (4, .int v3), (5, .int v4)] → W p l e (rX9_leastKnowing_B rm) s m args below meth c H locs 0 0 Q (F0 m 30 ls [])) ?_ zFU 11 0 hlp H locs ls hP hD hS (lv_sub hl [2, 3, 4, 5, 1, 0] rfl)
      intro v3 v4 z hf hzz H locs ls hP hD hS hl
      unfold fX9_leastKnowing_B_L30 at hf
      replace hf := zUk2 hf
      refine lv_iload hx hb dX9_leastKnowing_30 (lv_at hl 5 rfl) ?_
      refine lv_aload_n hx hb dX9_leastKnowing_32 rfl (lv_at hl 0 rfl) ?_
      refine zGet (ci := 9) (C := RX9) (F := TX9) (N := 12) (v := .ref (ad 1 0)) hx hb hts hiX9 hown hK hP 0 0 2 rfl rfl (by decide) rfl rfl rfl dX9_leastKnowing_33 ?_
      refine zGet (ci := 8) (C := RX8) (F := TX8) (N := 14) (v := .int (gow 0 0)) hx hb hts hiX8 hown hK hP 1 0 3 rfl rfl (by decide) rfl rfl rfl dX9_leastKnowing_36 ?_
      refine lv_icmp_ge (tgt := 75) hx hb dX9_leastKnowing_39 (by decide) (fun hc => ?_) (fun hc => ?_)
      · replace hf := zIf_t hc hf
        cases hf
        exact hE30_75 v3 hzz.symm H locs ls hP hD hS (lv_sub hl [4] rfl)
      · replace hf := zIf_f hc hf
        refine lv_iload_n hx hb dX9_leastKnowing_42 rfl (lv_at hl 1 rfl) ?_
        refine lv_iload_n hx hb dX9_leastKnowing_43 rfl (lv_at hl 2 rfl) ?_
        refine lv_ior hx hb dX9_leastKnowing_44 ?_
        refine lv_iload hx hb dX9_leastKnowing_45 (lv_at hl 5 rfl) ?_
        refine lv_ishr hx hb dX9_leastKnowing_47 ?_
        refine lv_iconst (v := 1) hx hb dX9_leastKnowing_48 (by decide) ?_
        refine lv_iand hx hb dX9_leastKnowing_49 ?_
        have hJ69 : ∀ (v6 : Int32) (H : Heap) (locs : List Loc) (ls : Array Slot), fX9_leastKnowing_B_L30J69 v4 v6 = some z → va_P D vwCl (wX9 T ad gx ++ wX8 T (ad 1) gow ++ wX3 T (ad 5) gn) H → va_D A (wX9 T ad gx ++ wX8 T (ad 1) gow ++ wX3 T (ad 5) gn) → va_S A s.heap H locs → lv_has ls 6 [(0, .ref (ad 0 0)), (1, .int a1), (2, .int a2), (3, .int a3), (4, .int v6), (5, .int v4)] → W p l e (rX9_leastKnowing_B rm) s m args below meth c H locs 0 0 Q (F0 m 69 ls []) := by
          intro v6 H locs ls hf hP hD hS hl
          unfold fX9_leastKnowing_B_L30J69 at hf
          obtain ⟨v7, ev7⟩ : ∃ y : Int32, y = v4 + 1 := ⟨_, rfl⟩
          replace hf := zLt_at ev7 hf
          refine lv_iinc (v := v7) (lv' := [(5, .int v7), (0, .ref (ad 0 0)), (1, .int a1), (2, .int a2), (3, .int a3), (4, .int v6)]) hx hb dX9_leastKnowing_69 hl (k := 5) rfl (by rw [ev7]; rfl) (by decide) rfl (fun ls hl => ?_)
          refine lv_goto (tgt := 30) hx hb dX9_leastKnowing_72 (by decide) ?_
          cases hf
          exact hzz H locs ls hP hD hS (lv_sub hl [1, 2, 3, 4, 5, 0] rfl)
        refine lv_if_ne (tgt := 69) hx hb dX9_leastKnowing_50 (by decide) (fun hc => ?_) (fun hc => ?_)
        · replace hf := zIf_f hc hf
          exact hJ69 v3 H locs ls hf hP hD hS hl
        · replace hf := zIf_t hc hf
          refine lv_iload hx hb dX9_leastKnowing_53 (lv_at hl 4 rfl) ?_
          refine lv_aload_n hx hb dX9_leastKnowing_55 rfl (lv_at hl 0 rfl) ?_
          refine lv_iload hx hb dX9_leastKnowing_56 (lv_at hl 5 rfl) ?_
          refine lv_iload_n hx hb dX9_leastKnowing_58 rfl (lv_at hl 1 rfl) ?_
          refine lv_iload_n hx hb dX9_leastKnowing_59 rfl (lv_at hl 2 rfl) ?_
          refine lv_iload_n hx hb dX9_leastKnowing_60 rfl (lv_at hl 3 rfl) ?_
          obtain ⟨v8, hc61, hf⟩ := zB1_ok hf
          refine zCallVEI [.int v4, .int a1, .int a2, .int a3] ⟨hx, hb, hml, hown, hts⟩ (pX9_knowingWithout_B l D T X ad H.size rm hrm lk gx gow gn v4 a1 a2 a3 v8 ih hc61) (cwV 4 hts gX9_leastKnowing_X9_knowingWithout rfl rfl rfl (by decide +kernel) ⟨by show rm.frames + 1 + 1 ≤ rm.frames + 2; omega, by show 8 + (6 + 11) + (rm.locals + 25) ≤ rm.locals + 50; omega⟩) hK hP hD hS hA hX 0 rfl rfl rfl hl.1 rfl (Nat.le_of_ble_eq_true rfl) dX9_leastKnowing_61 ⟨Nat.zero_le _, Nat.zero_le _⟩ (fun H locs hP hD hS => ?_)
          refine va_mmin hx hb (hml.trans hl.1.symm) hown (hts _ (List.mem_of_getElem? (i := 4) rfl)) (hts _ (List.mem_of_getElem? (i := 5) rfl)) (hts _ (List.mem_of_getElem? (i := 6) rfl)) (hts _ (List.mem_of_getElem? (i := 7) rfl)) (Nat.le_of_ble_eq_true rfl) (Nat.le_of_ble_eq_true rfl) (Nat.zero_le _) (Nat.zero_le _) dX9_leastKnowing_64 ?_
          refine lv_topi (fun v9 ev9 => ?_)
          replace hf := zLt_at ev9 hf
          refine lv_istore (lv' := [(4, .int v9), (0, .ref (ad 0 0)), (1, .int a1), (2, .int a2), (3, .int a3), (5, .int v4)]) hx hb dX9_leastKnowing_67 hl (by decide) rfl (fun ls hl => ?_)
          exact hJ69 v9 H locs ls hf hP hD hS (lv_sub hl [1, 2, 3, 4, 0, 5] rfl)
    · replace hf := zIf_t hc hf
      exact hJ18 H locs ls hf hP hD hS (lv_sub hl [1] rfl)
theorem rX9_leastKnowing_0 : ∀ d, (rX9_leastKnowing d).cells = 0 ∧ (rX9_leastKnowing d).slots = 0 ∧ 4 ≤ (rX9_leastKnowing d).frames ∧ 200 ≤ (rX9_leastKnowing d).locals
  | 0 => ⟨rfl, rfl, Nat.le_refl _, Nat.le_refl _⟩
  | d + 1 => ⟨rfl, rfl, Nat.le_trans (rX9_leastKnowing_0 d).2.2.1 (Nat.le_add_right _ _), Nat.le_trans (rX9_leastKnowing_0 d).2.2.2 (Nat.le_add_right _ _)⟩
theorem pX9_leastKnowing_d (l : Launch) (D : va_G) (T : Nat → ClassId) (X : zFP) : ∀ (d : Nat) (ad : Nat → Nat → Nat) (sz : Nat) (gx : zM) (gow : zM) (gn : zM) (a1 : Int32) (a2 : Int32) (a3 : Int32) (r : Int32) (_ : fX9_leastKnowing d gx gow gn a1 a2 a3 = some r), Met l yX9_leastKnowing wsX9_leastKnowing (rX9_leastKnowing d) (zPre D T X [.ref (ad 0 0), .int a1, .int a2, .int a3] (wX9 T ad gx ++ wX8 T (ad 1) gow ++ wX3 T (ad 5) gn) sz) (zQi D T r (wX9 T ad gx ++ wX8 T (ad 1) gow ++ wX3 T (ad 5) gn) (wX9 T ad gx ++ wX8 T (ad 1) gow ++ wX3 T (ad 5) gn) sz) 0 0 (va_A (wX9 T ad gx ++ wX8 T (ad 1) gow ++ wX3 T (ad 5) gn) sz) := by
  intro d
  induction d with
  | zero => intro ad sz gx gow gn a1 a2 a3 r hf; cases hf
  | succ d ihd =>
    intro ad sz gx gow gn a1 a2 a3 r hf
    exact pX9_leastKnowing_B l D T X ad sz (rX9_leastKnowing d) (rX9_leastKnowing_0 d) (fX9_leastKnowing d) gx gow gn a1 a2 a3 r ihd hf
theorem pX9_leastKnowing (l : Launch) (D : va_G) (T : Nat → ClassId) (X : zFP) (ad : Nat → Nat → Nat) (sz : Nat) (d : Nat) (gx : zM) (gow : zM) (gn : zM) (a1 : Int32) (a2 : Int32) (a3 : Int32) (r : Int32) (hf : fX9_leastKnowing d gx gow gn a1 a2 a3 = some r) : Met l yX9_leastKnowing wsX9_leastKnowing (rX9_leastKnowing d) (zPre D T X [.ref (ad 0 0), .int a1, .int a2, .int a3] (wX9 T ad gx ++ wX8 T (ad 1) gow ++ wX3 T (ad 5) gn) sz) (zQi D T r (wX9 T ad gx ++ wX8 T (ad 1) gow ++ wX3 T (ad 5) gn) (wX9 T ad gx ++ wX8 T (ad 1) gow ++ wX3 T (ad 5) gn) sz) 0 0 (va_A (wX9 T ad gx ++ wX8 T (ad 1) gow ++ wX3 T (ad 5) gn) sz) := pX9_leastKnowing_d l D T X d ad sz gx gow gn a1 a2 a3 r hf
theorem pX9_knowingWithout (l : Launch) (D : va_G) (T : Nat → ClassId) (X : zFP) (ad : Nat → Nat → Nat) (sz : Nat) (gx : zM) (gow : zM) (gn : zM) (a1 : Int32) (a2 : Int32) (a3 : Int32) (a4 : Int32) (r : Int32) (hf : fX9_knowingWithout gx gow gn a1 a2 a3 a4 = some r) : Met l yX9_knowingWithout wsX9_knowingWithout rX9_knowingWithout (zPre D T X [.ref (ad 0 0), .int a1, .int a2, .int a3, .int a4] (wX9 T ad gx ++ wX8 T (ad 1) gow ++ wX3 T (ad 5) gn) sz) (zQi D T r (wX9 T ad gx ++ wX8 T (ad 1) gow ++ wX3 T (ad 5) gn) (wX9 T ad gx ++ wX8 T (ad 1) gow ++ wX3 T (ad 5) gn) sz) 0 0 (va_A (wX9 T ad gx ++ wX8 T (ad 1) gow ++ wX3 T (ad 5) gn) sz) := pX9_knowingWithout_B l D T X ad sz (rX9_leastKnowing 12) (rX9_leastKnowing_0 12) (fX9_leastKnowing 12) gx gow gn a1 a2 a3 a4 r (pX9_leastKnowing_d l D T X 12) hf
set_option maxHeartbeats 4000000 in
set_option maxRecDepth 100000 in
theorem pX9_guards (l : Launch) (D : va_G) (T : Nat → ClassId) (X : zFP) (ad : Nat → Nat → Nat) (sz : Nat) (gx : zM) (gow : zM) (gn : zM) (a1 : Int32) (a2 : Int32) (r : Int32) (ngn : zM) (hf : fX9_guards gx gow gn a1 a2 = some (r, ngn)) : Met l yX9_guards wsX9_guards rX9_guards (zPre D T X [.ref (ad 0 0), .int a1, .int a2] (wX9 T ad gx ++ wX8 T (ad 1) gow ++ wX3 T (ad 5) gn) sz) (zQi D T r (wX9 T ad gx ++ wX8 T (ad 1) gow ++ wX3 T (ad 5) ngn) (wX9 T ad gx ++ wX8 T (ad 1) gow ++ wX3 T (ad 5) gn) sz) 0 0 (va_A (wX9 T ad gx ++ wX8 T (ad 1) gow ++ wX3 T (ad 5) gn) sz) := by
  unfold fX9_guards at hf
  refine zStart [(0, .ref (ad 0 0)), (1, .int a1), (2, .int a2)] (by decide) rfl (Nat.le_of_ble_eq_true rfl) rfl ?_
  intro p e s m args below meth c A Q ls hx hb hr hml hown hlocks hts hsz hA0 hQ hA hK hX hP hD hS hl
  replace hown : s.vm.findClass RX9 = some m.cls := hown
  have hH := hsz
  have hiX8 : ∀ w ∈ u_ws RX8 TX8 14, w ∈ wsX9_guards := fun w h => List.mem_cons_of_mem _ (List.mem_append_left _ (List.mem_append_right _ (h)))
  have hiX9 : ∀ w ∈ u_ws RX9 TX9 12, w ∈ wsX9_guards := fun w h => List.mem_cons_of_mem _ (List.mem_append_left _ (List.mem_append_left _ (List.mem_append_right _ (h))))
  obtain ⟨H, hHe⟩ : ∃ H : Heap, H = s.heap := ⟨_, rfl⟩
  obtain ⟨locs, hLe⟩ : ∃ L : List Loc, L = [] := ⟨_, rfl⟩
  replace hP : va_P D vwCl (wX9 T ad gx ++ wX8 T (ad 1) gow ++ wX3 T (ad 5) gn) H := by rw [hHe]; exact hP
  replace hS : va_S A s.heap H locs := by rw [hHe, hLe]; exact hS
  suffices hgo : W p l e rX9_guards s m args below meth c H locs 0 0 Q (F0 m 0 ls []) by rw [hHe, hLe] at hgo; exact hgo
  clear hHe hLe
  refine lv_aload_n hx hb dX9_guards_0 rfl (lv_at hl 0 rfl) ?_
  refine zGet (ci := 9) (C := RX9) (F := TX9) (N := 12) (v := .ref (ad 1 0)) hx hb hts hiX9 hown hK hP 0 0 1 rfl rfl (by decide) rfl rfl rfl dX9_guards_1 ?_
  refine lv_iload_n hx hb dX9_guards_4 rfl (lv_at hl 1 rfl) ?_
  obtain ⟨v1, hc5, hf⟩ := zB1_ok hf
  refine zCallVJI (wr := wX9 T ad gx ++ wX3 T (ad 5) gn) (ws' := wX9 T ad gx ++ wX8 T (ad 1) gow ++ wX3 T (ad 5) gn) [.int a1] ⟨hx, hb, hml, hown, hts⟩ (pX8_hasPerson l D T X (ad 1) H.size gow a1 v1 hc5) (cwV 1 hts gX9_guards_X8_hasPerson rfl rfl rfl (by decide +kernel) ⟨Nat.le_of_ble_eq_true rfl, Nat.le_of_ble_eq_true rfl⟩) hK hP hD hS hA hX [1, 2, 3, 4, 5, 6, 7, 8, 9, 10, 11] [0, 12, 13] [0, 3, 4, 5, 6, 7, 8, 9, 10, 11, 12, 13, 1, 2] rfl rfl rfl rfl 0 rfl rfl rfl hl.1 rfl (Nat.le_of_ble_eq_true rfl) dX9_guards_5 ⟨Nat.zero_le _, Nat.zero_le _⟩ (fun H locs hP hD hS => ?_)
  refine lv_if_eq (tgt := 18) hx hb dX9_guards_8 (by decide) (fun hc => ?_) (fun hc => ?_)
  · replace hf := zIf_t hc hf
    refine lv_iconst (v := (-1)) hx hb dX9_guards_18 (by decide) ?_
    obtain ⟨q1, q2⟩ := zI2 hf
    subst q1
    subst q2
    exact zRetI hQ hx hb hr hlocks hA0 hK hP hD hS rfl dX9_guards_19
  · replace hf := zIf_f hc hf
    refine lv_iload_n hx hb dX9_guards_11 rfl (lv_at hl 2 rfl) ?_
    obtain ⟨v2, hc12, hf⟩ := zB1_ok hf
    refine zCallS0I [.int a2] ⟨hx, hb, hml, hown, hts⟩ (pX9_isEither l D T X H.size a2 v2 hc12) (va_cwS 1 hts gX9_guards_X9_isEither rfl rfl rfl (by decide +kernel) ⟨Nat.le_of_ble_eq_true rfl, Nat.le_of_ble_eq_true rfl⟩) hK hP hD hS hA hX rfl hl.1 rfl (Nat.le_of_ble_eq_true rfl) dX9_guards_12 ⟨Nat.zero_le _, Nat.zero_le _⟩ (fun H locs hP hD hS => ?_)
    refine lv_if_ne (tgt := 20) hx hb dX9_guards_15 (by decide) (fun hc => ?_) (fun hc => ?_)
    · replace hf := zIf_f hc hf
      refine lv_aload_n hx hb dX9_guards_20 rfl (lv_at hl 0 rfl) ?_
      refine zGet (ci := 9) (C := RX9) (F := TX9) (N := 12) (v := .ref (ad 1 0)) hx hb hts hiX9 hown hK hP 0 0 1 rfl rfl (by decide) rfl rfl rfl dX9_guards_21 ?_
      refine zGet (ci := 8) (C := RX8) (F := TX8) (N := 14) (v := .int (gow 0 0)) hx hb hts hiX8 hown hK hP 1 0 2 rfl rfl (by decide) rfl rfl rfl dX9_guards_24 ?_
      refine lv_bipush (v := 8) hx hb dX9_guards_27 (by decide) ?_
      refine lv_icmp_le (tgt := 35) hx hb dX9_guards_29 (by decide) (fun hc => ?_) (fun hc => ?_)
      · replace hf := zIf_t hc hf
        refine lv_aload_n hx hb dX9_guards_35 rfl (lv_at hl 0 rfl) ?_
        obtain ⟨gn_3, hc36, hf⟩ := zB1_ok hf
        refine zCallVEV [] ⟨hx, hb, hml, hown, hts⟩ (pX9_layOpenTies l D T X ad H.size gx gow gn gn_3 hc36) (cwV 0 hts gX9_guards_X9_layOpenTies rfl rfl rfl (by decide +kernel) ⟨Nat.le_of_ble_eq_true rfl, Nat.le_of_ble_eq_true rfl⟩) hK hP hD hS hA hX 0 rfl rfl rfl hl.1 rfl (Nat.le_of_ble_eq_true rfl) dX9_guards_36 ⟨Nat.zero_le _, Nat.zero_le _⟩ (fun H locs hP hD hS => ?_)
        refine lv_iconst (v := 1) hx hb dX9_guards_39 (by decide) ?_
        refine lv_iload_n hx hb dX9_guards_40 rfl (lv_at hl 1 rfl) ?_
        refine lv_ishl hx hb dX9_guards_41 ?_
        refine lv_topi (fun v4 ev4 => ?_)
        replace hf := zLt_at ev4 hf
        refine lv_istore_n (lv' := [(3, .int v4), (0, .ref (ad 0 0)), (1, .int a1), (2, .int a2)]) hx hb dX9_guards_42 rfl hl (by decide) rfl (fun ls hl => ?_)
        refine lv_aload_n hx hb dX9_guards_43 rfl (lv_at hl 1 rfl) ?_
        refine zGet (ci := 9) (C := RX9) (F := TX9) (N := 12) (v := .ref (ad 5 0)) hx hb hts hiX9 hown hK hP 0 5 3 rfl rfl (by decide) rfl rfl rfl dX9_guards_44 ?_
        refine lv_iload_n hx hb dX9_guards_47 rfl (lv_at hl 0 rfl) ?_
        refine lv_iconst (v := 0) hx hb dX9_guards_48 (by decide) ?_
        obtain ⟨v5, hc49, hf⟩ := zB1_ok hf
        refine zCallVJI (wr := wX9 T ad gx ++ wX8 T (ad 1) gow) (ws' := wX9 T ad gx ++ wX8 T (ad 1) gow ++ wX3 T (ad 5) gn_3) [.int v4, .int 0] ⟨hx, hb, hml, hown, hts⟩ (pX3_isThreatened l D T X (ad 5) H.size gn_3 v4 0 v5 hc49) (cwV 2 hts gX9_guards_X3_isThreatened rfl rfl rfl (by decide +kernel) ⟨Nat.le_of_ble_eq_true rfl, Nat.le_of_ble_eq_true rfl⟩) hK hP hD hS hA hX [12, 13] [0, 1, 2, 3, 4, 5, 6, 7, 8, 9, 10, 11] [0, 1, 2, 3, 4, 5, 6, 7, 8, 9, 10, 11, 12, 13] rfl rfl rfl rfl 0 rfl rfl rfl hl.1 rfl (Nat.le_of_ble_eq_true rfl) dX9_guards_49 ⟨Nat.zero_le _, Nat.zero_le _⟩ (fun H locs hP hD hS => ?_)
        refine lv_if_ne (tgt := 66) hx hb dX9_guards_52 (by decide) (fun hc => ?_) (fun hc => ?_)
        · replace hf := zIf_f hc hf
          refine lv_bipush (v := 11) hx hb dX9_guards_66 (by decide) ?_
          refine lv_istore (lv' := [(4, .int 11), (3, .int v4), (0, .ref (ad 0 0)), (1, .int a1), (2, .int a2)]) hx hb dX9_guards_68 hl (by decide) rfl (fun ls hl => ?_)
          refine lv_bipush (v := (-9)) hx hb dX9_guards_70 (by decide) ?_
          refine lv_istore (lv' := [(5, .int (-9)), (4, .int 11), (3, .int v4), (0, .ref (ad 0 0)), (1, .int a1), (2, .int a2)]) hx hb dX9_guards_72 hl (by decide) rfl (fun ls hl => ?_)
          refine lv_iconst (v := 0) hx hb dX9_guards_74 (by decide) ?_
          refine lv_istore (lv' := [(6, .int 0), (5, .int (-9)), (4, .int 11), (3, .int v4), (0, .ref (ad 0 0)), (1, .int a1), (2, .int a2)]) hx hb dX9_guards_75 hl (by decide) rfl (fun ls hl => ?_)
          obtain ⟨ex, hlp, hf⟩ := zB1_ok hf
          have hE77_132 : ∀ (v9 : Int32) (v10 : Int32) , ex = (v9, v10) → ∀ (H : Heap) (locs : List Loc) (ls : Array Slot), va_P D vwCl (wX9 T ad gx ++ wX8 T (ad 1) gow ++ wX3 T (ad 5) gn_3) H → va_D A (wX9 T ad gx ++ wX8 T (ad 1) gow ++ wX3 T (ad 5) gn_3) → va_S A s.heap H locs → lv_has ls 8 [(2, .int a2), (4, .int v9), (5, .int v10)] → W p l e rX9_guards s m args below meth c H locs 0 0 Q (F0 m 132 ls []) := by
            intro v9 v10 hex H locs ls hP hD hS hl
            have hf := zEx2 hex hf
            refine lv_iload_n hx hb dX9_guards_132 rfl (lv_at hl 0 rfl) ?_
            refine lv_if_ne (tgt := 141) hx hb dX9_guards_133 (by decide) (fun hc => ?_) (fun hc => ?_)
            · replace hf := zIf_f hc hf
              refine lv_iload hx hb dX9_guards_141 (lv_at hl 2 rfl) ?_
              obtain ⟨q1, q2⟩ := zI2 hf
              subst q1
              subst q2
              exact zRetI hQ hx hb hr hlocks hA0 hK hP hD hS rfl dX9_guards_143
            · replace hf := zIf_t hc hf
              refine lv_iload hx hb dX9_guards_136 (lv_at hl 1 rfl) ?_
              refine lv_goto (tgt := 143) hx hb dX9_guards_138 (by decide) ?_
              obtain ⟨q1, q2⟩ := zI2 hf
              subst q1
              subst q2
              exact zRetI hQ hx hb hr hlocks hA0 hK hP hD hS rfl dX9_guards_143
          refine zLpS3 (body := (fX9_guards_L77 a1 gx gow gn_3 v4)) (b := ex) (fun (v6 : Int32) (v7 : Int32) (v8 : Int32) => ∀ (H : Heap) (locs : List Loc) (ls : Array Slot), va_P D vwCl (wX9 T ad gx ++ wX8 T (ad 1) gow ++ wX3 T (ad 5) gn_3) H → va_D A (wX9 T ad gx ++ wX8 T (ad 1) gow ++ wX3 T (ad 5) gn_3) → va_S A s.heap H locs → lv_has ls 8 [(0, .ref (ad 0 0)), (1, .int a1), (2, .int a2), (3, .int v4), (4, .int v6), (5, .int v7), (6, .int v8)] → W p l e rX9_guards s m args below meth c H locs 0 0 Q (F0 m 77 ls [])) ?_ zFU 11 (-9) 0 hlp H locs ls hP hD hS (lv_sub hl [4, 5, 6, 3, 2, 1, 0] rfl)
          intro v6 v7 v8 z hf hzz H locs ls hP hD hS hl
          unfold fX9_guards_L77 at hf
          replace hf := zUk3 hf
          refine lv_iload hx hb dX9_guards_77 (lv_at hl 6 rfl) ?_
          refine lv_aload_n hx hb dX9_guards_79 rfl (lv_at hl 0 rfl) ?_
          refine zGet (ci := 9) (C := RX9) (F := TX9) (N := 12) (v := .ref (ad 1 0)) hx hb hts hiX9 hown hK hP 0 0 1 rfl rfl (by decide) rfl rfl rfl dX9_guards_80 ?_
          refine zGet (ci := 8) (C := RX8) (F := TX8) (N := 14) (v := .int (gow 0 0)) hx hb hts hiX8 hown hK hP 1 0 2 rfl rfl (by decide) rfl rfl rfl dX9_guards_83 ?_
          refine lv_icmp_ge (tgt := 132) hx hb dX9_guards_86 (by decide) (fun hc => ?_) (fun hc => ?_)
          · replace hf := zIf_t hc hf
            cases hf
            exact hE77_132 v6 v7 hzz.symm H locs ls hP hD hS (lv_sub hl [2, 4, 5] rfl)
          · replace hf := zIf_f hc hf
            refine lv_iload hx hb dX9_guards_89 (lv_at hl 6 rfl) ?_
            refine lv_iload_n hx hb dX9_guards_91 rfl (lv_at hl 1 rfl) ?_
            have hJ109 : ∀ (v11 : Int32) (H : Heap) (locs : List Loc) (ls : Array Slot), fX9_guards_L77J109 v6 v7 v8 v11 = some z → va_P D vwCl (wX9 T ad gx ++ wX8 T (ad 1) gow ++ wX3 T (ad 5) gn_3) H → va_D A (wX9 T ad gx ++ wX8 T (ad 1) gow ++ wX3 T (ad 5) gn_3) → va_S A s.heap H locs → lv_has ls 8 [(0, .ref (ad 0 0)), (1, .int a1), (2, .int a2), (3, .int v4), (4, .int v6), (5, .int v7), (6, .int v8)] → W p l e rX9_guards s m args below meth c H locs 0 0 Q (F0 m 109 ls [.int v11]) := by
              intro v11 H locs ls hf hP hD hS hl
              unfold fX9_guards_L77J109 at hf
              refine lv_istore (lv' := [(7, .int v11), (0, .ref (ad 0 0)), (1, .int a1), (2, .int a2), (3, .int v4), (4, .int v6), (5, .int v7), (6, .int v8)]) hx hb dX9_guards_109 hl (by decide) rfl (fun ls hl => ?_)
              refine lv_iload hx hb dX9_guards_111 (lv_at hl 0 rfl) ?_
              refine lv_iload hx hb dX9_guards_113 (lv_at hl 5 rfl) ?_
              have hJ126 : ∀ (v12 : Int32) (v13 : Int32) (H : Heap) (locs : List Loc) (ls : Array Slot), fX9_guards_L77J126 v8 v12 v13 = some z → va_P D vwCl (wX9 T ad gx ++ wX8 T (ad 1) gow ++ wX3 T (ad 5) gn_3) H → va_D A (wX9 T ad gx ++ wX8 T (ad 1) gow ++ wX3 T (ad 5) gn_3) → va_S A s.heap H locs → lv_has ls 8 [(0, .ref (ad 0 0)), (1, .int a1), (2, .int a2), (3, .int v4), (4, .int v12), (5, .int v13), (6, .int v8)] → W p l e rX9_guards s m args below meth c H locs 0 0 Q (F0 m 126 ls []) := by
                intro v12 v13 H locs ls hf hP hD hS hl
                unfold fX9_guards_L77J126 at hf
                obtain ⟨v14, ev14⟩ : ∃ y : Int32, y = v8 + 1 := ⟨_, rfl⟩
                replace hf := zLt_at ev14 hf
                refine lv_iinc (v := v14) (lv' := [(6, .int v14), (0, .ref (ad 0 0)), (1, .int a1), (2, .int a2), (3, .int v4), (4, .int v12), (5, .int v13)]) hx hb dX9_guards_126 hl (k := 6) rfl (by rw [ev14]; rfl) (by decide) rfl (fun ls hl => ?_)
                refine lv_goto (tgt := 77) hx hb dX9_guards_129 (by decide) ?_
                cases hf
                exact hzz H locs ls hP hD hS (lv_sub hl [1, 2, 3, 4, 5, 6, 0] rfl)
              refine lv_icmp_ge (tgt := 126) hx hb dX9_guards_115 (by decide) (fun hc => ?_) (fun hc => ?_)
              · replace hf := zIf_t hc hf
                exact hJ126 v6 v7 H locs ls hf hP hD hS (lv_sub hl [1, 2, 3, 4, 5, 6, 7] rfl)
              · replace hf := zIf_f hc hf
                refine lv_iload hx hb dX9_guards_118 (lv_at hl 0 rfl) ?_
                refine lv_istore (lv' := [(4, .int v11), (7, .int v11), (0, .ref (ad 0 0)), (1, .int a1), (2, .int a2), (3, .int v4), (5, .int v7), (6, .int v8)]) hx hb dX9_guards_120 hl (by decide) rfl (fun ls hl => ?_)
                refine lv_iload hx hb dX9_guards_122 (lv_at hl 7 rfl) ?_
                refine lv_istore (lv' := [(5, .int v8), (4, .int v11), (7, .int v11), (0, .ref (ad 0 0)), (1, .int a1), (2, .int a2), (3, .int v4), (6, .int v8)]) hx hb dX9_guards_124 hl (by decide) rfl (fun ls hl => ?_)
                exact hJ126 v11 v8 H locs ls hf hP hD hS (lv_sub hl [3, 4, 5, 6, 1, 0, 7] rfl)
            refine lv_icmp_ne (tgt := 100) hx hb dX9_guards_92 (by decide) (fun hc => ?_) (fun hc => ?_)
            · replace hf := zIf_f hc hf
              refine lv_aload_n hx hb dX9_guards_100 rfl (lv_at hl 0 rfl) ?_
              refine lv_iload hx hb dX9_guards_101 (lv_at hl 6 rfl) ?_
              refine lv_iload_n hx hb dX9_guards_103 rfl (lv_at hl 3 rfl) ?_
              refine lv_iconst (v := 0) hx hb dX9_guards_104 (by decide) ?_
              refine lv_iconst (v := 0) hx hb dX9_guards_105 (by decide) ?_
              obtain ⟨v15, hc106, hf⟩ := zB1_ok hf
              refine zCallVEI [.int v8, .int v4, .int 0, .int 0] ⟨hx, hb, hml, hown, hts⟩ (pX9_knowingWithout l D T X ad H.size gx gow gn_3 v8 v4 0 0 v15 hc106) (cwV 4 hts gX9_guards_X9_knowingWithout rfl rfl rfl (by decide +kernel) ⟨Nat.le_of_ble_eq_true rfl, Nat.le_of_ble_eq_true rfl⟩) hK hP hD hS hA hX 0 rfl rfl rfl hl.1 rfl (Nat.le_of_ble_eq_true rfl) dX9_guards_106 ⟨Nat.zero_le _, Nat.zero_le _⟩ (fun H locs hP hD hS => ?_)
              exact hJ109 v15 H locs ls hf hP hD hS hl
            · replace hf := zIf_t hc hf
              refine lv_iload hx hb dX9_guards_95 (lv_at hl 4 rfl) ?_
              refine lv_goto (tgt := 109) hx hb dX9_guards_97 (by decide) ?_
              exact hJ109 v6 H locs ls hf hP hD hS hl
        · replace hf := zIf_t hc hf
          refine lv_iload_n hx hb dX9_guards_55 rfl (lv_at hl 3 rfl) ?_
          refine lv_if_ne (tgt := 63) hx hb dX9_guards_56 (by decide) (fun hc => ?_) (fun hc => ?_)
          · replace hf := zIf_f hc hf
            refine lv_bipush (v := (-9)) hx hb dX9_guards_63 (by decide) ?_
            obtain ⟨q1, q2⟩ := zI2 hf
            subst q1
            subst q2
            exact zRetI hQ hx hb hr hlocks hA0 hK hP hD hS rfl dX9_guards_65
          · replace hf := zIf_t hc hf
            refine lv_iconst (v := 1) hx hb dX9_guards_59 (by decide) ?_
            refine lv_goto (tgt := 65) hx hb dX9_guards_60 (by decide) ?_
            obtain ⟨q1, q2⟩ := zI2 hf
            subst q1
            subst q2
            exact zRetI hQ hx hb hr hlocks hA0 hK hP hD hS rfl dX9_guards_65
      · replace hf := zIf_f hc hf
        refine lv_bipush (v := (-4)) hx hb dX9_guards_32 (by decide) ?_
        obtain ⟨q1, q2⟩ := zI2 hf
        subst q1
        subst q2
        exact zRetI hQ hx hb hr hlocks hA0 hK hP hD hS rfl dX9_guards_34
    · replace hf := zIf_t hc hf
      refine lv_iconst (v := (-1)) hx hb dX9_guards_18 (by decide) ?_
      obtain ⟨q1, q2⟩ := zI2 hf
      subst q1
      subst q2
      exact zRetI hQ hx hb hr hlocks hA0 hK hP hD hS rfl dX9_guards_19
