section LW
variable {p : Program} {l : Launch} {e : Env} {s : State} {m : MethodId} {below : List Frame} {meth : Method} {c : Code} {H : Heap} {locs : List Loc} {cells slots : Nat} {Q : State → Prop} {ls : Array Slot} {D : va_G} {T : Nat → ClassId} {X : zFP} {A : Nat → Prop} {b L : Nat} {xs : Nat → Int32} {i : Nat} {ad : Nat → Nat → Nat} {hm : Nat → Nat} {gs : Nat → zM} {g : zM} {gl : zL}
set_option maxHeartbeats 4000000 in
set_option maxRecDepth 20000 in
theorem law_sets (C : zLw p room_1 s m c b L xs D T X A cells slots) (hi : i + 6 ≤ L) (hv : yInv gs g gl) (hP : va_P D vwCl (zFlat (zWg T ad hm gs g gl)) H) (hD : va_D A (zFlat (zWg T ad hm gs g gl))) (hS : va_S A s.heap H locs) (hl : lv_has ls 4 [(0, .ref b), (1, .ref (ad 0 0)), (2, .ref (hm 0)), (3, .int (nI i))]) (kk : zGo p l e room_1 s m below meth c ls cells slots Q D T A b ad hm) : W p l e room_1 s m #[Value.ref b] below meth c H locs cells slots Q (F0 m 609 ls []) := by
  have hx := C.hx
  have hb := C.hb
  obtain ⟨r, w5, g', e1, e2, hv⟩ := v_sets hv (zAt xs i 1)
  refine lv_aload_n hx hb dL_law_609 rfl (lv_at hl 1 rfl) ?_
  refine zLd 1 C hS hl hi (by decide) rfl dL_law_610 dL_law_611 dL_law_612 dL_law_613 dL_law_614 ?_
  refine zCallGI (zWg T ad hm gs g gl) (zWg T ad hm (zSet gs 5 w5) g gl) [.int (zAt xs i 1)] ⟨hx, hb, C.hml, C.hown, zHt C.hts tv_X9_sets⟩ (pX9_sets l D T X ad H.size (gs 0) (gs 1) (gs 5) (zAt xs i 1) r w5 e1) (cwV 1 (zHt C.hts tv_X9_sets) gv_X9_sets rfl rfl rfl (by decide +kernel) ⟨Nat.le_of_ble_eq_true rfl, Nat.le_of_ble_eq_true rfl⟩) C.hK hP hD hS C.hA C.hX [0, 1, 5] [2, 3, 4, 6, 7, 8, 9, 10, 11, 12] rfl (zFl3 _ _ _ ) (zFl3 _ _ _ ) rfl 0 rfl rfl rfl hl.1 rfl (Nat.le_of_ble_eq_true rfl) dL_law_615 C.hf (fun H locs hP hD hS => ?_)
  refine lv_aload_n hx hb dL_law_618 rfl (lv_at hl 2 rfl) ?_
  refine zLd 1 C hS hl hi (by decide) rfl dL_law_619 dL_law_620 dL_law_621 dL_law_622 dL_law_623 ?_
  refine zCallGI (zWg T ad hm (zSet gs 5 w5) g gl) (zWg T ad hm (zSet gs 5 w5) g' gl) [.int (zAt xs i 1)] ⟨hx, hb, C.hml, C.hown, zHt C.hts tv_X10_sets⟩ (pX10_sets l D T X hm H.size g gl (zAt xs i 1) r g' e2) (cwV 1 (zHt C.hts tv_X10_sets) gv_X10_sets rfl rfl rfl (by decide +kernel) ⟨Nat.le_of_ble_eq_true rfl, Nat.le_of_ble_eq_true rfl⟩) C.hK hP hD hS C.hA C.hX [12] [0, 1, 2, 3, 4, 5, 6, 7, 8, 9, 10, 11] rfl (zFl1 _) (zFl1 _) rfl 0 rfl rfl rfl hl.1 rfl (Nat.le_of_ble_eq_true rfl) dL_law_624 C.hf (fun H locs hP hD hS => ?_)
  exact lv_icmp_eq (tgt := 1646) hx hb dL_law_627 (by decide) (fun _ => kk _ _ _ H locs hv hP hD hS) (fun h9 => absurd rfl h9)
set_option maxHeartbeats 4000000 in
set_option maxRecDepth 20000 in
theorem law_chance (C : zLw p room_1 s m c b L xs D T X A cells slots) (hi : i + 6 ≤ L) (hv : yInv gs g gl) (hP : va_P D vwCl (zFlat (zWg T ad hm gs g gl)) H) (hD : va_D A (zFlat (zWg T ad hm gs g gl))) (hS : va_S A s.heap H locs) (hl : lv_has ls 4 [(0, .ref b), (1, .ref (ad 0 0)), (2, .ref (hm 0)), (3, .int (nI i))]) (kk : zGo p l e room_1 s m below meth c ls cells slots Q D T A b ad hm) : W p l e room_1 s m #[Value.ref b] below meth c H locs cells slots Q (F0 m 632 ls []) := by
  have hx := C.hx
  have hb := C.hb
  obtain ⟨r, w5, w6, gl', e1, e2, hv⟩ := v_chance hv (zAt xs i 1) (zAt xs i 2)
  refine lv_aload_n hx hb dL_law_632 rfl (lv_at hl 1 rfl) ?_
  refine zLd 1 C hS hl hi (by decide) rfl dL_law_633 dL_law_634 dL_law_635 dL_law_636 dL_law_637 ?_
  refine zLd 2 C hS hl hi (by decide) rfl dL_law_638 dL_law_639 dL_law_640 dL_law_641 dL_law_642 ?_
  refine zCallGI (zWg T ad hm gs g gl) (zWg T ad hm (zSet (zSet gs 5 w5) 6 w6) g gl) [.int (zAt xs i 1), .int (zAt xs i 2)] ⟨hx, hb, C.hml, C.hown, zHt C.hts tv_X9_chance⟩ (pX9_chance l D T X ad H.size (gs 0) (gs 1) (gs 5) (gs 6) (zAt xs i 1) (zAt xs i 2) r w5 w6 e1) (cwV 2 (zHt C.hts tv_X9_chance) gv_X9_chance rfl rfl rfl (by decide +kernel) ⟨Nat.le_of_ble_eq_true rfl, Nat.le_of_ble_eq_true rfl⟩) C.hK hP hD hS C.hA C.hX [0, 1, 5, 6] [2, 3, 4, 7, 8, 9, 10, 11, 12] rfl (zFl4 _ _ _ _ ) (zFl4 _ _ _ _ ) rfl 0 rfl rfl rfl hl.1 rfl (Nat.le_of_ble_eq_true rfl) dL_law_643 C.hf (fun H locs hP hD hS => ?_)
  refine lv_aload_n hx hb dL_law_646 rfl (lv_at hl 2 rfl) ?_
  refine zLd 1 C hS hl hi (by decide) rfl dL_law_647 dL_law_648 dL_law_649 dL_law_650 dL_law_651 ?_
  refine zLd 2 C hS hl hi (by decide) rfl dL_law_652 dL_law_653 dL_law_654 dL_law_655 dL_law_656 ?_
  refine zCallGI (zWg T ad hm (zSet (zSet gs 5 w5) 6 w6) g gl) (zWg T ad hm (zSet (zSet gs 5 w5) 6 w6) g gl') [.int (zAt xs i 1), .int (zAt xs i 2)] ⟨hx, hb, C.hml, C.hown, zHt C.hts tv_X10_chance⟩ (pX10_chance l D T X hm H.size g gl (zAt xs i 1) (zAt xs i 2) r gl' e2) (cwV 2 (zHt C.hts tv_X10_chance) gv_X10_chance rfl rfl rfl (by decide +kernel) ⟨Nat.le_of_ble_eq_true rfl, Nat.le_of_ble_eq_true rfl⟩) C.hK hP hD hS C.hA C.hX [12] [0, 1, 2, 3, 4, 5, 6, 7, 8, 9, 10, 11] rfl (zFl1 _) (zFl1 _) rfl 0 rfl rfl rfl hl.1 rfl (Nat.le_of_ble_eq_true rfl) dL_law_657 C.hf (fun H locs hP hD hS => ?_)
  exact lv_icmp_eq (tgt := 1646) hx hb dL_law_660 (by decide) (fun _ => kk _ _ _ H locs hv hP hD hS) (fun h9 => absurd rfl h9)
set_option maxHeartbeats 4000000 in
set_option maxRecDepth 20000 in
theorem law_reach (C : zLw p room_1 s m c b L xs D T X A cells slots) (hi : i + 6 ≤ L) (hv : yInv gs g gl) (hP : va_P D vwCl (zFlat (zWg T ad hm gs g gl)) H) (hD : va_D A (zFlat (zWg T ad hm gs g gl))) (hS : va_S A s.heap H locs) (hl : lv_has ls 4 [(0, .ref b), (1, .ref (ad 0 0)), (2, .ref (hm 0)), (3, .int (nI i))]) (kk : zGo p l e room_1 s m below meth c ls cells slots Q D T A b ad hm) : W p l e room_1 s m #[Value.ref b] below meth c H locs cells slots Q (F0 m 665 ls []) := by
  have hx := C.hx
  have hb := C.hb
  obtain ⟨r, w5, w6, gl', e1, e2, hv⟩ := v_reach hv (zAt xs i 1)
  refine lv_aload_n hx hb dL_law_665 rfl (lv_at hl 1 rfl) ?_
  refine zLd 1 C hS hl hi (by decide) rfl dL_law_666 dL_law_667 dL_law_668 dL_law_669 dL_law_670 ?_
  refine zCallGL (zWg T ad hm gs g gl) (zWg T ad hm (zSet (zSet gs 5 w5) 6 w6) g gl) [.int (zAt xs i 1)] ⟨hx, hb, C.hml, C.hown, zHt C.hts tv_X9_reach⟩ (pX9_reach l D T X ad H.size (gs 0) (gs 1) (gs 5) (gs 6) (zAt xs i 1) r w5 w6 e1) (cwV 1 (zHt C.hts tv_X9_reach) gv_X9_reach rfl rfl rfl (by decide +kernel) ⟨Nat.le_of_ble_eq_true rfl, Nat.le_of_ble_eq_true rfl⟩) C.hK hP hD hS C.hA C.hX [0, 1, 5, 6] [2, 3, 4, 7, 8, 9, 10, 11, 12] rfl (zFl4 _ _ _ _ ) (zFl4 _ _ _ _ ) rfl 0 rfl rfl rfl hl.1 rfl (Nat.le_of_ble_eq_true rfl) dL_law_671 C.hf (fun H locs hP hD hS => ?_)
  refine lv_aload_n hx hb dL_law_674 rfl (lv_at hl 2 rfl) ?_
  refine zLd 1 C hS hl hi (by decide) rfl dL_law_675 dL_law_676 dL_law_677 dL_law_678 dL_law_679 ?_
  refine zCallGL (zWg T ad hm (zSet (zSet gs 5 w5) 6 w6) g gl) (zWg T ad hm (zSet (zSet gs 5 w5) 6 w6) g gl') [.int (zAt xs i 1)] ⟨hx, hb, C.hml, C.hown, zHt C.hts tv_X10_reach⟩ (pX10_reach l D T X hm H.size g gl (zAt xs i 1) r gl' e2) (cwV 1 (zHt C.hts tv_X10_reach) gv_X10_reach rfl rfl rfl (by decide +kernel) ⟨Nat.le_of_ble_eq_true rfl, Nat.le_of_ble_eq_true rfl⟩) C.hK hP hD hS C.hA C.hX [12] [0, 1, 2, 3, 4, 5, 6, 7, 8, 9, 10, 11] rfl (zFl1 _) (zFl1 _) rfl 0 rfl rfl rfl hl.1 rfl (Nat.le_of_ble_eq_true rfl) dL_law_680 C.hf (fun H locs hP hD hS => ?_)
  refine W.lcmp hx hb dL_law_683 ?_
  exact lv_if_eq (tgt := 1646) hx hb dL_law_684 (by decide) (fun _ => kk _ _ _ H locs hv hP hD hS) (fun h9 => absurd (zCmp0 r) h9)
set_option maxHeartbeats 4000000 in
set_option maxRecDepth 20000 in
theorem law_seen (C : zLw p room_1 s m c b L xs D T X A cells slots) (hi : i + 6 ≤ L) (hv : yInv gs g gl) (hP : va_P D vwCl (zFlat (zWg T ad hm gs g gl)) H) (hD : va_D A (zFlat (zWg T ad hm gs g gl))) (hS : va_S A s.heap H locs) (hl : lv_has ls 4 [(0, .ref b), (1, .ref (ad 0 0)), (2, .ref (hm 0)), (3, .int (nI i))]) (kk : zGo p l e room_1 s m below meth c ls cells slots Q D T A b ad hm) : W p l e room_1 s m #[Value.ref b] below meth c H locs cells slots Q (F0 m 689 ls []) := by
  have hx := C.hx
  have hb := C.hb
  obtain ⟨r, w1, g', e1, e2, hv⟩ := v_seen hv (zAt xs i 1) (zAt xs i 2)
  refine lv_aload_n hx hb dL_law_689 rfl (lv_at hl 1 rfl) ?_
  refine zLd 1 C hS hl hi (by decide) rfl dL_law_690 dL_law_691 dL_law_692 dL_law_693 dL_law_694 ?_
  refine zLd 2 C hS hl hi (by decide) rfl dL_law_695 dL_law_696 dL_law_697 dL_law_698 dL_law_699 ?_
  refine zCallGI (zWg T ad hm gs g gl) (zWg T ad hm (zSet gs 1 w1) g gl) [.int (zAt xs i 1), .int (zAt xs i 2)] ⟨hx, hb, C.hml, C.hown, zHt C.hts tv_X9_seen⟩ (pX9_seen l D T X ad H.size (gs 0) (gs 1) (zAt xs i 1) (zAt xs i 2) r w1 e1) (cwV 2 (zHt C.hts tv_X9_seen) gv_X9_seen rfl rfl rfl (by decide +kernel) ⟨Nat.le_of_ble_eq_true rfl, Nat.le_of_ble_eq_true rfl⟩) C.hK hP hD hS C.hA C.hX [0, 1] [2, 3, 4, 5, 6, 7, 8, 9, 10, 11, 12] rfl (zFl2 _ _ ) (zFl2 _ _ ) rfl 0 rfl rfl rfl hl.1 rfl (Nat.le_of_ble_eq_true rfl) dL_law_700 C.hf (fun H locs hP hD hS => ?_)
  refine lv_aload_n hx hb dL_law_703 rfl (lv_at hl 2 rfl) ?_
  refine zLd 1 C hS hl hi (by decide) rfl dL_law_704 dL_law_705 dL_law_706 dL_law_707 dL_law_708 ?_
  refine zLd 2 C hS hl hi (by decide) rfl dL_law_709 dL_law_710 dL_law_711 dL_law_712 dL_law_713 ?_
  refine zCallGI (zWg T ad hm (zSet gs 1 w1) g gl) (zWg T ad hm (zSet gs 1 w1) g' gl) [.int (zAt xs i 1), .int (zAt xs i 2)] ⟨hx, hb, C.hml, C.hown, zHt C.hts tv_X10_seen⟩ (pX10_seen l D T X hm H.size g gl (zAt xs i 1) (zAt xs i 2) r g' e2) (cwV 2 (zHt C.hts tv_X10_seen) gv_X10_seen rfl rfl rfl (by decide +kernel) ⟨Nat.le_of_ble_eq_true rfl, Nat.le_of_ble_eq_true rfl⟩) C.hK hP hD hS C.hA C.hX [12] [0, 1, 2, 3, 4, 5, 6, 7, 8, 9, 10, 11] rfl (zFl1 _) (zFl1 _) rfl 0 rfl rfl rfl hl.1 rfl (Nat.le_of_ble_eq_true rfl) dL_law_714 C.hf (fun H locs hP hD hS => ?_)
  exact lv_icmp_eq (tgt := 1646) hx hb dL_law_717 (by decide) (fun _ => kk _ _ _ H locs hv hP hD hS) (fun h9 => absurd rfl h9)
set_option maxHeartbeats 4000000 in
set_option maxRecDepth 20000 in
theorem law_who (C : zLw p room_1 s m c b L xs D T X A cells slots) (hi : i + 6 ≤ L) (hv : yInv gs g gl) (hP : va_P D vwCl (zFlat (zWg T ad hm gs g gl)) H) (hD : va_D A (zFlat (zWg T ad hm gs g gl))) (hS : va_S A s.heap H locs) (hl : lv_has ls 4 [(0, .ref b), (1, .ref (ad 0 0)), (2, .ref (hm 0)), (3, .int (nI i))]) (kk : zGo p l e room_1 s m below meth c ls cells slots Q D T A b ad hm) : W p l e room_1 s m #[Value.ref b] below meth c H locs cells slots Q (F0 m 722 ls []) := by
  have hx := C.hx
  have hb := C.hb
  obtain ⟨r, w5, w6, gl', e1, e2, hv⟩ := v_who hv (zAt xs i 1) (zAt xs i 2)
  refine lv_aload_n hx hb dL_law_722 rfl (lv_at hl 1 rfl) ?_
  refine zLd 1 C hS hl hi (by decide) rfl dL_law_723 dL_law_724 dL_law_725 dL_law_726 dL_law_727 ?_
  refine zLd 2 C hS hl hi (by decide) rfl dL_law_728 dL_law_729 dL_law_730 dL_law_731 dL_law_732 ?_
  refine zCallGI (zWg T ad hm gs g gl) (zWg T ad hm (zSet (zSet gs 5 w5) 6 w6) g gl) [.int (zAt xs i 1), .int (zAt xs i 2)] ⟨hx, hb, C.hml, C.hown, zHt C.hts tv_X9_who⟩ (pX9_who l D T X ad H.size (gs 0) (gs 1) (gs 5) (gs 6) (zAt xs i 1) (zAt xs i 2) r w5 w6 e1) (cwV 2 (zHt C.hts tv_X9_who) gv_X9_who rfl rfl rfl (by decide +kernel) ⟨Nat.le_of_ble_eq_true rfl, Nat.le_of_ble_eq_true rfl⟩) C.hK hP hD hS C.hA C.hX [0, 1, 5, 6] [2, 3, 4, 7, 8, 9, 10, 11, 12] rfl (zFl4 _ _ _ _ ) (zFl4 _ _ _ _ ) rfl 0 rfl rfl rfl hl.1 rfl (Nat.le_of_ble_eq_true rfl) dL_law_733 C.hf (fun H locs hP hD hS => ?_)
  refine lv_aload_n hx hb dL_law_736 rfl (lv_at hl 2 rfl) ?_
  refine zLd 1 C hS hl hi (by decide) rfl dL_law_737 dL_law_738 dL_law_739 dL_law_740 dL_law_741 ?_
  refine zLd 2 C hS hl hi (by decide) rfl dL_law_742 dL_law_743 dL_law_744 dL_law_745 dL_law_746 ?_
  refine zCallGI (zWg T ad hm (zSet (zSet gs 5 w5) 6 w6) g gl) (zWg T ad hm (zSet (zSet gs 5 w5) 6 w6) g gl') [.int (zAt xs i 1), .int (zAt xs i 2)] ⟨hx, hb, C.hml, C.hown, zHt C.hts tv_X10_who⟩ (pX10_who l D T X hm H.size g gl (zAt xs i 1) (zAt xs i 2) r gl' e2) (cwV 2 (zHt C.hts tv_X10_who) gv_X10_who rfl rfl rfl (by decide +kernel) ⟨Nat.le_of_ble_eq_true rfl, Nat.le_of_ble_eq_true rfl⟩) C.hK hP hD hS C.hA C.hX [12] [0, 1, 2, 3, 4, 5, 6, 7, 8, 9, 10, 11] rfl (zFl1 _) (zFl1 _) rfl 0 rfl rfl rfl hl.1 rfl (Nat.le_of_ble_eq_true rfl) dL_law_747 C.hf (fun H locs hP hD hS => ?_)
  exact lv_icmp_eq (tgt := 1646) hx hb dL_law_750 (by decide) (fun _ => kk _ _ _ H locs hv hP hD hS) (fun h9 => absurd rfl h9)
set_option maxHeartbeats 4000000 in
set_option maxRecDepth 20000 in
theorem law_fewest (C : zLw p room_1 s m c b L xs D T X A cells slots) (hi : i + 6 ≤ L) (hv : yInv gs g gl) (hP : va_P D vwCl (zFlat (zWg T ad hm gs g gl)) H) (hD : va_D A (zFlat (zWg T ad hm gs g gl))) (hS : va_S A s.heap H locs) (hl : lv_has ls 4 [(0, .ref b), (1, .ref (ad 0 0)), (2, .ref (hm 0)), (3, .int (nI i))]) (kk : zGo p l e room_1 s m below meth c ls cells slots Q D T A b ad hm) : W p l e room_1 s m #[Value.ref b] below meth c H locs cells slots Q (F0 m 755 ls []) := by
  have hx := C.hx
  have hb := C.hb
  obtain ⟨r, w7, g', e1, e2, hv⟩ := v_fewest hv (zAt xs i 1) (zAt xs i 2) (zAt xs i 3)
  refine lv_aload_n hx hb dL_law_755 rfl (lv_at hl 1 rfl) ?_
  refine zLd 1 C hS hl hi (by decide) rfl dL_law_756 dL_law_757 dL_law_758 dL_law_759 dL_law_760 ?_
  refine zLd 2 C hS hl hi (by decide) rfl dL_law_761 dL_law_762 dL_law_763 dL_law_764 dL_law_765 ?_
  refine zLd 3 C hS hl hi (by decide) rfl dL_law_766 dL_law_767 dL_law_768 dL_law_769 dL_law_770 ?_
  refine zCallGI (zWg T ad hm gs g gl) (zWg T ad hm (zSet gs 7 w7) g gl) [.int (zAt xs i 1), .int (zAt xs i 2), .int (zAt xs i 3)] ⟨hx, hb, C.hml, C.hown, zHt C.hts tv_X9_fewest⟩ (pX9_fewest l D T X ad H.size (gs 0) (gs 1) (gs 7) (zAt xs i 1) (zAt xs i 2) (zAt xs i 3) r w7 e1) (cwV 3 (zHt C.hts tv_X9_fewest) gv_X9_fewest rfl rfl rfl (by decide +kernel) ⟨Nat.le_of_ble_eq_true rfl, Nat.le_of_ble_eq_true rfl⟩) C.hK hP hD hS C.hA C.hX [0, 1, 7] [2, 3, 4, 5, 6, 8, 9, 10, 11, 12] rfl (zFl3 _ _ _ ) (zFl3 _ _ _ ) rfl 0 rfl rfl rfl hl.1 rfl (Nat.le_of_ble_eq_true rfl) dL_law_771 C.hf (fun H locs hP hD hS => ?_)
  refine lv_aload_n hx hb dL_law_774 rfl (lv_at hl 2 rfl) ?_
  refine zLd 1 C hS hl hi (by decide) rfl dL_law_775 dL_law_776 dL_law_777 dL_law_778 dL_law_779 ?_
  refine zLd 2 C hS hl hi (by decide) rfl dL_law_780 dL_law_781 dL_law_782 dL_law_783 dL_law_784 ?_
  refine zLd 3 C hS hl hi (by decide) rfl dL_law_785 dL_law_786 dL_law_787 dL_law_788 dL_law_789 ?_
  refine zCallGI (zWg T ad hm (zSet gs 7 w7) g gl) (zWg T ad hm (zSet gs 7 w7) g' gl) [.int (zAt xs i 1), .int (zAt xs i 2), .int (zAt xs i 3)] ⟨hx, hb, C.hml, C.hown, zHt C.hts tv_X10_fewest⟩ (pX10_fewest l D T X hm H.size g gl (zAt xs i 1) (zAt xs i 2) (zAt xs i 3) r g' e2) (cwV 3 (zHt C.hts tv_X10_fewest) gv_X10_fewest rfl rfl rfl (by decide +kernel) ⟨Nat.le_of_ble_eq_true rfl, Nat.le_of_ble_eq_true rfl⟩) C.hK hP hD hS C.hA C.hX [12] [0, 1, 2, 3, 4, 5, 6, 7, 8, 9, 10, 11] rfl (zFl1 _) (zFl1 _) rfl 0 rfl rfl rfl hl.1 rfl (Nat.le_of_ble_eq_true rfl) dL_law_790 C.hf (fun H locs hP hD hS => ?_)
  exact lv_icmp_eq (tgt := 1646) hx hb dL_law_793 (by decide) (fun _ => kk _ _ _ H locs hv hP hD hS) (fun h9 => absurd rfl h9)
set_option maxHeartbeats 4000000 in
set_option maxRecDepth 20000 in
theorem law_between (C : zLw p room_1 s m c b L xs D T X A cells slots) (hi : i + 6 ≤ L) (hv : yInv gs g gl) (hP : va_P D vwCl (zFlat (zWg T ad hm gs g gl)) H) (hD : va_D A (zFlat (zWg T ad hm gs g gl))) (hS : va_S A s.heap H locs) (hl : lv_has ls 4 [(0, .ref b), (1, .ref (ad 0 0)), (2, .ref (hm 0)), (3, .int (nI i))]) (kk : zGo p l e room_1 s m below meth c ls cells slots Q D T A b ad hm) : W p l e room_1 s m #[Value.ref b] below meth c H locs cells slots Q (F0 m 798 ls []) := by
  have hx := C.hx
  have hb := C.hb
  obtain ⟨r, w5, e1, e2, hv⟩ := v_between hv (zAt xs i 1) (zAt xs i 2) (zAt xs i 3)
  refine lv_aload_n hx hb dL_law_798 rfl (lv_at hl 1 rfl) ?_
  refine zLd 1 C hS hl hi (by decide) rfl dL_law_799 dL_law_800 dL_law_801 dL_law_802 dL_law_803 ?_
  refine zLd 2 C hS hl hi (by decide) rfl dL_law_804 dL_law_805 dL_law_806 dL_law_807 dL_law_808 ?_
  refine zLd 3 C hS hl hi (by decide) rfl dL_law_809 dL_law_810 dL_law_811 dL_law_812 dL_law_813 ?_
  refine zCallGI (zWg T ad hm gs g gl) (zWg T ad hm (zSet gs 5 w5) g gl) [.int (zAt xs i 1), .int (zAt xs i 2), .int (zAt xs i 3)] ⟨hx, hb, C.hml, C.hown, zHt C.hts tv_X9_between⟩ (pX9_between l D T X ad H.size (gs 0) (gs 1) (gs 5) (zAt xs i 1) (zAt xs i 2) (zAt xs i 3) r w5 e1) (cwV 3 (zHt C.hts tv_X9_between) gv_X9_between rfl rfl rfl (by decide +kernel) ⟨Nat.le_of_ble_eq_true rfl, Nat.le_of_ble_eq_true rfl⟩) C.hK hP hD hS C.hA C.hX [0, 1, 5] [2, 3, 4, 6, 7, 8, 9, 10, 11, 12] rfl (zFl3 _ _ _ ) (zFl3 _ _ _ ) rfl 0 rfl rfl rfl hl.1 rfl (Nat.le_of_ble_eq_true rfl) dL_law_814 C.hf (fun H locs hP hD hS => ?_)
  refine lv_aload_n hx hb dL_law_817 rfl (lv_at hl 2 rfl) ?_
  refine zLd 1 C hS hl hi (by decide) rfl dL_law_818 dL_law_819 dL_law_820 dL_law_821 dL_law_822 ?_
  refine zLd 2 C hS hl hi (by decide) rfl dL_law_823 dL_law_824 dL_law_825 dL_law_826 dL_law_827 ?_
  refine zLd 3 C hS hl hi (by decide) rfl dL_law_828 dL_law_829 dL_law_830 dL_law_831 dL_law_832 ?_
  refine zCallGI (zWg T ad hm (zSet gs 5 w5) g gl) (zWg T ad hm (zSet gs 5 w5) g gl) [.int (zAt xs i 1), .int (zAt xs i 2), .int (zAt xs i 3)] ⟨hx, hb, C.hml, C.hown, zHt C.hts tv_X10_between⟩ (pX10_between l D T X hm H.size g gl (zAt xs i 1) (zAt xs i 2) (zAt xs i 3) r  e2) (cwV 3 (zHt C.hts tv_X10_between) gv_X10_between rfl rfl rfl (by decide +kernel) ⟨Nat.le_of_ble_eq_true rfl, Nat.le_of_ble_eq_true rfl⟩) C.hK hP hD hS C.hA C.hX [12] [0, 1, 2, 3, 4, 5, 6, 7, 8, 9, 10, 11] rfl (zFl1 _) (zFl1 _) rfl 0 rfl rfl rfl hl.1 rfl (Nat.le_of_ble_eq_true rfl) dL_law_833 C.hf (fun H locs hP hD hS => ?_)
  exact lv_icmp_eq (tgt := 1646) hx hb dL_law_836 (by decide) (fun _ => kk _ _ _ H locs hv hP hD hS) (fun h9 => absurd rfl h9)
set_option maxHeartbeats 4000000 in
set_option maxRecDepth 20000 in
theorem law_small (C : zLw p room_1 s m c b L xs D T X A cells slots) (hi : i + 6 ≤ L) (hv : yInv gs g gl) (hP : va_P D vwCl (zFlat (zWg T ad hm gs g gl)) H) (hD : va_D A (zFlat (zWg T ad hm gs g gl))) (hS : va_S A s.heap H locs) (hl : lv_has ls 4 [(0, .ref b), (1, .ref (ad 0 0)), (2, .ref (hm 0)), (3, .int (nI i))]) (kk : zGo p l e room_1 s m below meth c ls cells slots Q D T A b ad hm) : W p l e room_1 s m #[Value.ref b] below meth c H locs cells slots Q (F0 m 841 ls []) := by
  have hx := C.hx
  have hb := C.hb
  obtain ⟨r, w7, g', e1, e2, hv⟩ := v_small hv (zAt xs i 1) (zAt xs i 2)
  refine lv_aload_n hx hb dL_law_841 rfl (lv_at hl 1 rfl) ?_
  refine zLd 1 C hS hl hi (by decide) rfl dL_law_842 dL_law_843 dL_law_844 dL_law_845 dL_law_846 ?_
  refine zLd 2 C hS hl hi (by decide) rfl dL_law_847 dL_law_848 dL_law_849 dL_law_850 dL_law_851 ?_
  refine zCallGI (zWg T ad hm gs g gl) (zWg T ad hm (zSet gs 7 w7) g gl) [.int (zAt xs i 1), .int (zAt xs i 2)] ⟨hx, hb, C.hml, C.hown, zHt C.hts tv_X9_small⟩ (pX9_small l D T X ad H.size (gs 0) (gs 1) (gs 7) (zAt xs i 1) (zAt xs i 2) r w7 e1) (cwV 2 (zHt C.hts tv_X9_small) gv_X9_small rfl rfl rfl (by decide +kernel) ⟨Nat.le_of_ble_eq_true rfl, Nat.le_of_ble_eq_true rfl⟩) C.hK hP hD hS C.hA C.hX [0, 1, 7] [2, 3, 4, 5, 6, 8, 9, 10, 11, 12] rfl (zFl3 _ _ _ ) (zFl3 _ _ _ ) rfl 0 rfl rfl rfl hl.1 rfl (Nat.le_of_ble_eq_true rfl) dL_law_852 C.hf (fun H locs hP hD hS => ?_)
  refine lv_aload_n hx hb dL_law_855 rfl (lv_at hl 2 rfl) ?_
  refine zLd 1 C hS hl hi (by decide) rfl dL_law_856 dL_law_857 dL_law_858 dL_law_859 dL_law_860 ?_
  refine zLd 2 C hS hl hi (by decide) rfl dL_law_861 dL_law_862 dL_law_863 dL_law_864 dL_law_865 ?_
  refine zCallGI (zWg T ad hm (zSet gs 7 w7) g gl) (zWg T ad hm (zSet gs 7 w7) g' gl) [.int (zAt xs i 1), .int (zAt xs i 2)] ⟨hx, hb, C.hml, C.hown, zHt C.hts tv_X10_small⟩ (pX10_small l D T X hm H.size g gl (zAt xs i 1) (zAt xs i 2) r g' e2) (cwV 2 (zHt C.hts tv_X10_small) gv_X10_small rfl rfl rfl (by decide +kernel) ⟨Nat.le_of_ble_eq_true rfl, Nat.le_of_ble_eq_true rfl⟩) C.hK hP hD hS C.hA C.hX [12] [0, 1, 2, 3, 4, 5, 6, 7, 8, 9, 10, 11] rfl (zFl1 _) (zFl1 _) rfl 0 rfl rfl rfl hl.1 rfl (Nat.le_of_ble_eq_true rfl) dL_law_866 C.hf (fun H locs hP hD hS => ?_)
  exact lv_icmp_eq (tgt := 1646) hx hb dL_law_869 (by decide) (fun _ => kk _ _ _ H locs hv hP hD hS) (fun h9 => absurd rfl h9)
set_option maxHeartbeats 4000000 in
set_option maxRecDepth 20000 in
theorem law_sit (C : zLw p room_1 s m c b L xs D T X A cells slots) (hi : i + 6 ≤ L) (hv : yInv gs g gl) (hP : va_P D vwCl (zFlat (zWg T ad hm gs g gl)) H) (hD : va_D A (zFlat (zWg T ad hm gs g gl))) (hS : va_S A s.heap H locs) (hl : lv_has ls 4 [(0, .ref b), (1, .ref (ad 0 0)), (2, .ref (hm 0)), (3, .int (nI i))]) (kk : zGo p l e room_1 s m below meth c ls cells slots Q D T A b ad hm) : W p l e room_1 s m #[Value.ref b] below meth c H locs cells slots Q (F0 m 874 ls []) := by
  have hx := C.hx
  have hb := C.hb
  obtain ⟨r, w7, g', e1, e2, hv⟩ := v_sit hv (zAt xs i 1) (zAt xs i 2)
  refine lv_aload_n hx hb dL_law_874 rfl (lv_at hl 1 rfl) ?_
  refine zLd 1 C hS hl hi (by decide) rfl dL_law_875 dL_law_876 dL_law_877 dL_law_878 dL_law_879 ?_
  refine zLd 2 C hS hl hi (by decide) rfl dL_law_880 dL_law_881 dL_law_882 dL_law_883 dL_law_884 ?_
  refine zCallGI (zWg T ad hm gs g gl) (zWg T ad hm (zSet gs 7 w7) g gl) [.int (zAt xs i 1), .int (zAt xs i 2)] ⟨hx, hb, C.hml, C.hown, zHt C.hts tv_X9_sit⟩ (pX9_sit l D T X ad H.size (gs 0) (gs 1) (gs 7) (zAt xs i 1) (zAt xs i 2) r w7 e1) (cwV 2 (zHt C.hts tv_X9_sit) gv_X9_sit rfl rfl rfl (by decide +kernel) ⟨Nat.le_of_ble_eq_true rfl, Nat.le_of_ble_eq_true rfl⟩) C.hK hP hD hS C.hA C.hX [0, 1, 7] [2, 3, 4, 5, 6, 8, 9, 10, 11, 12] rfl (zFl3 _ _ _ ) (zFl3 _ _ _ ) rfl 0 rfl rfl rfl hl.1 rfl (Nat.le_of_ble_eq_true rfl) dL_law_885 C.hf (fun H locs hP hD hS => ?_)
  refine lv_aload_n hx hb dL_law_888 rfl (lv_at hl 2 rfl) ?_
  refine zLd 1 C hS hl hi (by decide) rfl dL_law_889 dL_law_890 dL_law_891 dL_law_892 dL_law_893 ?_
  refine zLd 2 C hS hl hi (by decide) rfl dL_law_894 dL_law_895 dL_law_896 dL_law_897 dL_law_898 ?_
  refine zCallGI (zWg T ad hm (zSet gs 7 w7) g gl) (zWg T ad hm (zSet gs 7 w7) g' gl) [.int (zAt xs i 1), .int (zAt xs i 2)] ⟨hx, hb, C.hml, C.hown, zHt C.hts tv_X10_sit⟩ (pX10_sit l D T X hm H.size g gl (zAt xs i 1) (zAt xs i 2) r g' e2) (cwV 2 (zHt C.hts tv_X10_sit) gv_X10_sit rfl rfl rfl (by decide +kernel) ⟨Nat.le_of_ble_eq_true rfl, Nat.le_of_ble_eq_true rfl⟩) C.hK hP hD hS C.hA C.hX [12] [0, 1, 2, 3, 4, 5, 6, 7, 8, 9, 10, 11] rfl (zFl1 _) (zFl1 _) rfl 0 rfl rfl rfl hl.1 rfl (Nat.le_of_ble_eq_true rfl) dL_law_899 C.hf (fun H locs hP hD hS => ?_)
  exact lv_icmp_eq (tgt := 1646) hx hb dL_law_902 (by decide) (fun _ => kk _ _ _ H locs hv hP hD hS) (fun h9 => absurd rfl h9)
set_option maxHeartbeats 4000000 in
set_option maxRecDepth 20000 in
theorem law_early (C : zLw p room_1 s m c b L xs D T X A cells slots) (hi : i + 6 ≤ L) (hv : yInv gs g gl) (hP : va_P D vwCl (zFlat (zWg T ad hm gs g gl)) H) (hD : va_D A (zFlat (zWg T ad hm gs g gl))) (hS : va_S A s.heap H locs) (hl : lv_has ls 4 [(0, .ref b), (1, .ref (ad 0 0)), (2, .ref (hm 0)), (3, .int (nI i))]) (kk : zGo p l e room_1 s m below meth c ls cells slots Q D T A b ad hm) : W p l e room_1 s m #[Value.ref b] below meth c H locs cells slots Q (F0 m 907 ls []) := by
  have hx := C.hx
  have hb := C.hb
  obtain ⟨r, w8, g', e1, e2, hv⟩ := v_early hv (zAt xs i 1) (zAt xs i 2)
  refine lv_aload_n hx hb dL_law_907 rfl (lv_at hl 1 rfl) ?_
  refine zLd 1 C hS hl hi (by decide) rfl dL_law_908 dL_law_909 dL_law_910 dL_law_911 dL_law_912 ?_
  refine zLd 2 C hS hl hi (by decide) rfl dL_law_913 dL_law_914 dL_law_915 dL_law_916 dL_law_917 ?_
  refine zCallGI (zWg T ad hm gs g gl) (zWg T ad hm (zSet gs 8 w8) g gl) [.int (zAt xs i 1), .int (zAt xs i 2)] ⟨hx, hb, C.hml, C.hown, zHt C.hts tv_X9_early⟩ (pX9_early l D T X ad H.size (gs 0) (gs 1) (gs 8) (zAt xs i 1) (zAt xs i 2) r w8 e1) (cwV 2 (zHt C.hts tv_X9_early) gv_X9_early rfl rfl rfl (by decide +kernel) ⟨Nat.le_of_ble_eq_true rfl, Nat.le_of_ble_eq_true rfl⟩) C.hK hP hD hS C.hA C.hX [0, 1, 8] [2, 3, 4, 5, 6, 7, 9, 10, 11, 12] rfl (zFl3 _ _ _ ) (zFl3 _ _ _ ) rfl 0 rfl rfl rfl hl.1 rfl (Nat.le_of_ble_eq_true rfl) dL_law_918 C.hf (fun H locs hP hD hS => ?_)
  refine lv_aload_n hx hb dL_law_921 rfl (lv_at hl 2 rfl) ?_
  refine zLd 1 C hS hl hi (by decide) rfl dL_law_922 dL_law_923 dL_law_924 dL_law_925 dL_law_926 ?_
  refine zLd 2 C hS hl hi (by decide) rfl dL_law_927 dL_law_928 dL_law_929 dL_law_930 dL_law_931 ?_
  refine zCallGI (zWg T ad hm (zSet gs 8 w8) g gl) (zWg T ad hm (zSet gs 8 w8) g' gl) [.int (zAt xs i 1), .int (zAt xs i 2)] ⟨hx, hb, C.hml, C.hown, zHt C.hts tv_X10_early⟩ (pX10_early l D T X hm H.size g gl (zAt xs i 1) (zAt xs i 2) r g' e2) (cwV 2 (zHt C.hts tv_X10_early) gv_X10_early rfl rfl rfl (by decide +kernel) ⟨Nat.le_of_ble_eq_true rfl, Nat.le_of_ble_eq_true rfl⟩) C.hK hP hD hS C.hA C.hX [12] [0, 1, 2, 3, 4, 5, 6, 7, 8, 9, 10, 11] rfl (zFl1 _) (zFl1 _) rfl 0 rfl rfl rfl hl.1 rfl (Nat.le_of_ble_eq_true rfl) dL_law_932 C.hf (fun H locs hP hD hS => ?_)
  exact lv_icmp_eq (tgt := 1646) hx hb dL_law_935 (by decide) (fun _ => kk _ _ _ H locs hv hP hD hS) (fun h9 => absurd rfl h9)
set_option maxHeartbeats 4000000 in
set_option maxRecDepth 20000 in
theorem law_could (C : zLw p room_1 s m c b L xs D T X A cells slots) (hi : i + 6 ≤ L) (hv : yInv gs g gl) (hP : va_P D vwCl (zFlat (zWg T ad hm gs g gl)) H) (hD : va_D A (zFlat (zWg T ad hm gs g gl))) (hS : va_S A s.heap H locs) (hl : lv_has ls 4 [(0, .ref b), (1, .ref (ad 0 0)), (2, .ref (hm 0)), (3, .int (nI i))]) (kk : zGo p l e room_1 s m below meth c ls cells slots Q D T A b ad hm) : W p l e room_1 s m #[Value.ref b] below meth c H locs cells slots Q (F0 m 940 ls []) := by
  have hx := C.hx
  have hb := C.hb
  obtain ⟨r, w8, g', e1, e2, hv⟩ := v_could hv (zAt xs i 1) (zAt xs i 2)
  refine lv_aload_n hx hb dL_law_940 rfl (lv_at hl 1 rfl) ?_
  refine zLd 1 C hS hl hi (by decide) rfl dL_law_941 dL_law_942 dL_law_943 dL_law_944 dL_law_945 ?_
  refine zLd 2 C hS hl hi (by decide) rfl dL_law_946 dL_law_947 dL_law_948 dL_law_949 dL_law_950 ?_
  refine zCallGI (zWg T ad hm gs g gl) (zWg T ad hm (zSet gs 8 w8) g gl) [.int (zAt xs i 1), .int (zAt xs i 2)] ⟨hx, hb, C.hml, C.hown, zHt C.hts tv_X9_could⟩ (pX9_could l D T X ad H.size (gs 0) (gs 1) (gs 8) (zAt xs i 1) (zAt xs i 2) r w8 e1) (cwV 2 (zHt C.hts tv_X9_could) gv_X9_could rfl rfl rfl (by decide +kernel) ⟨Nat.le_of_ble_eq_true rfl, Nat.le_of_ble_eq_true rfl⟩) C.hK hP hD hS C.hA C.hX [0, 1, 8] [2, 3, 4, 5, 6, 7, 9, 10, 11, 12] rfl (zFl3 _ _ _ ) (zFl3 _ _ _ ) rfl 0 rfl rfl rfl hl.1 rfl (Nat.le_of_ble_eq_true rfl) dL_law_951 C.hf (fun H locs hP hD hS => ?_)
  refine lv_aload_n hx hb dL_law_954 rfl (lv_at hl 2 rfl) ?_
  refine zLd 1 C hS hl hi (by decide) rfl dL_law_955 dL_law_956 dL_law_957 dL_law_958 dL_law_959 ?_
  refine zLd 2 C hS hl hi (by decide) rfl dL_law_960 dL_law_961 dL_law_962 dL_law_963 dL_law_964 ?_
  refine zCallGI (zWg T ad hm (zSet gs 8 w8) g gl) (zWg T ad hm (zSet gs 8 w8) g' gl) [.int (zAt xs i 1), .int (zAt xs i 2)] ⟨hx, hb, C.hml, C.hown, zHt C.hts tv_X10_could⟩ (pX10_could l D T X hm H.size g gl (zAt xs i 1) (zAt xs i 2) r g' e2) (cwV 2 (zHt C.hts tv_X10_could) gv_X10_could rfl rfl rfl (by decide +kernel) ⟨Nat.le_of_ble_eq_true rfl, Nat.le_of_ble_eq_true rfl⟩) C.hK hP hD hS C.hA C.hX [12] [0, 1, 2, 3, 4, 5, 6, 7, 8, 9, 10, 11] rfl (zFl1 _) (zFl1 _) rfl 0 rfl rfl rfl hl.1 rfl (Nat.le_of_ble_eq_true rfl) dL_law_965 C.hf (fun H locs hP hD hS => ?_)
  exact lv_icmp_eq (tgt := 1646) hx hb dL_law_968 (by decide) (fun _ => kk _ _ _ H locs hv hP hD hS) (fun h9 => absurd rfl h9)
end LW
