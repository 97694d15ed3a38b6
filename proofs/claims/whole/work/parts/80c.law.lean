section LW
variable {p : Program} {l : Launch} {e : Env} {s : State} {m : MethodId} {below : List Frame} {meth : Method} {c : Code} {H : Heap} {locs : List Loc} {cells slots : Nat} {Q : State → Prop} {ls : Array Slot} {D : va_G} {T : Nat → ClassId} {X : zFP} {A : Nat → Prop} {b L : Nat} {xs : Nat → Int32} {i : Nat} {ad : Nat → Nat → Nat} {hm : Nat → Nat} {gs : Nat → zM} {g : zM} {gl : zL}
set_option maxHeartbeats 4000000 in
set_option maxRecDepth 20000 in
theorem law_seed (C : zLw p room_1 s m c b L xs D T X A cells slots) (hi : i + 6 ≤ L) (hv : yInv gs g gl) (hP : va_P D vwCl (zFlat (zWg T ad hm gs g gl)) H) (hD : va_D A (zFlat (zWg T ad hm gs g gl))) (hS : va_S A s.heap H locs) (hl : lv_has ls 4 [(0, .ref b), (1, .ref (ad 0 0)), (2, .ref (hm 0)), (3, .int (nI i))]) (kk : zGo p l e room_1 s m below meth c ls cells slots Q D T A b ad hm) : W p l e room_1 s m #[Value.ref b] below meth c H locs cells slots Q (F0 m 973 ls []) := by
  have hx := C.hx
  have hb := C.hb
  obtain ⟨r, w1, g', e1, e2, hv⟩ := v_seed hv (zAt xs i 1)
  refine lv_aload_n hx hb dL_law_973 rfl (lv_at hl 1 rfl) ?_
  refine zLd 1 C hS hl hi (by decide) rfl dL_law_974 dL_law_975 dL_law_976 dL_law_977 dL_law_978 ?_
  refine zCallGI (zWg T ad hm gs g gl) (zWg T ad hm (zSet gs 1 w1) g gl) [.int (zAt xs i 1)] ⟨hx, hb, C.hml, C.hown, zHt C.hts tv_X9_seed⟩ (pX9_seed l D T X ad H.size (gs 0) (gs 1) (zAt xs i 1) r w1 e1) (cwV 1 (zHt C.hts tv_X9_seed) gv_X9_seed rfl rfl rfl (by decide +kernel) ⟨Nat.le_of_ble_eq_true rfl, Nat.le_of_ble_eq_true rfl⟩) C.hK hP hD hS C.hA C.hX [0, 1] [2, 3, 4, 5, 6, 7, 8, 9, 10, 11, 12] rfl (zFl2 _ _ ) (zFl2 _ _ ) rfl 0 rfl rfl rfl hl.1 rfl (Nat.le_of_ble_eq_true rfl) dL_law_979 C.hf (fun H locs hP hD hS => ?_)
  refine lv_aload_n hx hb dL_law_982 rfl (lv_at hl 2 rfl) ?_
  refine zLd 1 C hS hl hi (by decide) rfl dL_law_983 dL_law_984 dL_law_985 dL_law_986 dL_law_987 ?_
  refine zCallGI (zWg T ad hm (zSet gs 1 w1) g gl) (zWg T ad hm (zSet gs 1 w1) g' gl) [.int (zAt xs i 1)] ⟨hx, hb, C.hml, C.hown, zHt C.hts tv_X10_seed⟩ (pX10_seed l D T X hm H.size g gl (zAt xs i 1) r g' e2) (cwV 1 (zHt C.hts tv_X10_seed) gv_X10_seed rfl rfl rfl (by decide +kernel) ⟨Nat.le_of_ble_eq_true rfl, Nat.le_of_ble_eq_true rfl⟩) C.hK hP hD hS C.hA C.hX [12] [0, 1, 2, 3, 4, 5, 6, 7, 8, 9, 10, 11] rfl (zFl1 _) (zFl1 _) rfl 0 rfl rfl rfl hl.1 rfl (Nat.le_of_ble_eq_true rfl) dL_law_988 C.hf (fun H locs hP hD hS => ?_)
  exact lv_icmp_eq (tgt := 1646) hx hb dL_law_991 (by decide) (fun _ => kk _ _ _ H locs hv hP hD hS) (fun h9 => absurd rfl h9)
set_option maxHeartbeats 4000000 in
set_option maxRecDepth 20000 in
theorem law_run (C : zLw p room_1 s m c b L xs D T X A cells slots) (hi : i + 6 ≤ L) (hv : yInv gs g gl) (hP : va_P D vwCl (zFlat (zWg T ad hm gs g gl)) H) (hD : va_D A (zFlat (zWg T ad hm gs g gl))) (hS : va_S A s.heap H locs) (hl : lv_has ls 4 [(0, .ref b), (1, .ref (ad 0 0)), (2, .ref (hm 0)), (3, .int (nI i))]) (kk : zGo p l e room_1 s m below meth c ls cells slots Q D T A b ad hm) : W p l e room_1 s m #[Value.ref b] below meth c H locs cells slots Q (F0 m 996 ls []) := by
  have hx := C.hx
  have hb := C.hb
  obtain ⟨r, w1, g', e1, e2, hv⟩ := v_run hv (zAt xs i 1) (zAt xs i 2)
  refine lv_aload_n hx hb dL_law_996 rfl (lv_at hl 1 rfl) ?_
  refine zLd 1 C hS hl hi (by decide) rfl dL_law_997 dL_law_998 dL_law_999 dL_law_1000 dL_law_1001 ?_
  refine zLd 2 C hS hl hi (by decide) rfl dL_law_1002 dL_law_1003 dL_law_1004 dL_law_1005 dL_law_1006 ?_
  refine zCallGI (zWg T ad hm gs g gl) (zWg T ad hm (zSet gs 1 w1) g gl) [.int (zAt xs i 1), .int (zAt xs i 2)] ⟨hx, hb, C.hml, C.hown, zHt C.hts tv_X9_run⟩ (pX9_run l D T X ad H.size (gs 0) (gs 1) (gs 8) (zAt xs i 1) (zAt xs i 2) r w1 e1) (cwV 2 (zHt C.hts tv_X9_run) gv_X9_run rfl rfl rfl (by decide +kernel) ⟨Nat.le_of_ble_eq_true rfl, Nat.le_of_ble_eq_true rfl⟩) C.hK hP hD hS C.hA C.hX [0, 1, 8] [2, 3, 4, 5, 6, 7, 9, 10, 11, 12] rfl (zFl3 _ _ _ ) (zFl3 _ _ _ ) rfl 0 rfl rfl rfl hl.1 rfl (Nat.le_of_ble_eq_true rfl) dL_law_1007 C.hf (fun H locs hP hD hS => ?_)
  refine lv_aload_n hx hb dL_law_1010 rfl (lv_at hl 2 rfl) ?_
  refine zLd 1 C hS hl hi (by decide) rfl dL_law_1011 dL_law_1012 dL_law_1013 dL_law_1014 dL_law_1015 ?_
  refine zLd 2 C hS hl hi (by decide) rfl dL_law_1016 dL_law_1017 dL_law_1018 dL_law_1019 dL_law_1020 ?_
  refine zCallGI (zWg T ad hm (zSet gs 1 w1) g gl) (zWg T ad hm (zSet gs 1 w1) g' gl) [.int (zAt xs i 1), .int (zAt xs i 2)] ⟨hx, hb, C.hml, C.hown, zHt C.hts tv_X10_run⟩ (pX10_run l D T X hm H.size g gl (zAt xs i 1) (zAt xs i 2) r g' e2) (cwV 2 (zHt C.hts tv_X10_run) gv_X10_run rfl rfl rfl (by decide +kernel) ⟨Nat.le_of_ble_eq_true rfl, Nat.le_of_ble_eq_true rfl⟩) C.hK hP hD hS C.hA C.hX [12] [0, 1, 2, 3, 4, 5, 6, 7, 8, 9, 10, 11] rfl (zFl1 _) (zFl1 _) rfl 0 rfl rfl rfl hl.1 rfl (Nat.le_of_ble_eq_true rfl) dL_law_1021 C.hf (fun H locs hP hD hS => ?_)
  exact lv_icmp_eq (tgt := 1646) hx hb dL_law_1024 (by decide) (fun _ => kk _ _ _ H locs hv hP hD hS) (fun h9 => absurd rfl h9)
set_option maxHeartbeats 4000000 in
set_option maxRecDepth 20000 in
theorem law_guards (C : zLw p room_1 s m c b L xs D T X A cells slots) (hi : i + 6 ≤ L) (hv : yInv gs g gl) (hP : va_P D vwCl (zFlat (zWg T ad hm gs g gl)) H) (hD : va_D A (zFlat (zWg T ad hm gs g gl))) (hS : va_S A s.heap H locs) (hl : lv_has ls 4 [(0, .ref b), (1, .ref (ad 0 0)), (2, .ref (hm 0)), (3, .int (nI i))]) (kk : zGo p l e room_1 s m below meth c ls cells slots Q D T A b ad hm) : W p l e room_1 s m #[Value.ref b] below meth c H locs cells slots Q (F0 m 1029 ls []) := by
  have hx := C.hx
  have hb := C.hb
  obtain ⟨r, w5, g', e1, e2, hv⟩ := v_guards hv (zAt xs i 1) (zAt xs i 2)
  refine lv_aload_n hx hb dL_law_1029 rfl (lv_at hl 1 rfl) ?_
  refine zLd 1 C hS hl hi (by decide) rfl dL_law_1030 dL_law_1031 dL_law_1032 dL_law_1033 dL_law_1034 ?_
  refine zLd 2 C hS hl hi (by decide) rfl dL_law_1035 dL_law_1036 dL_law_1037 dL_law_1038 dL_law_1039 ?_
  refine zCallGI (zWg T ad hm gs g gl) (zWg T ad hm (zSet gs 5 w5) g gl) [.int (zAt xs i 1), .int (zAt xs i 2)] ⟨hx, hb, C.hml, C.hown, zHt C.hts tv_X9_guards⟩ (pX9_guards l D T X ad H.size (gs 0) (gs 1) (gs 5) (zAt xs i 1) (zAt xs i 2) r w5 e1) (cwV 2 (zHt C.hts tv_X9_guards) gv_X9_guards rfl rfl rfl (by decide +kernel) ⟨Nat.le_of_ble_eq_true rfl, Nat.le_of_ble_eq_true rfl⟩) C.hK hP hD hS C.hA C.hX [0, 1, 5] [2, 3, 4, 6, 7, 8, 9, 10, 11, 12] rfl (zFl3 _ _ _ ) (zFl3 _ _ _ ) rfl 0 rfl rfl rfl hl.1 rfl (Nat.le_of_ble_eq_true rfl) dL_law_1040 C.hf (fun H locs hP hD hS => ?_)
  refine lv_aload_n hx hb dL_law_1043 rfl (lv_at hl 2 rfl) ?_
  refine zLd 1 C hS hl hi (by decide) rfl dL_law_1044 dL_law_1045 dL_law_1046 dL_law_1047 dL_law_1048 ?_
  refine zLd 2 C hS hl hi (by decide) rfl dL_law_1049 dL_law_1050 dL_law_1051 dL_law_1052 dL_law_1053 ?_
  refine zCallGI (zWg T ad hm (zSet gs 5 w5) g gl) (zWg T ad hm (zSet gs 5 w5) g' gl) [.int (zAt xs i 1), .int (zAt xs i 2)] ⟨hx, hb, C.hml, C.hown, zHt C.hts tv_X10_guards⟩ (pX10_guards l D T X hm H.size g gl (zAt xs i 1) (zAt xs i 2) r g' e2) (cwV 2 (zHt C.hts tv_X10_guards) gv_X10_guards rfl rfl rfl (by decide +kernel) ⟨Nat.le_of_ble_eq_true rfl, Nat.le_of_ble_eq_true rfl⟩) C.hK hP hD hS C.hA C.hX [12] [0, 1, 2, 3, 4, 5, 6, 7, 8, 9, 10, 11] rfl (zFl1 _) (zFl1 _) rfl 0 rfl rfl rfl hl.1 rfl (Nat.le_of_ble_eq_true rfl) dL_law_1054 C.hf (fun H locs hP hD hS => ?_)
  exact lv_icmp_eq (tgt := 1646) hx hb dL_law_1057 (by decide) (fun _ => kk _ _ _ H locs hv hP hD hS) (fun h9 => absurd rfl h9)
set_option maxHeartbeats 4000000 in
set_option maxRecDepth 20000 in
theorem law_prove (C : zLw p room_1 s m c b L xs D T X A cells slots) (hi : i + 6 ≤ L) (hv : yInv gs g gl) (hP : va_P D vwCl (zFlat (zWg T ad hm gs g gl)) H) (hD : va_D A (zFlat (zWg T ad hm gs g gl))) (hS : va_S A s.heap H locs) (hl : lv_has ls 4 [(0, .ref b), (1, .ref (ad 0 0)), (2, .ref (hm 0)), (3, .int (nI i))]) (kk : zGo p l e room_1 s m below meth c ls cells slots Q D T A b ad hm) : W p l e room_1 s m #[Value.ref b] below meth c H locs cells slots Q (F0 m 1062 ls []) := by
  have hx := C.hx
  have hb := C.hb
  obtain ⟨r, w8, w9, g', e1, e2, hv⟩ := v_prove hv (zAt xs i 1) (zAt xs i 2)
  refine lv_aload_n hx hb dL_law_1062 rfl (lv_at hl 1 rfl) ?_
  refine zLd 1 C hS hl hi (by decide) rfl dL_law_1063 dL_law_1064 dL_law_1065 dL_law_1066 dL_law_1067 ?_
  refine zLd 2 C hS hl hi (by decide) rfl dL_law_1068 dL_law_1069 dL_law_1070 dL_law_1071 dL_law_1072 ?_
  refine zCallGI (zWg T ad hm gs g gl) (zWg T ad hm (zSet (zSet gs 8 w8) 9 w9) g gl) [.int (zAt xs i 1), .int (zAt xs i 2)] ⟨hx, hb, C.hml, C.hown, zHt C.hts tv_X9_prove⟩ (pX9_prove l D T X ad H.size (gs 0) (gs 1) (gs 8) (gs 9) (zAt xs i 1) (zAt xs i 2) r w8 w9 e1) (cwV 2 (zHt C.hts tv_X9_prove) gv_X9_prove rfl rfl rfl (by decide +kernel) ⟨Nat.le_of_ble_eq_true rfl, Nat.le_of_ble_eq_true rfl⟩) C.hK hP hD hS C.hA C.hX [0, 1, 8, 9] [2, 3, 4, 5, 6, 7, 10, 11, 12] rfl (zFl4 _ _ _ _ ) (zFl4 _ _ _ _ ) rfl 0 rfl rfl rfl hl.1 rfl (Nat.le_of_ble_eq_true rfl) dL_law_1073 C.hf (fun H locs hP hD hS => ?_)
  refine lv_aload_n hx hb dL_law_1076 rfl (lv_at hl 2 rfl) ?_
  refine zLd 1 C hS hl hi (by decide) rfl dL_law_1077 dL_law_1078 dL_law_1079 dL_law_1080 dL_law_1081 ?_
  refine zLd 2 C hS hl hi (by decide) rfl dL_law_1082 dL_law_1083 dL_law_1084 dL_law_1085 dL_law_1086 ?_
  refine zCallGI (zWg T ad hm (zSet (zSet gs 8 w8) 9 w9) g gl) (zWg T ad hm (zSet (zSet gs 8 w8) 9 w9) g' gl) [.int (zAt xs i 1), .int (zAt xs i 2)] ⟨hx, hb, C.hml, C.hown, zHt C.hts tv_X10_prove⟩ (pX10_prove l D T X hm H.size g gl (zAt xs i 1) (zAt xs i 2) r g' e2) (cwV 2 (zHt C.hts tv_X10_prove) gv_X10_prove rfl rfl rfl (by decide +kernel) ⟨Nat.le_of_ble_eq_true rfl, Nat.le_of_ble_eq_true rfl⟩) C.hK hP hD hS C.hA C.hX [12] [0, 1, 2, 3, 4, 5, 6, 7, 8, 9, 10, 11] rfl (zFl1 _) (zFl1 _) rfl 0 rfl rfl rfl hl.1 rfl (Nat.le_of_ble_eq_true rfl) dL_law_1087 C.hf (fun H locs hP hD hS => ?_)
  exact lv_icmp_eq (tgt := 1646) hx hb dL_law_1090 (by decide) (fun _ => kk _ _ _ H locs hv hP hD hS) (fun h9 => absurd rfl h9)
set_option maxHeartbeats 4000000 in
set_option maxRecDepth 20000 in
theorem law_row (C : zLw p room_1 s m c b L xs D T X A cells slots) (hi : i + 6 ≤ L) (hv : yInv gs g gl) (hP : va_P D vwCl (zFlat (zWg T ad hm gs g gl)) H) (hD : va_D A (zFlat (zWg T ad hm gs g gl))) (hS : va_S A s.heap H locs) (hl : lv_has ls 4 [(0, .ref b), (1, .ref (ad 0 0)), (2, .ref (hm 0)), (3, .int (nI i))]) (kk : zGo p l e room_1 s m below meth c ls cells slots Q D T A b ad hm) : W p l e room_1 s m #[Value.ref b] below meth c H locs cells slots Q (F0 m 1095 ls []) := by
  have hx := C.hx
  have hb := C.hb
  obtain ⟨r, e1, e2, hv⟩ := v_row hv (zAt xs i 1) (zAt xs i 2)
  refine lv_aload_n hx hb dL_law_1095 rfl (lv_at hl 1 rfl) ?_
  refine zLd 1 C hS hl hi (by decide) rfl dL_law_1096 dL_law_1097 dL_law_1098 dL_law_1099 dL_law_1100 ?_
  refine zLd 2 C hS hl hi (by decide) rfl dL_law_1101 dL_law_1102 dL_law_1103 dL_law_1104 dL_law_1105 ?_
  refine zCallGI (zWg T ad hm gs g gl) (zWg T ad hm gs g gl) [.int (zAt xs i 1), .int (zAt xs i 2)] ⟨hx, hb, C.hml, C.hown, zHt C.hts tv_X9_row⟩ (pX9_row l D T X ad H.size (gs 0) (gs 9) (zAt xs i 1) (zAt xs i 2) r  e1) (cwV 2 (zHt C.hts tv_X9_row) gv_X9_row rfl rfl rfl (by decide +kernel) ⟨Nat.le_of_ble_eq_true rfl, Nat.le_of_ble_eq_true rfl⟩) C.hK hP hD hS C.hA C.hX [0, 9] [1, 2, 3, 4, 5, 6, 7, 8, 10, 11, 12] rfl (zFl2 _ _ ) (zFl2 _ _ ) rfl 0 rfl rfl rfl hl.1 rfl (Nat.le_of_ble_eq_true rfl) dL_law_1106 C.hf (fun H locs hP hD hS => ?_)
  refine lv_aload_n hx hb dL_law_1109 rfl (lv_at hl 2 rfl) ?_
  refine zLd 1 C hS hl hi (by decide) rfl dL_law_1110 dL_law_1111 dL_law_1112 dL_law_1113 dL_law_1114 ?_
  refine zLd 2 C hS hl hi (by decide) rfl dL_law_1115 dL_law_1116 dL_law_1117 dL_law_1118 dL_law_1119 ?_
  refine zCallGI (zWg T ad hm gs g gl) (zWg T ad hm gs g gl) [.int (zAt xs i 1), .int (zAt xs i 2)] ⟨hx, hb, C.hml, C.hown, zHt C.hts tv_X10_row⟩ (pX10_row l D T X hm H.size g gl (zAt xs i 1) (zAt xs i 2) r  e2) (cwV 2 (zHt C.hts tv_X10_row) gv_X10_row rfl rfl rfl (by decide +kernel) ⟨Nat.le_of_ble_eq_true rfl, Nat.le_of_ble_eq_true rfl⟩) C.hK hP hD hS C.hA C.hX [12] [0, 1, 2, 3, 4, 5, 6, 7, 8, 9, 10, 11] rfl (zFl1 _) (zFl1 _) rfl 0 rfl rfl rfl hl.1 rfl (Nat.le_of_ble_eq_true rfl) dL_law_1120 C.hf (fun H locs hP hD hS => ?_)
  exact lv_icmp_eq (tgt := 1646) hx hb dL_law_1123 (by decide) (fun _ => kk _ _ _ H locs hv hP hD hS) (fun h9 => absurd rfl h9)
set_option maxHeartbeats 4000000 in
set_option maxRecDepth 20000 in
theorem law_alterRow (C : zLw p room_1 s m c b L xs D T X A cells slots) (hi : i + 6 ≤ L) (hv : yInv gs g gl) (hP : va_P D vwCl (zFlat (zWg T ad hm gs g gl)) H) (hD : va_D A (zFlat (zWg T ad hm gs g gl))) (hS : va_S A s.heap H locs) (hl : lv_has ls 4 [(0, .ref b), (1, .ref (ad 0 0)), (2, .ref (hm 0)), (3, .int (nI i))]) (kk : zGo p l e room_1 s m below meth c ls cells slots Q D T A b ad hm) : W p l e room_1 s m #[Value.ref b] below meth c H locs cells slots Q (F0 m 1128 ls []) := by
  have hx := C.hx
  have hb := C.hb
  obtain ⟨r, w9, g', e1, e2, hv⟩ := v_alterRow hv (zAt xs i 1) (zAt xs i 2) (zAt xs i 3)
  refine lv_aload_n hx hb dL_law_1128 rfl (lv_at hl 1 rfl) ?_
  refine zLd 1 C hS hl hi (by decide) rfl dL_law_1129 dL_law_1130 dL_law_1131 dL_law_1132 dL_law_1133 ?_
  refine zLd 2 C hS hl hi (by decide) rfl dL_law_1134 dL_law_1135 dL_law_1136 dL_law_1137 dL_law_1138 ?_
  refine zLd 3 C hS hl hi (by decide) rfl dL_law_1139 dL_law_1140 dL_law_1141 dL_law_1142 dL_law_1143 ?_
  refine zCallGI (zWg T ad hm gs g gl) (zWg T ad hm (zSet gs 9 w9) g gl) [.int (zAt xs i 1), .int (zAt xs i 2), .int (zAt xs i 3)] ⟨hx, hb, C.hml, C.hown, zHt C.hts tv_X9_alterRow⟩ (pX9_alterRow l D T X ad H.size (gs 0) (gs 9) (zAt xs i 1) (zAt xs i 2) (zAt xs i 3) r w9 e1) (cwV 3 (zHt C.hts tv_X9_alterRow) gv_X9_alterRow rfl rfl rfl (by decide +kernel) ⟨Nat.le_of_ble_eq_true rfl, Nat.le_of_ble_eq_true rfl⟩) C.hK hP hD hS C.hA C.hX [0, 9] [1, 2, 3, 4, 5, 6, 7, 8, 10, 11, 12] rfl (zFl2 _ _ ) (zFl2 _ _ ) rfl 0 rfl rfl rfl hl.1 rfl (Nat.le_of_ble_eq_true rfl) dL_law_1144 C.hf (fun H locs hP hD hS => ?_)
  refine lv_aload_n hx hb dL_law_1147 rfl (lv_at hl 2 rfl) ?_
  refine zLd 1 C hS hl hi (by decide) rfl dL_law_1148 dL_law_1149 dL_law_1150 dL_law_1151 dL_law_1152 ?_
  refine zLd 2 C hS hl hi (by decide) rfl dL_law_1153 dL_law_1154 dL_law_1155 dL_law_1156 dL_law_1157 ?_
  refine zLd 3 C hS hl hi (by decide) rfl dL_law_1158 dL_law_1159 dL_law_1160 dL_law_1161 dL_law_1162 ?_
  refine zCallGI (zWg T ad hm (zSet gs 9 w9) g gl) (zWg T ad hm (zSet gs 9 w9) g' gl) [.int (zAt xs i 1), .int (zAt xs i 2), .int (zAt xs i 3)] ⟨hx, hb, C.hml, C.hown, zHt C.hts tv_X10_alterRow⟩ (pX10_alterRow l D T X hm H.size g gl (zAt xs i 1) (zAt xs i 2) (zAt xs i 3) r g' e2) (cwV 3 (zHt C.hts tv_X10_alterRow) gv_X10_alterRow rfl rfl rfl (by decide +kernel) ⟨Nat.le_of_ble_eq_true rfl, Nat.le_of_ble_eq_true rfl⟩) C.hK hP hD hS C.hA C.hX [12] [0, 1, 2, 3, 4, 5, 6, 7, 8, 9, 10, 11] rfl (zFl1 _) (zFl1 _) rfl 0 rfl rfl rfl hl.1 rfl (Nat.le_of_ble_eq_true rfl) dL_law_1163 C.hf (fun H locs hP hD hS => ?_)
  exact lv_icmp_eq (tgt := 1646) hx hb dL_law_1166 (by decide) (fun _ => kk _ _ _ H locs hv hP hD hS) (fun h9 => absurd rfl h9)
set_option maxHeartbeats 4000000 in
set_option maxRecDepth 20000 in
theorem law_judge (C : zLw p room_1 s m c b L xs D T X A cells slots) (hi : i + 6 ≤ L) (hv : yInv gs g gl) (hP : va_P D vwCl (zFlat (zWg T ad hm gs g gl)) H) (hD : va_D A (zFlat (zWg T ad hm gs g gl))) (hS : va_S A s.heap H locs) (hl : lv_has ls 4 [(0, .ref b), (1, .ref (ad 0 0)), (2, .ref (hm 0)), (3, .int (nI i))]) (kk : zGo p l e room_1 s m below meth c ls cells slots Q D T A b ad hm) : W p l e room_1 s m #[Value.ref b] below meth c H locs cells slots Q (F0 m 1171 ls []) := by
  have hx := C.hx
  have hb := C.hb
  obtain ⟨r, e1, e2, hv⟩ := v_judge hv (zAt xs i 1) (zAt xs i 2)
  refine lv_aload_n hx hb dL_law_1171 rfl (lv_at hl 1 rfl) ?_
  refine zLd 1 C hS hl hi (by decide) rfl dL_law_1172 dL_law_1173 dL_law_1174 dL_law_1175 dL_law_1176 ?_
  refine zLd 2 C hS hl hi (by decide) rfl dL_law_1177 dL_law_1178 dL_law_1179 dL_law_1180 dL_law_1181 ?_
  refine zCallGI (zWg T ad hm gs g gl) (zWg T ad hm gs g gl) [.int (zAt xs i 1), .int (zAt xs i 2)] ⟨hx, hb, C.hml, C.hown, zHt C.hts tv_X9_judge⟩ (pX9_judge l D T X ad H.size (gs 0) (gs 1) (gs 9) (zAt xs i 1) (zAt xs i 2) r  e1) (cwV 2 (zHt C.hts tv_X9_judge) gv_X9_judge rfl rfl rfl (by decide +kernel) ⟨Nat.le_of_ble_eq_true rfl, Nat.le_of_ble_eq_true rfl⟩) C.hK hP hD hS C.hA C.hX [0, 1, 9] [2, 3, 4, 5, 6, 7, 8, 10, 11, 12] rfl (zFl3 _ _ _ ) (zFl3 _ _ _ ) rfl 0 rfl rfl rfl hl.1 rfl (Nat.le_of_ble_eq_true rfl) dL_law_1182 C.hf (fun H locs hP hD hS => ?_)
  refine lv_aload_n hx hb dL_law_1185 rfl (lv_at hl 2 rfl) ?_
  refine zLd 1 C hS hl hi (by decide) rfl dL_law_1186 dL_law_1187 dL_law_1188 dL_law_1189 dL_law_1190 ?_
  refine zLd 2 C hS hl hi (by decide) rfl dL_law_1191 dL_law_1192 dL_law_1193 dL_law_1194 dL_law_1195 ?_
  refine zCallGI (zWg T ad hm gs g gl) (zWg T ad hm gs g gl) [.int (zAt xs i 1), .int (zAt xs i 2)] ⟨hx, hb, C.hml, C.hown, zHt C.hts tv_X10_judge⟩ (pX10_judge l D T X hm H.size g gl (zAt xs i 1) (zAt xs i 2) r  e2) (cwV 2 (zHt C.hts tv_X10_judge) gv_X10_judge rfl rfl rfl (by decide +kernel) ⟨Nat.le_of_ble_eq_true rfl, Nat.le_of_ble_eq_true rfl⟩) C.hK hP hD hS C.hA C.hX [12] [0, 1, 2, 3, 4, 5, 6, 7, 8, 9, 10, 11] rfl (zFl1 _) (zFl1 _) rfl 0 rfl rfl rfl hl.1 rfl (Nat.le_of_ble_eq_true rfl) dL_law_1196 C.hf (fun H locs hP hD hS => ?_)
  exact lv_icmp_eq (tgt := 1646) hx hb dL_law_1199 (by decide) (fun _ => kk _ _ _ H locs hv hP hD hS) (fun h9 => absurd rfl h9)
set_option maxHeartbeats 4000000 in
set_option maxRecDepth 20000 in
theorem law_chair (C : zLw p room_1 s m c b L xs D T X A cells slots) (hi : i + 6 ≤ L) (hv : yInv gs g gl) (hP : va_P D vwCl (zFlat (zWg T ad hm gs g gl)) H) (hD : va_D A (zFlat (zWg T ad hm gs g gl))) (hS : va_S A s.heap H locs) (hl : lv_has ls 4 [(0, .ref b), (1, .ref (ad 0 0)), (2, .ref (hm 0)), (3, .int (nI i))]) (kk : zGo p l e room_1 s m below meth c ls cells slots Q D T A b ad hm) : W p l e room_1 s m #[Value.ref b] below meth c H locs cells slots Q (F0 m 1204 ls []) := by
  have hx := C.hx
  have hb := C.hb
  obtain ⟨r, w5, g', e1, e2, hv⟩ := v_chair hv (zAt xs i 1)
  refine lv_aload_n hx hb dL_law_1204 rfl (lv_at hl 1 rfl) ?_
  refine zLd 1 C hS hl hi (by decide) rfl dL_law_1205 dL_law_1206 dL_law_1207 dL_law_1208 dL_law_1209 ?_
  refine zCallGI (zWg T ad hm gs g gl) (zWg T ad hm (zSet gs 5 w5) g gl) [.int (zAt xs i 1)] ⟨hx, hb, C.hml, C.hown, zHt C.hts tv_X9_chair⟩ (pX9_chair l D T X ad H.size (gs 0) (gs 1) (gs 5) (zAt xs i 1) r w5 e1) (cwV 1 (zHt C.hts tv_X9_chair) gv_X9_chair rfl rfl rfl (by decide +kernel) ⟨Nat.le_of_ble_eq_true rfl, Nat.le_of_ble_eq_true rfl⟩) C.hK hP hD hS C.hA C.hX [0, 1, 5] [2, 3, 4, 6, 7, 8, 9, 10, 11, 12] rfl (zFl3 _ _ _ ) (zFl3 _ _ _ ) rfl 0 rfl rfl rfl hl.1 rfl (Nat.le_of_ble_eq_true rfl) dL_law_1210 C.hf (fun H locs hP hD hS => ?_)
  refine lv_aload_n hx hb dL_law_1213 rfl (lv_at hl 2 rfl) ?_
  refine zLd 1 C hS hl hi (by decide) rfl dL_law_1214 dL_law_1215 dL_law_1216 dL_law_1217 dL_law_1218 ?_
  refine zCallGI (zWg T ad hm (zSet gs 5 w5) g gl) (zWg T ad hm (zSet gs 5 w5) g' gl) [.int (zAt xs i 1)] ⟨hx, hb, C.hml, C.hown, zHt C.hts tv_X10_chair⟩ (pX10_chair l D T X hm H.size g gl (zAt xs i 1) r g' e2) (cwV 1 (zHt C.hts tv_X10_chair) gv_X10_chair rfl rfl rfl (by decide +kernel) ⟨Nat.le_of_ble_eq_true rfl, Nat.le_of_ble_eq_true rfl⟩) C.hK hP hD hS C.hA C.hX [12] [0, 1, 2, 3, 4, 5, 6, 7, 8, 9, 10, 11] rfl (zFl1 _) (zFl1 _) rfl 0 rfl rfl rfl hl.1 rfl (Nat.le_of_ble_eq_true rfl) dL_law_1219 C.hf (fun H locs hP hD hS => ?_)
  exact lv_icmp_eq (tgt := 1646) hx hb dL_law_1222 (by decide) (fun _ => kk _ _ _ H locs hv hP hD hS) (fun h9 => absurd rfl h9)
set_option maxHeartbeats 4000000 in
set_option maxRecDepth 20000 in
theorem law_meet (C : zLw p room_1 s m c b L xs D T X A cells slots) (hi : i + 6 ≤ L) (hv : yInv gs g gl) (hP : va_P D vwCl (zFlat (zWg T ad hm gs g gl)) H) (hD : va_D A (zFlat (zWg T ad hm gs g gl))) (hS : va_S A s.heap H locs) (hl : lv_has ls 4 [(0, .ref b), (1, .ref (ad 0 0)), (2, .ref (hm 0)), (3, .int (nI i))]) (kk : zGo p l e room_1 s m below meth c ls cells slots Q D T A b ad hm) : W p l e room_1 s m #[Value.ref b] below meth c H locs cells slots Q (F0 m 1227 ls []) := by
  have hx := C.hx
  have hb := C.hb
  obtain ⟨r, w5, e1, e2, hv⟩ := v_meet hv (zAt xs i 1) (zAt xs i 2)
  refine lv_aload_n hx hb dL_law_1227 rfl (lv_at hl 1 rfl) ?_
  refine zLd 1 C hS hl hi (by decide) rfl dL_law_1228 dL_law_1229 dL_law_1230 dL_law_1231 dL_law_1232 ?_
  refine zLd 2 C hS hl hi (by decide) rfl dL_law_1233 dL_law_1234 dL_law_1235 dL_law_1236 dL_law_1237 ?_
  refine zCallGI (zWg T ad hm gs g gl) (zWg T ad hm (zSet gs 5 w5) g gl) [.int (zAt xs i 1), .int (zAt xs i 2)] ⟨hx, hb, C.hml, C.hown, zHt C.hts tv_X9_meet⟩ (pX9_meet l D T X ad H.size (gs 0) (gs 1) (gs 5) (zAt xs i 1) (zAt xs i 2) r w5 e1) (cwV 2 (zHt C.hts tv_X9_meet) gv_X9_meet rfl rfl rfl (by decide +kernel) ⟨Nat.le_of_ble_eq_true rfl, Nat.le_of_ble_eq_true rfl⟩) C.hK hP hD hS C.hA C.hX [0, 1, 5] [2, 3, 4, 6, 7, 8, 9, 10, 11, 12] rfl (zFl3 _ _ _ ) (zFl3 _ _ _ ) rfl 0 rfl rfl rfl hl.1 rfl (Nat.le_of_ble_eq_true rfl) dL_law_1238 C.hf (fun H locs hP hD hS => ?_)
  refine lv_aload_n hx hb dL_law_1241 rfl (lv_at hl 2 rfl) ?_
  refine zLd 1 C hS hl hi (by decide) rfl dL_law_1242 dL_law_1243 dL_law_1244 dL_law_1245 dL_law_1246 ?_
  refine zLd 2 C hS hl hi (by decide) rfl dL_law_1247 dL_law_1248 dL_law_1249 dL_law_1250 dL_law_1251 ?_
  refine zCallGI (zWg T ad hm (zSet gs 5 w5) g gl) (zWg T ad hm (zSet gs 5 w5) g gl) [.int (zAt xs i 1), .int (zAt xs i 2)] ⟨hx, hb, C.hml, C.hown, zHt C.hts tv_X10_meet⟩ (pX10_meet l D T X hm H.size g gl (zAt xs i 1) (zAt xs i 2) r  e2) (cwV 2 (zHt C.hts tv_X10_meet) gv_X10_meet rfl rfl rfl (by decide +kernel) ⟨Nat.le_of_ble_eq_true rfl, Nat.le_of_ble_eq_true rfl⟩) C.hK hP hD hS C.hA C.hX [12] [0, 1, 2, 3, 4, 5, 6, 7, 8, 9, 10, 11] rfl (zFl1 _) (zFl1 _) rfl 0 rfl rfl rfl hl.1 rfl (Nat.le_of_ble_eq_true rfl) dL_law_1252 C.hf (fun H locs hP hD hS => ?_)
  exact lv_icmp_eq (tgt := 1646) hx hb dL_law_1255 (by decide) (fun _ => kk _ _ _ H locs hv hP hD hS) (fun h9 => absurd rfl h9)
set_option maxHeartbeats 4000000 in
set_option maxRecDepth 20000 in
theorem law_tell (C : zLw p room_1 s m c b L xs D T X A cells slots) (hi : i + 6 ≤ L) (hv : yInv gs g gl) (hP : va_P D vwCl (zFlat (zWg T ad hm gs g gl)) H) (hD : va_D A (zFlat (zWg T ad hm gs g gl))) (hS : va_S A s.heap H locs) (hl : lv_has ls 4 [(0, .ref b), (1, .ref (ad 0 0)), (2, .ref (hm 0)), (3, .int (nI i))]) (kk : zGo p l e room_1 s m below meth c ls cells slots Q D T A b ad hm) : W p l e room_1 s m #[Value.ref b] below meth c H locs cells slots Q (F0 m 1260 ls []) := by
  have hx := C.hx
  have hb := C.hb
  obtain ⟨r, w8, g', e1, e2, hv⟩ := v_tell hv (zAt xs i 1) (zAt xs i 2)
  refine lv_aload_n hx hb dL_law_1260 rfl (lv_at hl 1 rfl) ?_
  refine zLd 1 C hS hl hi (by decide) rfl dL_law_1261 dL_law_1262 dL_law_1263 dL_law_1264 dL_law_1265 ?_
  refine zLd 2 C hS hl hi (by decide) rfl dL_law_1266 dL_law_1267 dL_law_1268 dL_law_1269 dL_law_1270 ?_
  refine zCallGI (zWg T ad hm gs g gl) (zWg T ad hm (zSet gs 8 w8) g gl) [.int (zAt xs i 1), .int (zAt xs i 2)] ⟨hx, hb, C.hml, C.hown, zHt C.hts tv_X9_tell⟩ (pX9_tell l D T X ad H.size (gs 0) (gs 1) (gs 8) (zAt xs i 1) (zAt xs i 2) r w8 e1) (cwV 2 (zHt C.hts tv_X9_tell) gv_X9_tell rfl rfl rfl (by decide +kernel) ⟨Nat.le_of_ble_eq_true rfl, Nat.le_of_ble_eq_true rfl⟩) C.hK hP hD hS C.hA C.hX [0, 1, 8] [2, 3, 4, 5, 6, 7, 9, 10, 11, 12] rfl (zFl3 _ _ _ ) (zFl3 _ _ _ ) rfl 0 rfl rfl rfl hl.1 rfl (Nat.le_of_ble_eq_true rfl) dL_law_1271 C.hf (fun H locs hP hD hS => ?_)
  refine lv_aload_n hx hb dL_law_1274 rfl (lv_at hl 2 rfl) ?_
  refine zLd 1 C hS hl hi (by decide) rfl dL_law_1275 dL_law_1276 dL_law_1277 dL_law_1278 dL_law_1279 ?_
  refine zLd 2 C hS hl hi (by decide) rfl dL_law_1280 dL_law_1281 dL_law_1282 dL_law_1283 dL_law_1284 ?_
  refine zCallGI (zWg T ad hm (zSet gs 8 w8) g gl) (zWg T ad hm (zSet gs 8 w8) g' gl) [.int (zAt xs i 1), .int (zAt xs i 2)] ⟨hx, hb, C.hml, C.hown, zHt C.hts tv_X10_tell⟩ (pX10_tell l D T X hm H.size g gl (zAt xs i 1) (zAt xs i 2) r g' e2) (cwV 2 (zHt C.hts tv_X10_tell) gv_X10_tell rfl rfl rfl (by decide +kernel) ⟨Nat.le_of_ble_eq_true rfl, Nat.le_of_ble_eq_true rfl⟩) C.hK hP hD hS C.hA C.hX [12] [0, 1, 2, 3, 4, 5, 6, 7, 8, 9, 10, 11] rfl (zFl1 _) (zFl1 _) rfl 0 rfl rfl rfl hl.1 rfl (Nat.le_of_ble_eq_true rfl) dL_law_1285 C.hf (fun H locs hP hD hS => ?_)
  exact lv_icmp_eq (tgt := 1646) hx hb dL_law_1288 (by decide) (fun _ => kk _ _ _ H locs hv hP hD hS) (fun h9 => absurd rfl h9)
set_option maxHeartbeats 4000000 in
set_option maxRecDepth 20000 in
theorem law_best (C : zLw p room_1 s m c b L xs D T X A cells slots) (hi : i + 6 ≤ L) (hv : yInv gs g gl) (hP : va_P D vwCl (zFlat (zWg T ad hm gs g gl)) H) (hD : va_D A (zFlat (zWg T ad hm gs g gl))) (hS : va_S A s.heap H locs) (hl : lv_has ls 4 [(0, .ref b), (1, .ref (ad 0 0)), (2, .ref (hm 0)), (3, .int (nI i))]) (kk : zGo p l e room_1 s m below meth c ls cells slots Q D T A b ad hm) : W p l e room_1 s m #[Value.ref b] below meth c H locs cells slots Q (F0 m 1293 ls []) := by
  have hx := C.hx
  have hb := C.hb
  obtain ⟨r, w5, g', e1, e2, hv⟩ := v_best hv (zAt xs i 1) (zAt xs i 2)
  refine lv_aload_n hx hb dL_law_1293 rfl (lv_at hl 1 rfl) ?_
  refine zLd 1 C hS hl hi (by decide) rfl dL_law_1294 dL_law_1295 dL_law_1296 dL_law_1297 dL_law_1298 ?_
  refine zLd 2 C hS hl hi (by decide) rfl dL_law_1299 dL_law_1300 dL_law_1301 dL_law_1302 dL_law_1303 ?_
  refine zCallGI (zWg T ad hm gs g gl) (zWg T ad hm (zSet gs 5 w5) g gl) [.int (zAt xs i 1), .int (zAt xs i 2)] ⟨hx, hb, C.hml, C.hown, zHt C.hts tv_X9_best⟩ (pX9_best l D T X ad H.size (gs 0) (gs 1) (gs 5) (gs 10) (zAt xs i 1) (zAt xs i 2) r w5 e1) (cwV 2 (zHt C.hts tv_X9_best) gv_X9_best rfl rfl rfl (by decide +kernel) ⟨Nat.le_of_ble_eq_true rfl, Nat.le_of_ble_eq_true rfl⟩) C.hK hP hD hS C.hA C.hX [0, 1, 5, 10] [2, 3, 4, 6, 7, 8, 9, 11, 12] rfl (zFl4 _ _ _ _ ) (zFl4 _ _ _ _ ) rfl 0 rfl rfl rfl hl.1 rfl (Nat.le_of_ble_eq_true rfl) dL_law_1304 C.hf (fun H locs hP hD hS => ?_)
  refine lv_aload_n hx hb dL_law_1307 rfl (lv_at hl 2 rfl) ?_
  refine zLd 1 C hS hl hi (by decide) rfl dL_law_1308 dL_law_1309 dL_law_1310 dL_law_1311 dL_law_1312 ?_
  refine zLd 2 C hS hl hi (by decide) rfl dL_law_1313 dL_law_1314 dL_law_1315 dL_law_1316 dL_law_1317 ?_
  refine zCallGI (zWg T ad hm (zSet gs 5 w5) g gl) (zWg T ad hm (zSet gs 5 w5) g' gl) [.int (zAt xs i 1), .int (zAt xs i 2)] ⟨hx, hb, C.hml, C.hown, zHt C.hts tv_X10_best⟩ (pX10_best l D T X hm H.size g gl (zAt xs i 1) (zAt xs i 2) r g' e2) (cwV 2 (zHt C.hts tv_X10_best) gv_X10_best rfl rfl rfl (by decide +kernel) ⟨Nat.le_of_ble_eq_true rfl, Nat.le_of_ble_eq_true rfl⟩) C.hK hP hD hS C.hA C.hX [12] [0, 1, 2, 3, 4, 5, 6, 7, 8, 9, 10, 11] rfl (zFl1 _) (zFl1 _) rfl 0 rfl rfl rfl hl.1 rfl (Nat.le_of_ble_eq_true rfl) dL_law_1318 C.hf (fun H locs hP hD hS => ?_)
  exact lv_icmp_eq (tgt := 1646) hx hb dL_law_1321 (by decide) (fun _ => kk _ _ _ H locs hv hP hD hS) (fun h9 => absurd rfl h9)
end LW
