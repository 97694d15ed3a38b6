section LP
variable {p : Program} {l : Launch} {e : Env} {s : State} {m : MethodId} {below : List Frame} {meth : Method} {c : Code} {H : Heap} {locs : List Loc} {cells slots : Nat} {Q : State → Prop} {ls : Array Slot} {D : va_G} {T : Nat → ClassId} {X : zFP} {A : Nat → Prop} {b L : Nat} {xs : Nat → Int32} {i : Nat} {ad : Nat → Nat → Nat} {hm : Nat → Nat} {gs : Nat → zM} {g : zM} {gl : zL}
set_option maxHeartbeats 4000000 in
set_option maxRecDepth 20000 in
theorem law_body (C : zLw p room_1 s m c b L xs D T X A cells slots) (hi : i + 6 ≤ L) (hv : yInv gs g gl) (hP : va_P D vwCl (zFlat (zWg T ad hm gs g gl)) H) (hD : va_D A (zFlat (zWg T ad hm gs g gl))) (hS : va_S A s.heap H locs) (hl : lv_has ls 4 [(0, .ref b), (1, .ref (ad 0 0)), (2, .ref (hm 0)), (3, .int (nI i))]) (kk : zGo p l e room_1 s m below meth c ls cells slots Q D T A b ad hm) : W p l e room_1 s m #[Value.ref b] below meth c H locs cells slots Q (F0 m 27 ls []) := by
  have hx := C.hx
  have hb := C.hb
  refine lv_aload_n hx hb dL_law_27 rfl (lv_at hl 0 rfl) ?_
  refine lv_iload_n hx hb dL_law_28 rfl (lv_at hl 3 rfl) ?_
  refine va_sld hx hb C.hXs C.hbl C.hbA hS (zSi0 hi C.hL) dL_law_29 ?_
  refine lv_bipush (v := 63) hx hb dL_law_30 (by decide) ?_
  refine lv_iand hx hb dL_law_32 ?_
  generalize xs (nI i).toNatClampNeg &&& 63 = x
  refine zSw (x := x) (k := 0) (fun hc => ?_) (fun hk0 => ?_)
  · refine lv_tableIn (off := 187) (tgt := 220) hx hb dL_law_33 (by rw [hc]; decide) (by rw [hc]; decide) (by rw [hc]; decide) (by decide) ?_
    exact law_feed C hi hv hP hD hS hl kk
  refine zSw (x := x) (k := 1) (fun hc => ?_) (fun hk1 => ?_)
  · refine lv_tableIn (off := 250) (tgt := 283) hx hb dL_law_33 (by rw [hc]; decide) (by rw [hc]; decide) (by rw [hc]; decide) (by decide) ?_
    exact law_works C hi hv hP hD hS hl kk
  refine zSw (x := x) (k := 2) (fun hc => ?_) (fun hk2 => ?_)
  · refine lv_tableIn (off := 263) (tgt := 296) hx hb dL_law_33 (by rw [hc]; decide) (by rw [hc]; decide) (by rw [hc]; decide) (by decide) ?_
    exact law_people C hi hv hP hD hS hl kk
  refine zSw (x := x) (k := 3) (fun hc => ?_) (fun hk3 => ?_)
  · refine lv_tableIn (off := 286) (tgt := 319) hx hb dL_law_33 (by rw [hc]; decide) (by rw [hc]; decide) (by rw [hc]; decide) (by decide) ?_
    exact (Decidable.em (zAt xs i 5 = 0)).elim (fun hz => law_tie0 C hi hv hP hD hS hl hz kk) (fun hz => law_tie1 C hi hv hP hD hS hl hz kk)
  refine zSw (x := x) (k := 4) (fun hc => ?_) (fun hk4 => ?_)
  · refine lv_tableIn (off := 365) (tgt := 398) hx hb dL_law_33 (by rw [hc]; decide) (by rw [hc]; decide) (by rw [hc]; decide) (by decide) ?_
    exact law_tieOf C hi hv hP hD hS hl kk
  refine zSw (x := x) (k := 5) (fun hc => ?_) (fun hk5 => ?_)
  · refine lv_tableIn (off := 398) (tgt := 431) hx hb dL_law_33 (by rw [hc]; decide) (by rw [hc]; decide) (by rw [hc]; decide) (by decide) ?_
    exact law_first C hi hv hP hD hS hl kk
  refine zSw (x := x) (k := 6) (fun hc => ?_) (fun hk6 => ?_)
  · refine lv_tableIn (off := 431) (tgt := 464) hx hb dL_law_33 (by rw [hc]; decide) (by rw [hc]; decide) (by rw [hc]; decide) (by decide) ?_
    exact law_cut C hi hv hP hD hS hl kk
  refine zSw (x := x) (k := 7) (fun hc => ?_) (fun hk7 => ?_)
  · refine lv_tableIn (off := 474) (tgt := 507) hx hb dL_law_33 (by rw [hc]; decide) (by rw [hc]; decide) (by rw [hc]; decide) (by decide) ?_
    exact law_cutOf C hi hv hP hD hS hl kk
  refine zSw (x := x) (k := 8) (fun hc => ?_) (fun hk8 => ?_)
  · refine lv_tableIn (off := 507) (tgt := 540) hx hb dL_law_33 (by rw [hc]; decide) (by rw [hc]; decide) (by rw [hc]; decide) (by decide) ?_
    exact law_uncut C hi hv hP hD hS hl kk
  refine zSw (x := x) (k := 9) (fun hc => ?_) (fun hk9 => ?_)
  · refine lv_tableIn (off := 520) (tgt := 553) hx hb dL_law_33 (by rw [hc]; decide) (by rw [hc]; decide) (by rw [hc]; decide) (by decide) ?_
    exact law_open C hi hv hP hD hS hl kk
  refine zSw (x := x) (k := 10) (fun hc => ?_) (fun hk10 => ?_)
  · refine lv_tableIn (off := 553) (tgt := 586) hx hb dL_law_33 (by rw [hc]; decide) (by rw [hc]; decide) (by rw [hc]; decide) (by decide) ?_
    exact law_joined C hi hv hP hD hS hl kk
  refine zSw (x := x) (k := 11) (fun hc => ?_) (fun hk11 => ?_)
  · refine lv_tableIn (off := 576) (tgt := 609) hx hb dL_law_33 (by rw [hc]; decide) (by rw [hc]; decide) (by rw [hc]; decide) (by decide) ?_
    exact law_sets C hi hv hP hD hS hl kk
  refine zSw (x := x) (k := 12) (fun hc => ?_) (fun hk12 => ?_)
  · refine lv_tableIn (off := 599) (tgt := 632) hx hb dL_law_33 (by rw [hc]; decide) (by rw [hc]; decide) (by rw [hc]; decide) (by decide) ?_
    exact law_chance C hi hv hP hD hS hl kk
  refine zSw (x := x) (k := 13) (fun hc => ?_) (fun hk13 => ?_)
  · refine lv_tableIn (off := 632) (tgt := 665) hx hb dL_law_33 (by rw [hc]; decide) (by rw [hc]; decide) (by rw [hc]; decide) (by decide) ?_
    exact law_reach C hi hv hP hD hS hl kk
  refine zSw (x := x) (k := 14) (fun hc => ?_) (fun hk14 => ?_)
  · refine lv_tableIn (off := 656) (tgt := 689) hx hb dL_law_33 (by rw [hc]; decide) (by rw [hc]; decide) (by rw [hc]; decide) (by decide) ?_
    exact law_seen C hi hv hP hD hS hl kk
  refine zSw (x := x) (k := 15) (fun hc => ?_) (fun hk15 => ?_)
  · refine lv_tableIn (off := 689) (tgt := 722) hx hb dL_law_33 (by rw [hc]; decide) (by rw [hc]; decide) (by rw [hc]; decide) (by decide) ?_
    exact law_who C hi hv hP hD hS hl kk
  refine zSw (x := x) (k := 16) (fun hc => ?_) (fun hk16 => ?_)
  · refine lv_tableIn (off := 722) (tgt := 755) hx hb dL_law_33 (by rw [hc]; decide) (by rw [hc]; decide) (by rw [hc]; decide) (by decide) ?_
    exact law_fewest C hi hv hP hD hS hl kk
  refine zSw (x := x) (k := 17) (fun hc => ?_) (fun hk17 => ?_)
  · refine lv_tableIn (off := 765) (tgt := 798) hx hb dL_law_33 (by rw [hc]; decide) (by rw [hc]; decide) (by rw [hc]; decide) (by decide) ?_
    exact law_between C hi hv hP hD hS hl kk
  refine zSw (x := x) (k := 18) (fun hc => ?_) (fun hk18 => ?_)
  · refine lv_tableIn (off := 808) (tgt := 841) hx hb dL_law_33 (by rw [hc]; decide) (by rw [hc]; decide) (by rw [hc]; decide) (by decide) ?_
    exact law_small C hi hv hP hD hS hl kk
  refine zSw (x := x) (k := 19) (fun hc => ?_) (fun hk19 => ?_)
  · refine lv_tableIn (off := 841) (tgt := 874) hx hb dL_law_33 (by rw [hc]; decide) (by rw [hc]; decide) (by rw [hc]; decide) (by decide) ?_
    exact law_sit C hi hv hP hD hS hl kk
  refine zSw (x := x) (k := 20) (fun hc => ?_) (fun hk20 => ?_)
  · refine lv_tableIn (off := 874) (tgt := 907) hx hb dL_law_33 (by rw [hc]; decide) (by rw [hc]; decide) (by rw [hc]; decide) (by decide) ?_
    exact law_early C hi hv hP hD hS hl kk
  refine zSw (x := x) (k := 21) (fun hc => ?_) (fun hk21 => ?_)
  · refine lv_tableIn (off := 907) (tgt := 940) hx hb dL_law_33 (by rw [hc]; decide) (by rw [hc]; decide) (by rw [hc]; decide) (by decide) ?_
    exact law_could C hi hv hP hD hS hl kk
  refine zSw (x := x) (k := 22) (fun hc => ?_) (fun hk22 => ?_)
  · refine lv_tableIn (off := 940) (tgt := 973) hx hb dL_law_33 (by rw [hc]; decide) (by rw [hc]; decide) (by rw [hc]; decide) (by decide) ?_
    exact law_seed C hi hv hP hD hS hl kk
  refine zSw (x := x) (k := 23) (fun hc => ?_) (fun hk23 => ?_)
  · refine lv_tableIn (off := 963) (tgt := 996) hx hb dL_law_33 (by rw [hc]; decide) (by rw [hc]; decide) (by rw [hc]; decide) (by decide) ?_
    exact law_run C hi hv hP hD hS hl kk
  refine zSw (x := x) (k := 24) (fun hc => ?_) (fun hk24 => ?_)
  · refine lv_tableIn (off := 996) (tgt := 1029) hx hb dL_law_33 (by rw [hc]; decide) (by rw [hc]; decide) (by rw [hc]; decide) (by decide) ?_
    exact law_guards C hi hv hP hD hS hl kk
  refine zSw (x := x) (k := 25) (fun hc => ?_) (fun hk25 => ?_)
  · refine lv_tableIn (off := 1029) (tgt := 1062) hx hb dL_law_33 (by rw [hc]; decide) (by rw [hc]; decide) (by rw [hc]; decide) (by decide) ?_
    exact law_prove C hi hv hP hD hS hl kk
  refine zSw (x := x) (k := 26) (fun hc => ?_) (fun hk26 => ?_)
  · refine lv_tableIn (off := 1062) (tgt := 1095) hx hb dL_law_33 (by rw [hc]; decide) (by rw [hc]; decide) (by rw [hc]; decide) (by decide) ?_
    exact law_row C hi hv hP hD hS hl kk
  refine zSw (x := x) (k := 27) (fun hc => ?_) (fun hk27 => ?_)
  · refine lv_tableIn (off := 1095) (tgt := 1128) hx hb dL_law_33 (by rw [hc]; decide) (by rw [hc]; decide) (by rw [hc]; decide) (by decide) ?_
    exact law_alterRow C hi hv hP hD hS hl kk
  refine zSw (x := x) (k := 28) (fun hc => ?_) (fun hk28 => ?_)
  · refine lv_tableIn (off := 1138) (tgt := 1171) hx hb dL_law_33 (by rw [hc]; decide) (by rw [hc]; decide) (by rw [hc]; decide) (by decide) ?_
    exact law_judge C hi hv hP hD hS hl kk
  refine zSw (x := x) (k := 29) (fun hc => ?_) (fun hk29 => ?_)
  · refine lv_tableIn (off := 1171) (tgt := 1204) hx hb dL_law_33 (by rw [hc]; decide) (by rw [hc]; decide) (by rw [hc]; decide) (by decide) ?_
    exact law_chair C hi hv hP hD hS hl kk
  refine zSw (x := x) (k := 30) (fun hc => ?_) (fun hk30 => ?_)
  · refine lv_tableIn (off := 1194) (tgt := 1227) hx hb dL_law_33 (by rw [hc]; decide) (by rw [hc]; decide) (by rw [hc]; decide) (by decide) ?_
    exact law_meet C hi hv hP hD hS hl kk
  refine zSw (x := x) (k := 31) (fun hc => ?_) (fun hk31 => ?_)
  · refine lv_tableIn (off := 1227) (tgt := 1260) hx hb dL_law_33 (by rw [hc]; decide) (by rw [hc]; decide) (by rw [hc]; decide) (by decide) ?_
    exact law_tell C hi hv hP hD hS hl kk
  refine zSw (x := x) (k := 32) (fun hc => ?_) (fun hk32 => ?_)
  · refine lv_tableIn (off := 1260) (tgt := 1293) hx hb dL_law_33 (by rw [hc]; decide) (by rw [hc]; decide) (by rw [hc]; decide) (by decide) ?_
    exact law_best C hi hv hP hD hS hl kk
  refine zSw (x := x) (k := 33) (fun hc => ?_) (fun hk33 => ?_)
  · refine lv_tableIn (off := 1293) (tgt := 1326) hx hb dL_law_33 (by rw [hc]; decide) (by rw [hc]; decide) (by rw [hc]; decide) (by decide) ?_
    exact law_sheet C hi hv hP hD hS hl kk
  refine zSw (x := x) (k := 34) (fun hc => ?_) (fun hk34 => ?_)
  · refine lv_tableIn (off := 1336) (tgt := 1369) hx hb dL_law_33 (by rw [hc]; decide) (by rw [hc]; decide) (by rw [hc]; decide) (by decide) ?_
    exact law_put C hi hv hP hD hS hl kk
  refine zSw (x := x) (k := 35) (fun hc => ?_) (fun hk35 => ?_)
  · refine lv_tableIn (off := 1379) (tgt := 1412) hx hb dL_law_33 (by rw [hc]; decide) (by rw [hc]; decide) (by rw [hc]; decide) (by decide) ?_
    exact law_item C hi hv hP hD hS hl kk
  refine zSw (x := x) (k := 36) (fun hc => ?_) (fun hk36 => ?_)
  · refine lv_tableIn (off := 1422) (tgt := 1455) hx hb dL_law_33 (by rw [hc]; decide) (by rw [hc]; decide) (by rw [hc]; decide) (by decide) ?_
    exact law_shelf C hi hv hP hD hS hl kk
  refine zSw (x := x) (k := 37) (fun hc => ?_) (fun hk37 => ?_)
  · refine lv_tableIn (off := 1465) (tgt := 1498) hx hb dL_law_33 (by rw [hc]; decide) (by rw [hc]; decide) (by rw [hc]; decide) (by decide) ?_
    exact law_taken C hi hv hP hD hS hl kk
  refine zSw (x := x) (k := 38) (fun hc => ?_) (fun hk38 => ?_)
  · refine lv_tableIn (off := 1498) (tgt := 1531) hx hb dL_law_33 (by rw [hc]; decide) (by rw [hc]; decide) (by rw [hc]; decide) (by decide) ?_
    exact law_act C hi hv hP hD hS hl kk
  refine zSw (x := x) (k := 39) (fun hc => ?_) (fun hk39 => ?_)
  · refine lv_tableIn (off := 1541) (tgt := 1574) hx hb dL_law_33 (by rw [hc]; decide) (by rw [hc]; decide) (by rw [hc]; decide) (by decide) ?_
    exact law_trace C hi hv hP hD hS hl kk
  refine zSw (x := x) (k := 40) (fun hc => ?_) (fun hk40 => ?_)
  · refine lv_tableIn (off := 1564) (tgt := 1597) hx hb dL_law_33 (by rw [hc]; decide) (by rw [hc]; decide) (by rw [hc]; decide) (by decide) ?_
    exact law_many C hi hv hP hD hS hl kk
  refine zSw (x := x) (k := 41) (fun hc => ?_) (fun hk41 => ?_)
  · refine lv_tableIn (off := 1587) (tgt := 1620) hx hb dL_law_33 (by rw [hc]; decide) (by rw [hc]; decide) (by rw [hc]; decide) (by decide) ?_
    exact law_keep C hi hv hP hD hS hl kk
  refine zSw (x := x) (k := 42) (fun hc => ?_) (fun hk42 => ?_)
  · refine lv_tableIn (off := 1600) (tgt := 1633) hx hb dL_law_33 (by rw [hc]; decide) (by rw [hc]; decide) (by rw [hc]; decide) (by decide) ?_
    exact law_back C hi hv hP hD hS hl kk
  refine lv_tableOut (tgt := 1646) hx hb dL_law_33 (by have := zNe hk0 (z := 0) (by decide); have := zNe hk1 (z := 1) (by decide); have := zNe hk2 (z := 2) (by decide); have := zNe hk3 (z := 3) (by decide); have := zNe hk4 (z := 4) (by decide); have := zNe hk5 (z := 5) (by decide); have := zNe hk6 (z := 6) (by decide); have := zNe hk7 (z := 7) (by decide); have := zNe hk8 (z := 8) (by decide); have := zNe hk9 (z := 9) (by decide); have := zNe hk10 (z := 10) (by decide); have := zNe hk11 (z := 11) (by decide); have := zNe hk12 (z := 12) (by decide); have := zNe hk13 (z := 13) (by decide); have := zNe hk14 (z := 14) (by decide); have := zNe hk15 (z := 15) (by decide); have := zNe hk16 (z := 16) (by decide); have := zNe hk17 (z := 17) (by decide); have := zNe hk18 (z := 18) (by decide); have := zNe hk19 (z := 19) (by decide); have := zNe hk20 (z := 20) (by decide); have := zNe hk21 (z := 21) (by decide); have := zNe hk22 (z := 22) (by decide); have := zNe hk23 (z := 23) (by decide); have := zNe hk24 (z := 24) (by decide); have := zNe hk25 (z := 25) (by decide); have := zNe hk26 (z := 26) (by decide); have := zNe hk27 (z := 27) (by decide); have := zNe hk28 (z := 28) (by decide); have := zNe hk29 (z := 29) (by decide); have := zNe hk30 (z := 30) (by decide); have := zNe hk31 (z := 31) (by decide); have := zNe hk32 (z := 32) (by decide); have := zNe hk33 (z := 33) (by decide); have := zNe hk34 (z := 34) (by decide); have := zNe hk35 (z := 35) (by decide); have := zNe hk36 (z := 36) (by decide); have := zNe hk37 (z := 37) (by decide); have := zNe hk38 (z := 38) (by decide); have := zNe hk39 (z := 39) (by decide); have := zNe hk40 (z := 40) (by decide); have := zNe hk41 (z := 41) (by decide); have := zNe hk42 (z := 42) (by decide); omega) (by decide) (kk gs g gl H locs hv hP hD hS)
end LP
section LO
variable {p : Program} {l : Launch} {e : Env} {s : State} {m : MethodId} {below : List Frame} {meth : Method} {c : Code} {cells slots : Nat} {Q : State → Prop} {D : va_G} {T : Nat → ClassId} {X : zFP} {A : Nat → Prop} {b L : Nat} {xs : Nat → Int32} {ad : Nat → Nat → Nat} {hm : Nat → Nat}
theorem law_loop (C : zLw p room_1 s m c b L xs D T X A cells slots) (kend : ∀ (ls : Array Slot) (H : Heap) (locs : List Loc), va_S A s.heap H locs → W p l e room_1 s m #[Value.ref b] below meth c H locs cells slots Q (F0 m 1652 ls [])) : ∀ (n i : Nat), i ≤ L → L ≤ i + n → ∀ (gs : Nat → zM) (g : zM) (gl : zL) (H : Heap) (locs : List Loc) (ls : Array Slot), yInv gs g gl → va_P D vwCl (zFlat (zWg T ad hm gs g gl)) H → va_D A (zFlat (zWg T ad hm gs g gl)) → va_S A s.heap H locs → lv_has ls 4 [(0, .ref b), (1, .ref (ad 0 0)), (2, .ref (hm 0)), (3, .int (nI i))] → W p l e room_1 s m #[Value.ref b] below meth c H locs cells slots Q (F0 m 18 ls []) := by
  intro n
  induction n with
  | zero =>
    intro i hiL hn gs g gl H locs ls hv hP hD hS hl
    have hx := C.hx
    have hb := C.hb
    refine lv_iload_n hx hb dL_law_18 rfl (lv_at hl 3 rfl) ?_
    refine lv_aload_n hx hb dL_law_19 rfl (lv_at hl 0 rfl) ?_
    refine va_slen hx hb C.hXs C.hbl C.hbA hS dL_law_20 ?_
    refine lv_bipush (v := 6) hx hb dL_law_21 (by decide) ?_
    refine lv_isub hx hb dL_law_23 ?_
    refine lv_icmp_gt (tgt := 1652) hx hb dL_law_24 (by decide) (fun _ => kend ls H locs hS) (fun h => ?_)
    have := zLim hiL C.hL h
    omega
  | succ n ih =>
    intro i hiL hn gs g gl H locs ls hv hP hD hS hl
    have hx := C.hx
    have hb := C.hb
    refine lv_iload_n hx hb dL_law_18 rfl (lv_at hl 3 rfl) ?_
    refine lv_aload_n hx hb dL_law_19 rfl (lv_at hl 0 rfl) ?_
    refine va_slen hx hb C.hXs C.hbl C.hbA hS dL_law_20 ?_
    refine lv_bipush (v := 6) hx hb dL_law_21 (by decide) ?_
    refine lv_isub hx hb dL_law_23 ?_
    refine lv_icmp_gt (tgt := 1652) hx hb dL_law_24 (by decide) (fun _ => kend ls H locs hS) (fun h => ?_)
    have hi := zLim hiL C.hL h
    refine law_body C hi hv hP hD hS hl (fun gs g gl H locs hv hP hD hS => ?_)
    refine lv_iinc (v := nI (i + 6)) (lv' := [(3, .int (nI (i + 6))), (0, .ref b), (1, .ref (ad 0 0)), (2, .ref (hm 0))]) hx hb dL_law_1646 hl (k := 3) rfl (nI_add i 6) (by decide) rfl (fun ls hl => ?_)
    refine lv_goto (tgt := 18) hx hb dL_law_1649 (by decide) ?_
    exact ih (i + 6) hi (by omega) gs g gl H locs ls hv hP hD hS (lv_sub hl [1, 2, 3, 0] rfl)
end LO
