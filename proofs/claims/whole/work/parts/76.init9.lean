def wO (q : Nat) (fs : List Value) : va_W := [(q, .inr (9, fs))]
def mX9 : zM := fun _ _ => 0
theorem zDfX8 : ∀ j, j < 14 → defaultValue (tyX8 j) = vp_V [.int 0, .null, .null, .int 0, .null, .null, .null, .null, .null, .int 0, .null, .null, .null, .int 0] j := by
  intro j hj
  have : j = 0 ∨ j = 1 ∨ j = 2 ∨ j = 3 ∨ j = 4 ∨ j = 5 ∨ j = 6 ∨ j = 7 ∨ j = 8 ∨ j = 9 ∨ j = 10 ∨ j = 11 ∨ j = 12 ∨ j = 13 := by omega
  rcases this with rfl | rfl | rfl | rfl | rfl | rfl | rfl | rfl | rfl | rfl | rfl | rfl | rfl | rfl <;> rfl
theorem zDfX9 : ∀ j, j < 12 → defaultValue (tyX9 j) = vp_V [.null, .null, .null, .int 0, .null, .null, .null, .null, .null, .null, .null, .null] j := by
  intro j hj
  have : j = 0 ∨ j = 1 ∨ j = 2 ∨ j = 3 ∨ j = 4 ∨ j = 5 ∨ j = 6 ∨ j = 7 ∨ j = 8 ∨ j = 9 ∨ j = 10 ∨ j = 11 := by omega
  rcases this with rfl | rfl | rfl | rfl | rfl | rfl | rfl | rfl | rfl | rfl | rfl | rfl <;> rfl
theorem zDfX7 : ∀ j, j < 6 → defaultValue (tyX7 j) = vp_V [.null, .int 0, .int 0, .int 0, .int 0, .int 0] j := by
  intro j hj
  have : j = 0 ∨ j = 1 ∨ j = 2 ∨ j = 3 ∨ j = 4 ∨ j = 5 := by omega
  rcases this with rfl | rfl | rfl | rfl | rfl | rfl <;> rfl
theorem zDfX3 : ∀ j, j < 1 → defaultValue (tyX3 j) = vp_V [.null] j := by
  intro j hj
  have : j = 0 := by omega
  subst this; rfl
theorem zDfX6 : ∀ j, j < 3 → defaultValue (tyX6 j) = vp_V [.null, .int 0, .int 0] j := by
  intro j hj
  have : j = 0 ∨ j = 1 ∨ j = 2 := by omega
  rcases this with rfl | rfl | rfl <;> rfl
theorem zDfX4 : ∀ j, j < 2 → defaultValue (tyX4 j) = vp_V [.null, .int 0] j := by
  intro j hj
  have : j = 0 ∨ j = 1 := by omega
  rcases this with rfl | rfl <;> rfl
theorem zDfX1 : ∀ j, j < 2 → defaultValue (tyX1 j) = vp_V [.null, .null] j := by
  intro j hj
  have : j = 0 ∨ j = 1 := by omega
  rcases this with rfl | rfl <;> rfl
theorem zDfX5 : ∀ j, j < 2 → defaultValue (tyX5 j) = vp_V [.null, .int 0] j := by
  intro j hj
  have : j = 0 ∨ j = 1 := by omega
  rcases this with rfl | rfl <;> rfl
theorem zDfX2 : ∀ j, j < 6 → defaultValue (tyX2 j) = vp_V [.null, .null, .null, .null, .null, .null] j := by
  intro j hj
  have : j = 0 ∨ j = 1 ∨ j = 2 ∨ j = 3 ∨ j = 4 ∨ j = 5 := by omega
  rcases this with rfl | rfl | rfl | rfl | rfl | rfl <;> rfl
theorem zDfX0 : ∀ j, j < 6 → defaultValue (tyX0 j) = vp_V [.null, .int 0, .int 0, .int 0, .int 0, .int 0] j := by
  intro j hj
  have : j = 0 ∨ j = 1 ∨ j = 2 ∨ j = 3 ∨ j = 4 ∨ j = 5 := by omega
  rcases this with rfl | rfl | rfl | rfl | rfl | rfl <;> rfl
theorem zDfX10 : ∀ j, j < 54 → defaultValue (tyX10 j) = vp_V [.int 0, .null, .int 0, .null, .int 0, .null, .null, .int 0, .null, .int 0, .int 0, .int 0, .int 0, .long 0, .int 0, .int 0, .int 0, .int 0, .int 0, .null, .null, .null, .int 0, .null, .null, .long 0, .long 0, .int 0, .int 0, .int 0, .null, .null, .null, .null, .null, .null, .int 0, .null, .null, .null, .null, .null, .null, .null, .int 0, .int 0, .int 0, .null, .int 0, .int 0, .int 0, .null, .int 0, .null] j := by
  intro j hj
  have : j = 0 ∨ j = 1 ∨ j = 2 ∨ j = 3 ∨ j = 4 ∨ j = 5 ∨ j = 6 ∨ j = 7 ∨ j = 8 ∨ j = 9 ∨ j = 10 ∨ j = 11 ∨ j = 12 ∨ j = 13 ∨ j = 14 ∨ j = 15 ∨ j = 16 ∨ j = 17 ∨ j = 18 ∨ j = 19 ∨ j = 20 ∨ j = 21 ∨ j = 22 ∨ j = 23 ∨ j = 24 ∨ j = 25 ∨ j = 26 ∨ j = 27 ∨ j = 28 ∨ j = 29 ∨ j = 30 ∨ j = 31 ∨ j = 32 ∨ j = 33 ∨ j = 34 ∨ j = 35 ∨ j = 36 ∨ j = 37 ∨ j = 38 ∨ j = 39 ∨ j = 40 ∨ j = 41 ∨ j = 42 ∨ j = 43 ∨ j = 44 ∨ j = 45 ∨ j = 46 ∨ j = 47 ∨ j = 48 ∨ j = 49 ∨ j = 50 ∨ j = 51 ∨ j = 52 ∨ j = 53 := by omega
  rcases this with rfl | rfl | rfl | rfl | rfl | rfl | rfl | rfl | rfl | rfl | rfl | rfl | rfl | rfl | rfl | rfl | rfl | rfl | rfl | rfl | rfl | rfl | rfl | rfl | rfl | rfl | rfl | rfl | rfl | rfl | rfl | rfl | rfl | rfl | rfl | rfl | rfl | rfl | rfl | rfl | rfl | rfl | rfl | rfl | rfl | rfl | rfl | rfl | rfl | rfl | rfl | rfl | rfl | rfl <;> rfl
def wAll (T : Nat → ClassId) (ad : Nat → Nat → Nat) (gs : Nat → zM) : va_W := wX9 T ad (gs 0) ++ wX8 T (ad 1) (gs 1) ++ wX8 T (ad 2) (gs 2) ++ wX8 T (ad 3) (gs 3) ++ wX7 T (ad 4) (gs 4) ++ wX3 T (ad 5) (gs 5) ++ wX6 T (ad 6) (gs 6) ++ wX4 T (ad 7) (gs 7) ++ wX1 T (ad 8) (gs 8) ++ wX5 T (ad 9) (gs 9) ++ wX2 T (ad 10) (gs 10) ++ wX0 T (ad 11) (gs 11)
def wcX9 (q : Nat) : va_W := [(q, .inr (9, [.null, .null, .null, .int 0, .null, .null, .null, .null, .null, .null, .null, .null]))]
def rX9_init : Room := { frames := 6, cells := 69, slots := 915, locals := 300 }
set_option maxHeartbeats 8000000 in
set_option maxRecDepth 100000 in
theorem pX9_init (l : Launch) (D : va_G) (T : Nat → ClassId) (X : zFP) (q sz : Nat) : Met l yX9_init wsX9_init rX9_init (zPreN D T X [.ref q] (wcX9 q) sz) (zQn D T (fun u : (Nat → Nat → Nat) × (Nat → zM) => wAll T u.1 u.2) (fun u => u.1 0 0 = q ∧ u.2 0 = mX9 ∧ okX8 (u.2 1) ∧ okX8 (u.2 2) ∧ okX8 (u.2 3) ∧ okX7 (u.2 4) ∧ okX3 (u.2 5) ∧ okX6 (u.2 6) ∧ okX4 (u.2 7) ∧ okX1 (u.2 8) ∧ okX5 (u.2 9) ∧ okX2 (u.2 10) ∧ okX0 (u.2 11)) (wcX9 q) sz) 69 915 (va_A (wcX9 q) sz) := by
  refine zStartN [(0, .ref q)] (by decide) rfl (Nat.le_of_ble_eq_true rfl) rfl ?_
  intro p e s m args below meth c A Q ls hx hb hr hml hown hlocks hts hsz hA0 hQ hA hK hX hN hin hP hD hS hl
  replace hown : s.vm.findClass RX9 = some m.cls := hown
  replace hin : meth.name = "<init>" := hin
  have hiX8 : ∀ w ∈ u_ws RX8 TX8 14, w ∈ wsX9_init := fun w h => List.mem_cons_of_mem _ (List.mem_append_left _ (List.mem_append_left _ (List.mem_append_left _ (List.mem_append_left _ (List.mem_append_left _ (List.mem_append_left _ (List.mem_append_left _ (List.mem_append_left _ (List.mem_append_left _ (List.mem_append_right _ (h)))))))))))
  have hiX9 : ∀ w ∈ u_ws RX9 TX9 12, w ∈ wsX9_init := fun w h => List.mem_cons_of_mem _ (List.mem_append_left _ (List.mem_append_left _ (List.mem_append_left _ (List.mem_append_left _ (List.mem_append_left _ (List.mem_append_left _ (List.mem_append_left _ (List.mem_append_left _ (List.mem_append_right _ (h))))))))))
  have hiX7 : ∀ w ∈ u_ws RX7 TX7 6, w ∈ wsX9_init := fun w h => List.mem_cons_of_mem _ (List.mem_append_left _ (List.mem_append_left _ (List.mem_append_left _ (List.mem_append_left _ (List.mem_append_left _ (List.mem_append_left _ (List.mem_append_left _ (List.mem_append_right _ (h)))))))))
  have hiX3 : ∀ w ∈ u_ws RX3 TX3 1, w ∈ wsX9_init := fun w h => List.mem_cons_of_mem _ (List.mem_append_left _ (List.mem_append_left _ (List.mem_append_left _ (List.mem_append_left _ (List.mem_append_left _ (List.mem_append_left _ (List.mem_append_right _ (h))))))))
  have hiX6 : ∀ w ∈ u_ws RX6 TX6 3, w ∈ wsX9_init := fun w h => List.mem_cons_of_mem _ (List.mem_append_left _ (List.mem_append_left _ (List.mem_append_left _ (List.mem_append_left _ (List.mem_append_left _ (List.mem_append_right _ (h)))))))
  have hiX4 : ∀ w ∈ u_ws RX4 TX4 2, w ∈ wsX9_init := fun w h => List.mem_cons_of_mem _ (List.mem_append_left _ (List.mem_append_left _ (List.mem_append_left _ (List.mem_append_left _ (List.mem_append_right _ (h))))))
  have hiX1 : ∀ w ∈ u_ws RX1 TX1 2, w ∈ wsX9_init := fun w h => List.mem_cons_of_mem _ (List.mem_append_left _ (List.mem_append_left _ (List.mem_append_left _ (List.mem_append_right _ (h)))))
  have hiX5 : ∀ w ∈ u_ws RX5 TX5 2, w ∈ wsX9_init := fun w h => List.mem_cons_of_mem _ (List.mem_append_left _ (List.mem_append_left _ (List.mem_append_right _ (h))))
  have hiX2 : ∀ w ∈ u_ws RX2 TX2 6, w ∈ wsX9_init := fun w h => List.mem_cons_of_mem _ (List.mem_append_left _ (List.mem_append_right _ (h)))
  have hiX0 : ∀ w ∈ u_ws RX0 TX0 6, w ∈ wsX9_init := fun w h => List.mem_cons_of_mem _ (List.mem_append_right _ (h))
  obtain ⟨H, hHe⟩ : ∃ H : Heap, H = s.heap := ⟨_, rfl⟩
  obtain ⟨locs, hLe⟩ : ∃ L : List Loc, L = [] := ⟨_, rfl⟩
  replace hP : va_P D vwCl (wO q [.null, .null, .null, .int 0, .null, .null, .null, .null, .null, .null, .null, .null]) H := by rw [hHe]; exact hP
  replace hD : va_D A (wO q [.null, .null, .null, .int 0, .null, .null, .null, .null, .null, .null, .null, .null]) := hD
  replace hS : va_S A s.heap H locs := by rw [hHe, hLe]; exact hS
  suffices hgo : W p l e rX9_init s m args below meth c H locs 0 0 Q (F0 m 0 ls []) by rw [hHe, hLe] at hgo; exact hgo
  clear hHe hLe
  refine lv_aload_n hx hb dX9_init_0 rfl (lv_at hl 0 rfl) ?_
  refine W.objInit hx hb hown (hts _ (List.mem_of_getElem? (i := 1) rfl)) (hts _ (List.mem_of_getElem? (i := 2) rfl)) (hts _ (List.mem_of_getElem? (i := 3) rfl)) rfl (by rw [hml]; exact hl.1) rfl dX9_init_1 (Nat.le_of_ble_eq_true rfl) (Nat.le_of_ble_eq_true rfl) ?_
  refine W.eq (g2 := F0 m 4 ls []) rfl ?_
  refine lv_aload_n hx hb dX9_init_4 rfl (lv_at hl 0 rfl) ?_
  refine va_new (ci := 8) (fs := [.int 0, .null, .null, .int 0, .null, .null, .null, .null, .null, .int 0, .null, .null, .null, .int 0]) (C := RX8) (T := TX8) (N := 14) hx hb hts hiX8 tyX8 tyX8_ok hown (hts _ (List.mem_of_getElem? (i := 4) rfl)) (hts _ (List.mem_of_getElem? (i := 5) rfl)) (hts _ (List.mem_of_getElem? (i := 6) rfl)) hK hP hD hS hA rfl zDfX8 (Nat.le_of_ble_eq_true rfl) (Nat.le_of_ble_eq_true rfl) dX9_init_5 (fun q5 H hP hD hS => ?_)
  replace hP : va_P D vwCl (wO q [.null, .null, .null, .int 0, .null, .null, .null, .null, .null, .null, .null, .null] ++ wcX8 q5) H := hP
  replace hD : va_D A (wO q [.null, .null, .null, .int 0, .null, .null, .null, .null, .null, .null, .null, .null] ++ wcX8 q5) := hD
  refine W.widen (k := 1) (n := 14) (Nat.le_of_ble_eq_true rfl) (Nat.le_of_ble_eq_true rfl) ?_
  refine lv_dup hx hb dX9_init_8 rfl ?_
  refine zMkI (wr := wO q [.null, .null, .null, .int 0, .null, .null, .null, .null, .null, .null, .null, .null]) ⟨hx, hb, hml, hown, hts⟩ (pX8_init l D T X q5 H.size) (cwI 0 hts gX9_init_X8_init rfl rfl rfl (hts _ (List.mem_of_getElem? (i := 6) rfl)) (hts _ (List.mem_of_getElem? (i := 43) rfl)) (hts _ (List.mem_of_getElem? (i := 44) rfl)) rfl (by decide +kernel) ⟨Nat.le_of_ble_eq_true rfl, Nat.le_of_ble_eq_true rfl⟩) hK hP hD hS hA hX hN [1] [0] rfl rfl rfl hl.1 (Nat.le_of_ble_eq_true rfl) dX9_init_9 ⟨Nat.le_of_ble_eq_true rfl, Nat.le_of_ble_eq_true rfl⟩ (fun u5 H locs hu hP9 hD9 hS9 => ?_)
  obtain ⟨hq, ok5⟩ := hu
  clear hP hD hS
  subst hq
  have hP : va_P D vwCl (wO q [.null, .null, .null, .int 0, .null, .null, .null, .null, .null, .null, .null, .null] ++ wX8 T u5.1 u5.2) H := hP9
  have hD : va_D A (wO q [.null, .null, .null, .int 0, .null, .null, .null, .null, .null, .null, .null, .null] ++ wX8 T u5.1 u5.2) := hD9
  have hS := hS9
  clear hP9 hD9 hS9
  refine W.widen (k := 11) (n := 128) (Nat.le_of_ble_eq_true rfl) (Nat.le_of_ble_eq_true rfl) ?_
  refine va_putF (ci := 9) (v := .ref (u5.1 0)) (C := RX9) (T := TX9) (N := 12) hx hb hts hiX9 tyX9 tyX9_ok nmX9 hown hK hP hD hS 0 rfl rfl 0 (by decide) (hts _ (List.mem_of_getElem? (i := 7) rfl)) (fun _ h9 => h9) rfl hin rfl (tyX9_ok 0 (by decide)) rfl rfl (Nat.le_of_ble_eq_true rfl) dX9_init_12 (fun H locs hP hD hS => ?_)
  replace hP : va_P D vwCl (wO q [.ref (u5.1 0), .null, .null, .int 0, .null, .null, .null, .null, .null, .null, .null, .null] ++ wX8 T u5.1 u5.2) H := hP
  replace hD : va_D A (wO q [.ref (u5.1 0), .null, .null, .int 0, .null, .null, .null, .null, .null, .null, .null, .null] ++ wX8 T u5.1 u5.2) := hD
  refine lv_aload_n hx hb dX9_init_15 rfl (lv_at hl 0 rfl) ?_
  refine va_new (ci := 8) (fs := [.int 0, .null, .null, .int 0, .null, .null, .null, .null, .null, .int 0, .null, .null, .null, .int 0]) (C := RX8) (T := TX8) (N := 14) hx hb hts hiX8 tyX8 tyX8_ok hown (hts _ (List.mem_of_getElem? (i := 4) rfl)) (hts _ (List.mem_of_getElem? (i := 5) rfl)) (hts _ (List.mem_of_getElem? (i := 6) rfl)) hK hP hD hS hA rfl zDfX8 (Nat.le_of_ble_eq_true rfl) (Nat.le_of_ble_eq_true rfl) dX9_init_16 (fun q16 H hP hD hS => ?_)
  replace hP : va_P D vwCl (wO q [.ref (u5.1 0), .null, .null, .int 0, .null, .null, .null, .null, .null, .null, .null, .null] ++ wX8 T u5.1 u5.2 ++ wcX8 q16) H := hP
  replace hD : va_D A (wO q [.ref (u5.1 0), .null, .null, .int 0, .null, .null, .null, .null, .null, .null, .null, .null] ++ wX8 T u5.1 u5.2 ++ wcX8 q16) := hD
  refine W.widen (k := 12) (n := 142) (Nat.le_of_ble_eq_true rfl) (Nat.le_of_ble_eq_true rfl) ?_
  refine lv_dup hx hb dX9_init_19 rfl ?_
  refine zMkI (wr := wO q [.ref (u5.1 0), .null, .null, .int 0, .null, .null, .null, .null, .null, .null, .null, .null] ++ wX8 T u5.1 u5.2) ⟨hx, hb, hml, hown, hts⟩ (pX8_init l D T X q16 H.size) (cwI 0 hts gX9_init_X8_init rfl rfl rfl (hts _ (List.mem_of_getElem? (i := 6) rfl)) (hts _ (List.mem_of_getElem? (i := 43) rfl)) (hts _ (List.mem_of_getElem? (i := 44) rfl)) rfl (by decide +kernel) ⟨Nat.le_of_ble_eq_true rfl, Nat.le_of_ble_eq_true rfl⟩) hK hP hD hS hA hX hN [12] [0, 1, 2, 3, 4, 5, 6, 7, 8, 9, 10, 11] rfl rfl rfl hl.1 (Nat.le_of_ble_eq_true rfl) dX9_init_20 ⟨Nat.le_of_ble_eq_true rfl, Nat.le_of_ble_eq_true rfl⟩ (fun u16 H locs hu hP9 hD9 hS9 => ?_)
  obtain ⟨hq, ok16⟩ := hu
  clear hP hD hS
  subst hq
  have hP : va_P D vwCl (wO q [.ref (u5.1 0), .null, .null, .int 0, .null, .null, .null, .null, .null, .null, .null, .null] ++ wX8 T u5.1 u5.2 ++ wX8 T u16.1 u16.2) H := hP9
  have hD : va_D A (wO q [.ref (u5.1 0), .null, .null, .int 0, .null, .null, .null, .null, .null, .null, .null, .null] ++ wX8 T u5.1 u5.2 ++ wX8 T u16.1 u16.2) := hD9
  have hS := hS9
  clear hP9 hD9 hS9
  refine W.widen (k := 22) (n := 256) (Nat.le_of_ble_eq_true rfl) (Nat.le_of_ble_eq_true rfl) ?_
  refine va_putF (ci := 9) (v := .ref (u16.1 0)) (C := RX9) (T := TX9) (N := 12) hx hb hts hiX9 tyX9 tyX9_ok nmX9 hown hK hP hD hS 0 rfl rfl 1 (by decide) (hts _ (List.mem_of_getElem? (i := 8) rfl)) (fun _ h9 => h9) rfl hin rfl (tyX9_ok 1 (by decide)) rfl rfl (Nat.le_of_ble_eq_true rfl) dX9_init_23 (fun H locs hP hD hS => ?_)
  replace hP : va_P D vwCl (wO q [.ref (u5.1 0), .ref (u16.1 0), .null, .int 0, .null, .null, .null, .null, .null, .null, .null, .null] ++ wX8 T u5.1 u5.2 ++ wX8 T u16.1 u16.2) H := hP
  replace hD : va_D A (wO q [.ref (u5.1 0), .ref (u16.1 0), .null, .int 0, .null, .null, .null, .null, .null, .null, .null, .null] ++ wX8 T u5.1 u5.2 ++ wX8 T u16.1 u16.2) := hD
  refine lv_aload_n hx hb dX9_init_26 rfl (lv_at hl 0 rfl) ?_
  refine va_new (ci := 8) (fs := [.int 0, .null, .null, .int 0, .null, .null, .null, .null, .null, .int 0, .null, .null, .null, .int 0]) (C := RX8) (T := TX8) (N := 14) hx hb hts hiX8 tyX8 tyX8_ok hown (hts _ (List.mem_of_getElem? (i := 4) rfl)) (hts _ (List.mem_of_getElem? (i := 5) rfl)) (hts _ (List.mem_of_getElem? (i := 6) rfl)) hK hP hD hS hA rfl zDfX8 (Nat.le_of_ble_eq_true rfl) (Nat.le_of_ble_eq_true rfl) dX9_init_27 (fun q27 H hP hD hS => ?_)
  replace hP : va_P D vwCl (wO q [.ref (u5.1 0), .ref (u16.1 0), .null, .int 0, .null, .null, .null, .null, .null, .null, .null, .null] ++ wX8 T u5.1 u5.2 ++ wX8 T u16.1 u16.2 ++ wcX8 q27) H := hP
  replace hD : va_D A (wO q [.ref (u5.1 0), .ref (u16.1 0), .null, .int 0, .null, .null, .null, .null, .null, .null, .null, .null] ++ wX8 T u5.1 u5.2 ++ wX8 T u16.1 u16.2 ++ wcX8 q27) := hD
  refine W.widen (k := 23) (n := 270) (Nat.le_of_ble_eq_true rfl) (Nat.le_of_ble_eq_true rfl) ?_
  refine lv_dup hx hb dX9_init_30 rfl ?_
  refine zMkI (wr := wO q [.ref (u5.1 0), .ref (u16.1 0), .null, .int 0, .null, .null, .null, .null, .null, .null, .null, .null] ++ wX8 T u5.1 u5.2 ++ wX8 T u16.1 u16.2) ⟨hx, hb, hml, hown, hts⟩ (pX8_init l D T X q27 H.size) (cwI 0 hts gX9_init_X8_init rfl rfl rfl (hts _ (List.mem_of_getElem? (i := 6) rfl)) (hts _ (List.mem_of_getElem? (i := 43) rfl)) (hts _ (List.mem_of_getElem? (i := 44) rfl)) rfl (by decide +kernel) ⟨Nat.le_of_ble_eq_true rfl, Nat.le_of_ble_eq_true rfl⟩) hK hP hD hS hA hX hN [23] [0, 1, 2, 3, 4, 5, 6, 7, 8, 9, 10, 11, 12, 13, 14, 15, 16, 17, 18, 19, 20, 21, 22] rfl rfl rfl hl.1 (Nat.le_of_ble_eq_true rfl) dX9_init_31 ⟨Nat.le_of_ble_eq_true rfl, Nat.le_of_ble_eq_true rfl⟩ (fun u27 H locs hu hP9 hD9 hS9 => ?_)
  obtain ⟨hq, ok27⟩ := hu
  clear hP hD hS
  subst hq
  have hP : va_P D vwCl (wO q [.ref (u5.1 0), .ref (u16.1 0), .null, .int 0, .null, .null, .null, .null, .null, .null, .null, .null] ++ wX8 T u5.1 u5.2 ++ wX8 T u16.1 u16.2 ++ wX8 T u27.1 u27.2) H := hP9
  have hD : va_D A (wO q [.ref (u5.1 0), .ref (u16.1 0), .null, .int 0, .null, .null, .null, .null, .null, .null, .null, .null] ++ wX8 T u5.1 u5.2 ++ wX8 T u16.1 u16.2 ++ wX8 T u27.1 u27.2) := hD9
  have hS := hS9
  clear hP9 hD9 hS9
  refine W.widen (k := 33) (n := 384) (Nat.le_of_ble_eq_true rfl) (Nat.le_of_ble_eq_true rfl) ?_
  refine va_putF (ci := 9) (v := .ref (u27.1 0)) (C := RX9) (T := TX9) (N := 12) hx hb hts hiX9 tyX9 tyX9_ok nmX9 hown hK hP hD hS 0 rfl rfl 2 (by decide) (hts _ (List.mem_of_getElem? (i := 9) rfl)) (fun _ h9 => h9) rfl hin rfl (tyX9_ok 2 (by decide)) rfl rfl (Nat.le_of_ble_eq_true rfl) dX9_init_34 (fun H locs hP hD hS => ?_)
  replace hP : va_P D vwCl (wO q [.ref (u5.1 0), .ref (u16.1 0), .ref (u27.1 0), .int 0, .null, .null, .null, .null, .null, .null, .null, .null] ++ wX8 T u5.1 u5.2 ++ wX8 T u16.1 u16.2 ++ wX8 T u27.1 u27.2) H := hP
  replace hD : va_D A (wO q [.ref (u5.1 0), .ref (u16.1 0), .ref (u27.1 0), .int 0, .null, .null, .null, .null, .null, .null, .null, .null] ++ wX8 T u5.1 u5.2 ++ wX8 T u16.1 u16.2 ++ wX8 T u27.1 u27.2) := hD
  refine lv_aload_n hx hb dX9_init_37 rfl (lv_at hl 0 rfl) ?_
  refine lv_iconst (v := 0) hx hb dX9_init_38 (by decide) ?_
  refine va_put (ci := 9) (v := .int 0) (C := RX9) (T := TX9) (N := 12) hx hb hts hiX9 tyX9 tyX9_ok nmX9 hown hK hP hD hS 0 rfl rfl 3 (by decide) (hts _ (List.mem_of_getElem? (i := 10) rfl)) (fun _ h9 => h9) rfl (tyX9_ok 3 (by decide)) (by decide) (by decide) (Nat.le_of_ble_eq_true rfl) dX9_init_39 (fun H locs hP hD hS => ?_)
  replace hP : va_P D vwCl (wO q [.ref (u5.1 0), .ref (u16.1 0), .ref (u27.1 0), .int 0, .null, .null, .null, .null, .null, .null, .null, .null] ++ wX8 T u5.1 u5.2 ++ wX8 T u16.1 u16.2 ++ wX8 T u27.1 u27.2) H := hP
  replace hD : va_D A (wO q [.ref (u5.1 0), .ref (u16.1 0), .ref (u27.1 0), .int 0, .null, .null, .null, .null, .null, .null, .null, .null] ++ wX8 T u5.1 u5.2 ++ wX8 T u16.1 u16.2 ++ wX8 T u27.1 u27.2) := hD
  refine lv_aload_n hx hb dX9_init_42 rfl (lv_at hl 0 rfl) ?_
  refine va_new (ci := 7) (fs := [.null, .int 0, .int 0, .int 0, .int 0, .int 0]) (C := RX7) (T := TX7) (N := 6) hx hb hts hiX7 tyX7 tyX7_ok hown (hts _ (List.mem_of_getElem? (i := 11) rfl)) (hts _ (List.mem_of_getElem? (i := 12) rfl)) (hts _ (List.mem_of_getElem? (i := 13) rfl)) hK hP hD hS hA rfl zDfX7 (Nat.le_of_ble_eq_true rfl) (Nat.le_of_ble_eq_true rfl) dX9_init_43 (fun q43 H hP hD hS => ?_)
  replace hP : va_P D vwCl (wO q [.ref (u5.1 0), .ref (u16.1 0), .ref (u27.1 0), .int 0, .null, .null, .null, .null, .null, .null, .null, .null] ++ wX8 T u5.1 u5.2 ++ wX8 T u16.1 u16.2 ++ wX8 T u27.1 u27.2 ++ wcX7 q43) H := hP
  replace hD : va_D A (wO q [.ref (u5.1 0), .ref (u16.1 0), .ref (u27.1 0), .int 0, .null, .null, .null, .null, .null, .null, .null, .null] ++ wX8 T u5.1 u5.2 ++ wX8 T u16.1 u16.2 ++ wX8 T u27.1 u27.2 ++ wcX7 q43) := hD
  refine W.widen (k := 34) (n := 390) (Nat.le_of_ble_eq_true rfl) (Nat.le_of_ble_eq_true rfl) ?_
  refine lv_dup hx hb dX9_init_46 rfl ?_
  refine zMkN (wr := wO q [.ref (u5.1 0), .ref (u16.1 0), .ref (u27.1 0), .int 0, .null, .null, .null, .null, .null, .null, .null, .null] ++ wX8 T u5.1 u5.2 ++ wX8 T u16.1 u16.2 ++ wX8 T u27.1 u27.2) ⟨hx, hb, hml, hown, hts⟩ (pX7_init l D T X q43 H.size) ⟨va_cnB 0 hts gX9_init_X7_init_n28 rfl rfl rfl hN.2.1 (hts _ (List.mem_of_getElem? (i := 13) rfl)) (by decide +kernel) ⟨Nat.le_of_ble_eq_true rfl, Nat.le_of_ble_eq_true rfl⟩, rfl, (hts _ (List.mem_of_getElem? (i := 67) rfl))⟩ hK hP hD hS hA hX hN [34] [0, 1, 2, 3, 4, 5, 6, 7, 8, 9, 10, 11, 12, 13, 14, 15, 16, 17, 18, 19, 20, 21, 22, 23, 24, 25, 26, 27, 28, 29, 30, 31, 32, 33] rfl rfl rfl hl.1 (Nat.le_of_ble_eq_true rfl) dX9_init_47 ⟨Nat.le_of_ble_eq_true rfl, Nat.le_of_ble_eq_true rfl⟩ (fun u43 H locs hu hP9 hD9 hS9 => ?_)
  obtain ⟨hq, ok43⟩ := hu
  clear hP hD hS
  subst hq
  have hP : va_P D vwCl (wO q [.ref (u5.1 0), .ref (u16.1 0), .ref (u27.1 0), .int 0, .null, .null, .null, .null, .null, .null, .null, .null] ++ wX8 T u5.1 u5.2 ++ wX8 T u16.1 u16.2 ++ wX8 T u27.1 u27.2 ++ wX7 T u43.1 u43.2) H := hP9
  have hD : va_D A (wO q [.ref (u5.1 0), .ref (u16.1 0), .ref (u27.1 0), .int 0, .null, .null, .null, .null, .null, .null, .null, .null] ++ wX8 T u5.1 u5.2 ++ wX8 T u16.1 u16.2 ++ wX8 T u27.1 u27.2 ++ wX7 T u43.1 u43.2) := hD9
  have hS := hS9
  clear hP9 hD9 hS9
  refine W.widen (k := 35) (n := 590) (Nat.le_of_ble_eq_true rfl) (Nat.le_of_ble_eq_true rfl) ?_
  refine va_putF (ci := 9) (v := .ref (u43.1 0)) (C := RX9) (T := TX9) (N := 12) hx hb hts hiX9 tyX9 tyX9_ok nmX9 hown hK hP hD hS 0 rfl rfl 4 (by decide) (hts _ (List.mem_of_getElem? (i := 14) rfl)) (fun _ h9 => h9) rfl hin rfl (tyX9_ok 4 (by decide)) rfl rfl (Nat.le_of_ble_eq_true rfl) dX9_init_50 (fun H locs hP hD hS => ?_)
  replace hP : va_P D vwCl (wO q [.ref (u5.1 0), .ref (u16.1 0), .ref (u27.1 0), .int 0, .ref (u43.1 0), .null, .null, .null, .null, .null, .null, .null] ++ wX8 T u5.1 u5.2 ++ wX8 T u16.1 u16.2 ++ wX8 T u27.1 u27.2 ++ wX7 T u43.1 u43.2) H := hP
  replace hD : va_D A (wO q [.ref (u5.1 0), .ref (u16.1 0), .ref (u27.1 0), .int 0, .ref (u43.1 0), .null, .null, .null, .null, .null, .null, .null] ++ wX8 T u5.1 u5.2 ++ wX8 T u16.1 u16.2 ++ wX8 T u27.1 u27.2 ++ wX7 T u43.1 u43.2) := hD
  refine lv_aload_n hx hb dX9_init_53 rfl (lv_at hl 0 rfl) ?_
  refine va_new (ci := 3) (fs := [.null]) (C := RX3) (T := TX3) (N := 1) hx hb hts hiX3 tyX3 tyX3_ok hown (hts _ (List.mem_of_getElem? (i := 15) rfl)) (hts _ (List.mem_of_getElem? (i := 16) rfl)) (hts _ (List.mem_of_getElem? (i := 17) rfl)) hK hP hD hS hA rfl zDfX3 (Nat.le_of_ble_eq_true rfl) (Nat.le_of_ble_eq_true rfl) dX9_init_54 (fun q54 H hP hD hS => ?_)
  replace hP : va_P D vwCl (wO q [.ref (u5.1 0), .ref (u16.1 0), .ref (u27.1 0), .int 0, .ref (u43.1 0), .null, .null, .null, .null, .null, .null, .null] ++ wX8 T u5.1 u5.2 ++ wX8 T u16.1 u16.2 ++ wX8 T u27.1 u27.2 ++ wX7 T u43.1 u43.2 ++ wcX3 q54) H := hP
  replace hD : va_D A (wO q [.ref (u5.1 0), .ref (u16.1 0), .ref (u27.1 0), .int 0, .ref (u43.1 0), .null, .null, .null, .null, .null, .null, .null] ++ wX8 T u5.1 u5.2 ++ wX8 T u16.1 u16.2 ++ wX8 T u27.1 u27.2 ++ wX7 T u43.1 u43.2 ++ wcX3 q54) := hD
  refine W.widen (k := 36) (n := 591) (Nat.le_of_ble_eq_true rfl) (Nat.le_of_ble_eq_true rfl) ?_
  refine lv_dup hx hb dX9_init_57 rfl ?_
  refine zMkN (wr := wO q [.ref (u5.1 0), .ref (u16.1 0), .ref (u27.1 0), .int 0, .ref (u43.1 0), .null, .null, .null, .null, .null, .null, .null] ++ wX8 T u5.1 u5.2 ++ wX8 T u16.1 u16.2 ++ wX8 T u27.1 u27.2 ++ wX7 T u43.1 u43.2) ⟨hx, hb, hml, hown, hts⟩ (pX3_init l D T X q54 H.size) ⟨va_cnB 0 hts gX9_init_X3_init_n35 rfl rfl rfl hN.2.2.1 (hts _ (List.mem_of_getElem? (i := 17) rfl)) (by decide +kernel) ⟨Nat.le_of_ble_eq_true rfl, Nat.le_of_ble_eq_true rfl⟩, rfl, (hts _ (List.mem_of_getElem? (i := 77) rfl))⟩ hK hP hD hS hA hX hN [36] [0, 1, 2, 3, 4, 5, 6, 7, 8, 9, 10, 11, 12, 13, 14, 15, 16, 17, 18, 19, 20, 21, 22, 23, 24, 25, 26, 27, 28, 29, 30, 31, 32, 33, 34, 35] rfl rfl rfl hl.1 (Nat.le_of_ble_eq_true rfl) dX9_init_58 ⟨Nat.le_of_ble_eq_true rfl, Nat.le_of_ble_eq_true rfl⟩ (fun u54 H locs hu hP9 hD9 hS9 => ?_)
  obtain ⟨hq, ok54⟩ := hu
  clear hP hD hS
  subst hq
  have hP : va_P D vwCl (wO q [.ref (u5.1 0), .ref (u16.1 0), .ref (u27.1 0), .int 0, .ref (u43.1 0), .null, .null, .null, .null, .null, .null, .null] ++ wX8 T u5.1 u5.2 ++ wX8 T u16.1 u16.2 ++ wX8 T u27.1 u27.2 ++ wX7 T u43.1 u43.2 ++ wX3 T u54.1 u54.2) H := hP9
  have hD : va_D A (wO q [.ref (u5.1 0), .ref (u16.1 0), .ref (u27.1 0), .int 0, .ref (u43.1 0), .null, .null, .null, .null, .null, .null, .null] ++ wX8 T u5.1 u5.2 ++ wX8 T u16.1 u16.2 ++ wX8 T u27.1 u27.2 ++ wX7 T u43.1 u43.2 ++ wX3 T u54.1 u54.2) := hD9
  have hS := hS9
  clear hP9 hD9 hS9
  refine W.widen (k := 37) (n := 601) (Nat.le_of_ble_eq_true rfl) (Nat.le_of_ble_eq_true rfl) ?_
  refine va_putF (ci := 9) (v := .ref (u54.1 0)) (C := RX9) (T := TX9) (N := 12) hx hb hts hiX9 tyX9 tyX9_ok nmX9 hown hK hP hD hS 0 rfl rfl 5 (by decide) (hts _ (List.mem_of_getElem? (i := 18) rfl)) (fun _ h9 => h9) rfl hin rfl (tyX9_ok 5 (by decide)) rfl rfl (Nat.le_of_ble_eq_true rfl) dX9_init_61 (fun H locs hP hD hS => ?_)
  replace hP : va_P D vwCl (wO q [.ref (u5.1 0), .ref (u16.1 0), .ref (u27.1 0), .int 0, .ref (u43.1 0), .ref (u54.1 0), .null, .null, .null, .null, .null, .null] ++ wX8 T u5.1 u5.2 ++ wX8 T u16.1 u16.2 ++ wX8 T u27.1 u27.2 ++ wX7 T u43.1 u43.2 ++ wX3 T u54.1 u54.2) H := hP
  replace hD : va_D A (wO q [.ref (u5.1 0), .ref (u16.1 0), .ref (u27.1 0), .int 0, .ref (u43.1 0), .ref (u54.1 0), .null, .null, .null, .null, .null, .null] ++ wX8 T u5.1 u5.2 ++ wX8 T u16.1 u16.2 ++ wX8 T u27.1 u27.2 ++ wX7 T u43.1 u43.2 ++ wX3 T u54.1 u54.2) := hD
  refine lv_aload_n hx hb dX9_init_64 rfl (lv_at hl 0 rfl) ?_
  refine va_new (ci := 6) (fs := [.null, .int 0, .int 0]) (C := RX6) (T := TX6) (N := 3) hx hb hts hiX6 tyX6 tyX6_ok hown (hts _ (List.mem_of_getElem? (i := 19) rfl)) (hts _ (List.mem_of_getElem? (i := 20) rfl)) (hts _ (List.mem_of_getElem? (i := 21) rfl)) hK hP hD hS hA rfl zDfX6 (Nat.le_of_ble_eq_true rfl) (Nat.le_of_ble_eq_true rfl) dX9_init_65 (fun q65 H hP hD hS => ?_)
  replace hP : va_P D vwCl (wO q [.ref (u5.1 0), .ref (u16.1 0), .ref (u27.1 0), .int 0, .ref (u43.1 0), .ref (u54.1 0), .null, .null, .null, .null, .null, .null] ++ wX8 T u5.1 u5.2 ++ wX8 T u16.1 u16.2 ++ wX8 T u27.1 u27.2 ++ wX7 T u43.1 u43.2 ++ wX3 T u54.1 u54.2 ++ wcX6 q65) H := hP
  replace hD : va_D A (wO q [.ref (u5.1 0), .ref (u16.1 0), .ref (u27.1 0), .int 0, .ref (u43.1 0), .ref (u54.1 0), .null, .null, .null, .null, .null, .null] ++ wX8 T u5.1 u5.2 ++ wX8 T u16.1 u16.2 ++ wX8 T u27.1 u27.2 ++ wX7 T u43.1 u43.2 ++ wX3 T u54.1 u54.2 ++ wcX6 q65) := hD
  refine W.widen (k := 38) (n := 604) (Nat.le_of_ble_eq_true rfl) (Nat.le_of_ble_eq_true rfl) ?_
  refine lv_dup hx hb dX9_init_68 rfl ?_
  refine zMkN (wr := wO q [.ref (u5.1 0), .ref (u16.1 0), .ref (u27.1 0), .int 0, .ref (u43.1 0), .ref (u54.1 0), .null, .null, .null, .null, .null, .null] ++ wX8 T u5.1 u5.2 ++ wX8 T u16.1 u16.2 ++ wX8 T u27.1 u27.2 ++ wX7 T u43.1 u43.2 ++ wX3 T u54.1 u54.2) ⟨hx, hb, hml, hown, hts⟩ (pX6_init l D T X q65 H.size) ⟨va_cnB 0 hts gX9_init_X6_init_n42 rfl rfl rfl hN.2.2.2.1 (hts _ (List.mem_of_getElem? (i := 21) rfl)) (by decide +kernel) ⟨Nat.le_of_ble_eq_true rfl, Nat.le_of_ble_eq_true rfl⟩, rfl, (hts _ (List.mem_of_getElem? (i := 81) rfl))⟩ hK hP hD hS hA hX hN [38] [0, 1, 2, 3, 4, 5, 6, 7, 8, 9, 10, 11, 12, 13, 14, 15, 16, 17, 18, 19, 20, 21, 22, 23, 24, 25, 26, 27, 28, 29, 30, 31, 32, 33, 34, 35, 36, 37] rfl rfl rfl hl.1 (Nat.le_of_ble_eq_true rfl) dX9_init_69 ⟨Nat.le_of_ble_eq_true rfl, Nat.le_of_ble_eq_true rfl⟩ (fun u65 H locs hu hP9 hD9 hS9 => ?_)
  obtain ⟨hq, ok65⟩ := hu
  clear hP hD hS
  subst hq
  have hP : va_P D vwCl (wO q [.ref (u5.1 0), .ref (u16.1 0), .ref (u27.1 0), .int 0, .ref (u43.1 0), .ref (u54.1 0), .null, .null, .null, .null, .null, .null] ++ wX8 T u5.1 u5.2 ++ wX8 T u16.1 u16.2 ++ wX8 T u27.1 u27.2 ++ wX7 T u43.1 u43.2 ++ wX3 T u54.1 u54.2 ++ wX6 T u65.1 u65.2) H := hP9
  have hD : va_D A (wO q [.ref (u5.1 0), .ref (u16.1 0), .ref (u27.1 0), .int 0, .ref (u43.1 0), .ref (u54.1 0), .null, .null, .null, .null, .null, .null] ++ wX8 T u5.1 u5.2 ++ wX8 T u16.1 u16.2 ++ wX8 T u27.1 u27.2 ++ wX7 T u43.1 u43.2 ++ wX3 T u54.1 u54.2 ++ wX6 T u65.1 u65.2) := hD9
  have hS := hS9
  clear hP9 hD9 hS9
  refine W.widen (k := 39) (n := 613) (Nat.le_of_ble_eq_true rfl) (Nat.le_of_ble_eq_true rfl) ?_
  refine va_putF (ci := 9) (v := .ref (u65.1 0)) (C := RX9) (T := TX9) (N := 12) hx hb hts hiX9 tyX9 tyX9_ok nmX9 hown hK hP hD hS 0 rfl rfl 6 (by decide) (hts _ (List.mem_of_getElem? (i := 22) rfl)) (fun _ h9 => h9) rfl hin rfl (tyX9_ok 6 (by decide)) rfl rfl (Nat.le_of_ble_eq_true rfl) dX9_init_72 (fun H locs hP hD hS => ?_)
  replace hP : va_P D vwCl (wO q [.ref (u5.1 0), .ref (u16.1 0), .ref (u27.1 0), .int 0, .ref (u43.1 0), .ref (u54.1 0), .ref (u65.1 0), .null, .null, .null, .null, .null] ++ wX8 T u5.1 u5.2 ++ wX8 T u16.1 u16.2 ++ wX8 T u27.1 u27.2 ++ wX7 T u43.1 u43.2 ++ wX3 T u54.1 u54.2 ++ wX6 T u65.1 u65.2) H := hP
  replace hD : va_D A (wO q [.ref (u5.1 0), .ref (u16.1 0), .ref (u27.1 0), .int 0, .ref (u43.1 0), .ref (u54.1 0), .ref (u65.1 0), .null, .null, .null, .null, .null] ++ wX8 T u5.1 u5.2 ++ wX8 T u16.1 u16.2 ++ wX8 T u27.1 u27.2 ++ wX7 T u43.1 u43.2 ++ wX3 T u54.1 u54.2 ++ wX6 T u65.1 u65.2) := hD
  refine lv_aload_n hx hb dX9_init_75 rfl (lv_at hl 0 rfl) ?_
  refine va_new (ci := 4) (fs := [.null, .int 0]) (C := RX4) (T := TX4) (N := 2) hx hb hts hiX4 tyX4 tyX4_ok hown (hts _ (List.mem_of_getElem? (i := 23) rfl)) (hts _ (List.mem_of_getElem? (i := 24) rfl)) (hts _ (List.mem_of_getElem? (i := 25) rfl)) hK hP hD hS hA rfl zDfX4 (Nat.le_of_ble_eq_true rfl) (Nat.le_of_ble_eq_true rfl) dX9_init_76 (fun q76 H hP hD hS => ?_)
  replace hP : va_P D vwCl (wO q [.ref (u5.1 0), .ref (u16.1 0), .ref (u27.1 0), .int 0, .ref (u43.1 0), .ref (u54.1 0), .ref (u65.1 0), .null, .null, .null, .null, .null] ++ wX8 T u5.1 u5.2 ++ wX8 T u16.1 u16.2 ++ wX8 T u27.1 u27.2 ++ wX7 T u43.1 u43.2 ++ wX3 T u54.1 u54.2 ++ wX6 T u65.1 u65.2 ++ wcX4 q76) H := hP
  replace hD : va_D A (wO q [.ref (u5.1 0), .ref (u16.1 0), .ref (u27.1 0), .int 0, .ref (u43.1 0), .ref (u54.1 0), .ref (u65.1 0), .null, .null, .null, .null, .null] ++ wX8 T u5.1 u5.2 ++ wX8 T u16.1 u16.2 ++ wX8 T u27.1 u27.2 ++ wX7 T u43.1 u43.2 ++ wX3 T u54.1 u54.2 ++ wX6 T u65.1 u65.2 ++ wcX4 q76) := hD
  refine W.widen (k := 40) (n := 615) (Nat.le_of_ble_eq_true rfl) (Nat.le_of_ble_eq_true rfl) ?_
  refine lv_dup hx hb dX9_init_79 rfl ?_
  refine zMkN (wr := wO q [.ref (u5.1 0), .ref (u16.1 0), .ref (u27.1 0), .int 0, .ref (u43.1 0), .ref (u54.1 0), .ref (u65.1 0), .null, .null, .null, .null, .null] ++ wX8 T u5.1 u5.2 ++ wX8 T u16.1 u16.2 ++ wX8 T u27.1 u27.2 ++ wX7 T u43.1 u43.2 ++ wX3 T u54.1 u54.2 ++ wX6 T u65.1 u65.2) ⟨hx, hb, hml, hown, hts⟩ (pX4_init l D T X q76 H.size) ⟨va_cnB 0 hts gX9_init_X4_init_n49 rfl rfl rfl hN.2.2.2.2.1 (hts _ (List.mem_of_getElem? (i := 25) rfl)) (by decide +kernel) ⟨Nat.le_of_ble_eq_true rfl, Nat.le_of_ble_eq_true rfl⟩, rfl, (hts _ (List.mem_of_getElem? (i := 87) rfl))⟩ hK hP hD hS hA hX hN [40] [0, 1, 2, 3, 4, 5, 6, 7, 8, 9, 10, 11, 12, 13, 14, 15, 16, 17, 18, 19, 20, 21, 22, 23, 24, 25, 26, 27, 28, 29, 30, 31, 32, 33, 34, 35, 36, 37, 38, 39] rfl rfl rfl hl.1 (Nat.le_of_ble_eq_true rfl) dX9_init_80 ⟨Nat.le_of_ble_eq_true rfl, Nat.le_of_ble_eq_true rfl⟩ (fun u76 H locs hu hP9 hD9 hS9 => ?_)
  obtain ⟨hq, ok76⟩ := hu
  clear hP hD hS
  subst hq
  have hP : va_P D vwCl (wO q [.ref (u5.1 0), .ref (u16.1 0), .ref (u27.1 0), .int 0, .ref (u43.1 0), .ref (u54.1 0), .ref (u65.1 0), .null, .null, .null, .null, .null] ++ wX8 T u5.1 u5.2 ++ wX8 T u16.1 u16.2 ++ wX8 T u27.1 u27.2 ++ wX7 T u43.1 u43.2 ++ wX3 T u54.1 u54.2 ++ wX6 T u65.1 u65.2 ++ wX4 T u76.1 u76.2) H := hP9
  have hD : va_D A (wO q [.ref (u5.1 0), .ref (u16.1 0), .ref (u27.1 0), .int 0, .ref (u43.1 0), .ref (u54.1 0), .ref (u65.1 0), .null, .null, .null, .null, .null] ++ wX8 T u5.1 u5.2 ++ wX8 T u16.1 u16.2 ++ wX8 T u27.1 u27.2 ++ wX7 T u43.1 u43.2 ++ wX3 T u54.1 u54.2 ++ wX6 T u65.1 u65.2 ++ wX4 T u76.1 u76.2) := hD9
  have hS := hS9
  clear hP9 hD9 hS9
  refine W.widen (k := 41) (n := 625) (Nat.le_of_ble_eq_true rfl) (Nat.le_of_ble_eq_true rfl) ?_
  refine va_putF (ci := 9) (v := .ref (u76.1 0)) (C := RX9) (T := TX9) (N := 12) hx hb hts hiX9 tyX9 tyX9_ok nmX9 hown hK hP hD hS 0 rfl rfl 7 (by decide) (hts _ (List.mem_of_getElem? (i := 26) rfl)) (fun _ h9 => h9) rfl hin rfl (tyX9_ok 7 (by decide)) rfl rfl (Nat.le_of_ble_eq_true rfl) dX9_init_83 (fun H locs hP hD hS => ?_)
  replace hP : va_P D vwCl (wO q [.ref (u5.1 0), .ref (u16.1 0), .ref (u27.1 0), .int 0, .ref (u43.1 0), .ref (u54.1 0), .ref (u65.1 0), .ref (u76.1 0), .null, .null, .null, .null] ++ wX8 T u5.1 u5.2 ++ wX8 T u16.1 u16.2 ++ wX8 T u27.1 u27.2 ++ wX7 T u43.1 u43.2 ++ wX3 T u54.1 u54.2 ++ wX6 T u65.1 u65.2 ++ wX4 T u76.1 u76.2) H := hP
  replace hD : va_D A (wO q [.ref (u5.1 0), .ref (u16.1 0), .ref (u27.1 0), .int 0, .ref (u43.1 0), .ref (u54.1 0), .ref (u65.1 0), .ref (u76.1 0), .null, .null, .null, .null] ++ wX8 T u5.1 u5.2 ++ wX8 T u16.1 u16.2 ++ wX8 T u27.1 u27.2 ++ wX7 T u43.1 u43.2 ++ wX3 T u54.1 u54.2 ++ wX6 T u65.1 u65.2 ++ wX4 T u76.1 u76.2) := hD
  refine lv_aload_n hx hb dX9_init_86 rfl (lv_at hl 0 rfl) ?_
  refine va_new (ci := 1) (fs := [.null, .null]) (C := RX1) (T := TX1) (N := 2) hx hb hts hiX1 tyX1 tyX1_ok hown (hts _ (List.mem_of_getElem? (i := 27) rfl)) (hts _ (List.mem_of_getElem? (i := 28) rfl)) (hts _ (List.mem_of_getElem? (i := 29) rfl)) hK hP hD hS hA rfl zDfX1 (Nat.le_of_ble_eq_true rfl) (Nat.le_of_ble_eq_true rfl) dX9_init_87 (fun q87 H hP hD hS => ?_)
  replace hP : va_P D vwCl (wO q [.ref (u5.1 0), .ref (u16.1 0), .ref (u27.1 0), .int 0, .ref (u43.1 0), .ref (u54.1 0), .ref (u65.1 0), .ref (u76.1 0), .null, .null, .null, .null] ++ wX8 T u5.1 u5.2 ++ wX8 T u16.1 u16.2 ++ wX8 T u27.1 u27.2 ++ wX7 T u43.1 u43.2 ++ wX3 T u54.1 u54.2 ++ wX6 T u65.1 u65.2 ++ wX4 T u76.1 u76.2 ++ wcX1 q87) H := hP
  replace hD : va_D A (wO q [.ref (u5.1 0), .ref (u16.1 0), .ref (u27.1 0), .int 0, .ref (u43.1 0), .ref (u54.1 0), .ref (u65.1 0), .ref (u76.1 0), .null, .null, .null, .null] ++ wX8 T u5.1 u5.2 ++ wX8 T u16.1 u16.2 ++ wX8 T u27.1 u27.2 ++ wX7 T u43.1 u43.2 ++ wX3 T u54.1 u54.2 ++ wX6 T u65.1 u65.2 ++ wX4 T u76.1 u76.2 ++ wcX1 q87) := hD
  refine W.widen (k := 42) (n := 627) (Nat.le_of_ble_eq_true rfl) (Nat.le_of_ble_eq_true rfl) ?_
  refine lv_dup hx hb dX9_init_90 rfl ?_
  refine zMkN (wr := wO q [.ref (u5.1 0), .ref (u16.1 0), .ref (u27.1 0), .int 0, .ref (u43.1 0), .ref (u54.1 0), .ref (u65.1 0), .ref (u76.1 0), .null, .null, .null, .null] ++ wX8 T u5.1 u5.2 ++ wX8 T u16.1 u16.2 ++ wX8 T u27.1 u27.2 ++ wX7 T u43.1 u43.2 ++ wX3 T u54.1 u54.2 ++ wX6 T u65.1 u65.2 ++ wX4 T u76.1 u76.2) ⟨hx, hb, hml, hown, hts⟩ (pX1_init l D T X q87 H.size) ⟨va_cnB 0 hts gX9_init_X1_init_n56 rfl rfl rfl hN.2.2.2.2.2.1 (hts _ (List.mem_of_getElem? (i := 29) rfl)) (by decide +kernel) ⟨Nat.le_of_ble_eq_true rfl, Nat.le_of_ble_eq_true rfl⟩, rfl, (hts _ (List.mem_of_getElem? (i := 92) rfl))⟩ hK hP hD hS hA hX hN [42] [0, 1, 2, 3, 4, 5, 6, 7, 8, 9, 10, 11, 12, 13, 14, 15, 16, 17, 18, 19, 20, 21, 22, 23, 24, 25, 26, 27, 28, 29, 30, 31, 32, 33, 34, 35, 36, 37, 38, 39, 40, 41] rfl rfl rfl hl.1 (Nat.le_of_ble_eq_true rfl) dX9_init_91 ⟨Nat.le_of_ble_eq_true rfl, Nat.le_of_ble_eq_true rfl⟩ (fun u87 H locs hu hP9 hD9 hS9 => ?_)
  obtain ⟨hq, ok87⟩ := hu
  clear hP hD hS
  subst hq
  have hP : va_P D vwCl (wO q [.ref (u5.1 0), .ref (u16.1 0), .ref (u27.1 0), .int 0, .ref (u43.1 0), .ref (u54.1 0), .ref (u65.1 0), .ref (u76.1 0), .null, .null, .null, .null] ++ wX8 T u5.1 u5.2 ++ wX8 T u16.1 u16.2 ++ wX8 T u27.1 u27.2 ++ wX7 T u43.1 u43.2 ++ wX3 T u54.1 u54.2 ++ wX6 T u65.1 u65.2 ++ wX4 T u76.1 u76.2 ++ wX1 T u87.1 u87.2) H := hP9
  have hD : va_D A (wO q [.ref (u5.1 0), .ref (u16.1 0), .ref (u27.1 0), .int 0, .ref (u43.1 0), .ref (u54.1 0), .ref (u65.1 0), .ref (u76.1 0), .null, .null, .null, .null] ++ wX8 T u5.1 u5.2 ++ wX8 T u16.1 u16.2 ++ wX8 T u27.1 u27.2 ++ wX7 T u43.1 u43.2 ++ wX3 T u54.1 u54.2 ++ wX6 T u65.1 u65.2 ++ wX4 T u76.1 u76.2 ++ wX1 T u87.1 u87.2) := hD9
  have hS := hS9
  clear hP9 hD9 hS9
  refine W.widen (k := 44) (n := 647) (Nat.le_of_ble_eq_true rfl) (Nat.le_of_ble_eq_true rfl) ?_
  refine va_putF (ci := 9) (v := .ref (u87.1 0)) (C := RX9) (T := TX9) (N := 12) hx hb hts hiX9 tyX9 tyX9_ok nmX9 hown hK hP hD hS 0 rfl rfl 8 (by decide) (hts _ (List.mem_of_getElem? (i := 30) rfl)) (fun _ h9 => h9) rfl hin rfl (tyX9_ok 8 (by decide)) rfl rfl (Nat.le_of_ble_eq_true rfl) dX9_init_94 (fun H locs hP hD hS => ?_)
  replace hP : va_P D vwCl (wO q [.ref (u5.1 0), .ref (u16.1 0), .ref (u27.1 0), .int 0, .ref (u43.1 0), .ref (u54.1 0), .ref (u65.1 0), .ref (u76.1 0), .ref (u87.1 0), .null, .null, .null] ++ wX8 T u5.1 u5.2 ++ wX8 T u16.1 u16.2 ++ wX8 T u27.1 u27.2 ++ wX7 T u43.1 u43.2 ++ wX3 T u54.1 u54.2 ++ wX6 T u65.1 u65.2 ++ wX4 T u76.1 u76.2 ++ wX1 T u87.1 u87.2) H := hP
  replace hD : va_D A (wO q [.ref (u5.1 0), .ref (u16.1 0), .ref (u27.1 0), .int 0, .ref (u43.1 0), .ref (u54.1 0), .ref (u65.1 0), .ref (u76.1 0), .ref (u87.1 0), .null, .null, .null] ++ wX8 T u5.1 u5.2 ++ wX8 T u16.1 u16.2 ++ wX8 T u27.1 u27.2 ++ wX7 T u43.1 u43.2 ++ wX3 T u54.1 u54.2 ++ wX6 T u65.1 u65.2 ++ wX4 T u76.1 u76.2 ++ wX1 T u87.1 u87.2) := hD
  refine lv_aload_n hx hb dX9_init_97 rfl (lv_at hl 0 rfl) ?_
  refine va_new (ci := 5) (fs := [.null, .int 0]) (C := RX5) (T := TX5) (N := 2) hx hb hts hiX5 tyX5 tyX5_ok hown (hts _ (List.mem_of_getElem? (i := 31) rfl)) (hts _ (List.mem_of_getElem? (i := 32) rfl)) (hts _ (List.mem_of_getElem? (i := 33) rfl)) hK hP hD hS hA rfl zDfX5 (Nat.le_of_ble_eq_true rfl) (Nat.le_of_ble_eq_true rfl) dX9_init_98 (fun q98 H hP hD hS => ?_)
  replace hP : va_P D vwCl (wO q [.ref (u5.1 0), .ref (u16.1 0), .ref (u27.1 0), .int 0, .ref (u43.1 0), .ref (u54.1 0), .ref (u65.1 0), .ref (u76.1 0), .ref (u87.1 0), .null, .null, .null] ++ wX8 T u5.1 u5.2 ++ wX8 T u16.1 u16.2 ++ wX8 T u27.1 u27.2 ++ wX7 T u43.1 u43.2 ++ wX3 T u54.1 u54.2 ++ wX6 T u65.1 u65.2 ++ wX4 T u76.1 u76.2 ++ wX1 T u87.1 u87.2 ++ wcX5 q98) H := hP
  replace hD : va_D A (wO q [.ref (u5.1 0), .ref (u16.1 0), .ref (u27.1 0), .int 0, .ref (u43.1 0), .ref (u54.1 0), .ref (u65.1 0), .ref (u76.1 0), .ref (u87.1 0), .null, .null, .null] ++ wX8 T u5.1 u5.2 ++ wX8 T u16.1 u16.2 ++ wX8 T u27.1 u27.2 ++ wX7 T u43.1 u43.2 ++ wX3 T u54.1 u54.2 ++ wX6 T u65.1 u65.2 ++ wX4 T u76.1 u76.2 ++ wX1 T u87.1 u87.2 ++ wcX5 q98) := hD
  refine W.widen (k := 45) (n := 649) (Nat.le_of_ble_eq_true rfl) (Nat.le_of_ble_eq_true rfl) ?_
  refine lv_dup hx hb dX9_init_101 rfl ?_
  refine zMkN (wr := wO q [.ref (u5.1 0), .ref (u16.1 0), .ref (u27.1 0), .int 0, .ref (u43.1 0), .ref (u54.1 0), .ref (u65.1 0), .ref (u76.1 0), .ref (u87.1 0), .null, .null, .null] ++ wX8 T u5.1 u5.2 ++ wX8 T u16.1 u16.2 ++ wX8 T u27.1 u27.2 ++ wX7 T u43.1 u43.2 ++ wX3 T u54.1 u54.2 ++ wX6 T u65.1 u65.2 ++ wX4 T u76.1 u76.2 ++ wX1 T u87.1 u87.2) ⟨hx, hb, hml, hown, hts⟩ (pX5_init l D T X q98 H.size) ⟨va_cnB 0 hts gX9_init_X5_init_n63 rfl rfl rfl hN.2.2.2.2.2.2.1 (hts _ (List.mem_of_getElem? (i := 33) rfl)) (by decide +kernel) ⟨Nat.le_of_ble_eq_true rfl, Nat.le_of_ble_eq_true rfl⟩, rfl, (hts _ (List.mem_of_getElem? (i := 97) rfl))⟩ hK hP hD hS hA hX hN [45] [0, 1, 2, 3, 4, 5, 6, 7, 8, 9, 10, 11, 12, 13, 14, 15, 16, 17, 18, 19, 20, 21, 22, 23, 24, 25, 26, 27, 28, 29, 30, 31, 32, 33, 34, 35, 36, 37, 38, 39, 40, 41, 42, 43, 44] rfl rfl rfl hl.1 (Nat.le_of_ble_eq_true rfl) dX9_init_102 ⟨Nat.le_of_ble_eq_true rfl, Nat.le_of_ble_eq_true rfl⟩ (fun u98 H locs hu hP9 hD9 hS9 => ?_)
  obtain ⟨hq, ok98⟩ := hu
  clear hP hD hS
  subst hq
  have hP : va_P D vwCl (wO q [.ref (u5.1 0), .ref (u16.1 0), .ref (u27.1 0), .int 0, .ref (u43.1 0), .ref (u54.1 0), .ref (u65.1 0), .ref (u76.1 0), .ref (u87.1 0), .null, .null, .null] ++ wX8 T u5.1 u5.2 ++ wX8 T u16.1 u16.2 ++ wX8 T u27.1 u27.2 ++ wX7 T u43.1 u43.2 ++ wX3 T u54.1 u54.2 ++ wX6 T u65.1 u65.2 ++ wX4 T u76.1 u76.2 ++ wX1 T u87.1 u87.2 ++ wX5 T u98.1 u98.2) H := hP9
  have hD : va_D A (wO q [.ref (u5.1 0), .ref (u16.1 0), .ref (u27.1 0), .int 0, .ref (u43.1 0), .ref (u54.1 0), .ref (u65.1 0), .ref (u76.1 0), .ref (u87.1 0), .null, .null, .null] ++ wX8 T u5.1 u5.2 ++ wX8 T u16.1 u16.2 ++ wX8 T u27.1 u27.2 ++ wX7 T u43.1 u43.2 ++ wX3 T u54.1 u54.2 ++ wX6 T u65.1 u65.2 ++ wX4 T u76.1 u76.2 ++ wX1 T u87.1 u87.2 ++ wX5 T u98.1 u98.2) := hD9
  have hS := hS9
  clear hP9 hD9 hS9
  refine W.widen (k := 56) (n := 689) (Nat.le_of_ble_eq_true rfl) (Nat.le_of_ble_eq_true rfl) ?_
  refine va_putF (ci := 9) (v := .ref (u98.1 0)) (C := RX9) (T := TX9) (N := 12) hx hb hts hiX9 tyX9 tyX9_ok nmX9 hown hK hP hD hS 0 rfl rfl 9 (by decide) (hts _ (List.mem_of_getElem? (i := 34) rfl)) (fun _ h9 => h9) rfl hin rfl (tyX9_ok 9 (by decide)) rfl rfl (Nat.le_of_ble_eq_true rfl) dX9_init_105 (fun H locs hP hD hS => ?_)
  replace hP : va_P D vwCl (wO q [.ref (u5.1 0), .ref (u16.1 0), .ref (u27.1 0), .int 0, .ref (u43.1 0), .ref (u54.1 0), .ref (u65.1 0), .ref (u76.1 0), .ref (u87.1 0), .ref (u98.1 0), .null, .null] ++ wX8 T u5.1 u5.2 ++ wX8 T u16.1 u16.2 ++ wX8 T u27.1 u27.2 ++ wX7 T u43.1 u43.2 ++ wX3 T u54.1 u54.2 ++ wX6 T u65.1 u65.2 ++ wX4 T u76.1 u76.2 ++ wX1 T u87.1 u87.2 ++ wX5 T u98.1 u98.2) H := hP
  replace hD : va_D A (wO q [.ref (u5.1 0), .ref (u16.1 0), .ref (u27.1 0), .int 0, .ref (u43.1 0), .ref (u54.1 0), .ref (u65.1 0), .ref (u76.1 0), .ref (u87.1 0), .ref (u98.1 0), .null, .null] ++ wX8 T u5.1 u5.2 ++ wX8 T u16.1 u16.2 ++ wX8 T u27.1 u27.2 ++ wX7 T u43.1 u43.2 ++ wX3 T u54.1 u54.2 ++ wX6 T u65.1 u65.2 ++ wX4 T u76.1 u76.2 ++ wX1 T u87.1 u87.2 ++ wX5 T u98.1 u98.2) := hD
  refine lv_aload_n hx hb dX9_init_108 rfl (lv_at hl 0 rfl) ?_
  refine va_new (ci := 2) (fs := [.null, .null, .null, .null, .null, .null]) (C := RX2) (T := TX2) (N := 6) hx hb hts hiX2 tyX2 tyX2_ok hown (hts _ (List.mem_of_getElem? (i := 35) rfl)) (hts _ (List.mem_of_getElem? (i := 36) rfl)) (hts _ (List.mem_of_getElem? (i := 37) rfl)) hK hP hD hS hA rfl zDfX2 (Nat.le_of_ble_eq_true rfl) (Nat.le_of_ble_eq_true rfl) dX9_init_109 (fun q109 H hP hD hS => ?_)
  replace hP : va_P D vwCl (wO q [.ref (u5.1 0), .ref (u16.1 0), .ref (u27.1 0), .int 0, .ref (u43.1 0), .ref (u54.1 0), .ref (u65.1 0), .ref (u76.1 0), .ref (u87.1 0), .ref (u98.1 0), .null, .null] ++ wX8 T u5.1 u5.2 ++ wX8 T u16.1 u16.2 ++ wX8 T u27.1 u27.2 ++ wX7 T u43.1 u43.2 ++ wX3 T u54.1 u54.2 ++ wX6 T u65.1 u65.2 ++ wX4 T u76.1 u76.2 ++ wX1 T u87.1 u87.2 ++ wX5 T u98.1 u98.2 ++ wcX2 q109) H := hP
  replace hD : va_D A (wO q [.ref (u5.1 0), .ref (u16.1 0), .ref (u27.1 0), .int 0, .ref (u43.1 0), .ref (u54.1 0), .ref (u65.1 0), .ref (u76.1 0), .ref (u87.1 0), .ref (u98.1 0), .null, .null] ++ wX8 T u5.1 u5.2 ++ wX8 T u16.1 u16.2 ++ wX8 T u27.1 u27.2 ++ wX7 T u43.1 u43.2 ++ wX3 T u54.1 u54.2 ++ wX6 T u65.1 u65.2 ++ wX4 T u76.1 u76.2 ++ wX1 T u87.1 u87.2 ++ wX5 T u98.1 u98.2 ++ wcX2 q109) := hD
  refine W.widen (k := 57) (n := 695) (Nat.le_of_ble_eq_true rfl) (Nat.le_of_ble_eq_true rfl) ?_
  refine lv_dup hx hb dX9_init_112 rfl ?_
  refine zMkN (wr := wO q [.ref (u5.1 0), .ref (u16.1 0), .ref (u27.1 0), .int 0, .ref (u43.1 0), .ref (u54.1 0), .ref (u65.1 0), .ref (u76.1 0), .ref (u87.1 0), .ref (u98.1 0), .null, .null] ++ wX8 T u5.1 u5.2 ++ wX8 T u16.1 u16.2 ++ wX8 T u27.1 u27.2 ++ wX7 T u43.1 u43.2 ++ wX3 T u54.1 u54.2 ++ wX6 T u65.1 u65.2 ++ wX4 T u76.1 u76.2 ++ wX1 T u87.1 u87.2 ++ wX5 T u98.1 u98.2) ⟨hx, hb, hml, hown, hts⟩ (pX2_init l D T X q109 H.size) ⟨va_cnB 0 hts gX9_init_X2_init_n70 rfl rfl rfl hN.2.2.2.2.2.2.2.1 (hts _ (List.mem_of_getElem? (i := 37) rfl)) (by decide +kernel) ⟨Nat.le_of_ble_eq_true rfl, Nat.le_of_ble_eq_true rfl⟩, rfl, (hts _ (List.mem_of_getElem? (i := 103) rfl))⟩ hK hP hD hS hA hX hN [57] [0, 1, 2, 3, 4, 5, 6, 7, 8, 9, 10, 11, 12, 13, 14, 15, 16, 17, 18, 19, 20, 21, 22, 23, 24, 25, 26, 27, 28, 29, 30, 31, 32, 33, 34, 35, 36, 37, 38, 39, 40, 41, 42, 43, 44, 45, 46, 47, 48, 49, 50, 51, 52, 53, 54, 55, 56] rfl rfl rfl hl.1 (Nat.le_of_ble_eq_true rfl) dX9_init_113 ⟨Nat.le_of_ble_eq_true rfl, Nat.le_of_ble_eq_true rfl⟩ (fun u109 H locs hu hP9 hD9 hS9 => ?_)
  obtain ⟨hq, ok109⟩ := hu
  clear hP hD hS
  subst hq
  have hP : va_P D vwCl (wO q [.ref (u5.1 0), .ref (u16.1 0), .ref (u27.1 0), .int 0, .ref (u43.1 0), .ref (u54.1 0), .ref (u65.1 0), .ref (u76.1 0), .ref (u87.1 0), .ref (u98.1 0), .null, .null] ++ wX8 T u5.1 u5.2 ++ wX8 T u16.1 u16.2 ++ wX8 T u27.1 u27.2 ++ wX7 T u43.1 u43.2 ++ wX3 T u54.1 u54.2 ++ wX6 T u65.1 u65.2 ++ wX4 T u76.1 u76.2 ++ wX1 T u87.1 u87.2 ++ wX5 T u98.1 u98.2 ++ wX2 T u109.1 u109.2) H := hP9
  have hD : va_D A (wO q [.ref (u5.1 0), .ref (u16.1 0), .ref (u27.1 0), .int 0, .ref (u43.1 0), .ref (u54.1 0), .ref (u65.1 0), .ref (u76.1 0), .ref (u87.1 0), .ref (u98.1 0), .null, .null] ++ wX8 T u5.1 u5.2 ++ wX8 T u16.1 u16.2 ++ wX8 T u27.1 u27.2 ++ wX7 T u43.1 u43.2 ++ wX3 T u54.1 u54.2 ++ wX6 T u65.1 u65.2 ++ wX4 T u76.1 u76.2 ++ wX1 T u87.1 u87.2 ++ wX5 T u98.1 u98.2 ++ wX2 T u109.1 u109.2) := hD9
  have hS := hS9
  clear hP9 hD9 hS9
  refine W.widen (k := 67) (n := 879) (Nat.le_of_ble_eq_true rfl) (Nat.le_of_ble_eq_true rfl) ?_
  refine va_putF (ci := 9) (v := .ref (u109.1 0)) (C := RX9) (T := TX9) (N := 12) hx hb hts hiX9 tyX9 tyX9_ok nmX9 hown hK hP hD hS 0 rfl rfl 10 (by decide) (hts _ (List.mem_of_getElem? (i := 38) rfl)) (fun _ h9 => h9) rfl hin rfl (tyX9_ok 10 (by decide)) rfl rfl (Nat.le_of_ble_eq_true rfl) dX9_init_116 (fun H locs hP hD hS => ?_)
  replace hP : va_P D vwCl (wO q [.ref (u5.1 0), .ref (u16.1 0), .ref (u27.1 0), .int 0, .ref (u43.1 0), .ref (u54.1 0), .ref (u65.1 0), .ref (u76.1 0), .ref (u87.1 0), .ref (u98.1 0), .ref (u109.1 0), .null] ++ wX8 T u5.1 u5.2 ++ wX8 T u16.1 u16.2 ++ wX8 T u27.1 u27.2 ++ wX7 T u43.1 u43.2 ++ wX3 T u54.1 u54.2 ++ wX6 T u65.1 u65.2 ++ wX4 T u76.1 u76.2 ++ wX1 T u87.1 u87.2 ++ wX5 T u98.1 u98.2 ++ wX2 T u109.1 u109.2) H := hP
  replace hD : va_D A (wO q [.ref (u5.1 0), .ref (u16.1 0), .ref (u27.1 0), .int 0, .ref (u43.1 0), .ref (u54.1 0), .ref (u65.1 0), .ref (u76.1 0), .ref (u87.1 0), .ref (u98.1 0), .ref (u109.1 0), .null] ++ wX8 T u5.1 u5.2 ++ wX8 T u16.1 u16.2 ++ wX8 T u27.1 u27.2 ++ wX7 T u43.1 u43.2 ++ wX3 T u54.1 u54.2 ++ wX6 T u65.1 u65.2 ++ wX4 T u76.1 u76.2 ++ wX1 T u87.1 u87.2 ++ wX5 T u98.1 u98.2 ++ wX2 T u109.1 u109.2) := hD
  refine lv_aload_n hx hb dX9_init_119 rfl (lv_at hl 0 rfl) ?_
  refine va_new (ci := 0) (fs := [.null, .int 0, .int 0, .int 0, .int 0, .int 0]) (C := RX0) (T := TX0) (N := 6) hx hb hts hiX0 tyX0 tyX0_ok hown (hts _ (List.mem_of_getElem? (i := 39) rfl)) (hts _ (List.mem_of_getElem? (i := 40) rfl)) (hts _ (List.mem_of_getElem? (i := 41) rfl)) hK hP hD hS hA rfl zDfX0 (Nat.le_of_ble_eq_true rfl) (Nat.le_of_ble_eq_true rfl) dX9_init_120 (fun q120 H hP hD hS => ?_)
  replace hP : va_P D vwCl (wO q [.ref (u5.1 0), .ref (u16.1 0), .ref (u27.1 0), .int 0, .ref (u43.1 0), .ref (u54.1 0), .ref (u65.1 0), .ref (u76.1 0), .ref (u87.1 0), .ref (u98.1 0), .ref (u109.1 0), .null] ++ wX8 T u5.1 u5.2 ++ wX8 T u16.1 u16.2 ++ wX8 T u27.1 u27.2 ++ wX7 T u43.1 u43.2 ++ wX3 T u54.1 u54.2 ++ wX6 T u65.1 u65.2 ++ wX4 T u76.1 u76.2 ++ wX1 T u87.1 u87.2 ++ wX5 T u98.1 u98.2 ++ wX2 T u109.1 u109.2 ++ wcX0 q120) H := hP
  replace hD : va_D A (wO q [.ref (u5.1 0), .ref (u16.1 0), .ref (u27.1 0), .int 0, .ref (u43.1 0), .ref (u54.1 0), .ref (u65.1 0), .ref (u76.1 0), .ref (u87.1 0), .ref (u98.1 0), .ref (u109.1 0), .null] ++ wX8 T u5.1 u5.2 ++ wX8 T u16.1 u16.2 ++ wX8 T u27.1 u27.2 ++ wX7 T u43.1 u43.2 ++ wX3 T u54.1 u54.2 ++ wX6 T u65.1 u65.2 ++ wX4 T u76.1 u76.2 ++ wX1 T u87.1 u87.2 ++ wX5 T u98.1 u98.2 ++ wX2 T u109.1 u109.2 ++ wcX0 q120) := hD
  refine W.widen (k := 68) (n := 885) (Nat.le_of_ble_eq_true rfl) (Nat.le_of_ble_eq_true rfl) ?_
  refine lv_dup hx hb dX9_init_123 rfl ?_
  refine zMkN (wr := wO q [.ref (u5.1 0), .ref (u16.1 0), .ref (u27.1 0), .int 0, .ref (u43.1 0), .ref (u54.1 0), .ref (u65.1 0), .ref (u76.1 0), .ref (u87.1 0), .ref (u98.1 0), .ref (u109.1 0), .null] ++ wX8 T u5.1 u5.2 ++ wX8 T u16.1 u16.2 ++ wX8 T u27.1 u27.2 ++ wX7 T u43.1 u43.2 ++ wX3 T u54.1 u54.2 ++ wX6 T u65.1 u65.2 ++ wX4 T u76.1 u76.2 ++ wX1 T u87.1 u87.2 ++ wX5 T u98.1 u98.2 ++ wX2 T u109.1 u109.2) ⟨hx, hb, hml, hown, hts⟩ (pX0_init l D T X q120 H.size) ⟨va_cnB 0 hts gX9_init_X0_init_n77 rfl rfl rfl hN.2.2.2.2.2.2.2.2 (hts _ (List.mem_of_getElem? (i := 41) rfl)) (by decide +kernel) ⟨Nat.le_of_ble_eq_true rfl, Nat.le_of_ble_eq_true rfl⟩, rfl, (hts _ (List.mem_of_getElem? (i := 113) rfl))⟩ hK hP hD hS hA hX hN [68] [0, 1, 2, 3, 4, 5, 6, 7, 8, 9, 10, 11, 12, 13, 14, 15, 16, 17, 18, 19, 20, 21, 22, 23, 24, 25, 26, 27, 28, 29, 30, 31, 32, 33, 34, 35, 36, 37, 38, 39, 40, 41, 42, 43, 44, 45, 46, 47, 48, 49, 50, 51, 52, 53, 54, 55, 56, 57, 58, 59, 60, 61, 62, 63, 64, 65, 66, 67] rfl rfl rfl hl.1 (Nat.le_of_ble_eq_true rfl) dX9_init_124 ⟨Nat.le_of_ble_eq_true rfl, Nat.le_of_ble_eq_true rfl⟩ (fun u120 H locs hu hP9 hD9 hS9 => ?_)
  obtain ⟨hq, ok120⟩ := hu
  clear hP hD hS
  subst hq
  have hP : va_P D vwCl (wO q [.ref (u5.1 0), .ref (u16.1 0), .ref (u27.1 0), .int 0, .ref (u43.1 0), .ref (u54.1 0), .ref (u65.1 0), .ref (u76.1 0), .ref (u87.1 0), .ref (u98.1 0), .ref (u109.1 0), .null] ++ wX8 T u5.1 u5.2 ++ wX8 T u16.1 u16.2 ++ wX8 T u27.1 u27.2 ++ wX7 T u43.1 u43.2 ++ wX3 T u54.1 u54.2 ++ wX6 T u65.1 u65.2 ++ wX4 T u76.1 u76.2 ++ wX1 T u87.1 u87.2 ++ wX5 T u98.1 u98.2 ++ wX2 T u109.1 u109.2 ++ wX0 T u120.1 u120.2) H := hP9
  have hD : va_D A (wO q [.ref (u5.1 0), .ref (u16.1 0), .ref (u27.1 0), .int 0, .ref (u43.1 0), .ref (u54.1 0), .ref (u65.1 0), .ref (u76.1 0), .ref (u87.1 0), .ref (u98.1 0), .ref (u109.1 0), .null] ++ wX8 T u5.1 u5.2 ++ wX8 T u16.1 u16.2 ++ wX8 T u27.1 u27.2 ++ wX7 T u43.1 u43.2 ++ wX3 T u54.1 u54.2 ++ wX6 T u65.1 u65.2 ++ wX4 T u76.1 u76.2 ++ wX1 T u87.1 u87.2 ++ wX5 T u98.1 u98.2 ++ wX2 T u109.1 u109.2 ++ wX0 T u120.1 u120.2) := hD9
  have hS := hS9
  clear hP9 hD9 hS9
  refine W.widen (k := 69) (n := 915) (Nat.le_of_ble_eq_true rfl) (Nat.le_of_ble_eq_true rfl) ?_
  refine va_putF (ci := 9) (v := .ref (u120.1 0)) (C := RX9) (T := TX9) (N := 12) hx hb hts hiX9 tyX9 tyX9_ok nmX9 hown hK hP hD hS 0 rfl rfl 11 (by decide) (hts _ (List.mem_of_getElem? (i := 42) rfl)) (fun _ h9 => h9) rfl hin rfl (tyX9_ok 11 (by decide)) rfl rfl (Nat.le_of_ble_eq_true rfl) dX9_init_127 (fun H locs hP hD hS => ?_)
  replace hP : va_P D vwCl (wO q [.ref (u5.1 0), .ref (u16.1 0), .ref (u27.1 0), .int 0, .ref (u43.1 0), .ref (u54.1 0), .ref (u65.1 0), .ref (u76.1 0), .ref (u87.1 0), .ref (u98.1 0), .ref (u109.1 0), .ref (u120.1 0)] ++ wX8 T u5.1 u5.2 ++ wX8 T u16.1 u16.2 ++ wX8 T u27.1 u27.2 ++ wX7 T u43.1 u43.2 ++ wX3 T u54.1 u54.2 ++ wX6 T u65.1 u65.2 ++ wX4 T u76.1 u76.2 ++ wX1 T u87.1 u87.2 ++ wX5 T u98.1 u98.2 ++ wX2 T u109.1 u109.2 ++ wX0 T u120.1 u120.2) H := hP
  replace hD : va_D A (wO q [.ref (u5.1 0), .ref (u16.1 0), .ref (u27.1 0), .int 0, .ref (u43.1 0), .ref (u54.1 0), .ref (u65.1 0), .ref (u76.1 0), .ref (u87.1 0), .ref (u98.1 0), .ref (u109.1 0), .ref (u120.1 0)] ++ wX8 T u5.1 u5.2 ++ wX8 T u16.1 u16.2 ++ wX8 T u27.1 u27.2 ++ wX7 T u43.1 u43.2 ++ wX3 T u54.1 u54.2 ++ wX6 T u65.1 u65.2 ++ wX4 T u76.1 u76.2 ++ wX1 T u87.1 u87.2 ++ wX5 T u98.1 u98.2 ++ wX2 T u109.1 u109.2 ++ wX0 T u120.1 u120.2) := hD
  exact zRetN (u := ((fun i => [fun _ => q, u5.1, u16.1, u27.1, u43.1, u54.1, u65.1, u76.1, u87.1, u98.1, u109.1, u120.1].getD i (fun _ => 0) : Nat → Nat → Nat), (fun i => [mX9, u5.2, u16.2, u27.2, u43.2, u54.2, u65.2, u76.2, u87.2, u98.2, u109.2, u120.2].getD i mX9 : Nat → zM))) hQ hx hb hr hlocks hA0 hK hP hD hS ⟨rfl, rfl, ok5, ok16, ok27, ok43, ok54, ok65, ok76, ok87, ok98, ok109, ok120⟩ dX9_init_130
