def mX0 : zM := fun k => if k = 0 then (fun j => 0) else fun _ => 0
def okX0 (w : zM) : Prop := w = mX0
def wcX0 (q : Nat) : va_W := [(q, .inr (0, [.null, .int 0, .int 0, .int 0, .int 0, .int 0]))]
def rX0_init : Room := { frames := 4, cells := 1, slots := 30, locals := 200 }
set_option maxHeartbeats 8000000 in
set_option maxRecDepth 100000 in
theorem pX0_init (l : Launch) (D : va_G) (T : Nat → ClassId) (X : zFP) (q sz : Nat) : Met l yX0_init wsX0_init rX0_init (zPreN D T X [.ref q] (wcX0 q) sz) (zQn D T (fun u : (Nat → Nat) × zM => wX0 T u.1 u.2) (fun u => u.1 0 = q ∧ okX0 u.2) (wcX0 q) sz) 1 30 (va_A (wcX0 q) sz) := by
  refine zStartN [(0, .ref q)] (by decide) rfl (Nat.le_of_ble_eq_true rfl) rfl ?_
  intro p e s m args below meth c A Q ls hx hb hr hml hown hlocks hts hsz hA0 hQ hA hK hX hN hin hP hD hS hl
  replace hown : s.vm.findClass RX0 = some m.cls := hown
  replace hin : meth.name = "<init>" := hin
  have hiX0 : ∀ w ∈ u_ws RX0 TX0 6, w ∈ wsX0_init := fun w h => List.mem_cons_of_mem _ (List.mem_append_right _ (h))
  obtain ⟨H, hHe⟩ : ∃ H : Heap, H = s.heap := ⟨_, rfl⟩
  obtain ⟨locs, hLe⟩ : ∃ L : List Loc, L = [] := ⟨_, rfl⟩
  replace hP : va_P D vwCl (wcX0 q) H := by rw [hHe]; exact hP
  replace hS : va_S A s.heap H locs := by rw [hHe, hLe]; exact hS
  suffices hgo : W p l e rX0_init s m args below meth c H locs 0 0 Q (F0 m 0 ls []) by rw [hHe, hLe] at hgo; exact hgo
  clear hHe hLe
  refine lv_aload_n hx hb dX0_init_0 rfl (lv_at hl 0 rfl) ?_
  refine W.objInit hx hb hown (hts _ (List.mem_of_getElem? (i := 1) rfl)) (hts _ (List.mem_of_getElem? (i := 2) rfl)) (hts _ (List.mem_of_getElem? (i := 3) rfl)) rfl (by rw [hml]; exact hl.1) rfl dX0_init_1 (Nat.le_of_ble_eq_true rfl) (Nat.le_of_ble_eq_true rfl) ?_
  refine W.eq (g2 := F0 m 4 ls []) rfl ?_
  refine lv_aload_n hx hb dX0_init_4 rfl (lv_at hl 0 rfl) ?_
  refine lv_bipush (v := 30) hx hb dX0_init_5 (by decide) ?_
  refine zNewI hx hb hts 4 rfl hK hP hD hS hA 30 (n := 30) (by decide) (by decide +kernel) (Nat.le_of_ble_eq_true rfl) (Nat.le_of_ble_eq_true rfl) (Nat.le_of_ble_eq_true rfl) dX0_init_7 (fun a7 H hP hD hS => ?_)
  replace hP : va_P D vwCl [(q, .inr (0, [.null, .int 0, .int 0, .int 0, .int 0, .int 0])), (a7, .inl (T 0, 30, .inl (fun _ => 0)))] H := hP
  replace hD : va_D A [(q, .inr (0, [.null, .int 0, .int 0, .int 0, .int 0, .int 0])), (a7, .inl (T 0, 30, .inl (fun _ => 0)))] := hD
  refine W.widen (k := 1) (n := 30) (Nat.le_of_ble_eq_true rfl) (Nat.le_of_ble_eq_true rfl) ?_
  refine va_putF (ci := 0) (v := .ref a7) (C := RX0) (T := TX0) (N := 6) hx hb hts hiX0 tyX0 tyX0_ok nmX0 hown hK hP hD hS 0 rfl rfl 0 (by decide) (hts _ (List.mem_of_getElem? (i := 5) rfl)) (fun _ h9 => h9) rfl hin rfl (tyX0_ok 0 (by decide)) rfl rfl (Nat.le_of_ble_eq_true rfl) dX0_init_9 (fun H locs hP hD hS => ?_)
  replace hP : va_P D vwCl [(q, .inr (0, [.ref a7, .int 0, .int 0, .int 0, .int 0, .int 0])), (a7, .inl (T 0, 30, .inl (fun _ => 0)))] H := hP
  replace hD : va_D A [(q, .inr (0, [.ref a7, .int 0, .int 0, .int 0, .int 0, .int 0])), (a7, .inl (T 0, 30, .inl (fun _ => 0)))] := hD
  refine lv_aload_n hx hb dX0_init_12 rfl (lv_at hl 0 rfl) ?_
  refine lv_iconst (v := 0) hx hb dX0_init_13 (by decide) ?_
  refine va_put (ci := 0) (v := .int 0) (C := RX0) (T := TX0) (N := 6) hx hb hts hiX0 tyX0 tyX0_ok nmX0 hown hK hP hD hS 0 rfl rfl 1 (by decide) (hts _ (List.mem_of_getElem? (i := 6) rfl)) (fun _ h9 => h9) rfl (tyX0_ok 1 (by decide)) (by decide) (by decide) (Nat.le_of_ble_eq_true rfl) dX0_init_14 (fun H locs hP hD hS => ?_)
  replace hP : va_P D vwCl [(q, .inr (0, [.ref a7, .int 0, .int 0, .int 0, .int 0, .int 0])), (a7, .inl (T 0, 30, .inl (fun _ => 0)))] H := hP
  replace hD : va_D A [(q, .inr (0, [.ref a7, .int 0, .int 0, .int 0, .int 0, .int 0])), (a7, .inl (T 0, 30, .inl (fun _ => 0)))] := hD
  refine lv_aload_n hx hb dX0_init_17 rfl (lv_at hl 0 rfl) ?_
  refine lv_iconst (v := 0) hx hb dX0_init_18 (by decide) ?_
  refine va_put (ci := 0) (v := .int 0) (C := RX0) (T := TX0) (N := 6) hx hb hts hiX0 tyX0 tyX0_ok nmX0 hown hK hP hD hS 0 rfl rfl 2 (by decide) (hts _ (List.mem_of_getElem? (i := 7) rfl)) (fun _ h9 => h9) rfl (tyX0_ok 2 (by decide)) (by decide) (by decide) (Nat.le_of_ble_eq_true rfl) dX0_init_19 (fun H locs hP hD hS => ?_)
  replace hP : va_P D vwCl [(q, .inr (0, [.ref a7, .int 0, .int 0, .int 0, .int 0, .int 0])), (a7, .inl (T 0, 30, .inl (fun _ => 0)))] H := hP
  replace hD : va_D A [(q, .inr (0, [.ref a7, .int 0, .int 0, .int 0, .int 0, .int 0])), (a7, .inl (T 0, 30, .inl (fun _ => 0)))] := hD
  refine lv_aload_n hx hb dX0_init_22 rfl (lv_at hl 0 rfl) ?_
  refine lv_iconst (v := 0) hx hb dX0_init_23 (by decide) ?_
  refine va_put (ci := 0) (v := .int 0) (C := RX0) (T := TX0) (N := 6) hx hb hts hiX0 tyX0 tyX0_ok nmX0 hown hK hP hD hS 0 rfl rfl 3 (by decide) (hts _ (List.mem_of_getElem? (i := 8) rfl)) (fun _ h9 => h9) rfl (tyX0_ok 3 (by decide)) (by decide) (by decide) (Nat.le_of_ble_eq_true rfl) dX0_init_24 (fun H locs hP hD hS => ?_)
  replace hP : va_P D vwCl [(q, .inr (0, [.ref a7, .int 0, .int 0, .int 0, .int 0, .int 0])), (a7, .inl (T 0, 30, .inl (fun _ => 0)))] H := hP
  replace hD : va_D A [(q, .inr (0, [.ref a7, .int 0, .int 0, .int 0, .int 0, .int 0])), (a7, .inl (T 0, 30, .inl (fun _ => 0)))] := hD
  refine lv_aload_n hx hb dX0_init_27 rfl (lv_at hl 0 rfl) ?_
  refine lv_iconst (v := 0) hx hb dX0_init_28 (by decide) ?_
  refine va_put (ci := 0) (v := .int 0) (C := RX0) (T := TX0) (N := 6) hx hb hts hiX0 tyX0 tyX0_ok nmX0 hown hK hP hD hS 0 rfl rfl 4 (by decide) (hts _ (List.mem_of_getElem? (i := 9) rfl)) (fun _ h9 => h9) rfl (tyX0_ok 4 (by decide)) (by decide) (by decide) (Nat.le_of_ble_eq_true rfl) dX0_init_29 (fun H locs hP hD hS => ?_)
  replace hP : va_P D vwCl [(q, .inr (0, [.ref a7, .int 0, .int 0, .int 0, .int 0, .int 0])), (a7, .inl (T 0, 30, .inl (fun _ => 0)))] H := hP
  replace hD : va_D A [(q, .inr (0, [.ref a7, .int 0, .int 0, .int 0, .int 0, .int 0])), (a7, .inl (T 0, 30, .inl (fun _ => 0)))] := hD
  refine lv_aload_n hx hb dX0_init_32 rfl (lv_at hl 0 rfl) ?_
  refine lv_iconst (v := 0) hx hb dX0_init_33 (by decide) ?_
  refine va_put (ci := 0) (v := .int 0) (C := RX0) (T := TX0) (N := 6) hx hb hts hiX0 tyX0 tyX0_ok nmX0 hown hK hP hD hS 0 rfl rfl 5 (by decide) (hts _ (List.mem_of_getElem? (i := 10) rfl)) (fun _ h9 => h9) rfl (tyX0_ok 5 (by decide)) (by decide) (by decide) (Nat.le_of_ble_eq_true rfl) dX0_init_34 (fun H locs hP hD hS => ?_)
  replace hP : va_P D vwCl [(q, .inr (0, [.ref a7, .int 0, .int 0, .int 0, .int 0, .int 0])), (a7, .inl (T 0, 30, .inl (fun _ => 0)))] H := hP
  replace hD : va_D A [(q, .inr (0, [.ref a7, .int 0, .int 0, .int 0, .int 0, .int 0])), (a7, .inl (T 0, 30, .inl (fun _ => 0)))] := hD
  obtain ⟨u, hu⟩ : ∃ u : Nat → Nat, u = fun c => [q, a7].getD c 0 := ⟨_, rfl⟩
  refine zRetN (u := (u, mX0)) hQ hx hb hr hlocks hA0 hK (by show va_P D vwCl (wX0 T u mX0) H; rw [hu]; exact hP) (by show va_D A (wX0 T u mX0); rw [hu]; exact hD) hS ⟨by rw [hu]; rfl, rfl⟩ dX0_init_37
def mX1 : zM := fun k => if k = 0 then (fun j => 0) else fun _ => 0
def okX1 (w : zM) : Prop := w = mX1
def wcX1 (q : Nat) : va_W := [(q, .inr (1, [.null, .null]))]
def rX1_init : Room := { frames := 4, cells := 2, slots := 20, locals := 200 }
set_option maxHeartbeats 8000000 in
set_option maxRecDepth 100000 in
theorem pX1_init (l : Launch) (D : va_G) (T : Nat → ClassId) (X : zFP) (q sz : Nat) : Met l yX1_init wsX1_init rX1_init (zPreN D T X [.ref q] (wcX1 q) sz) (zQn D T (fun u : (Nat → Nat) × zM => wX1 T u.1 u.2) (fun u => u.1 0 = q ∧ okX1 u.2) (wcX1 q) sz) 2 20 (va_A (wcX1 q) sz) := by
  refine zStartN [(0, .ref q)] (by decide) rfl (Nat.le_of_ble_eq_true rfl) rfl ?_
  intro p e s m args below meth c A Q ls hx hb hr hml hown hlocks hts hsz hA0 hQ hA hK hX hN hin hP hD hS hl
  replace hown : s.vm.findClass RX1 = some m.cls := hown
  replace hin : meth.name = "<init>" := hin
  have hiX1 : ∀ w ∈ u_ws RX1 TX1 2, w ∈ wsX1_init := fun w h => List.mem_cons_of_mem _ (List.mem_append_right _ (h))
  obtain ⟨H, hHe⟩ : ∃ H : Heap, H = s.heap := ⟨_, rfl⟩
  obtain ⟨locs, hLe⟩ : ∃ L : List Loc, L = [] := ⟨_, rfl⟩
  replace hP : va_P D vwCl (wcX1 q) H := by rw [hHe]; exact hP
  replace hS : va_S A s.heap H locs := by rw [hHe, hLe]; exact hS
  suffices hgo : W p l e rX1_init s m args below meth c H locs 0 0 Q (F0 m 0 ls []) by rw [hHe, hLe] at hgo; exact hgo
  clear hHe hLe
  refine lv_aload_n hx hb dX1_init_0 rfl (lv_at hl 0 rfl) ?_
  refine W.objInit hx hb hown (hts _ (List.mem_of_getElem? (i := 1) rfl)) (hts _ (List.mem_of_getElem? (i := 2) rfl)) (hts _ (List.mem_of_getElem? (i := 3) rfl)) rfl (by rw [hml]; exact hl.1) rfl dX1_init_1 (Nat.le_of_ble_eq_true rfl) (Nat.le_of_ble_eq_true rfl) ?_
  refine W.eq (g2 := F0 m 4 ls []) rfl ?_
  refine lv_aload_n hx hb dX1_init_4 rfl (lv_at hl 0 rfl) ?_
  refine lv_bipush (v := 10) hx hb dX1_init_5 (by decide) ?_
  refine zNewI hx hb hts 4 rfl hK hP hD hS hA 10 (n := 10) (by decide) (by decide +kernel) (Nat.le_of_ble_eq_true rfl) (Nat.le_of_ble_eq_true rfl) (Nat.le_of_ble_eq_true rfl) dX1_init_7 (fun a7 H hP hD hS => ?_)
  replace hP : va_P D vwCl [(q, .inr (1, [.null, .null])), (a7, .inl (T 0, 10, .inl (fun _ => 0)))] H := hP
  replace hD : va_D A [(q, .inr (1, [.null, .null])), (a7, .inl (T 0, 10, .inl (fun _ => 0)))] := hD
  refine W.widen (k := 1) (n := 10) (Nat.le_of_ble_eq_true rfl) (Nat.le_of_ble_eq_true rfl) ?_
  refine va_putF (ci := 1) (v := .ref a7) (C := RX1) (T := TX1) (N := 2) hx hb hts hiX1 tyX1 tyX1_ok nmX1 hown hK hP hD hS 0 rfl rfl 0 (by decide) (hts _ (List.mem_of_getElem? (i := 5) rfl)) (fun _ h9 => h9) rfl hin rfl (tyX1_ok 0 (by decide)) rfl rfl (Nat.le_of_ble_eq_true rfl) dX1_init_9 (fun H locs hP hD hS => ?_)
  replace hP : va_P D vwCl [(q, .inr (1, [.ref a7, .null])), (a7, .inl (T 0, 10, .inl (fun _ => 0)))] H := hP
  replace hD : va_D A [(q, .inr (1, [.ref a7, .null])), (a7, .inl (T 0, 10, .inl (fun _ => 0)))] := hD
  refine lv_aload_n hx hb dX1_init_12 rfl (lv_at hl 0 rfl) ?_
  refine lv_bipush (v := 10) hx hb dX1_init_13 (by decide) ?_
  refine zNewI hx hb hts 4 rfl hK hP hD hS hA 10 (n := 10) (by decide) (by decide +kernel) (Nat.le_of_ble_eq_true rfl) (Nat.le_of_ble_eq_true rfl) (Nat.le_of_ble_eq_true rfl) dX1_init_15 (fun a15 H hP hD hS => ?_)
  replace hP : va_P D vwCl [(q, .inr (1, [.ref a7, .null])), (a7, .inl (T 0, 10, .inl (fun _ => 0))), (a15, .inl (T 0, 10, .inl (fun _ => 0)))] H := hP
  replace hD : va_D A [(q, .inr (1, [.ref a7, .null])), (a7, .inl (T 0, 10, .inl (fun _ => 0))), (a15, .inl (T 0, 10, .inl (fun _ => 0)))] := hD
  refine W.widen (k := 2) (n := 20) (Nat.le_of_ble_eq_true rfl) (Nat.le_of_ble_eq_true rfl) ?_
  refine va_putF (ci := 1) (v := .ref a15) (C := RX1) (T := TX1) (N := 2) hx hb hts hiX1 tyX1 tyX1_ok nmX1 hown hK hP hD hS 0 rfl rfl 1 (by decide) (hts _ (List.mem_of_getElem? (i := 6) rfl)) (fun _ h9 => h9) rfl hin rfl (tyX1_ok 1 (by decide)) rfl rfl (Nat.le_of_ble_eq_true rfl) dX1_init_17 (fun H locs hP hD hS => ?_)
  replace hP : va_P D vwCl [(q, .inr (1, [.ref a7, .ref a15])), (a7, .inl (T 0, 10, .inl (fun _ => 0))), (a15, .inl (T 0, 10, .inl (fun _ => 0)))] H := hP
  replace hD : va_D A [(q, .inr (1, [.ref a7, .ref a15])), (a7, .inl (T 0, 10, .inl (fun _ => 0))), (a15, .inl (T 0, 10, .inl (fun _ => 0)))] := hD
  obtain ⟨u, hu⟩ : ∃ u : Nat → Nat, u = fun c => [q, a7, a15].getD c 0 := ⟨_, rfl⟩
  refine zRetN (u := (u, mX1)) hQ hx hb hr hlocks hA0 hK (by show va_P D vwCl (wX1 T u mX1) H; rw [hu]; exact hP) (by show va_D A (wX1 T u mX1); rw [hu]; exact hD) hS ⟨by rw [hu]; rfl, rfl⟩ dX1_init_20
def mX2 : zM := fun k => if k = 0 then (fun j => 0) else if k = 1 then (upd (upd (upd (upd (fun _ => 0) (0 : Int32).toNatClampNeg (-1)) (1 : Int32).toNatClampNeg (-1)) (2 : Int32).toNatClampNeg (-1)) (3 : Int32).toNatClampNeg (-1)) else fun _ => 0
def okX2 (w : zM) : Prop := w = mX2
def wcX2 (q : Nat) : va_W := [(q, .inr (2, [.null, .null, .null, .null, .null, .null]))]
def rX2_init : Room := { frames := 4, cells := 10, slots := 184, locals := 200 }
set_option maxHeartbeats 8000000 in
set_option maxRecDepth 100000 in
theorem pX2_init (l : Launch) (D : va_G) (T : Nat → ClassId) (X : zFP) (q sz : Nat) : Met l yX2_init wsX2_init rX2_init (zPreN D T X [.ref q] (wcX2 q) sz) (zQn D T (fun u : (Nat → Nat) × zM => wX2 T u.1 u.2) (fun u => u.1 0 = q ∧ okX2 u.2) (wcX2 q) sz) 10 184 (va_A (wcX2 q) sz) := by
  refine zStartN [(0, .ref q)] (by decide) rfl (Nat.le_of_ble_eq_true rfl) rfl ?_
  intro p e s m args below meth c A Q ls hx hb hr hml hown hlocks hts hsz hA0 hQ hA hK hX hN hin hP hD hS hl
  replace hown : s.vm.findClass RX2 = some m.cls := hown
  replace hin : meth.name = "<init>" := hin
  have hiX2 : ∀ w ∈ u_ws RX2 TX2 6, w ∈ wsX2_init := fun w h => List.mem_cons_of_mem _ (List.mem_append_right _ (h))
  obtain ⟨H, hHe⟩ : ∃ H : Heap, H = s.heap := ⟨_, rfl⟩
  obtain ⟨locs, hLe⟩ : ∃ L : List Loc, L = [] := ⟨_, rfl⟩
  replace hP : va_P D vwCl (wcX2 q) H := by rw [hHe]; exact hP
  replace hS : va_S A s.heap H locs := by rw [hHe, hLe]; exact hS
  suffices hgo : W p l e rX2_init s m args below meth c H locs 0 0 Q (F0 m 0 ls []) by rw [hHe, hLe] at hgo; exact hgo
  clear hHe hLe
  refine lv_aload_n hx hb dX2_init_0 rfl (lv_at hl 0 rfl) ?_
  refine W.objInit hx hb hown (hts _ (List.mem_of_getElem? (i := 1) rfl)) (hts _ (List.mem_of_getElem? (i := 2) rfl)) (hts _ (List.mem_of_getElem? (i := 3) rfl)) rfl (by rw [hml]; exact hl.1) rfl dX2_init_1 (Nat.le_of_ble_eq_true rfl) (Nat.le_of_ble_eq_true rfl) ?_
  refine W.eq (g2 := F0 m 4 ls []) rfl ?_
  refine lv_aload_n hx hb dX2_init_4 rfl (lv_at hl 0 rfl) ?_
  refine lv_iconst (v := 4) hx hb dX2_init_5 (by decide) ?_
  refine zNewI hx hb hts 4 rfl hK hP hD hS hA 4 (n := 4) (by decide) (by decide +kernel) (Nat.le_of_ble_eq_true rfl) (Nat.le_of_ble_eq_true rfl) (Nat.le_of_ble_eq_true rfl) dX2_init_6 (fun a6 H hP hD hS => ?_)
  replace hP : va_P D vwCl [(q, .inr (2, [.null, .null, .null, .null, .null, .null])), (a6, .inl (T 0, 4, .inl (fun _ => 0)))] H := hP
  replace hD : va_D A [(q, .inr (2, [.null, .null, .null, .null, .null, .null])), (a6, .inl (T 0, 4, .inl (fun _ => 0)))] := hD
  refine W.widen (k := 1) (n := 4) (Nat.le_of_ble_eq_true rfl) (Nat.le_of_ble_eq_true rfl) ?_
  refine lv_dup hx hb dX2_init_8 rfl ?_
  refine lv_iconst (v := 0) hx hb dX2_init_9 (by decide) ?_
  refine lv_iconst (v := (-1)) hx hb dX2_init_10 (by decide) ?_
  refine va_iast hx hb hK hP hD hS 1 0 rfl rfl (zIn_ok (show zIn 0 4 = true by decide +kernel)) dX2_init_11 (fun H locs hP hD hS => ?_)
  replace hP : va_P D vwCl [(q, .inr (2, [.null, .null, .null, .null, .null, .null])), (a6, .inl (T 0, 4, .inl (upd (fun _ => 0) (0 : Int32).toNatClampNeg (-1))))] H := hP
  replace hD : va_D A [(q, .inr (2, [.null, .null, .null, .null, .null, .null])), (a6, .inl (T 0, 4, .inl (upd (fun _ => 0) (0 : Int32).toNatClampNeg (-1))))] := hD
  refine lv_dup hx hb dX2_init_12 rfl ?_
  refine lv_iconst (v := 1) hx hb dX2_init_13 (by decide) ?_
  refine lv_iconst (v := (-1)) hx hb dX2_init_14 (by decide) ?_
  refine va_iast hx hb hK hP hD hS 1 0 rfl rfl (zIn_ok (show zIn 1 4 = true by decide +kernel)) dX2_init_15 (fun H locs hP hD hS => ?_)
  replace hP : va_P D vwCl [(q, .inr (2, [.null, .null, .null, .null, .null, .null])), (a6, .inl (T 0, 4, .inl (upd (upd (fun _ => 0) (0 : Int32).toNatClampNeg (-1)) (1 : Int32).toNatClampNeg (-1))))] H := hP
  replace hD : va_D A [(q, .inr (2, [.null, .null, .null, .null, .null, .null])), (a6, .inl (T 0, 4, .inl (upd (upd (fun _ => 0) (0 : Int32).toNatClampNeg (-1)) (1 : Int32).toNatClampNeg (-1))))] := hD
  refine lv_dup hx hb dX2_init_16 rfl ?_
  refine lv_iconst (v := 2) hx hb dX2_init_17 (by decide) ?_
  refine lv_iconst (v := (-1)) hx hb dX2_init_18 (by decide) ?_
  refine va_iast hx hb hK hP hD hS 1 0 rfl rfl (zIn_ok (show zIn 2 4 = true by decide +kernel)) dX2_init_19 (fun H locs hP hD hS => ?_)
  replace hP : va_P D vwCl [(q, .inr (2, [.null, .null, .null, .null, .null, .null])), (a6, .inl (T 0, 4, .inl (upd (upd (upd (fun _ => 0) (0 : Int32).toNatClampNeg (-1)) (1 : Int32).toNatClampNeg (-1)) (2 : Int32).toNatClampNeg (-1))))] H := hP
  replace hD : va_D A [(q, .inr (2, [.null, .null, .null, .null, .null, .null])), (a6, .inl (T 0, 4, .inl (upd (upd (upd (fun _ => 0) (0 : Int32).toNatClampNeg (-1)) (1 : Int32).toNatClampNeg (-1)) (2 : Int32).toNatClampNeg (-1))))] := hD
  refine lv_dup hx hb dX2_init_20 rfl ?_
  refine lv_iconst (v := 3) hx hb dX2_init_21 (by decide) ?_
  refine lv_iconst (v := (-1)) hx hb dX2_init_22 (by decide) ?_
  refine va_iast hx hb hK hP hD hS 1 0 rfl rfl (zIn_ok (show zIn 3 4 = true by decide +kernel)) dX2_init_23 (fun H locs hP hD hS => ?_)
  replace hP : va_P D vwCl [(q, .inr (2, [.null, .null, .null, .null, .null, .null])), (a6, .inl (T 0, 4, .inl (upd (upd (upd (upd (fun _ => 0) (0 : Int32).toNatClampNeg (-1)) (1 : Int32).toNatClampNeg (-1)) (2 : Int32).toNatClampNeg (-1)) (3 : Int32).toNatClampNeg (-1))))] H := hP
  replace hD : va_D A [(q, .inr (2, [.null, .null, .null, .null, .null, .null])), (a6, .inl (T 0, 4, .inl (upd (upd (upd (upd (fun _ => 0) (0 : Int32).toNatClampNeg (-1)) (1 : Int32).toNatClampNeg (-1)) (2 : Int32).toNatClampNeg (-1)) (3 : Int32).toNatClampNeg (-1))))] := hD
  refine va_putF (ci := 2) (v := .ref a6) (C := RX2) (T := TX2) (N := 6) hx hb hts hiX2 tyX2 tyX2_ok nmX2 hown hK hP hD hS 0 rfl rfl 0 (by decide) (hts _ (List.mem_of_getElem? (i := 5) rfl)) (fun _ h9 => h9) rfl hin rfl (tyX2_ok 0 (by decide)) rfl rfl (Nat.le_of_ble_eq_true rfl) dX2_init_24 (fun H locs hP hD hS => ?_)
  replace hP : va_P D vwCl [(q, .inr (2, [.ref a6, .null, .null, .null, .null, .null])), (a6, .inl (T 0, 4, .inl (upd (upd (upd (upd (fun _ => 0) (0 : Int32).toNatClampNeg (-1)) (1 : Int32).toNatClampNeg (-1)) (2 : Int32).toNatClampNeg (-1)) (3 : Int32).toNatClampNeg (-1))))] H := hP
  replace hD : va_D A [(q, .inr (2, [.ref a6, .null, .null, .null, .null, .null])), (a6, .inl (T 0, 4, .inl (upd (upd (upd (upd (fun _ => 0) (0 : Int32).toNatClampNeg (-1)) (1 : Int32).toNatClampNeg (-1)) (2 : Int32).toNatClampNeg (-1)) (3 : Int32).toNatClampNeg (-1))))] := hD
  refine lv_aload_n hx hb dX2_init_27 rfl (lv_at hl 0 rfl) ?_
  refine lv_iconst (v := 4) hx hb dX2_init_28 (by decide) ?_
  refine zNewI hx hb hts 4 rfl hK hP hD hS hA 4 (n := 4) (by decide) (by decide +kernel) (Nat.le_of_ble_eq_true rfl) (Nat.le_of_ble_eq_true rfl) (Nat.le_of_ble_eq_true rfl) dX2_init_29 (fun a29 H hP hD hS => ?_)
  replace hP : va_P D vwCl [(q, .inr (2, [.ref a6, .null, .null, .null, .null, .null])), (a6, .inl (T 0, 4, .inl (upd (upd (upd (upd (fun _ => 0) (0 : Int32).toNatClampNeg (-1)) (1 : Int32).toNatClampNeg (-1)) (2 : Int32).toNatClampNeg (-1)) (3 : Int32).toNatClampNeg (-1)))), (a29, .inl (T 0, 4, .inl (fun _ => 0)))] H := hP
  replace hD : va_D A [(q, .inr (2, [.ref a6, .null, .null, .null, .null, .null])), (a6, .inl (T 0, 4, .inl (upd (upd (upd (upd (fun _ => 0) (0 : Int32).toNatClampNeg (-1)) (1 : Int32).toNatClampNeg (-1)) (2 : Int32).toNatClampNeg (-1)) (3 : Int32).toNatClampNeg (-1)))), (a29, .inl (T 0, 4, .inl (fun _ => 0)))] := hD
  refine W.widen (k := 2) (n := 8) (Nat.le_of_ble_eq_true rfl) (Nat.le_of_ble_eq_true rfl) ?_
  refine va_putF (ci := 2) (v := .ref a29) (C := RX2) (T := TX2) (N := 6) hx hb hts hiX2 tyX2 tyX2_ok nmX2 hown hK hP hD hS 0 rfl rfl 1 (by decide) (hts _ (List.mem_of_getElem? (i := 6) rfl)) (fun _ h9 => h9) rfl hin rfl (tyX2_ok 1 (by decide)) rfl rfl (Nat.le_of_ble_eq_true rfl) dX2_init_31 (fun H locs hP hD hS => ?_)
  replace hP : va_P D vwCl [(q, .inr (2, [.ref a6, .ref a29, .null, .null, .null, .null])), (a6, .inl (T 0, 4, .inl (upd (upd (upd (upd (fun _ => 0) (0 : Int32).toNatClampNeg (-1)) (1 : Int32).toNatClampNeg (-1)) (2 : Int32).toNatClampNeg (-1)) (3 : Int32).toNatClampNeg (-1)))), (a29, .inl (T 0, 4, .inl (fun _ => 0)))] H := hP
  replace hD : va_D A [(q, .inr (2, [.ref a6, .ref a29, .null, .null, .null, .null])), (a6, .inl (T 0, 4, .inl (upd (upd (upd (upd (fun _ => 0) (0 : Int32).toNatClampNeg (-1)) (1 : Int32).toNatClampNeg (-1)) (2 : Int32).toNatClampNeg (-1)) (3 : Int32).toNatClampNeg (-1)))), (a29, .inl (T 0, 4, .inl (fun _ => 0)))] := hD
  refine lv_aload_n hx hb dX2_init_34 rfl (lv_at hl 0 rfl) ?_
  refine lv_iconst (v := 4) hx hb dX2_init_35 (by decide) ?_
  refine lv_bipush (v := 40) hx hb dX2_init_36 (by decide) ?_
  refine zNewA hx hb hown hts 7 4 rfl rfl hN.1 hK hP hD hS hA 4 40 (n := 4) (k := 40) (by decide) (by decide) (by decide +kernel) (by decide +kernel) (Nat.le_of_ble_eq_true rfl) (Nat.le_of_ble_eq_true rfl) (Nat.le_of_ble_eq_true rfl) (Nat.le_of_ble_eq_true rfl) (Nat.le_of_ble_eq_true rfl) dX2_init_38 (fun a38 r H hP hD hS => ?_)
  replace hP : va_P D vwCl [(q, .inr (2, [.ref a6, .ref a29, .null, .null, .null, .null])), (a6, .inl (T 0, 4, .inl (upd (upd (upd (upd (fun _ => 0) (0 : Int32).toNatClampNeg (-1)) (1 : Int32).toNatClampNeg (-1)) (2 : Int32).toNatClampNeg (-1)) (3 : Int32).toNatClampNeg (-1)))), (a29, .inl (T 0, 4, .inl (fun _ => 0))), (a38, .inl (T 4, 4, .inr (.inr (.inr (.inr (fun i => if i < 4 then some (r i) else none)))))), (r 0, .inl (T 0, 40, .inl (fun _ => 0))), (r 1, .inl (T 0, 40, .inl (fun _ => 0))), (r 2, .inl (T 0, 40, .inl (fun _ => 0))), (r 3, .inl (T 0, 40, .inl (fun _ => 0)))] H := hP
  replace hD : va_D A [(q, .inr (2, [.ref a6, .ref a29, .null, .null, .null, .null])), (a6, .inl (T 0, 4, .inl (upd (upd (upd (upd (fun _ => 0) (0 : Int32).toNatClampNeg (-1)) (1 : Int32).toNatClampNeg (-1)) (2 : Int32).toNatClampNeg (-1)) (3 : Int32).toNatClampNeg (-1)))), (a29, .inl (T 0, 4, .inl (fun _ => 0))), (a38, .inl (T 4, 4, .inr (.inr (.inr (.inr (fun i => if i < 4 then some (r i) else none)))))), (r 0, .inl (T 0, 40, .inl (fun _ => 0))), (r 1, .inl (T 0, 40, .inl (fun _ => 0))), (r 2, .inl (T 0, 40, .inl (fun _ => 0))), (r 3, .inl (T 0, 40, .inl (fun _ => 0)))] := hD
  refine W.widen (k := 7) (n := 172) (Nat.le_of_ble_eq_true rfl) (Nat.le_of_ble_eq_true rfl) ?_
  refine va_putF (ci := 2) (v := .ref a38) (C := RX2) (T := TX2) (N := 6) hx hb hts hiX2 tyX2 tyX2_ok nmX2 hown hK hP hD hS 0 rfl rfl 2 (by decide) (hts _ (List.mem_of_getElem? (i := 8) rfl)) (fun _ h9 => h9) rfl hin rfl (tyX2_ok 2 (by decide)) rfl rfl (Nat.le_of_ble_eq_true rfl) dX2_init_42 (fun H locs hP hD hS => ?_)
  replace hP : va_P D vwCl [(q, .inr (2, [.ref a6, .ref a29, .ref a38, .null, .null, .null])), (a6, .inl (T 0, 4, .inl (upd (upd (upd (upd (fun _ => 0) (0 : Int32).toNatClampNeg (-1)) (1 : Int32).toNatClampNeg (-1)) (2 : Int32).toNatClampNeg (-1)) (3 : Int32).toNatClampNeg (-1)))), (a29, .inl (T 0, 4, .inl (fun _ => 0))), (a38, .inl (T 4, 4, .inr (.inr (.inr (.inr (fun i => if i < 4 then some (r i) else none)))))), (r 0, .inl (T 0, 40, .inl (fun _ => 0))), (r 1, .inl (T 0, 40, .inl (fun _ => 0))), (r 2, .inl (T 0, 40, .inl (fun _ => 0))), (r 3, .inl (T 0, 40, .inl (fun _ => 0)))] H := hP
  replace hD : va_D A [(q, .inr (2, [.ref a6, .ref a29, .ref a38, .null, .null, .null])), (a6, .inl (T 0, 4, .inl (upd (upd (upd (upd (fun _ => 0) (0 : Int32).toNatClampNeg (-1)) (1 : Int32).toNatClampNeg (-1)) (2 : Int32).toNatClampNeg (-1)) (3 : Int32).toNatClampNeg (-1)))), (a29, .inl (T 0, 4, .inl (fun _ => 0))), (a38, .inl (T 4, 4, .inr (.inr (.inr (.inr (fun i => if i < 4 then some (r i) else none)))))), (r 0, .inl (T 0, 40, .inl (fun _ => 0))), (r 1, .inl (T 0, 40, .inl (fun _ => 0))), (r 2, .inl (T 0, 40, .inl (fun _ => 0))), (r 3, .inl (T 0, 40, .inl (fun _ => 0)))] := hD
  refine lv_aload_n hx hb dX2_init_45 rfl (lv_at hl 0 rfl) ?_
  refine lv_iconst (v := 4) hx hb dX2_init_46 (by decide) ?_
  refine zNewI hx hb hts 4 rfl hK hP hD hS hA 4 (n := 4) (by decide) (by decide +kernel) (Nat.le_of_ble_eq_true rfl) (Nat.le_of_ble_eq_true rfl) (Nat.le_of_ble_eq_true rfl) dX2_init_47 (fun a47 H hP hD hS => ?_)
  replace hP : va_P D vwCl [(q, .inr (2, [.ref a6, .ref a29, .ref a38, .null, .null, .null])), (a6, .inl (T 0, 4, .inl (upd (upd (upd (upd (fun _ => 0) (0 : Int32).toNatClampNeg (-1)) (1 : Int32).toNatClampNeg (-1)) (2 : Int32).toNatClampNeg (-1)) (3 : Int32).toNatClampNeg (-1)))), (a29, .inl (T 0, 4, .inl (fun _ => 0))), (a38, .inl (T 4, 4, .inr (.inr (.inr (.inr (fun i => if i < 4 then some (r i) else none)))))), (r 0, .inl (T 0, 40, .inl (fun _ => 0))), (r 1, .inl (T 0, 40, .inl (fun _ => 0))), (r 2, .inl (T 0, 40, .inl (fun _ => 0))), (r 3, .inl (T 0, 40, .inl (fun _ => 0))), (a47, .inl (T 0, 4, .inl (fun _ => 0)))] H := hP
  replace hD : va_D A [(q, .inr (2, [.ref a6, .ref a29, .ref a38, .null, .null, .null])), (a6, .inl (T 0, 4, .inl (upd (upd (upd (upd (fun _ => 0) (0 : Int32).toNatClampNeg (-1)) (1 : Int32).toNatClampNeg (-1)) (2 : Int32).toNatClampNeg (-1)) (3 : Int32).toNatClampNeg (-1)))), (a29, .inl (T 0, 4, .inl (fun _ => 0))), (a38, .inl (T 4, 4, .inr (.inr (.inr (.inr (fun i => if i < 4 then some (r i) else none)))))), (r 0, .inl (T 0, 40, .inl (fun _ => 0))), (r 1, .inl (T 0, 40, .inl (fun _ => 0))), (r 2, .inl (T 0, 40, .inl (fun _ => 0))), (r 3, .inl (T 0, 40, .inl (fun _ => 0))), (a47, .inl (T 0, 4, .inl (fun _ => 0)))] := hD
  refine W.widen (k := 8) (n := 176) (Nat.le_of_ble_eq_true rfl) (Nat.le_of_ble_eq_true rfl) ?_
  refine va_putF (ci := 2) (v := .ref a47) (C := RX2) (T := TX2) (N := 6) hx hb hts hiX2 tyX2 tyX2_ok nmX2 hown hK hP hD hS 0 rfl rfl 3 (by decide) (hts _ (List.mem_of_getElem? (i := 9) rfl)) (fun _ h9 => h9) rfl hin rfl (tyX2_ok 3 (by decide)) rfl rfl (Nat.le_of_ble_eq_true rfl) dX2_init_49 (fun H locs hP hD hS => ?_)
  replace hP : va_P D vwCl [(q, .inr (2, [.ref a6, .ref a29, .ref a38, .ref a47, .null, .null])), (a6, .inl (T 0, 4, .inl (upd (upd (upd (upd (fun _ => 0) (0 : Int32).toNatClampNeg (-1)) (1 : Int32).toNatClampNeg (-1)) (2 : Int32).toNatClampNeg (-1)) (3 : Int32).toNatClampNeg (-1)))), (a29, .inl (T 0, 4, .inl (fun _ => 0))), (a38, .inl (T 4, 4, .inr (.inr (.inr (.inr (fun i => if i < 4 then some (r i) else none)))))), (r 0, .inl (T 0, 40, .inl (fun _ => 0))), (r 1, .inl (T 0, 40, .inl (fun _ => 0))), (r 2, .inl (T 0, 40, .inl (fun _ => 0))), (r 3, .inl (T 0, 40, .inl (fun _ => 0))), (a47, .inl (T 0, 4, .inl (fun _ => 0)))] H := hP
  replace hD : va_D A [(q, .inr (2, [.ref a6, .ref a29, .ref a38, .ref a47, .null, .null])), (a6, .inl (T 0, 4, .inl (upd (upd (upd (upd (fun _ => 0) (0 : Int32).toNatClampNeg (-1)) (1 : Int32).toNatClampNeg (-1)) (2 : Int32).toNatClampNeg (-1)) (3 : Int32).toNatClampNeg (-1)))), (a29, .inl (T 0, 4, .inl (fun _ => 0))), (a38, .inl (T 4, 4, .inr (.inr (.inr (.inr (fun i => if i < 4 then some (r i) else none)))))), (r 0, .inl (T 0, 40, .inl (fun _ => 0))), (r 1, .inl (T 0, 40, .inl (fun _ => 0))), (r 2, .inl (T 0, 40, .inl (fun _ => 0))), (r 3, .inl (T 0, 40, .inl (fun _ => 0))), (a47, .inl (T 0, 4, .inl (fun _ => 0)))] := hD
  refine lv_aload_n hx hb dX2_init_52 rfl (lv_at hl 0 rfl) ?_
  refine lv_iconst (v := 4) hx hb dX2_init_53 (by decide) ?_
  refine zNewI hx hb hts 4 rfl hK hP hD hS hA 4 (n := 4) (by decide) (by decide +kernel) (Nat.le_of_ble_eq_true rfl) (Nat.le_of_ble_eq_true rfl) (Nat.le_of_ble_eq_true rfl) dX2_init_54 (fun a54 H hP hD hS => ?_)
  replace hP : va_P D vwCl [(q, .inr (2, [.ref a6, .ref a29, .ref a38, .ref a47, .null, .null])), (a6, .inl (T 0, 4, .inl (upd (upd (upd (upd (fun _ => 0) (0 : Int32).toNatClampNeg (-1)) (1 : Int32).toNatClampNeg (-1)) (2 : Int32).toNatClampNeg (-1)) (3 : Int32).toNatClampNeg (-1)))), (a29, .inl (T 0, 4, .inl (fun _ => 0))), (a38, .inl (T 4, 4, .inr (.inr (.inr (.inr (fun i => if i < 4 then some (r i) else none)))))), (r 0, .inl (T 0, 40, .inl (fun _ => 0))), (r 1, .inl (T 0, 40, .inl (fun _ => 0))), (r 2, .inl (T 0, 40, .inl (fun _ => 0))), (r 3, .inl (T 0, 40, .inl (fun _ => 0))), (a47, .inl (T 0, 4, .inl (fun _ => 0))), (a54, .inl (T 0, 4, .inl (fun _ => 0)))] H := hP
  replace hD : va_D A [(q, .inr (2, [.ref a6, .ref a29, .ref a38, .ref a47, .null, .null])), (a6, .inl (T 0, 4, .inl (upd (upd (upd (upd (fun _ => 0) (0 : Int32).toNatClampNeg (-1)) (1 : Int32).toNatClampNeg (-1)) (2 : Int32).toNatClampNeg (-1)) (3 : Int32).toNatClampNeg (-1)))), (a29, .inl (T 0, 4, .inl (fun _ => 0))), (a38, .inl (T 4, 4, .inr (.inr (.inr (.inr (fun i => if i < 4 then some (r i) else none)))))), (r 0, .inl (T 0, 40, .inl (fun _ => 0))), (r 1, .inl (T 0, 40, .inl (fun _ => 0))), (r 2, .inl (T 0, 40, .inl (fun _ => 0))), (r 3, .inl (T 0, 40, .inl (fun _ => 0))), (a47, .inl (T 0, 4, .inl (fun _ => 0))), (a54, .inl (T 0, 4, .inl (fun _ => 0)))] := hD
  refine W.widen (k := 9) (n := 180) (Nat.le_of_ble_eq_true rfl) (Nat.le_of_ble_eq_true rfl) ?_
  refine va_putF (ci := 2) (v := .ref a54) (C := RX2) (T := TX2) (N := 6) hx hb hts hiX2 tyX2 tyX2_ok nmX2 hown hK hP hD hS 0 rfl rfl 4 (by decide) (hts _ (List.mem_of_getElem? (i := 10) rfl)) (fun _ h9 => h9) rfl hin rfl (tyX2_ok 4 (by decide)) rfl rfl (Nat.le_of_ble_eq_true rfl) dX2_init_56 (fun H locs hP hD hS => ?_)
  replace hP : va_P D vwCl [(q, .inr (2, [.ref a6, .ref a29, .ref a38, .ref a47, .ref a54, .null])), (a6, .inl (T 0, 4, .inl (upd (upd (upd (upd (fun _ => 0) (0 : Int32).toNatClampNeg (-1)) (1 : Int32).toNatClampNeg (-1)) (2 : Int32).toNatClampNeg (-1)) (3 : Int32).toNatClampNeg (-1)))), (a29, .inl (T 0, 4, .inl (fun _ => 0))), (a38, .inl (T 4, 4, .inr (.inr (.inr (.inr (fun i => if i < 4 then some (r i) else none)))))), (r 0, .inl (T 0, 40, .inl (fun _ => 0))), (r 1, .inl (T 0, 40, .inl (fun _ => 0))), (r 2, .inl (T 0, 40, .inl (fun _ => 0))), (r 3, .inl (T 0, 40, .inl (fun _ => 0))), (a47, .inl (T 0, 4, .inl (fun _ => 0))), (a54, .inl (T 0, 4, .inl (fun _ => 0)))] H := hP
  replace hD : va_D A [(q, .inr (2, [.ref a6, .ref a29, .ref a38, .ref a47, .ref a54, .null])), (a6, .inl (T 0, 4, .inl (upd (upd (upd (upd (fun _ => 0) (0 : Int32).toNatClampNeg (-1)) (1 : Int32).toNatClampNeg (-1)) (2 : Int32).toNatClampNeg (-1)) (3 : Int32).toNatClampNeg (-1)))), (a29, .inl (T 0, 4, .inl (fun _ => 0))), (a38, .inl (T 4, 4, .inr (.inr (.inr (.inr (fun i => if i < 4 then some (r i) else none)))))), (r 0, .inl (T 0, 40, .inl (fun _ => 0))), (r 1, .inl (T 0, 40, .inl (fun _ => 0))), (r 2, .inl (T 0, 40, .inl (fun _ => 0))), (r 3, .inl (T 0, 40, .inl (fun _ => 0))), (a47, .inl (T 0, 4, .inl (fun _ => 0))), (a54, .inl (T 0, 4, .inl (fun _ => 0)))] := hD
  refine lv_aload_n hx hb dX2_init_59 rfl (lv_at hl 0 rfl) ?_
  refine lv_iconst (v := 4) hx hb dX2_init_60 (by decide) ?_
  refine zNewI hx hb hts 4 rfl hK hP hD hS hA 4 (n := 4) (by decide) (by decide +kernel) (Nat.le_of_ble_eq_true rfl) (Nat.le_of_ble_eq_true rfl) (Nat.le_of_ble_eq_true rfl) dX2_init_61 (fun a61 H hP hD hS => ?_)
  replace hP : va_P D vwCl [(q, .inr (2, [.ref a6, .ref a29, .ref a38, .ref a47, .ref a54, .null])), (a6, .inl (T 0, 4, .inl (upd (upd (upd (upd (fun _ => 0) (0 : Int32).toNatClampNeg (-1)) (1 : Int32).toNatClampNeg (-1)) (2 : Int32).toNatClampNeg (-1)) (3 : Int32).toNatClampNeg (-1)))), (a29, .inl (T 0, 4, .inl (fun _ => 0))), (a38, .inl (T 4, 4, .inr (.inr (.inr (.inr (fun i => if i < 4 then some (r i) else none)))))), (r 0, .inl (T 0, 40, .inl (fun _ => 0))), (r 1, .inl (T 0, 40, .inl (fun _ => 0))), (r 2, .inl (T 0, 40, .inl (fun _ => 0))), (r 3, .inl (T 0, 40, .inl (fun _ => 0))), (a47, .inl (T 0, 4, .inl (fun _ => 0))), (a54, .inl (T 0, 4, .inl (fun _ => 0))), (a61, .inl (T 0, 4, .inl (fun _ => 0)))] H := hP
  replace hD : va_D A [(q, .inr (2, [.ref a6, .ref a29, .ref a38, .ref a47, .ref a54, .null])), (a6, .inl (T 0, 4, .inl (upd (upd (upd (upd (fun _ => 0) (0 : Int32).toNatClampNeg (-1)) (1 : Int32).toNatClampNeg (-1)) (2 : Int32).toNatClampNeg (-1)) (3 : Int32).toNatClampNeg (-1)))), (a29, .inl (T 0, 4, .inl (fun _ => 0))), (a38, .inl (T 4, 4, .inr (.inr (.inr (.inr (fun i => if i < 4 then some (r i) else none)))))), (r 0, .inl (T 0, 40, .inl (fun _ => 0))), (r 1, .inl (T 0, 40, .inl (fun _ => 0))), (r 2, .inl (T 0, 40, .inl (fun _ => 0))), (r 3, .inl (T 0, 40, .inl (fun _ => 0))), (a47, .inl (T 0, 4, .inl (fun _ => 0))), (a54, .inl (T 0, 4, .inl (fun _ => 0))), (a61, .inl (T 0, 4, .inl (fun _ => 0)))] := hD
  refine W.widen (k := 10) (n := 184) (Nat.le_of_ble_eq_true rfl) (Nat.le_of_ble_eq_true rfl) ?_
  refine va_putF (ci := 2) (v := .ref a61) (C := RX2) (T := TX2) (N := 6) hx hb hts hiX2 tyX2 tyX2_ok nmX2 hown hK hP hD hS 0 rfl rfl 5 (by decide) (hts _ (List.mem_of_getElem? (i := 11) rfl)) (fun _ h9 => h9) rfl hin rfl (tyX2_ok 5 (by decide)) rfl rfl (Nat.le_of_ble_eq_true rfl) dX2_init_63 (fun H locs hP hD hS => ?_)
  replace hP : va_P D vwCl [(q, .inr (2, [.ref a6, .ref a29, .ref a38, .ref a47, .ref a54, .ref a61])), (a6, .inl (T 0, 4, .inl (upd (upd (upd (upd (fun _ => 0) (0 : Int32).toNatClampNeg (-1)) (1 : Int32).toNatClampNeg (-1)) (2 : Int32).toNatClampNeg (-1)) (3 : Int32).toNatClampNeg (-1)))), (a29, .inl (T 0, 4, .inl (fun _ => 0))), (a38, .inl (T 4, 4, .inr (.inr (.inr (.inr (fun i => if i < 4 then some (r i) else none)))))), (r 0, .inl (T 0, 40, .inl (fun _ => 0))), (r 1, .inl (T 0, 40, .inl (fun _ => 0))), (r 2, .inl (T 0, 40, .inl (fun _ => 0))), (r 3, .inl (T 0, 40, .inl (fun _ => 0))), (a47, .inl (T 0, 4, .inl (fun _ => 0))), (a54, .inl (T 0, 4, .inl (fun _ => 0))), (a61, .inl (T 0, 4, .inl (fun _ => 0)))] H := hP
  replace hD : va_D A [(q, .inr (2, [.ref a6, .ref a29, .ref a38, .ref a47, .ref a54, .ref a61])), (a6, .inl (T 0, 4, .inl (upd (upd (upd (upd (fun _ => 0) (0 : Int32).toNatClampNeg (-1)) (1 : Int32).toNatClampNeg (-1)) (2 : Int32).toNatClampNeg (-1)) (3 : Int32).toNatClampNeg (-1)))), (a29, .inl (T 0, 4, .inl (fun _ => 0))), (a38, .inl (T 4, 4, .inr (.inr (.inr (.inr (fun i => if i < 4 then some (r i) else none)))))), (r 0, .inl (T 0, 40, .inl (fun _ => 0))), (r 1, .inl (T 0, 40, .inl (fun _ => 0))), (r 2, .inl (T 0, 40, .inl (fun _ => 0))), (r 3, .inl (T 0, 40, .inl (fun _ => 0))), (a47, .inl (T 0, 4, .inl (fun _ => 0))), (a54, .inl (T 0, 4, .inl (fun _ => 0))), (a61, .inl (T 0, 4, .inl (fun _ => 0)))] := hD
  obtain ⟨u, hu⟩ : ∃ u : Nat → Nat, u = fun c => if c < 7 then [q, a6, a29, a38, a47, a54, a61].getD c 0 else r (c - 7) := ⟨_, rfl⟩
  have hr2 : (fun i => if i < 4 then some (u (7 + i)) else none) = (fun i => if i < 4 then some (r i) else none) := by
    funext i
    have : u (7 + i) = r i := by rw [hu]; show (if 7 + i < 7 then _ else r (7 + i - 7)) = _; rw [if_neg (by omega), Nat.add_sub_cancel_left]
    rw [this]
  have hP2 : va_P D vwCl [(q, .inr (2, [.ref a6, .ref a29, .ref a38, .ref a47, .ref a54, .ref a61])), (a6, .inl (T 0, 4, .inl (upd (upd (upd (upd (fun _ => 0) (0 : Int32).toNatClampNeg (-1)) (1 : Int32).toNatClampNeg (-1)) (2 : Int32).toNatClampNeg (-1)) (3 : Int32).toNatClampNeg (-1)))), (a29, .inl (T 0, 4, .inl (fun _ => 0))), (a38, .inl (T 4, 4, .inr (.inr (.inr (.inr (fun i => if i < 4 then some (r i) else none)))))), (a47, .inl (T 0, 4, .inl (fun _ => 0))), (a54, .inl (T 0, 4, .inl (fun _ => 0))), (a61, .inl (T 0, 4, .inl (fun _ => 0))), (r 0, .inl (T 0, 40, .inl (fun _ => 0))), (r 1, .inl (T 0, 40, .inl (fun _ => 0))), (r 2, .inl (T 0, 40, .inl (fun _ => 0))), (r 3, .inl (T 0, 40, .inl (fun _ => 0)))] H := hP.sub [0, 1, 2, 3, 8, 9, 10, 4, 5, 6, 7] rfl
  have hD2 : va_D A [(q, .inr (2, [.ref a6, .ref a29, .ref a38, .ref a47, .ref a54, .ref a61])), (a6, .inl (T 0, 4, .inl (upd (upd (upd (upd (fun _ => 0) (0 : Int32).toNatClampNeg (-1)) (1 : Int32).toNatClampNeg (-1)) (2 : Int32).toNatClampNeg (-1)) (3 : Int32).toNatClampNeg (-1)))), (a29, .inl (T 0, 4, .inl (fun _ => 0))), (a38, .inl (T 4, 4, .inr (.inr (.inr (.inr (fun i => if i < 4 then some (r i) else none)))))), (a47, .inl (T 0, 4, .inl (fun _ => 0))), (a54, .inl (T 0, 4, .inl (fun _ => 0))), (a61, .inl (T 0, 4, .inl (fun _ => 0))), (r 0, .inl (T 0, 40, .inl (fun _ => 0))), (r 1, .inl (T 0, 40, .inl (fun _ => 0))), (r 2, .inl (T 0, 40, .inl (fun _ => 0))), (r 3, .inl (T 0, 40, .inl (fun _ => 0)))] := hD.sub [0, 1, 2, 3, 8, 9, 10, 4, 5, 6, 7] rfl rfl
  have hw : wX2 T u mX2 = [(q, .inr (2, [.ref a6, .ref a29, .ref a38, .ref a47, .ref a54, .ref a61])), (a6, .inl (T 0, 4, .inl (upd (upd (upd (upd (fun _ => 0) (0 : Int32).toNatClampNeg (-1)) (1 : Int32).toNatClampNeg (-1)) (2 : Int32).toNatClampNeg (-1)) (3 : Int32).toNatClampNeg (-1)))), (a29, .inl (T 0, 4, .inl (fun _ => 0))), (a38, .inl (T 4, 4, .inr (.inr (.inr (.inr (fun i => if i < 4 then some (r i) else none)))))), (a47, .inl (T 0, 4, .inl (fun _ => 0))), (a54, .inl (T 0, 4, .inl (fun _ => 0))), (a61, .inl (T 0, 4, .inl (fun _ => 0))), (r 0, .inl (T 0, 40, .inl (fun _ => 0))), (r 1, .inl (T 0, 40, .inl (fun _ => 0))), (r 2, .inl (T 0, 40, .inl (fun _ => 0))), (r 3, .inl (T 0, 40, .inl (fun _ => 0)))] := by
    unfold wX2
    rw [hr2, hu]
    rfl
  refine zRetN (u := (u, mX2)) hQ hx hb hr hlocks hA0 hK (by show va_P D vwCl (wX2 T u mX2) H; rw [hw]; exact hP2) (by show va_D A (wX2 T u mX2); rw [hw]; exact hD2) hS ⟨by rw [hu]; rfl, rfl⟩ dX2_init_66
def mX3 : zM := fun k => if k = 0 then (fun j => 0) else fun _ => 0
def okX3 (w : zM) : Prop := w = mX3
def wcX3 (q : Nat) : va_W := [(q, .inr (3, [.null]))]
def rX3_init : Room := { frames := 4, cells := 1, slots := 10, locals := 200 }
set_option maxHeartbeats 8000000 in
set_option maxRecDepth 100000 in
theorem pX3_init (l : Launch) (D : va_G) (T : Nat → ClassId) (X : zFP) (q sz : Nat) : Met l yX3_init wsX3_init rX3_init (zPreN D T X [.ref q] (wcX3 q) sz) (zQn D T (fun u : (Nat → Nat) × zM => wX3 T u.1 u.2) (fun u => u.1 0 = q ∧ okX3 u.2) (wcX3 q) sz) 1 10 (va_A (wcX3 q) sz) := by
  refine zStartN [(0, .ref q)] (by decide) rfl (Nat.le_of_ble_eq_true rfl) rfl ?_
  intro p e s m args below meth c A Q ls hx hb hr hml hown hlocks hts hsz hA0 hQ hA hK hX hN hin hP hD hS hl
  replace hown : s.vm.findClass RX3 = some m.cls := hown
  replace hin : meth.name = "<init>" := hin
  have hiX3 : ∀ w ∈ u_ws RX3 TX3 1, w ∈ wsX3_init := fun w h => List.mem_cons_of_mem _ (List.mem_append_right _ (h))
  obtain ⟨H, hHe⟩ : ∃ H : Heap, H = s.heap := ⟨_, rfl⟩
  obtain ⟨locs, hLe⟩ : ∃ L : List Loc, L = [] := ⟨_, rfl⟩
  replace hP : va_P D vwCl (wcX3 q) H := by rw [hHe]; exact hP
  replace hS : va_S A s.heap H locs := by rw [hHe, hLe]; exact hS
  suffices hgo : W p l e rX3_init s m args below meth c H locs 0 0 Q (F0 m 0 ls []) by rw [hHe, hLe] at hgo; exact hgo
  clear hHe hLe
  refine lv_aload_n hx hb dX3_init_0 rfl (lv_at hl 0 rfl) ?_
  refine W.objInit hx hb hown (hts _ (List.mem_of_getElem? (i := 1) rfl)) (hts _ (List.mem_of_getElem? (i := 2) rfl)) (hts _ (List.mem_of_getElem? (i := 3) rfl)) rfl (by rw [hml]; exact hl.1) rfl dX3_init_1 (Nat.le_of_ble_eq_true rfl) (Nat.le_of_ble_eq_true rfl) ?_
  refine W.eq (g2 := F0 m 4 ls []) rfl ?_
  refine lv_aload_n hx hb dX3_init_4 rfl (lv_at hl 0 rfl) ?_
  refine lv_bipush (v := 10) hx hb dX3_init_5 (by decide) ?_
  refine zNewI hx hb hts 4 rfl hK hP hD hS hA 10 (n := 10) (by decide) (by decide +kernel) (Nat.le_of_ble_eq_true rfl) (Nat.le_of_ble_eq_true rfl) (Nat.le_of_ble_eq_true rfl) dX3_init_7 (fun a7 H hP hD hS => ?_)
  replace hP : va_P D vwCl [(q, .inr (3, [.null])), (a7, .inl (T 0, 10, .inl (fun _ => 0)))] H := hP
  replace hD : va_D A [(q, .inr (3, [.null])), (a7, .inl (T 0, 10, .inl (fun _ => 0)))] := hD
  refine W.widen (k := 1) (n := 10) (Nat.le_of_ble_eq_true rfl) (Nat.le_of_ble_eq_true rfl) ?_
  refine va_putF (ci := 3) (v := .ref a7) (C := RX3) (T := TX3) (N := 1) hx hb hts hiX3 tyX3 tyX3_ok nmX3 hown hK hP hD hS 0 rfl rfl 0 (by decide) (hts _ (List.mem_of_getElem? (i := 5) rfl)) (fun _ h9 => h9) rfl hin rfl (tyX3_ok 0 (by decide)) rfl rfl (Nat.le_of_ble_eq_true rfl) dX3_init_9 (fun H locs hP hD hS => ?_)
  replace hP : va_P D vwCl [(q, .inr (3, [.ref a7])), (a7, .inl (T 0, 10, .inl (fun _ => 0)))] H := hP
  replace hD : va_D A [(q, .inr (3, [.ref a7])), (a7, .inl (T 0, 10, .inl (fun _ => 0)))] := hD
  obtain ⟨u, hu⟩ : ∃ u : Nat → Nat, u = fun c => [q, a7].getD c 0 := ⟨_, rfl⟩
  refine zRetN (u := (u, mX3)) hQ hx hb hr hlocks hA0 hK (by show va_P D vwCl (wX3 T u mX3) H; rw [hu]; exact hP) (by show va_D A (wX3 T u mX3); rw [hu]; exact hD) hS ⟨by rw [hu]; rfl, rfl⟩ dX3_init_12
def mX4 : zM := fun k => if k = 0 then (fun j => 0) else fun _ => 0
def okX4 (w : zM) : Prop := w = mX4
def wcX4 (q : Nat) : va_W := [(q, .inr (4, [.null, .int 0]))]
def rX4_init : Room := { frames := 4, cells := 1, slots := 10, locals := 200 }
set_option maxHeartbeats 8000000 in
set_option maxRecDepth 100000 in
theorem pX4_init (l : Launch) (D : va_G) (T : Nat → ClassId) (X : zFP) (q sz : Nat) : Met l yX4_init wsX4_init rX4_init (zPreN D T X [.ref q] (wcX4 q) sz) (zQn D T (fun u : (Nat → Nat) × zM => wX4 T u.1 u.2) (fun u => u.1 0 = q ∧ okX4 u.2) (wcX4 q) sz) 1 10 (va_A (wcX4 q) sz) := by
  refine zStartN [(0, .ref q)] (by decide) rfl (Nat.le_of_ble_eq_true rfl) rfl ?_
  intro p e s m args below meth c A Q ls hx hb hr hml hown hlocks hts hsz hA0 hQ hA hK hX hN hin hP hD hS hl
  replace hown : s.vm.findClass RX4 = some m.cls := hown
  replace hin : meth.name = "<init>" := hin
  have hiX4 : ∀ w ∈ u_ws RX4 TX4 2, w ∈ wsX4_init := fun w h => List.mem_cons_of_mem _ (List.mem_append_right _ (h))
  obtain ⟨H, hHe⟩ : ∃ H : Heap, H = s.heap := ⟨_, rfl⟩
  obtain ⟨locs, hLe⟩ : ∃ L : List Loc, L = [] := ⟨_, rfl⟩
  replace hP : va_P D vwCl (wcX4 q) H := by rw [hHe]; exact hP
  replace hS : va_S A s.heap H locs := by rw [hHe, hLe]; exact hS
  suffices hgo : W p l e rX4_init s m args below meth c H locs 0 0 Q (F0 m 0 ls []) by rw [hHe, hLe] at hgo; exact hgo
  clear hHe hLe
  refine lv_aload_n hx hb dX4_init_0 rfl (lv_at hl 0 rfl) ?_
  refine W.objInit hx hb hown (hts _ (List.mem_of_getElem? (i := 1) rfl)) (hts _ (List.mem_of_getElem? (i := 2) rfl)) (hts _ (List.mem_of_getElem? (i := 3) rfl)) rfl (by rw [hml]; exact hl.1) rfl dX4_init_1 (Nat.le_of_ble_eq_true rfl) (Nat.le_of_ble_eq_true rfl) ?_
  refine W.eq (g2 := F0 m 4 ls []) rfl ?_
  refine lv_aload_n hx hb dX4_init_4 rfl (lv_at hl 0 rfl) ?_
  refine lv_bipush (v := 10) hx hb dX4_init_5 (by decide) ?_
  refine zNewI hx hb hts 4 rfl hK hP hD hS hA 10 (n := 10) (by decide) (by decide +kernel) (Nat.le_of_ble_eq_true rfl) (Nat.le_of_ble_eq_true rfl) (Nat.le_of_ble_eq_true rfl) dX4_init_7 (fun a7 H hP hD hS => ?_)
  replace hP : va_P D vwCl [(q, .inr (4, [.null, .int 0])), (a7, .inl (T 0, 10, .inl (fun _ => 0)))] H := hP
  replace hD : va_D A [(q, .inr (4, [.null, .int 0])), (a7, .inl (T 0, 10, .inl (fun _ => 0)))] := hD
  refine W.widen (k := 1) (n := 10) (Nat.le_of_ble_eq_true rfl) (Nat.le_of_ble_eq_true rfl) ?_
  refine va_putF (ci := 4) (v := .ref a7) (C := RX4) (T := TX4) (N := 2) hx hb hts hiX4 tyX4 tyX4_ok nmX4 hown hK hP hD hS 0 rfl rfl 0 (by decide) (hts _ (List.mem_of_getElem? (i := 5) rfl)) (fun _ h9 => h9) rfl hin rfl (tyX4_ok 0 (by decide)) rfl rfl (Nat.le_of_ble_eq_true rfl) dX4_init_9 (fun H locs hP hD hS => ?_)
  replace hP : va_P D vwCl [(q, .inr (4, [.ref a7, .int 0])), (a7, .inl (T 0, 10, .inl (fun _ => 0)))] H := hP
  replace hD : va_D A [(q, .inr (4, [.ref a7, .int 0])), (a7, .inl (T 0, 10, .inl (fun _ => 0)))] := hD
  refine lv_aload_n hx hb dX4_init_12 rfl (lv_at hl 0 rfl) ?_
  refine lv_iconst (v := 0) hx hb dX4_init_13 (by decide) ?_
  refine va_put (ci := 4) (v := .int 0) (C := RX4) (T := TX4) (N := 2) hx hb hts hiX4 tyX4 tyX4_ok nmX4 hown hK hP hD hS 0 rfl rfl 1 (by decide) (hts _ (List.mem_of_getElem? (i := 6) rfl)) (fun _ h9 => h9) rfl (tyX4_ok 1 (by decide)) (by decide) (by decide) (Nat.le_of_ble_eq_true rfl) dX4_init_14 (fun H locs hP hD hS => ?_)
  replace hP : va_P D vwCl [(q, .inr (4, [.ref a7, .int 0])), (a7, .inl (T 0, 10, .inl (fun _ => 0)))] H := hP
  replace hD : va_D A [(q, .inr (4, [.ref a7, .int 0])), (a7, .inl (T 0, 10, .inl (fun _ => 0)))] := hD
  obtain ⟨u, hu⟩ : ∃ u : Nat → Nat, u = fun c => [q, a7].getD c 0 := ⟨_, rfl⟩
  refine zRetN (u := (u, mX4)) hQ hx hb hr hlocks hA0 hK (by show va_P D vwCl (wX4 T u mX4) H; rw [hu]; exact hP) (by show va_D A (wX4 T u mX4); rw [hu]; exact hD) hS ⟨by rw [hu]; rfl, rfl⟩ dX4_init_17
def mX5 : zM := fun k => if k = 0 then (fun j => 0) else fun _ => 0
def okX5 (w : zM) : Prop := w = mX5
def wcX5 (q : Nat) : va_W := [(q, .inr (5, [.null, .int 0]))]
def rX5_init : Room := { frames := 4, cells := 11, slots := 40, locals := 200 }
set_option maxHeartbeats 8000000 in
set_option maxRecDepth 100000 in
theorem pX5_init (l : Launch) (D : va_G) (T : Nat → ClassId) (X : zFP) (q sz : Nat) : Met l yX5_init wsX5_init rX5_init (zPreN D T X [.ref q] (wcX5 q) sz) (zQn D T (fun u : (Nat → Nat) × zM => wX5 T u.1 u.2) (fun u => u.1 0 = q ∧ okX5 u.2) (wcX5 q) sz) 11 40 (va_A (wcX5 q) sz) := by
  refine zStartN [(0, .ref q)] (by decide) rfl (Nat.le_of_ble_eq_true rfl) rfl ?_
  intro p e s m args below meth c A Q ls hx hb hr hml hown hlocks hts hsz hA0 hQ hA hK hX hN hin hP hD hS hl
  replace hown : s.vm.findClass RX5 = some m.cls := hown
  replace hin : meth.name = "<init>" := hin
  have hiX5 : ∀ w ∈ u_ws RX5 TX5 2, w ∈ wsX5_init := fun w h => List.mem_cons_of_mem _ (List.mem_append_right _ (h))
  obtain ⟨H, hHe⟩ : ∃ H : Heap, H = s.heap := ⟨_, rfl⟩
  obtain ⟨locs, hLe⟩ : ∃ L : List Loc, L = [] := ⟨_, rfl⟩
  replace hP : va_P D vwCl (wcX5 q) H := by rw [hHe]; exact hP
  replace hS : va_S A s.heap H locs := by rw [hHe, hLe]; exact hS
  suffices hgo : W p l e rX5_init s m args below meth c H locs 0 0 Q (F0 m 0 ls []) by rw [hHe, hLe] at hgo; exact hgo
  clear hHe hLe
  refine lv_aload_n hx hb dX5_init_0 rfl (lv_at hl 0 rfl) ?_
  refine W.objInit hx hb hown (hts _ (List.mem_of_getElem? (i := 1) rfl)) (hts _ (List.mem_of_getElem? (i := 2) rfl)) (hts _ (List.mem_of_getElem? (i := 3) rfl)) rfl (by rw [hml]; exact hl.1) rfl dX5_init_1 (Nat.le_of_ble_eq_true rfl) (Nat.le_of_ble_eq_true rfl) ?_
  refine W.eq (g2 := F0 m 4 ls []) rfl ?_
  refine lv_aload_n hx hb dX5_init_4 rfl (lv_at hl 0 rfl) ?_
  refine lv_bipush (v := 10) hx hb dX5_init_5 (by decide) ?_
  refine lv_iconst (v := 3) hx hb dX5_init_7 (by decide) ?_
  refine zNewA hx hb hown hts 4 5 rfl rfl hN.1 hK hP hD hS hA 10 3 (n := 10) (k := 3) (by decide) (by decide) (by decide +kernel) (by decide +kernel) (Nat.le_of_ble_eq_true rfl) (Nat.le_of_ble_eq_true rfl) (Nat.le_of_ble_eq_true rfl) (Nat.le_of_ble_eq_true rfl) (Nat.le_of_ble_eq_true rfl) dX5_init_8 (fun a8 r H hP hD hS => ?_)
  replace hP : va_P D vwCl [(q, .inr (5, [.null, .int 0])), (a8, .inl (T 4, 10, .inr (.inr (.inr (.inr (fun i => if i < 10 then some (r i) else none)))))), (r 0, .inl (T 0, 3, .inl (fun _ => 0))), (r 1, .inl (T 0, 3, .inl (fun _ => 0))), (r 2, .inl (T 0, 3, .inl (fun _ => 0))), (r 3, .inl (T 0, 3, .inl (fun _ => 0))), (r 4, .inl (T 0, 3, .inl (fun _ => 0))), (r 5, .inl (T 0, 3, .inl (fun _ => 0))), (r 6, .inl (T 0, 3, .inl (fun _ => 0))), (r 7, .inl (T 0, 3, .inl (fun _ => 0))), (r 8, .inl (T 0, 3, .inl (fun _ => 0))), (r 9, .inl (T 0, 3, .inl (fun _ => 0)))] H := hP
  replace hD : va_D A [(q, .inr (5, [.null, .int 0])), (a8, .inl (T 4, 10, .inr (.inr (.inr (.inr (fun i => if i < 10 then some (r i) else none)))))), (r 0, .inl (T 0, 3, .inl (fun _ => 0))), (r 1, .inl (T 0, 3, .inl (fun _ => 0))), (r 2, .inl (T 0, 3, .inl (fun _ => 0))), (r 3, .inl (T 0, 3, .inl (fun _ => 0))), (r 4, .inl (T 0, 3, .inl (fun _ => 0))), (r 5, .inl (T 0, 3, .inl (fun _ => 0))), (r 6, .inl (T 0, 3, .inl (fun _ => 0))), (r 7, .inl (T 0, 3, .inl (fun _ => 0))), (r 8, .inl (T 0, 3, .inl (fun _ => 0))), (r 9, .inl (T 0, 3, .inl (fun _ => 0)))] := hD
  refine W.widen (k := 11) (n := 40) (Nat.le_of_ble_eq_true rfl) (Nat.le_of_ble_eq_true rfl) ?_
  refine va_putF (ci := 5) (v := .ref a8) (C := RX5) (T := TX5) (N := 2) hx hb hts hiX5 tyX5 tyX5_ok nmX5 hown hK hP hD hS 0 rfl rfl 0 (by decide) (hts _ (List.mem_of_getElem? (i := 6) rfl)) (fun _ h9 => h9) rfl hin rfl (tyX5_ok 0 (by decide)) rfl rfl (Nat.le_of_ble_eq_true rfl) dX5_init_12 (fun H locs hP hD hS => ?_)
  replace hP : va_P D vwCl [(q, .inr (5, [.ref a8, .int 0])), (a8, .inl (T 4, 10, .inr (.inr (.inr (.inr (fun i => if i < 10 then some (r i) else none)))))), (r 0, .inl (T 0, 3, .inl (fun _ => 0))), (r 1, .inl (T 0, 3, .inl (fun _ => 0))), (r 2, .inl (T 0, 3, .inl (fun _ => 0))), (r 3, .inl (T 0, 3, .inl (fun _ => 0))), (r 4, .inl (T 0, 3, .inl (fun _ => 0))), (r 5, .inl (T 0, 3, .inl (fun _ => 0))), (r 6, .inl (T 0, 3, .inl (fun _ => 0))), (r 7, .inl (T 0, 3, .inl (fun _ => 0))), (r 8, .inl (T 0, 3, .inl (fun _ => 0))), (r 9, .inl (T 0, 3, .inl (fun _ => 0)))] H := hP
  replace hD : va_D A [(q, .inr (5, [.ref a8, .int 0])), (a8, .inl (T 4, 10, .inr (.inr (.inr (.inr (fun i => if i < 10 then some (r i) else none)))))), (r 0, .inl (T 0, 3, .inl (fun _ => 0))), (r 1, .inl (T 0, 3, .inl (fun _ => 0))), (r 2, .inl (T 0, 3, .inl (fun _ => 0))), (r 3, .inl (T 0, 3, .inl (fun _ => 0))), (r 4, .inl (T 0, 3, .inl (fun _ => 0))), (r 5, .inl (T 0, 3, .inl (fun _ => 0))), (r 6, .inl (T 0, 3, .inl (fun _ => 0))), (r 7, .inl (T 0, 3, .inl (fun _ => 0))), (r 8, .inl (T 0, 3, .inl (fun _ => 0))), (r 9, .inl (T 0, 3, .inl (fun _ => 0)))] := hD
  refine lv_aload_n hx hb dX5_init_15 rfl (lv_at hl 0 rfl) ?_
  refine lv_iconst (v := 0) hx hb dX5_init_16 (by decide) ?_
  refine va_put (ci := 5) (v := .int 0) (C := RX5) (T := TX5) (N := 2) hx hb hts hiX5 tyX5 tyX5_ok nmX5 hown hK hP hD hS 0 rfl rfl 1 (by decide) (hts _ (List.mem_of_getElem? (i := 7) rfl)) (fun _ h9 => h9) rfl (tyX5_ok 1 (by decide)) (by decide) (by decide) (Nat.le_of_ble_eq_true rfl) dX5_init_17 (fun H locs hP hD hS => ?_)
  replace hP : va_P D vwCl [(q, .inr (5, [.ref a8, .int 0])), (a8, .inl (T 4, 10, .inr (.inr (.inr (.inr (fun i => if i < 10 then some (r i) else none)))))), (r 0, .inl (T 0, 3, .inl (fun _ => 0))), (r 1, .inl (T 0, 3, .inl (fun _ => 0))), (r 2, .inl (T 0, 3, .inl (fun _ => 0))), (r 3, .inl (T 0, 3, .inl (fun _ => 0))), (r 4, .inl (T 0, 3, .inl (fun _ => 0))), (r 5, .inl (T 0, 3, .inl (fun _ => 0))), (r 6, .inl (T 0, 3, .inl (fun _ => 0))), (r 7, .inl (T 0, 3, .inl (fun _ => 0))), (r 8, .inl (T 0, 3, .inl (fun _ => 0))), (r 9, .inl (T 0, 3, .inl (fun _ => 0)))] H := hP
  replace hD : va_D A [(q, .inr (5, [.ref a8, .int 0])), (a8, .inl (T 4, 10, .inr (.inr (.inr (.inr (fun i => if i < 10 then some (r i) else none)))))), (r 0, .inl (T 0, 3, .inl (fun _ => 0))), (r 1, .inl (T 0, 3, .inl (fun _ => 0))), (r 2, .inl (T 0, 3, .inl (fun _ => 0))), (r 3, .inl (T 0, 3, .inl (fun _ => 0))), (r 4, .inl (T 0, 3, .inl (fun _ => 0))), (r 5, .inl (T 0, 3, .inl (fun _ => 0))), (r 6, .inl (T 0, 3, .inl (fun _ => 0))), (r 7, .inl (T 0, 3, .inl (fun _ => 0))), (r 8, .inl (T 0, 3, .inl (fun _ => 0))), (r 9, .inl (T 0, 3, .inl (fun _ => 0)))] := hD
  obtain ⟨u, hu⟩ : ∃ u : Nat → Nat, u = fun c => if c < 2 then [q, a8].getD c 0 else r (c - 2) := ⟨_, rfl⟩
  have hr2 : (fun i => if i < 10 then some (u (2 + i)) else none) = (fun i => if i < 10 then some (r i) else none) := by
    funext i
    have : u (2 + i) = r i := by rw [hu]; show (if 2 + i < 2 then _ else r (2 + i - 2)) = _; rw [if_neg (by omega), Nat.add_sub_cancel_left]
    rw [this]
  have hP2 : va_P D vwCl [(q, .inr (5, [.ref a8, .int 0])), (a8, .inl (T 4, 10, .inr (.inr (.inr (.inr (fun i => if i < 10 then some (r i) else none)))))), (r 0, .inl (T 0, 3, .inl (fun _ => 0))), (r 1, .inl (T 0, 3, .inl (fun _ => 0))), (r 2, .inl (T 0, 3, .inl (fun _ => 0))), (r 3, .inl (T 0, 3, .inl (fun _ => 0))), (r 4, .inl (T 0, 3, .inl (fun _ => 0))), (r 5, .inl (T 0, 3, .inl (fun _ => 0))), (r 6, .inl (T 0, 3, .inl (fun _ => 0))), (r 7, .inl (T 0, 3, .inl (fun _ => 0))), (r 8, .inl (T 0, 3, .inl (fun _ => 0))), (r 9, .inl (T 0, 3, .inl (fun _ => 0)))] H := hP.sub [0, 1, 2, 3, 4, 5, 6, 7, 8, 9, 10, 11] rfl
  have hD2 : va_D A [(q, .inr (5, [.ref a8, .int 0])), (a8, .inl (T 4, 10, .inr (.inr (.inr (.inr (fun i => if i < 10 then some (r i) else none)))))), (r 0, .inl (T 0, 3, .inl (fun _ => 0))), (r 1, .inl (T 0, 3, .inl (fun _ => 0))), (r 2, .inl (T 0, 3, .inl (fun _ => 0))), (r 3, .inl (T 0, 3, .inl (fun _ => 0))), (r 4, .inl (T 0, 3, .inl (fun _ => 0))), (r 5, .inl (T 0, 3, .inl (fun _ => 0))), (r 6, .inl (T 0, 3, .inl (fun _ => 0))), (r 7, .inl (T 0, 3, .inl (fun _ => 0))), (r 8, .inl (T 0, 3, .inl (fun _ => 0))), (r 9, .inl (T 0, 3, .inl (fun _ => 0)))] := hD.sub [0, 1, 2, 3, 4, 5, 6, 7, 8, 9, 10, 11] rfl rfl
  have hw : wX5 T u mX5 = [(q, .inr (5, [.ref a8, .int 0])), (a8, .inl (T 4, 10, .inr (.inr (.inr (.inr (fun i => if i < 10 then some (r i) else none)))))), (r 0, .inl (T 0, 3, .inl (fun _ => 0))), (r 1, .inl (T 0, 3, .inl (fun _ => 0))), (r 2, .inl (T 0, 3, .inl (fun _ => 0))), (r 3, .inl (T 0, 3, .inl (fun _ => 0))), (r 4, .inl (T 0, 3, .inl (fun _ => 0))), (r 5, .inl (T 0, 3, .inl (fun _ => 0))), (r 6, .inl (T 0, 3, .inl (fun _ => 0))), (r 7, .inl (T 0, 3, .inl (fun _ => 0))), (r 8, .inl (T 0, 3, .inl (fun _ => 0))), (r 9, .inl (T 0, 3, .inl (fun _ => 0)))] := by
    unfold wX5
    rw [hr2, hu]
    rfl
  refine zRetN (u := (u, mX5)) hQ hx hb hr hlocks hA0 hK (by show va_P D vwCl (wX5 T u mX5) H; rw [hw]; exact hP2) (by show va_D A (wX5 T u mX5); rw [hw]; exact hD2) hS ⟨by rw [hu]; rfl, rfl⟩ dX5_init_20
def mX6 : zM := fun k => if k = 0 then (fun j => 0) else fun _ => 0
def okX6 (w : zM) : Prop := w = mX6
def wcX6 (q : Nat) : va_W := [(q, .inr (6, [.null, .int 0, .int 0]))]
def rX6_init : Room := { frames := 4, cells := 1, slots := 9, locals := 200 }
set_option maxHeartbeats 8000000 in
set_option maxRecDepth 100000 in
theorem pX6_init (l : Launch) (D : va_G) (T : Nat → ClassId) (X : zFP) (q sz : Nat) : Met l yX6_init wsX6_init rX6_init (zPreN D T X [.ref q] (wcX6 q) sz) (zQn D T (fun u : (Nat → Nat) × zM => wX6 T u.1 u.2) (fun u => u.1 0 = q ∧ okX6 u.2) (wcX6 q) sz) 1 9 (va_A (wcX6 q) sz) := by
  refine zStartN [(0, .ref q)] (by decide) rfl (Nat.le_of_ble_eq_true rfl) rfl ?_
  intro p e s m args below meth c A Q ls hx hb hr hml hown hlocks hts hsz hA0 hQ hA hK hX hN hin hP hD hS hl
  replace hown : s.vm.findClass RX6 = some m.cls := hown
  replace hin : meth.name = "<init>" := hin
  have hiX6 : ∀ w ∈ u_ws RX6 TX6 3, w ∈ wsX6_init := fun w h => List.mem_cons_of_mem _ (List.mem_append_right _ (h))
  obtain ⟨H, hHe⟩ : ∃ H : Heap, H = s.heap := ⟨_, rfl⟩
  obtain ⟨locs, hLe⟩ : ∃ L : List Loc, L = [] := ⟨_, rfl⟩
  replace hP : va_P D vwCl (wcX6 q) H := by rw [hHe]; exact hP
  replace hS : va_S A s.heap H locs := by rw [hHe, hLe]; exact hS
  suffices hgo : W p l e rX6_init s m args below meth c H locs 0 0 Q (F0 m 0 ls []) by rw [hHe, hLe] at hgo; exact hgo
  clear hHe hLe
  refine lv_aload_n hx hb dX6_init_0 rfl (lv_at hl 0 rfl) ?_
  refine W.objInit hx hb hown (hts _ (List.mem_of_getElem? (i := 1) rfl)) (hts _ (List.mem_of_getElem? (i := 2) rfl)) (hts _ (List.mem_of_getElem? (i := 3) rfl)) rfl (by rw [hml]; exact hl.1) rfl dX6_init_1 (Nat.le_of_ble_eq_true rfl) (Nat.le_of_ble_eq_true rfl) ?_
  refine W.eq (g2 := F0 m 4 ls []) rfl ?_
  refine lv_aload_n hx hb dX6_init_4 rfl (lv_at hl 0 rfl) ?_
  refine lv_bipush (v := 9) hx hb dX6_init_5 (by decide) ?_
  refine zNewI hx hb hts 4 rfl hK hP hD hS hA 9 (n := 9) (by decide) (by decide +kernel) (Nat.le_of_ble_eq_true rfl) (Nat.le_of_ble_eq_true rfl) (Nat.le_of_ble_eq_true rfl) dX6_init_7 (fun a7 H hP hD hS => ?_)
  replace hP : va_P D vwCl [(q, .inr (6, [.null, .int 0, .int 0])), (a7, .inl (T 0, 9, .inl (fun _ => 0)))] H := hP
  replace hD : va_D A [(q, .inr (6, [.null, .int 0, .int 0])), (a7, .inl (T 0, 9, .inl (fun _ => 0)))] := hD
  refine W.widen (k := 1) (n := 9) (Nat.le_of_ble_eq_true rfl) (Nat.le_of_ble_eq_true rfl) ?_
  refine va_putF (ci := 6) (v := .ref a7) (C := RX6) (T := TX6) (N := 3) hx hb hts hiX6 tyX6 tyX6_ok nmX6 hown hK hP hD hS 0 rfl rfl 0 (by decide) (hts _ (List.mem_of_getElem? (i := 5) rfl)) (fun _ h9 => h9) rfl hin rfl (tyX6_ok 0 (by decide)) rfl rfl (Nat.le_of_ble_eq_true rfl) dX6_init_9 (fun H locs hP hD hS => ?_)
  replace hP : va_P D vwCl [(q, .inr (6, [.ref a7, .int 0, .int 0])), (a7, .inl (T 0, 9, .inl (fun _ => 0)))] H := hP
  replace hD : va_D A [(q, .inr (6, [.ref a7, .int 0, .int 0])), (a7, .inl (T 0, 9, .inl (fun _ => 0)))] := hD
  refine lv_aload_n hx hb dX6_init_12 rfl (lv_at hl 0 rfl) ?_
  refine lv_iconst (v := 0) hx hb dX6_init_13 (by decide) ?_
  refine va_put (ci := 6) (v := .int 0) (C := RX6) (T := TX6) (N := 3) hx hb hts hiX6 tyX6 tyX6_ok nmX6 hown hK hP hD hS 0 rfl rfl 1 (by decide) (hts _ (List.mem_of_getElem? (i := 6) rfl)) (fun _ h9 => h9) rfl (tyX6_ok 1 (by decide)) (by decide) (by decide) (Nat.le_of_ble_eq_true rfl) dX6_init_14 (fun H locs hP hD hS => ?_)
  replace hP : va_P D vwCl [(q, .inr (6, [.ref a7, .int 0, .int 0])), (a7, .inl (T 0, 9, .inl (fun _ => 0)))] H := hP
  replace hD : va_D A [(q, .inr (6, [.ref a7, .int 0, .int 0])), (a7, .inl (T 0, 9, .inl (fun _ => 0)))] := hD
  refine lv_aload_n hx hb dX6_init_17 rfl (lv_at hl 0 rfl) ?_
  refine lv_iconst (v := 0) hx hb dX6_init_18 (by decide) ?_
  refine va_put (ci := 6) (v := .int 0) (C := RX6) (T := TX6) (N := 3) hx hb hts hiX6 tyX6 tyX6_ok nmX6 hown hK hP hD hS 0 rfl rfl 2 (by decide) (hts _ (List.mem_of_getElem? (i := 7) rfl)) (fun _ h9 => h9) rfl (tyX6_ok 2 (by decide)) (by decide) (by decide) (Nat.le_of_ble_eq_true rfl) dX6_init_19 (fun H locs hP hD hS => ?_)
  replace hP : va_P D vwCl [(q, .inr (6, [.ref a7, .int 0, .int 0])), (a7, .inl (T 0, 9, .inl (fun _ => 0)))] H := hP
  replace hD : va_D A [(q, .inr (6, [.ref a7, .int 0, .int 0])), (a7, .inl (T 0, 9, .inl (fun _ => 0)))] := hD
  obtain ⟨u, hu⟩ : ∃ u : Nat → Nat, u = fun c => [q, a7].getD c 0 := ⟨_, rfl⟩
  refine zRetN (u := (u, mX6)) hQ hx hb hr hlocks hA0 hK (by show va_P D vwCl (wX6 T u mX6) H; rw [hu]; exact hP) (by show va_D A (wX6 T u mX6); rw [hu]; exact hD) hS ⟨by rw [hu]; rfl, rfl⟩ dX6_init_22
def mX7 : zM := fun k => if k = 0 then (fun j => if j = 5 then (-1) else 0) else fun _ => 0
def okX7 (w : zM) : Prop := w = mX7
def wcX7 (q : Nat) : va_W := [(q, .inr (7, [.null, .int 0, .int 0, .int 0, .int 0, .int 0]))]
def rX7_init : Room := { frames := 4, cells := 1, slots := 200, locals := 200 }
set_option maxHeartbeats 8000000 in
set_option maxRecDepth 100000 in
theorem pX7_init (l : Launch) (D : va_G) (T : Nat → ClassId) (X : zFP) (q sz : Nat) : Met l yX7_init wsX7_init rX7_init (zPreN D T X [.ref q] (wcX7 q) sz) (zQn D T (fun u : (Nat → Nat) × zM => wX7 T u.1 u.2) (fun u => u.1 0 = q ∧ okX7 u.2) (wcX7 q) sz) 1 200 (va_A (wcX7 q) sz) := by
  refine zStartN [(0, .ref q)] (by decide) rfl (Nat.le_of_ble_eq_true rfl) rfl ?_
  intro p e s m args below meth c A Q ls hx hb hr hml hown hlocks hts hsz hA0 hQ hA hK hX hN hin hP hD hS hl
  replace hown : s.vm.findClass RX7 = some m.cls := hown
  replace hin : meth.name = "<init>" := hin
  have hiX7 : ∀ w ∈ u_ws RX7 TX7 6, w ∈ wsX7_init := fun w h => List.mem_cons_of_mem _ (List.mem_append_right _ (h))
  obtain ⟨H, hHe⟩ : ∃ H : Heap, H = s.heap := ⟨_, rfl⟩
  obtain ⟨locs, hLe⟩ : ∃ L : List Loc, L = [] := ⟨_, rfl⟩
  replace hP : va_P D vwCl (wcX7 q) H := by rw [hHe]; exact hP
  replace hS : va_S A s.heap H locs := by rw [hHe, hLe]; exact hS
  suffices hgo : W p l e rX7_init s m args below meth c H locs 0 0 Q (F0 m 0 ls []) by rw [hHe, hLe] at hgo; exact hgo
  clear hHe hLe
  refine lv_aload_n hx hb dX7_init_0 rfl (lv_at hl 0 rfl) ?_
  refine W.objInit hx hb hown (hts _ (List.mem_of_getElem? (i := 1) rfl)) (hts _ (List.mem_of_getElem? (i := 2) rfl)) (hts _ (List.mem_of_getElem? (i := 3) rfl)) rfl (by rw [hml]; exact hl.1) rfl dX7_init_1 (Nat.le_of_ble_eq_true rfl) (Nat.le_of_ble_eq_true rfl) ?_
  refine W.eq (g2 := F0 m 4 ls []) rfl ?_
  refine lv_aload_n hx hb dX7_init_4 rfl (lv_at hl 0 rfl) ?_
  refine lv_sipush (v := 200) hx hb dX7_init_5 (by decide) ?_
  refine zNewB hx hb hts 4 rfl hK hP hD hS hA 200 (n := 200) (by decide) (by decide +kernel) (Nat.le_of_ble_eq_true rfl) (Nat.le_of_ble_eq_true rfl) (Nat.le_of_ble_eq_true rfl) dX7_init_8 (fun a8 H hP hD hS => ?_)
  replace hP : va_P D vwCl [(q, .inr (7, [.null, .int 0, .int 0, .int 0, .int 0, .int 0])), (a8, .inl (T 3, 200, .inl (fun _ => 0)))] H := hP
  replace hD : va_D A [(q, .inr (7, [.null, .int 0, .int 0, .int 0, .int 0, .int 0])), (a8, .inl (T 3, 200, .inl (fun _ => 0)))] := hD
  refine W.widen (k := 1) (n := 200) (Nat.le_of_ble_eq_true rfl) (Nat.le_of_ble_eq_true rfl) ?_
  refine va_putF (ci := 7) (v := .ref a8) (C := RX7) (T := TX7) (N := 6) hx hb hts hiX7 tyX7 tyX7_ok nmX7 hown hK hP hD hS 0 rfl rfl 0 (by decide) (hts _ (List.mem_of_getElem? (i := 5) rfl)) (fun _ h9 => h9) rfl hin rfl (tyX7_ok 0 (by decide)) rfl rfl (Nat.le_of_ble_eq_true rfl) dX7_init_10 (fun H locs hP hD hS => ?_)
  replace hP : va_P D vwCl [(q, .inr (7, [.ref a8, .int 0, .int 0, .int 0, .int 0, .int 0])), (a8, .inl (T 3, 200, .inl (fun _ => 0)))] H := hP
  replace hD : va_D A [(q, .inr (7, [.ref a8, .int 0, .int 0, .int 0, .int 0, .int 0])), (a8, .inl (T 3, 200, .inl (fun _ => 0)))] := hD
  refine lv_aload_n hx hb dX7_init_13 rfl (lv_at hl 0 rfl) ?_
  refine lv_iconst (v := 0) hx hb dX7_init_14 (by decide) ?_
  refine va_put (ci := 7) (v := .int 0) (C := RX7) (T := TX7) (N := 6) hx hb hts hiX7 tyX7 tyX7_ok nmX7 hown hK hP hD hS 0 rfl rfl 1 (by decide) (hts _ (List.mem_of_getElem? (i := 6) rfl)) (fun _ h9 => h9) rfl (tyX7_ok 1 (by decide)) (by decide) (by decide) (Nat.le_of_ble_eq_true rfl) dX7_init_15 (fun H locs hP hD hS => ?_)
  replace hP : va_P D vwCl [(q, .inr (7, [.ref a8, .int 0, .int 0, .int 0, .int 0, .int 0])), (a8, .inl (T 3, 200, .inl (fun _ => 0)))] H := hP
  replace hD : va_D A [(q, .inr (7, [.ref a8, .int 0, .int 0, .int 0, .int 0, .int 0])), (a8, .inl (T 3, 200, .inl (fun _ => 0)))] := hD
  refine lv_aload_n hx hb dX7_init_18 rfl (lv_at hl 0 rfl) ?_
  refine lv_iconst (v := 0) hx hb dX7_init_19 (by decide) ?_
  refine va_put (ci := 7) (v := .int 0) (C := RX7) (T := TX7) (N := 6) hx hb hts hiX7 tyX7 tyX7_ok nmX7 hown hK hP hD hS 0 rfl rfl 2 (by decide) (hts _ (List.mem_of_getElem? (i := 7) rfl)) (fun _ h9 => h9) rfl (tyX7_ok 2 (by decide)) (by decide) (by decide) (Nat.le_of_ble_eq_true rfl) dX7_init_20 (fun H locs hP hD hS => ?_)
  replace hP : va_P D vwCl [(q, .inr (7, [.ref a8, .int 0, .int 0, .int 0, .int 0, .int 0])), (a8, .inl (T 3, 200, .inl (fun _ => 0)))] H := hP
  replace hD : va_D A [(q, .inr (7, [.ref a8, .int 0, .int 0, .int 0, .int 0, .int 0])), (a8, .inl (T 3, 200, .inl (fun _ => 0)))] := hD
  refine lv_aload_n hx hb dX7_init_23 rfl (lv_at hl 0 rfl) ?_
  refine lv_iconst (v := 0) hx hb dX7_init_24 (by decide) ?_
  refine va_put (ci := 7) (v := .int 0) (C := RX7) (T := TX7) (N := 6) hx hb hts hiX7 tyX7 tyX7_ok nmX7 hown hK hP hD hS 0 rfl rfl 3 (by decide) (hts _ (List.mem_of_getElem? (i := 8) rfl)) (fun _ h9 => h9) rfl (tyX7_ok 3 (by decide)) (by decide) (by decide) (Nat.le_of_ble_eq_true rfl) dX7_init_25 (fun H locs hP hD hS => ?_)
  replace hP : va_P D vwCl [(q, .inr (7, [.ref a8, .int 0, .int 0, .int 0, .int 0, .int 0])), (a8, .inl (T 3, 200, .inl (fun _ => 0)))] H := hP
  replace hD : va_D A [(q, .inr (7, [.ref a8, .int 0, .int 0, .int 0, .int 0, .int 0])), (a8, .inl (T 3, 200, .inl (fun _ => 0)))] := hD
  refine lv_aload_n hx hb dX7_init_28 rfl (lv_at hl 0 rfl) ?_
  refine lv_iconst (v := 0) hx hb dX7_init_29 (by decide) ?_
  refine va_put (ci := 7) (v := .int 0) (C := RX7) (T := TX7) (N := 6) hx hb hts hiX7 tyX7 tyX7_ok nmX7 hown hK hP hD hS 0 rfl rfl 4 (by decide) (hts _ (List.mem_of_getElem? (i := 9) rfl)) (fun _ h9 => h9) rfl (tyX7_ok 4 (by decide)) (by decide) (by decide) (Nat.le_of_ble_eq_true rfl) dX7_init_30 (fun H locs hP hD hS => ?_)
  replace hP : va_P D vwCl [(q, .inr (7, [.ref a8, .int 0, .int 0, .int 0, .int 0, .int 0])), (a8, .inl (T 3, 200, .inl (fun _ => 0)))] H := hP
  replace hD : va_D A [(q, .inr (7, [.ref a8, .int 0, .int 0, .int 0, .int 0, .int 0])), (a8, .inl (T 3, 200, .inl (fun _ => 0)))] := hD
  refine lv_aload_n hx hb dX7_init_33 rfl (lv_at hl 0 rfl) ?_
  refine lv_iconst (v := (-1)) hx hb dX7_init_34 (by decide) ?_
  refine va_put (ci := 7) (v := .int (-1)) (C := RX7) (T := TX7) (N := 6) hx hb hts hiX7 tyX7 tyX7_ok nmX7 hown hK hP hD hS 0 rfl rfl 5 (by decide) (hts _ (List.mem_of_getElem? (i := 10) rfl)) (fun _ h9 => h9) rfl (tyX7_ok 5 (by decide)) (by decide) (by decide) (Nat.le_of_ble_eq_true rfl) dX7_init_35 (fun H locs hP hD hS => ?_)
  replace hP : va_P D vwCl [(q, .inr (7, [.ref a8, .int 0, .int 0, .int 0, .int 0, .int (-1)])), (a8, .inl (T 3, 200, .inl (fun _ => 0)))] H := hP
  replace hD : va_D A [(q, .inr (7, [.ref a8, .int 0, .int 0, .int 0, .int 0, .int (-1)])), (a8, .inl (T 3, 200, .inl (fun _ => 0)))] := hD
  obtain ⟨u, hu⟩ : ∃ u : Nat → Nat, u = fun c => [q, a8].getD c 0 := ⟨_, rfl⟩
  refine zRetN (u := (u, mX7)) hQ hx hb hr hlocks hA0 hK (by show va_P D vwCl (wX7 T u mX7) H; rw [hu]; exact hP) (by show va_D A (wX7 T u mX7); rw [hu]; exact hD) hS ⟨by rw [hu]; rfl, rfl⟩ dX7_init_38
def mX8 : zM := fun k => if k = 0 then (fun j => if j = 0 then 1 else if j = 13 then 1 else 0) else fun _ => 0
def okX8 (w : zM) : Prop := w 0 0 = 1 ∧ w 0 3 = 0 ∧ w 0 9 = 0 ∧ w 0 13 = 1 ∧ (∀ p, p < 10 → w 1 p = 1 ∧ w 2 p = -1) ∧ w 7 = fun _ => 0
def wcX8 (q : Nat) : va_W := [(q, .inr (8, [.int 0, .null, .null, .int 0, .null, .null, .null, .null, .null, .int 0, .null, .null, .null, .int 0]))]
def rX8_init : Room := { frames := 4, cells := 10, slots := 114, locals := 200 }
set_option maxHeartbeats 8000000 in
set_option maxRecDepth 100000 in
theorem pX8_init (l : Launch) (D : va_G) (T : Nat → ClassId) (X : zFP) (q sz : Nat) : Met l yX8_init wsX8_init rX8_init (zPreN D T X [.ref q] (wcX8 q) sz) (zQn D T (fun u : (Nat → Nat) × zM => wX8 T u.1 u.2) (fun u => u.1 0 = q ∧ okX8 u.2) (wcX8 q) sz) 10 114 (va_A (wcX8 q) sz) := by
  refine zStartN [(0, .ref q)] (by decide) rfl (Nat.le_of_ble_eq_true rfl) rfl ?_
  intro p e s m args below meth c A Q ls hx hb hr hml hown hlocks hts hsz hA0 hQ hA hK hX hN hin hP hD hS hl
  replace hown : s.vm.findClass RX8 = some m.cls := hown
  replace hin : meth.name = "<init>" := hin
  have hiX8 : ∀ w ∈ u_ws RX8 TX8 14, w ∈ wsX8_init := fun w h => List.mem_cons_of_mem _ (List.mem_append_right _ (h))
  obtain ⟨H, hHe⟩ : ∃ H : Heap, H = s.heap := ⟨_, rfl⟩
  obtain ⟨locs, hLe⟩ : ∃ L : List Loc, L = [] := ⟨_, rfl⟩
  replace hP : va_P D vwCl (wcX8 q) H := by rw [hHe]; exact hP
  replace hS : va_S A s.heap H locs := by rw [hHe, hLe]; exact hS
  suffices hgo : W p l e rX8_init s m args below meth c H locs 0 0 Q (F0 m 0 ls []) by rw [hHe, hLe] at hgo; exact hgo
  clear hHe hLe
  refine lv_aload_n hx hb dX8_init_0 rfl (lv_at hl 0 rfl) ?_
  refine W.objInit hx hb hown (hts _ (List.mem_of_getElem? (i := 1) rfl)) (hts _ (List.mem_of_getElem? (i := 2) rfl)) (hts _ (List.mem_of_getElem? (i := 3) rfl)) rfl (by rw [hml]; exact hl.1) rfl dX8_init_1 (Nat.le_of_ble_eq_true rfl) (Nat.le_of_ble_eq_true rfl) ?_
  refine W.eq (g2 := F0 m 4 ls []) rfl ?_
  refine lv_aload_n hx hb dX8_init_4 rfl (lv_at hl 0 rfl) ?_
  refine lv_iconst (v := 1) hx hb dX8_init_5 (by decide) ?_
  refine va_put (ci := 8) (v := .int 1) (C := RX8) (T := TX8) (N := 14) hx hb hts hiX8 tyX8 tyX8_ok nmX8 hown hK hP hD hS 0 rfl rfl 0 (by decide) (hts _ (List.mem_of_getElem? (i := 4) rfl)) (fun _ h9 => h9) rfl (tyX8_ok 0 (by decide)) (by decide) (by decide) (Nat.le_of_ble_eq_true rfl) dX8_init_6 (fun H locs hP hD hS => ?_)
  replace hP : va_P D vwCl [(q, .inr (8, [.int 1, .null, .null, .int 0, .null, .null, .null, .null, .null, .int 0, .null, .null, .null, .int 0]))] H := hP
  replace hD : va_D A [(q, .inr (8, [.int 1, .null, .null, .int 0, .null, .null, .null, .null, .null, .int 0, .null, .null, .null, .int 0]))] := hD
  refine lv_aload_n hx hb dX8_init_9 rfl (lv_at hl 0 rfl) ?_
  refine lv_bipush (v := 10) hx hb dX8_init_10 (by decide) ?_
  refine zNewI hx hb hts 5 rfl hK hP hD hS hA 10 (n := 10) (by decide) (by decide +kernel) (Nat.le_of_ble_eq_true rfl) (Nat.le_of_ble_eq_true rfl) (Nat.le_of_ble_eq_true rfl) dX8_init_12 (fun a12 H hP hD hS => ?_)
  replace hP : va_P D vwCl [(q, .inr (8, [.int 1, .null, .null, .int 0, .null, .null, .null, .null, .null, .int 0, .null, .null, .null, .int 0])), (a12, .inl (T 0, 10, .inl (fun _ => 0)))] H := hP
  replace hD : va_D A [(q, .inr (8, [.int 1, .null, .null, .int 0, .null, .null, .null, .null, .null, .int 0, .null, .null, .null, .int 0])), (a12, .inl (T 0, 10, .inl (fun _ => 0)))] := hD
  refine W.widen (k := 1) (n := 10) (Nat.le_of_ble_eq_true rfl) (Nat.le_of_ble_eq_true rfl) ?_
  refine va_putF (ci := 8) (v := .ref a12) (C := RX8) (T := TX8) (N := 14) hx hb hts hiX8 tyX8 tyX8_ok nmX8 hown hK hP hD hS 0 rfl rfl 1 (by decide) (hts _ (List.mem_of_getElem? (i := 6) rfl)) (fun _ h9 => h9) rfl hin rfl (tyX8_ok 1 (by decide)) rfl rfl (Nat.le_of_ble_eq_true rfl) dX8_init_14 (fun H locs hP hD hS => ?_)
  replace hP : va_P D vwCl [(q, .inr (8, [.int 1, .ref a12, .null, .int 0, .null, .null, .null, .null, .null, .int 0, .null, .null, .null, .int 0])), (a12, .inl (T 0, 10, .inl (fun _ => 0)))] H := hP
  replace hD : va_D A [(q, .inr (8, [.int 1, .ref a12, .null, .int 0, .null, .null, .null, .null, .null, .int 0, .null, .null, .null, .int 0])), (a12, .inl (T 0, 10, .inl (fun _ => 0)))] := hD
  refine lv_aload_n hx hb dX8_init_17 rfl (lv_at hl 0 rfl) ?_
  refine lv_bipush (v := 10) hx hb dX8_init_18 (by decide) ?_
  refine zNewI hx hb hts 5 rfl hK hP hD hS hA 10 (n := 10) (by decide) (by decide +kernel) (Nat.le_of_ble_eq_true rfl) (Nat.le_of_ble_eq_true rfl) (Nat.le_of_ble_eq_true rfl) dX8_init_20 (fun a20 H hP hD hS => ?_)
  replace hP : va_P D vwCl [(q, .inr (8, [.int 1, .ref a12, .null, .int 0, .null, .null, .null, .null, .null, .int 0, .null, .null, .null, .int 0])), (a12, .inl (T 0, 10, .inl (fun _ => 0))), (a20, .inl (T 0, 10, .inl (fun _ => 0)))] H := hP
  replace hD : va_D A [(q, .inr (8, [.int 1, .ref a12, .null, .int 0, .null, .null, .null, .null, .null, .int 0, .null, .null, .null, .int 0])), (a12, .inl (T 0, 10, .inl (fun _ => 0))), (a20, .inl (T 0, 10, .inl (fun _ => 0)))] := hD
  refine W.widen (k := 2) (n := 20) (Nat.le_of_ble_eq_true rfl) (Nat.le_of_ble_eq_true rfl) ?_
  refine va_putF (ci := 8) (v := .ref a20) (C := RX8) (T := TX8) (N := 14) hx hb hts hiX8 tyX8 tyX8_ok nmX8 hown hK hP hD hS 0 rfl rfl 2 (by decide) (hts _ (List.mem_of_getElem? (i := 7) rfl)) (fun _ h9 => h9) rfl hin rfl (tyX8_ok 2 (by decide)) rfl rfl (Nat.le_of_ble_eq_true rfl) dX8_init_22 (fun H locs hP hD hS => ?_)
  replace hP : va_P D vwCl [(q, .inr (8, [.int 1, .ref a12, .ref a20, .int 0, .null, .null, .null, .null, .null, .int 0, .null, .null, .null, .int 0])), (a12, .inl (T 0, 10, .inl (fun _ => 0))), (a20, .inl (T 0, 10, .inl (fun _ => 0)))] H := hP
  replace hD : va_D A [(q, .inr (8, [.int 1, .ref a12, .ref a20, .int 0, .null, .null, .null, .null, .null, .int 0, .null, .null, .null, .int 0])), (a12, .inl (T 0, 10, .inl (fun _ => 0))), (a20, .inl (T 0, 10, .inl (fun _ => 0)))] := hD
  refine lv_aload_n hx hb dX8_init_25 rfl (lv_at hl 0 rfl) ?_
  refine lv_iconst (v := 0) hx hb dX8_init_26 (by decide) ?_
  refine va_put (ci := 8) (v := .int 0) (C := RX8) (T := TX8) (N := 14) hx hb hts hiX8 tyX8 tyX8_ok nmX8 hown hK hP hD hS 0 rfl rfl 3 (by decide) (hts _ (List.mem_of_getElem? (i := 8) rfl)) (fun _ h9 => h9) rfl (tyX8_ok 3 (by decide)) (by decide) (by decide) (Nat.le_of_ble_eq_true rfl) dX8_init_27 (fun H locs hP hD hS => ?_)
  replace hP : va_P D vwCl [(q, .inr (8, [.int 1, .ref a12, .ref a20, .int 0, .null, .null, .null, .null, .null, .int 0, .null, .null, .null, .int 0])), (a12, .inl (T 0, 10, .inl (fun _ => 0))), (a20, .inl (T 0, 10, .inl (fun _ => 0)))] H := hP
  replace hD : va_D A [(q, .inr (8, [.int 1, .ref a12, .ref a20, .int 0, .null, .null, .null, .null, .null, .int 0, .null, .null, .null, .int 0])), (a12, .inl (T 0, 10, .inl (fun _ => 0))), (a20, .inl (T 0, 10, .inl (fun _ => 0)))] := hD
  refine lv_aload_n hx hb dX8_init_30 rfl (lv_at hl 0 rfl) ?_
  refine lv_bipush (v := 14) hx hb dX8_init_31 (by decide) ?_
  refine zNewI hx hb hts 5 rfl hK hP hD hS hA 14 (n := 14) (by decide) (by decide +kernel) (Nat.le_of_ble_eq_true rfl) (Nat.le_of_ble_eq_true rfl) (Nat.le_of_ble_eq_true rfl) dX8_init_33 (fun a33 H hP hD hS => ?_)
  replace hP : va_P D vwCl [(q, .inr (8, [.int 1, .ref a12, .ref a20, .int 0, .null, .null, .null, .null, .null, .int 0, .null, .null, .null, .int 0])), (a12, .inl (T 0, 10, .inl (fun _ => 0))), (a20, .inl (T 0, 10, .inl (fun _ => 0))), (a33, .inl (T 0, 14, .inl (fun _ => 0)))] H := hP
  replace hD : va_D A [(q, .inr (8, [.int 1, .ref a12, .ref a20, .int 0, .null, .null, .null, .null, .null, .int 0, .null, .null, .null, .int 0])), (a12, .inl (T 0, 10, .inl (fun _ => 0))), (a20, .inl (T 0, 10, .inl (fun _ => 0))), (a33, .inl (T 0, 14, .inl (fun _ => 0)))] := hD
  refine W.widen (k := 3) (n := 34) (Nat.le_of_ble_eq_true rfl) (Nat.le_of_ble_eq_true rfl) ?_
  refine va_putF (ci := 8) (v := .ref a33) (C := RX8) (T := TX8) (N := 14) hx hb hts hiX8 tyX8 tyX8_ok nmX8 hown hK hP hD hS 0 rfl rfl 4 (by decide) (hts _ (List.mem_of_getElem? (i := 9) rfl)) (fun _ h9 => h9) rfl hin rfl (tyX8_ok 4 (by decide)) rfl rfl (Nat.le_of_ble_eq_true rfl) dX8_init_35 (fun H locs hP hD hS => ?_)
  replace hP : va_P D vwCl [(q, .inr (8, [.int 1, .ref a12, .ref a20, .int 0, .ref a33, .null, .null, .null, .null, .int 0, .null, .null, .null, .int 0])), (a12, .inl (T 0, 10, .inl (fun _ => 0))), (a20, .inl (T 0, 10, .inl (fun _ => 0))), (a33, .inl (T 0, 14, .inl (fun _ => 0)))] H := hP
  replace hD : va_D A [(q, .inr (8, [.int 1, .ref a12, .ref a20, .int 0, .ref a33, .null, .null, .null, .null, .int 0, .null, .null, .null, .int 0])), (a12, .inl (T 0, 10, .inl (fun _ => 0))), (a20, .inl (T 0, 10, .inl (fun _ => 0))), (a33, .inl (T 0, 14, .inl (fun _ => 0)))] := hD
  refine lv_aload_n hx hb dX8_init_38 rfl (lv_at hl 0 rfl) ?_
  refine lv_bipush (v := 14) hx hb dX8_init_39 (by decide) ?_
  refine zNewI hx hb hts 5 rfl hK hP hD hS hA 14 (n := 14) (by decide) (by decide +kernel) (Nat.le_of_ble_eq_true rfl) (Nat.le_of_ble_eq_true rfl) (Nat.le_of_ble_eq_true rfl) dX8_init_41 (fun a41 H hP hD hS => ?_)
  replace hP : va_P D vwCl [(q, .inr (8, [.int 1, .ref a12, .ref a20, .int 0, .ref a33, .null, .null, .null, .null, .int 0, .null, .null, .null, .int 0])), (a12, .inl (T 0, 10, .inl (fun _ => 0))), (a20, .inl (T 0, 10, .inl (fun _ => 0))), (a33, .inl (T 0, 14, .inl (fun _ => 0))), (a41, .inl (T 0, 14, .inl (fun _ => 0)))] H := hP
  replace hD : va_D A [(q, .inr (8, [.int 1, .ref a12, .ref a20, .int 0, .ref a33, .null, .null, .null, .null, .int 0, .null, .null, .null, .int 0])), (a12, .inl (T 0, 10, .inl (fun _ => 0))), (a20, .inl (T 0, 10, .inl (fun _ => 0))), (a33, .inl (T 0, 14, .inl (fun _ => 0))), (a41, .inl (T 0, 14, .inl (fun _ => 0)))] := hD
  refine W.widen (k := 4) (n := 48) (Nat.le_of_ble_eq_true rfl) (Nat.le_of_ble_eq_true rfl) ?_
  refine va_putF (ci := 8) (v := .ref a41) (C := RX8) (T := TX8) (N := 14) hx hb hts hiX8 tyX8 tyX8_ok nmX8 hown hK hP hD hS 0 rfl rfl 5 (by decide) (hts _ (List.mem_of_getElem? (i := 10) rfl)) (fun _ h9 => h9) rfl hin rfl (tyX8_ok 5 (by decide)) rfl rfl (Nat.le_of_ble_eq_true rfl) dX8_init_43 (fun H locs hP hD hS => ?_)
  replace hP : va_P D vwCl [(q, .inr (8, [.int 1, .ref a12, .ref a20, .int 0, .ref a33, .ref a41, .null, .null, .null, .int 0, .null, .null, .null, .int 0])), (a12, .inl (T 0, 10, .inl (fun _ => 0))), (a20, .inl (T 0, 10, .inl (fun _ => 0))), (a33, .inl (T 0, 14, .inl (fun _ => 0))), (a41, .inl (T 0, 14, .inl (fun _ => 0)))] H := hP
  replace hD : va_D A [(q, .inr (8, [.int 1, .ref a12, .ref a20, .int 0, .ref a33, .ref a41, .null, .null, .null, .int 0, .null, .null, .null, .int 0])), (a12, .inl (T 0, 10, .inl (fun _ => 0))), (a20, .inl (T 0, 10, .inl (fun _ => 0))), (a33, .inl (T 0, 14, .inl (fun _ => 0))), (a41, .inl (T 0, 14, .inl (fun _ => 0)))] := hD
  refine lv_aload_n hx hb dX8_init_46 rfl (lv_at hl 0 rfl) ?_
  refine lv_bipush (v := 14) hx hb dX8_init_47 (by decide) ?_
  refine zNewI hx hb hts 5 rfl hK hP hD hS hA 14 (n := 14) (by decide) (by decide +kernel) (Nat.le_of_ble_eq_true rfl) (Nat.le_of_ble_eq_true rfl) (Nat.le_of_ble_eq_true rfl) dX8_init_49 (fun a49 H hP hD hS => ?_)
  replace hP : va_P D vwCl [(q, .inr (8, [.int 1, .ref a12, .ref a20, .int 0, .ref a33, .ref a41, .null, .null, .null, .int 0, .null, .null, .null, .int 0])), (a12, .inl (T 0, 10, .inl (fun _ => 0))), (a20, .inl (T 0, 10, .inl (fun _ => 0))), (a33, .inl (T 0, 14, .inl (fun _ => 0))), (a41, .inl (T 0, 14, .inl (fun _ => 0))), (a49, .inl (T 0, 14, .inl (fun _ => 0)))] H := hP
  replace hD : va_D A [(q, .inr (8, [.int 1, .ref a12, .ref a20, .int 0, .ref a33, .ref a41, .null, .null, .null, .int 0, .null, .null, .null, .int 0])), (a12, .inl (T 0, 10, .inl (fun _ => 0))), (a20, .inl (T 0, 10, .inl (fun _ => 0))), (a33, .inl (T 0, 14, .inl (fun _ => 0))), (a41, .inl (T 0, 14, .inl (fun _ => 0))), (a49, .inl (T 0, 14, .inl (fun _ => 0)))] := hD
  refine W.widen (k := 5) (n := 62) (Nat.le_of_ble_eq_true rfl) (Nat.le_of_ble_eq_true rfl) ?_
  refine va_putF (ci := 8) (v := .ref a49) (C := RX8) (T := TX8) (N := 14) hx hb hts hiX8 tyX8 tyX8_ok nmX8 hown hK hP hD hS 0 rfl rfl 6 (by decide) (hts _ (List.mem_of_getElem? (i := 11) rfl)) (fun _ h9 => h9) rfl hin rfl (tyX8_ok 6 (by decide)) rfl rfl (Nat.le_of_ble_eq_true rfl) dX8_init_51 (fun H locs hP hD hS => ?_)
  replace hP : va_P D vwCl [(q, .inr (8, [.int 1, .ref a12, .ref a20, .int 0, .ref a33, .ref a41, .ref a49, .null, .null, .int 0, .null, .null, .null, .int 0])), (a12, .inl (T 0, 10, .inl (fun _ => 0))), (a20, .inl (T 0, 10, .inl (fun _ => 0))), (a33, .inl (T 0, 14, .inl (fun _ => 0))), (a41, .inl (T 0, 14, .inl (fun _ => 0))), (a49, .inl (T 0, 14, .inl (fun _ => 0)))] H := hP
  replace hD : va_D A [(q, .inr (8, [.int 1, .ref a12, .ref a20, .int 0, .ref a33, .ref a41, .ref a49, .null, .null, .int 0, .null, .null, .null, .int 0])), (a12, .inl (T 0, 10, .inl (fun _ => 0))), (a20, .inl (T 0, 10, .inl (fun _ => 0))), (a33, .inl (T 0, 14, .inl (fun _ => 0))), (a41, .inl (T 0, 14, .inl (fun _ => 0))), (a49, .inl (T 0, 14, .inl (fun _ => 0)))] := hD
  refine lv_aload_n hx hb dX8_init_54 rfl (lv_at hl 0 rfl) ?_
  refine lv_bipush (v := 14) hx hb dX8_init_55 (by decide) ?_
  refine zNewI hx hb hts 5 rfl hK hP hD hS hA 14 (n := 14) (by decide) (by decide +kernel) (Nat.le_of_ble_eq_true rfl) (Nat.le_of_ble_eq_true rfl) (Nat.le_of_ble_eq_true rfl) dX8_init_57 (fun a57 H hP hD hS => ?_)
  replace hP : va_P D vwCl [(q, .inr (8, [.int 1, .ref a12, .ref a20, .int 0, .ref a33, .ref a41, .ref a49, .null, .null, .int 0, .null, .null, .null, .int 0])), (a12, .inl (T 0, 10, .inl (fun _ => 0))), (a20, .inl (T 0, 10, .inl (fun _ => 0))), (a33, .inl (T 0, 14, .inl (fun _ => 0))), (a41, .inl (T 0, 14, .inl (fun _ => 0))), (a49, .inl (T 0, 14, .inl (fun _ => 0))), (a57, .inl (T 0, 14, .inl (fun _ => 0)))] H := hP
  replace hD : va_D A [(q, .inr (8, [.int 1, .ref a12, .ref a20, .int 0, .ref a33, .ref a41, .ref a49, .null, .null, .int 0, .null, .null, .null, .int 0])), (a12, .inl (T 0, 10, .inl (fun _ => 0))), (a20, .inl (T 0, 10, .inl (fun _ => 0))), (a33, .inl (T 0, 14, .inl (fun _ => 0))), (a41, .inl (T 0, 14, .inl (fun _ => 0))), (a49, .inl (T 0, 14, .inl (fun _ => 0))), (a57, .inl (T 0, 14, .inl (fun _ => 0)))] := hD
  refine W.widen (k := 6) (n := 76) (Nat.le_of_ble_eq_true rfl) (Nat.le_of_ble_eq_true rfl) ?_
  refine va_putF (ci := 8) (v := .ref a57) (C := RX8) (T := TX8) (N := 14) hx hb hts hiX8 tyX8 tyX8_ok nmX8 hown hK hP hD hS 0 rfl rfl 7 (by decide) (hts _ (List.mem_of_getElem? (i := 12) rfl)) (fun _ h9 => h9) rfl hin rfl (tyX8_ok 7 (by decide)) rfl rfl (Nat.le_of_ble_eq_true rfl) dX8_init_59 (fun H locs hP hD hS => ?_)
  replace hP : va_P D vwCl [(q, .inr (8, [.int 1, .ref a12, .ref a20, .int 0, .ref a33, .ref a41, .ref a49, .ref a57, .null, .int 0, .null, .null, .null, .int 0])), (a12, .inl (T 0, 10, .inl (fun _ => 0))), (a20, .inl (T 0, 10, .inl (fun _ => 0))), (a33, .inl (T 0, 14, .inl (fun _ => 0))), (a41, .inl (T 0, 14, .inl (fun _ => 0))), (a49, .inl (T 0, 14, .inl (fun _ => 0))), (a57, .inl (T 0, 14, .inl (fun _ => 0)))] H := hP
  replace hD : va_D A [(q, .inr (8, [.int 1, .ref a12, .ref a20, .int 0, .ref a33, .ref a41, .ref a49, .ref a57, .null, .int 0, .null, .null, .null, .int 0])), (a12, .inl (T 0, 10, .inl (fun _ => 0))), (a20, .inl (T 0, 10, .inl (fun _ => 0))), (a33, .inl (T 0, 14, .inl (fun _ => 0))), (a41, .inl (T 0, 14, .inl (fun _ => 0))), (a49, .inl (T 0, 14, .inl (fun _ => 0))), (a57, .inl (T 0, 14, .inl (fun _ => 0)))] := hD
  refine lv_aload_n hx hb dX8_init_62 rfl (lv_at hl 0 rfl) ?_
  refine lv_bipush (v := 14) hx hb dX8_init_63 (by decide) ?_
  refine zNewZ hx hb hts 13 rfl hK hP hD hS hA 14 (n := 14) (by decide) (by decide +kernel) (Nat.le_of_ble_eq_true rfl) (Nat.le_of_ble_eq_true rfl) (Nat.le_of_ble_eq_true rfl) dX8_init_65 (fun a65 H hP hD hS => ?_)
  replace hP : va_P D vwCl [(q, .inr (8, [.int 1, .ref a12, .ref a20, .int 0, .ref a33, .ref a41, .ref a49, .ref a57, .null, .int 0, .null, .null, .null, .int 0])), (a12, .inl (T 0, 10, .inl (fun _ => 0))), (a20, .inl (T 0, 10, .inl (fun _ => 0))), (a33, .inl (T 0, 14, .inl (fun _ => 0))), (a41, .inl (T 0, 14, .inl (fun _ => 0))), (a49, .inl (T 0, 14, .inl (fun _ => 0))), (a57, .inl (T 0, 14, .inl (fun _ => 0))), (a65, .inl (T 2, 14, .inl (fun _ => 0)))] H := hP
  replace hD : va_D A [(q, .inr (8, [.int 1, .ref a12, .ref a20, .int 0, .ref a33, .ref a41, .ref a49, .ref a57, .null, .int 0, .null, .null, .null, .int 0])), (a12, .inl (T 0, 10, .inl (fun _ => 0))), (a20, .inl (T 0, 10, .inl (fun _ => 0))), (a33, .inl (T 0, 14, .inl (fun _ => 0))), (a41, .inl (T 0, 14, .inl (fun _ => 0))), (a49, .inl (T 0, 14, .inl (fun _ => 0))), (a57, .inl (T 0, 14, .inl (fun _ => 0))), (a65, .inl (T 2, 14, .inl (fun _ => 0)))] := hD
  refine W.widen (k := 7) (n := 90) (Nat.le_of_ble_eq_true rfl) (Nat.le_of_ble_eq_true rfl) ?_
  refine va_putF (ci := 8) (v := .ref a65) (C := RX8) (T := TX8) (N := 14) hx hb hts hiX8 tyX8 tyX8_ok nmX8 hown hK hP hD hS 0 rfl rfl 8 (by decide) (hts _ (List.mem_of_getElem? (i := 14) rfl)) (fun _ h9 => h9) rfl hin rfl (tyX8_ok 8 (by decide)) rfl rfl (Nat.le_of_ble_eq_true rfl) dX8_init_67 (fun H locs hP hD hS => ?_)
  replace hP : va_P D vwCl [(q, .inr (8, [.int 1, .ref a12, .ref a20, .int 0, .ref a33, .ref a41, .ref a49, .ref a57, .ref a65, .int 0, .null, .null, .null, .int 0])), (a12, .inl (T 0, 10, .inl (fun _ => 0))), (a20, .inl (T 0, 10, .inl (fun _ => 0))), (a33, .inl (T 0, 14, .inl (fun _ => 0))), (a41, .inl (T 0, 14, .inl (fun _ => 0))), (a49, .inl (T 0, 14, .inl (fun _ => 0))), (a57, .inl (T 0, 14, .inl (fun _ => 0))), (a65, .inl (T 2, 14, .inl (fun _ => 0)))] H := hP
  replace hD : va_D A [(q, .inr (8, [.int 1, .ref a12, .ref a20, .int 0, .ref a33, .ref a41, .ref a49, .ref a57, .ref a65, .int 0, .null, .null, .null, .int 0])), (a12, .inl (T 0, 10, .inl (fun _ => 0))), (a20, .inl (T 0, 10, .inl (fun _ => 0))), (a33, .inl (T 0, 14, .inl (fun _ => 0))), (a41, .inl (T 0, 14, .inl (fun _ => 0))), (a49, .inl (T 0, 14, .inl (fun _ => 0))), (a57, .inl (T 0, 14, .inl (fun _ => 0))), (a65, .inl (T 2, 14, .inl (fun _ => 0)))] := hD
  refine lv_aload_n hx hb dX8_init_70 rfl (lv_at hl 0 rfl) ?_
  refine lv_iconst (v := 0) hx hb dX8_init_71 (by decide) ?_
  refine va_put (ci := 8) (v := .int 0) (C := RX8) (T := TX8) (N := 14) hx hb hts hiX8 tyX8 tyX8_ok nmX8 hown hK hP hD hS 0 rfl rfl 9 (by decide) (hts _ (List.mem_of_getElem? (i := 15) rfl)) (fun _ h9 => h9) rfl (tyX8_ok 9 (by decide)) (by decide) (by decide) (Nat.le_of_ble_eq_true rfl) dX8_init_72 (fun H locs hP hD hS => ?_)
  replace hP : va_P D vwCl [(q, .inr (8, [.int 1, .ref a12, .ref a20, .int 0, .ref a33, .ref a41, .ref a49, .ref a57, .ref a65, .int 0, .null, .null, .null, .int 0])), (a12, .inl (T 0, 10, .inl (fun _ => 0))), (a20, .inl (T 0, 10, .inl (fun _ => 0))), (a33, .inl (T 0, 14, .inl (fun _ => 0))), (a41, .inl (T 0, 14, .inl (fun _ => 0))), (a49, .inl (T 0, 14, .inl (fun _ => 0))), (a57, .inl (T 0, 14, .inl (fun _ => 0))), (a65, .inl (T 2, 14, .inl (fun _ => 0)))] H := hP
  replace hD : va_D A [(q, .inr (8, [.int 1, .ref a12, .ref a20, .int 0, .ref a33, .ref a41, .ref a49, .ref a57, .ref a65, .int 0, .null, .null, .null, .int 0])), (a12, .inl (T 0, 10, .inl (fun _ => 0))), (a20, .inl (T 0, 10, .inl (fun _ => 0))), (a33, .inl (T 0, 14, .inl (fun _ => 0))), (a41, .inl (T 0, 14, .inl (fun _ => 0))), (a49, .inl (T 0, 14, .inl (fun _ => 0))), (a57, .inl (T 0, 14, .inl (fun _ => 0))), (a65, .inl (T 2, 14, .inl (fun _ => 0)))] := hD
  refine lv_aload_n hx hb dX8_init_75 rfl (lv_at hl 0 rfl) ?_
  refine lv_bipush (v := 8) hx hb dX8_init_76 (by decide) ?_
  refine zNewI hx hb hts 5 rfl hK hP hD hS hA 8 (n := 8) (by decide) (by decide +kernel) (Nat.le_of_ble_eq_true rfl) (Nat.le_of_ble_eq_true rfl) (Nat.le_of_ble_eq_true rfl) dX8_init_78 (fun a78 H hP hD hS => ?_)
  replace hP : va_P D vwCl [(q, .inr (8, [.int 1, .ref a12, .ref a20, .int 0, .ref a33, .ref a41, .ref a49, .ref a57, .ref a65, .int 0, .null, .null, .null, .int 0])), (a12, .inl (T 0, 10, .inl (fun _ => 0))), (a20, .inl (T 0, 10, .inl (fun _ => 0))), (a33, .inl (T 0, 14, .inl (fun _ => 0))), (a41, .inl (T 0, 14, .inl (fun _ => 0))), (a49, .inl (T 0, 14, .inl (fun _ => 0))), (a57, .inl (T 0, 14, .inl (fun _ => 0))), (a65, .inl (T 2, 14, .inl (fun _ => 0))), (a78, .inl (T 0, 8, .inl (fun _ => 0)))] H := hP
  replace hD : va_D A [(q, .inr (8, [.int 1, .ref a12, .ref a20, .int 0, .ref a33, .ref a41, .ref a49, .ref a57, .ref a65, .int 0, .null, .null, .null, .int 0])), (a12, .inl (T 0, 10, .inl (fun _ => 0))), (a20, .inl (T 0, 10, .inl (fun _ => 0))), (a33, .inl (T 0, 14, .inl (fun _ => 0))), (a41, .inl (T 0, 14, .inl (fun _ => 0))), (a49, .inl (T 0, 14, .inl (fun _ => 0))), (a57, .inl (T 0, 14, .inl (fun _ => 0))), (a65, .inl (T 2, 14, .inl (fun _ => 0))), (a78, .inl (T 0, 8, .inl (fun _ => 0)))] := hD
  refine W.widen (k := 8) (n := 98) (Nat.le_of_ble_eq_true rfl) (Nat.le_of_ble_eq_true rfl) ?_
  refine va_putF (ci := 8) (v := .ref a78) (C := RX8) (T := TX8) (N := 14) hx hb hts hiX8 tyX8 tyX8_ok nmX8 hown hK hP hD hS 0 rfl rfl 10 (by decide) (hts _ (List.mem_of_getElem? (i := 16) rfl)) (fun _ h9 => h9) rfl hin rfl (tyX8_ok 10 (by decide)) rfl rfl (Nat.le_of_ble_eq_true rfl) dX8_init_80 (fun H locs hP hD hS => ?_)
  replace hP : va_P D vwCl [(q, .inr (8, [.int 1, .ref a12, .ref a20, .int 0, .ref a33, .ref a41, .ref a49, .ref a57, .ref a65, .int 0, .ref a78, .null, .null, .int 0])), (a12, .inl (T 0, 10, .inl (fun _ => 0))), (a20, .inl (T 0, 10, .inl (fun _ => 0))), (a33, .inl (T 0, 14, .inl (fun _ => 0))), (a41, .inl (T 0, 14, .inl (fun _ => 0))), (a49, .inl (T 0, 14, .inl (fun _ => 0))), (a57, .inl (T 0, 14, .inl (fun _ => 0))), (a65, .inl (T 2, 14, .inl (fun _ => 0))), (a78, .inl (T 0, 8, .inl (fun _ => 0)))] H := hP
  replace hD : va_D A [(q, .inr (8, [.int 1, .ref a12, .ref a20, .int 0, .ref a33, .ref a41, .ref a49, .ref a57, .ref a65, .int 0, .ref a78, .null, .null, .int 0])), (a12, .inl (T 0, 10, .inl (fun _ => 0))), (a20, .inl (T 0, 10, .inl (fun _ => 0))), (a33, .inl (T 0, 14, .inl (fun _ => 0))), (a41, .inl (T 0, 14, .inl (fun _ => 0))), (a49, .inl (T 0, 14, .inl (fun _ => 0))), (a57, .inl (T 0, 14, .inl (fun _ => 0))), (a65, .inl (T 2, 14, .inl (fun _ => 0))), (a78, .inl (T 0, 8, .inl (fun _ => 0)))] := hD
  refine lv_aload_n hx hb dX8_init_83 rfl (lv_at hl 0 rfl) ?_
  refine lv_bipush (v := 8) hx hb dX8_init_84 (by decide) ?_
  refine zNewI hx hb hts 5 rfl hK hP hD hS hA 8 (n := 8) (by decide) (by decide +kernel) (Nat.le_of_ble_eq_true rfl) (Nat.le_of_ble_eq_true rfl) (Nat.le_of_ble_eq_true rfl) dX8_init_86 (fun a86 H hP hD hS => ?_)
  replace hP : va_P D vwCl [(q, .inr (8, [.int 1, .ref a12, .ref a20, .int 0, .ref a33, .ref a41, .ref a49, .ref a57, .ref a65, .int 0, .ref a78, .null, .null, .int 0])), (a12, .inl (T 0, 10, .inl (fun _ => 0))), (a20, .inl (T 0, 10, .inl (fun _ => 0))), (a33, .inl (T 0, 14, .inl (fun _ => 0))), (a41, .inl (T 0, 14, .inl (fun _ => 0))), (a49, .inl (T 0, 14, .inl (fun _ => 0))), (a57, .inl (T 0, 14, .inl (fun _ => 0))), (a65, .inl (T 2, 14, .inl (fun _ => 0))), (a78, .inl (T 0, 8, .inl (fun _ => 0))), (a86, .inl (T 0, 8, .inl (fun _ => 0)))] H := hP
  replace hD : va_D A [(q, .inr (8, [.int 1, .ref a12, .ref a20, .int 0, .ref a33, .ref a41, .ref a49, .ref a57, .ref a65, .int 0, .ref a78, .null, .null, .int 0])), (a12, .inl (T 0, 10, .inl (fun _ => 0))), (a20, .inl (T 0, 10, .inl (fun _ => 0))), (a33, .inl (T 0, 14, .inl (fun _ => 0))), (a41, .inl (T 0, 14, .inl (fun _ => 0))), (a49, .inl (T 0, 14, .inl (fun _ => 0))), (a57, .inl (T 0, 14, .inl (fun _ => 0))), (a65, .inl (T 2, 14, .inl (fun _ => 0))), (a78, .inl (T 0, 8, .inl (fun _ => 0))), (a86, .inl (T 0, 8, .inl (fun _ => 0)))] := hD
  refine W.widen (k := 9) (n := 106) (Nat.le_of_ble_eq_true rfl) (Nat.le_of_ble_eq_true rfl) ?_
  refine va_putF (ci := 8) (v := .ref a86) (C := RX8) (T := TX8) (N := 14) hx hb hts hiX8 tyX8 tyX8_ok nmX8 hown hK hP hD hS 0 rfl rfl 11 (by decide) (hts _ (List.mem_of_getElem? (i := 17) rfl)) (fun _ h9 => h9) rfl hin rfl (tyX8_ok 11 (by decide)) rfl rfl (Nat.le_of_ble_eq_true rfl) dX8_init_88 (fun H locs hP hD hS => ?_)
  replace hP : va_P D vwCl [(q, .inr (8, [.int 1, .ref a12, .ref a20, .int 0, .ref a33, .ref a41, .ref a49, .ref a57, .ref a65, .int 0, .ref a78, .ref a86, .null, .int 0])), (a12, .inl (T 0, 10, .inl (fun _ => 0))), (a20, .inl (T 0, 10, .inl (fun _ => 0))), (a33, .inl (T 0, 14, .inl (fun _ => 0))), (a41, .inl (T 0, 14, .inl (fun _ => 0))), (a49, .inl (T 0, 14, .inl (fun _ => 0))), (a57, .inl (T 0, 14, .inl (fun _ => 0))), (a65, .inl (T 2, 14, .inl (fun _ => 0))), (a78, .inl (T 0, 8, .inl (fun _ => 0))), (a86, .inl (T 0, 8, .inl (fun _ => 0)))] H := hP
  replace hD : va_D A [(q, .inr (8, [.int 1, .ref a12, .ref a20, .int 0, .ref a33, .ref a41, .ref a49, .ref a57, .ref a65, .int 0, .ref a78, .ref a86, .null, .int 0])), (a12, .inl (T 0, 10, .inl (fun _ => 0))), (a20, .inl (T 0, 10, .inl (fun _ => 0))), (a33, .inl (T 0, 14, .inl (fun _ => 0))), (a41, .inl (T 0, 14, .inl (fun _ => 0))), (a49, .inl (T 0, 14, .inl (fun _ => 0))), (a57, .inl (T 0, 14, .inl (fun _ => 0))), (a65, .inl (T 2, 14, .inl (fun _ => 0))), (a78, .inl (T 0, 8, .inl (fun _ => 0))), (a86, .inl (T 0, 8, .inl (fun _ => 0)))] := hD
  refine lv_aload_n hx hb dX8_init_91 rfl (lv_at hl 0 rfl) ?_
  refine lv_bipush (v := 8) hx hb dX8_init_92 (by decide) ?_
  refine zNewI hx hb hts 5 rfl hK hP hD hS hA 8 (n := 8) (by decide) (by decide +kernel) (Nat.le_of_ble_eq_true rfl) (Nat.le_of_ble_eq_true rfl) (Nat.le_of_ble_eq_true rfl) dX8_init_94 (fun a94 H hP hD hS => ?_)
  replace hP : va_P D vwCl [(q, .inr (8, [.int 1, .ref a12, .ref a20, .int 0, .ref a33, .ref a41, .ref a49, .ref a57, .ref a65, .int 0, .ref a78, .ref a86, .null, .int 0])), (a12, .inl (T 0, 10, .inl (fun _ => 0))), (a20, .inl (T 0, 10, .inl (fun _ => 0))), (a33, .inl (T 0, 14, .inl (fun _ => 0))), (a41, .inl (T 0, 14, .inl (fun _ => 0))), (a49, .inl (T 0, 14, .inl (fun _ => 0))), (a57, .inl (T 0, 14, .inl (fun _ => 0))), (a65, .inl (T 2, 14, .inl (fun _ => 0))), (a78, .inl (T 0, 8, .inl (fun _ => 0))), (a86, .inl (T 0, 8, .inl (fun _ => 0))), (a94, .inl (T 0, 8, .inl (fun _ => 0)))] H := hP
  replace hD : va_D A [(q, .inr (8, [.int 1, .ref a12, .ref a20, .int 0, .ref a33, .ref a41, .ref a49, .ref a57, .ref a65, .int 0, .ref a78, .ref a86, .null, .int 0])), (a12, .inl (T 0, 10, .inl (fun _ => 0))), (a20, .inl (T 0, 10, .inl (fun _ => 0))), (a33, .inl (T 0, 14, .inl (fun _ => 0))), (a41, .inl (T 0, 14, .inl (fun _ => 0))), (a49, .inl (T 0, 14, .inl (fun _ => 0))), (a57, .inl (T 0, 14, .inl (fun _ => 0))), (a65, .inl (T 2, 14, .inl (fun _ => 0))), (a78, .inl (T 0, 8, .inl (fun _ => 0))), (a86, .inl (T 0, 8, .inl (fun _ => 0))), (a94, .inl (T 0, 8, .inl (fun _ => 0)))] := hD
  refine W.widen (k := 10) (n := 114) (Nat.le_of_ble_eq_true rfl) (Nat.le_of_ble_eq_true rfl) ?_
  refine va_putF (ci := 8) (v := .ref a94) (C := RX8) (T := TX8) (N := 14) hx hb hts hiX8 tyX8 tyX8_ok nmX8 hown hK hP hD hS 0 rfl rfl 12 (by decide) (hts _ (List.mem_of_getElem? (i := 18) rfl)) (fun _ h9 => h9) rfl hin rfl (tyX8_ok 12 (by decide)) rfl rfl (Nat.le_of_ble_eq_true rfl) dX8_init_96 (fun H locs hP hD hS => ?_)
  replace hP : va_P D vwCl [(q, .inr (8, [.int 1, .ref a12, .ref a20, .int 0, .ref a33, .ref a41, .ref a49, .ref a57, .ref a65, .int 0, .ref a78, .ref a86, .ref a94, .int 0])), (a12, .inl (T 0, 10, .inl (fun _ => 0))), (a20, .inl (T 0, 10, .inl (fun _ => 0))), (a33, .inl (T 0, 14, .inl (fun _ => 0))), (a41, .inl (T 0, 14, .inl (fun _ => 0))), (a49, .inl (T 0, 14, .inl (fun _ => 0))), (a57, .inl (T 0, 14, .inl (fun _ => 0))), (a65, .inl (T 2, 14, .inl (fun _ => 0))), (a78, .inl (T 0, 8, .inl (fun _ => 0))), (a86, .inl (T 0, 8, .inl (fun _ => 0))), (a94, .inl (T 0, 8, .inl (fun _ => 0)))] H := hP
  replace hD : va_D A [(q, .inr (8, [.int 1, .ref a12, .ref a20, .int 0, .ref a33, .ref a41, .ref a49, .ref a57, .ref a65, .int 0, .ref a78, .ref a86, .ref a94, .int 0])), (a12, .inl (T 0, 10, .inl (fun _ => 0))), (a20, .inl (T 0, 10, .inl (fun _ => 0))), (a33, .inl (T 0, 14, .inl (fun _ => 0))), (a41, .inl (T 0, 14, .inl (fun _ => 0))), (a49, .inl (T 0, 14, .inl (fun _ => 0))), (a57, .inl (T 0, 14, .inl (fun _ => 0))), (a65, .inl (T 2, 14, .inl (fun _ => 0))), (a78, .inl (T 0, 8, .inl (fun _ => 0))), (a86, .inl (T 0, 8, .inl (fun _ => 0))), (a94, .inl (T 0, 8, .inl (fun _ => 0)))] := hD
  refine lv_aload_n hx hb dX8_init_99 rfl (lv_at hl 0 rfl) ?_
  refine lv_iconst (v := 1) hx hb dX8_init_100 (by decide) ?_
  refine va_put (ci := 8) (v := .int 1) (C := RX8) (T := TX8) (N := 14) hx hb hts hiX8 tyX8 tyX8_ok nmX8 hown hK hP hD hS 0 rfl rfl 13 (by decide) (hts _ (List.mem_of_getElem? (i := 19) rfl)) (fun _ h9 => h9) rfl (tyX8_ok 13 (by decide)) (by decide) (by decide) (Nat.le_of_ble_eq_true rfl) dX8_init_101 (fun H locs hP hD hS => ?_)
  replace hP : va_P D vwCl [(q, .inr (8, [.int 1, .ref a12, .ref a20, .int 0, .ref a33, .ref a41, .ref a49, .ref a57, .ref a65, .int 0, .ref a78, .ref a86, .ref a94, .int 1])), (a12, .inl (T 0, 10, .inl (fun _ => 0))), (a20, .inl (T 0, 10, .inl (fun _ => 0))), (a33, .inl (T 0, 14, .inl (fun _ => 0))), (a41, .inl (T 0, 14, .inl (fun _ => 0))), (a49, .inl (T 0, 14, .inl (fun _ => 0))), (a57, .inl (T 0, 14, .inl (fun _ => 0))), (a65, .inl (T 2, 14, .inl (fun _ => 0))), (a78, .inl (T 0, 8, .inl (fun _ => 0))), (a86, .inl (T 0, 8, .inl (fun _ => 0))), (a94, .inl (T 0, 8, .inl (fun _ => 0)))] H := hP
  replace hD : va_D A [(q, .inr (8, [.int 1, .ref a12, .ref a20, .int 0, .ref a33, .ref a41, .ref a49, .ref a57, .ref a65, .int 0, .ref a78, .ref a86, .ref a94, .int 1])), (a12, .inl (T 0, 10, .inl (fun _ => 0))), (a20, .inl (T 0, 10, .inl (fun _ => 0))), (a33, .inl (T 0, 14, .inl (fun _ => 0))), (a41, .inl (T 0, 14, .inl (fun _ => 0))), (a49, .inl (T 0, 14, .inl (fun _ => 0))), (a57, .inl (T 0, 14, .inl (fun _ => 0))), (a65, .inl (T 2, 14, .inl (fun _ => 0))), (a78, .inl (T 0, 8, .inl (fun _ => 0))), (a86, .inl (T 0, 8, .inl (fun _ => 0))), (a94, .inl (T 0, 8, .inl (fun _ => 0)))] := hD
  obtain ⟨u, hu⟩ : ∃ u : Nat → Nat, u = fun c => [q, a12, a20, a33, a41, a49, a57, a65, a78, a86, a94].getD c 0 := ⟨_, rfl⟩
  obtain ⟨g0, hg0⟩ : ∃ g : zM, g = mX8 := ⟨_, rfl⟩
  replace hP : va_P D vwCl (wX8 T u g0) H := by rw [hu, hg0]; exact hP
  replace hD : va_D A (wX8 T u g0) := by rw [hu, hg0]; exact hD
  replace hl : lv_has ls 1 [(0, .ref (u 0))] := by rw [hu]; exact hl
  refine lv_aload_n hx hb dX8_init_104 rfl (lv_at hl 0 rfl) ?_
  refine zGet (ci := 8) (C := RX8) (F := TX8) (N := 14) (v := .ref (u 1)) hx hb hts hiX8 hown hK hP 0 1 6 rfl rfl (by decide) rfl rfl rfl dX8_init_105 ?_
  refine lv_iconst (v := 1) hx hb dX8_init_108 (by decide) ?_
  obtain ⟨t109, hc109, ht109⟩ := sJ_fill (n := 10) (by omega) (fun _ => g0 1) 1
  refine zCallFill (w := g0) (t := t109) ⟨hx, hb, hml, hown, hts⟩ (pJ7_fill_53178 l D T X (fun _ => (u 1)) H.size 10 (fun _ => g0 1) 1 t109 hc109) (va_cwS 2 hts gX8_init_J7_fill_53178 rfl rfl rfl (by decide +kernel) ⟨Nat.le_of_ble_eq_true rfl, Nat.le_of_ble_eq_true rfl⟩) hK hP hD hS hA hX (fun g => wX8 T u g) 1 1 rfl rfl hl.1 (Nat.le_of_ble_eq_true rfl) dX8_init_109 ⟨Nat.le_of_ble_eq_true rfl, Nat.le_of_ble_eq_true rfl⟩ (fun g109 eg109 H locs hP hD hS => ?_)
  refine lv_aload_n hx hb dX8_init_112 rfl (lv_at hl 0 rfl) ?_
  refine zGet (ci := 8) (C := RX8) (F := TX8) (N := 14) (v := .ref (u 2)) hx hb hts hiX8 hown hK hP 0 2 7 rfl rfl (by decide) rfl rfl rfl dX8_init_113 ?_
  refine lv_iconst (v := (-1)) hx hb dX8_init_116 (by decide) ?_
  obtain ⟨t117, hc117, ht117⟩ := sJ_fill (n := 10) (by omega) (fun _ => g109 2) (-1)
  refine zCallFill (w := g109) (t := t117) ⟨hx, hb, hml, hown, hts⟩ (pJ7_fill_53178 l D T X (fun _ => (u 2)) H.size 10 (fun _ => g109 2) (-1) t117 hc117) (va_cwS 2 hts gX8_init_J7_fill_53178 rfl rfl rfl (by decide +kernel) ⟨Nat.le_of_ble_eq_true rfl, Nat.le_of_ble_eq_true rfl⟩) hK hP hD hS hA hX (fun g => wX8 T u g) 2 2 rfl rfl hl.1 (Nat.le_of_ble_eq_true rfl) dX8_init_117 ⟨Nat.le_of_ble_eq_true rfl, Nat.le_of_ble_eq_true rfl⟩ (fun g117 eg117 H locs hP hD hS => ?_)
  refine zRetN (u := (u, g117)) hQ hx hb hr hlocks hA0 hK hP hD hS ⟨by rw [hu]; rfl, ?_⟩ dX8_init_120
  refine ⟨?_, ?_, ?_, ?_, fun p hp => ⟨?_, ?_⟩, ?_⟩
  · show g117 0 0 = _; rw [eg117, zPr_k (by decide), eg109, zPr_k (by decide), hg0]; rfl
  · show g117 0 3 = _; rw [eg117, zPr_k (by decide), eg109, zPr_k (by decide), hg0]; rfl
  · show g117 0 9 = _; rw [eg117, zPr_k (by decide), eg109, zPr_k (by decide), hg0]; rfl
  · show g117 0 13 = _; rw [eg117, zPr_k (by decide), eg109, zPr_k (by decide), hg0]; rfl
  · show g117 1 p = _; rw [eg117, zPr_k (by decide), eg109, zPr_s, ht109, if_pos hp]
  · show g117 2 p = _; rw [eg117, zPr_s, ht117, if_pos hp]
  · show g117 7 = _; rw [eg117, zPr_k (by decide), eg109, zPr_k (by decide), hg0]; rfl
