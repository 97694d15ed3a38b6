def rJ0_coder_7d493 : Room := { frames := 0, cells := 0, slots := 0, locals := 0 }

set_option maxHeartbeats 4000000 in
set_option maxRecDepth 100000 in
theorem pJ0_coder_7d493 (l : Launch) (D : va_G) (T : Nat → ClassId) (X : zFP) (sz : Nat) (j : Nat) (hj : j < 10) : Met l yJ0_coder_7d493 wsJ0_coder_7d493 rJ0_coder_7d493 (zPre D T X [.ref (X.2.1 j)] [] sz) (zQi D T 0 [] [] sz) 0 0 (va_A [] sz) := by
  refine zStart [(0, .ref (X.2.1 j))] (by decide) rfl (Nat.le_of_ble_eq_true rfl) rfl ?_
  intro p e s m args below meth c A Q ls hx hb hr hml hown hlocks hts hsz hA0 hQ hA hK hX hP hD hS hl
  replace hown : s.vm.findClass RJ0 = some m.cls := hown
  obtain ⟨H, hHe⟩ : ∃ H : Heap, H = s.heap := ⟨_, rfl⟩
  obtain ⟨locs, hLe⟩ : ∃ L : List Loc, L = [] := ⟨_, rfl⟩
  replace hP : va_P D vwCl [] H := by rw [hHe]; exact hP
  replace hS : va_S A s.heap H locs := by rw [hHe, hLe]; exact hS
  suffices hgo : W p l e rJ0_coder_7d493 s m args below meth c H locs 0 0 Q (F0 m 0 ls []) by rw [hHe, hLe] at hgo; exact hgo
  clear hHe hLe
  refine va_gets hx hb hX.2.2.1 hS hown (hts _ (List.mem_of_getElem? (i := 1) rfl)) (fun _ h => h) dJ0_coder_7d493_0 ?_
  refine lv_if_eq (tgt := 13) hx hb dJ0_coder_7d493_3 (by decide) (fun hc => absurd hc (by decide)) (fun _ => ?_)
  refine lv_aload_n hx hb dJ0_coder_7d493_6 rfl (lv_at hl 0 rfl) ?_
  refine vk_getf hx hb (hX.2.2.2.2.1.1 j hj).2.1 hS hown (hts _ (List.mem_of_getElem? (i := 2) rfl)) (fun _ h => h) dJ0_coder_7d493_7 ?_
  refine lv_goto (tgt := 14) hx hb dJ0_coder_7d493_10 (by decide) ?_
  exact zRetT hQ hx hb hr hlocks hA0 hK hP hD hS rfl rfl dJ0_coder_7d493_14

def rJ0_isLatin1_aae02 : Room := { frames := 0, cells := 0, slots := 0, locals := 0 }

set_option maxHeartbeats 4000000 in
set_option maxRecDepth 100000 in
theorem pJ0_isLatin1_aae02 (l : Launch) (D : va_G) (T : Nat → ClassId) (X : zFP) (sz : Nat) (j : Nat) (hj : j < 10) : Met l yJ0_isLatin1_aae02 wsJ0_isLatin1_aae02 rJ0_isLatin1_aae02 (zPre D T X [.ref (X.2.1 j)] [] sz) (zQi D T 1 [] [] sz) 0 0 (va_A [] sz) := by
  refine zStart [(0, .ref (X.2.1 j))] (by decide) rfl (Nat.le_of_ble_eq_true rfl) rfl ?_
  intro p e s m args below meth c A Q ls hx hb hr hml hown hlocks hts hsz hA0 hQ hA hK hX hP hD hS hl
  replace hown : s.vm.findClass RJ0 = some m.cls := hown
  obtain ⟨H, hHe⟩ : ∃ H : Heap, H = s.heap := ⟨_, rfl⟩
  obtain ⟨locs, hLe⟩ : ∃ L : List Loc, L = [] := ⟨_, rfl⟩
  replace hP : va_P D vwCl [] H := by rw [hHe]; exact hP
  replace hS : va_S A s.heap H locs := by rw [hHe, hLe]; exact hS
  suffices hgo : W p l e rJ0_isLatin1_aae02 s m args below meth c H locs 0 0 Q (F0 m 0 ls []) by rw [hHe, hLe] at hgo; exact hgo
  clear hHe hLe
  refine va_gets hx hb hX.2.2.1 hS hown (hts _ (List.mem_of_getElem? (i := 1) rfl)) (fun _ h => h) dJ0_isLatin1_aae02_0 ?_
  refine lv_if_eq (tgt := 17) hx hb dJ0_isLatin1_aae02_3 (by decide) (fun hc => absurd hc (by decide)) (fun _ => ?_)
  refine lv_aload_n hx hb dJ0_isLatin1_aae02_6 rfl (lv_at hl 0 rfl) ?_
  refine vk_getf hx hb (hX.2.2.2.2.1.1 j hj).2.1 hS hown (hts _ (List.mem_of_getElem? (i := 2) rfl)) (fun _ h => h) dJ0_isLatin1_aae02_7 ?_
  refine lv_if_ne (tgt := 17) hx hb dJ0_isLatin1_aae02_10 (by decide) (fun hc => absurd rfl hc) (fun _ => ?_)
  refine lv_iconst (v := 1) hx hb dJ0_isLatin1_aae02_13 (by decide) ?_
  refine lv_goto (tgt := 18) hx hb dJ0_isLatin1_aae02_14 (by decide) ?_
  exact zRetT hQ hx hb hr hlocks hA0 hK hP hD hS rfl rfl dJ0_isLatin1_aae02_18

def rJ0_length_8abf5 : Room := { frames := 1, cells := 0, slots := 0, locals := 20 }

set_option maxHeartbeats 4000000 in
set_option maxRecDepth 100000 in
theorem pJ0_length_8abf5 (l : Launch) (D : va_G) (T : Nat → ClassId) (X : zFP) (sz : Nat) (j : Nat) (hj : j < 10) : Met l yJ0_length_8abf5 wsJ0_length_8abf5 rJ0_length_8abf5 (zPre D T X [.ref (X.2.1 j)] [] sz) (zQi D T (zSl j) [] [] sz) 0 0 (va_A [] sz) := by
  refine zStart [(0, .ref (X.2.1 j))] (by decide) rfl (Nat.le_of_ble_eq_true rfl) rfl ?_
  intro p e s m args below meth c A Q ls hx hb hr hml hown hlocks hts hsz hA0 hQ hA hK hX hP hD hS hl
  replace hown : s.vm.findClass RJ0 = some m.cls := hown
  obtain ⟨H, hHe⟩ : ∃ H : Heap, H = s.heap := ⟨_, rfl⟩
  obtain ⟨locs, hLe⟩ : ∃ L : List Loc, L = [] := ⟨_, rfl⟩
  replace hP : va_P D vwCl [] H := by rw [hHe]; exact hP
  replace hS : va_S A s.heap H locs := by rw [hHe, hLe]; exact hS
  suffices hgo : W p l e rJ0_length_8abf5 s m args below meth c H locs 0 0 Q (F0 m 0 ls []) by rw [hHe, hLe] at hgo; exact hgo
  clear hHe hLe
  refine lv_aload_n hx hb dJ0_length_8abf5_0 rfl (lv_at hl 0 rfl) ?_
  refine vk_getf hx hb (hX.2.2.2.2.1.1 j hj).2.2.1 hS hown (hts _ (List.mem_of_getElem? (i := 1) rfl)) (fun _ h => h) dJ0_length_8abf5_1 ?_
  refine va_tlen (v := Int32.ofNat (zLen.getD j 0)) hx hb (hX.2.2.2.2.1.1 j hj).2.2.2 hS rfl dJ0_length_8abf5_4 ?_
  refine lv_aload_n hx hb dJ0_length_8abf5_5 rfl (lv_at hl 0 rfl) ?_
  refine zCallV0I (r := 0) [] ⟨hx, hb, hml, hown, hts⟩ (pJ0_coder_7d493 l D T X H.size j hj) (cwV 0 hts gJ0_length_8abf5_J0_coder_7d493 rfl rfl rfl (by decide +kernel) ⟨Nat.le_of_ble_eq_true rfl, Nat.le_of_ble_eq_true rfl⟩) hK hP hD hS hA hX (vk_recv hX.2.2.2.2.1 hj hS) rfl hl.1 rfl (Nat.le_of_ble_eq_true rfl) dJ0_length_8abf5_6 ⟨Nat.zero_le _, Nat.zero_le _⟩ (fun H locs hP hD hS => ?_)
  refine lv_ishr hx hb dJ0_length_8abf5_9 ?_
  exact zRetI hQ hx hb hr hlocks hA0 hK hP hD hS rfl dJ0_length_8abf5_10

def rJ3_checkIndex_8e157 : Room := { frames := 0, cells := 0, slots := 0, locals := 0 }

set_option maxHeartbeats 4000000 in
set_option maxRecDepth 100000 in
theorem pJ3_checkIndex_8e157_n (l : Launch) (D : va_G) (T : Nat → ClassId) (X : zFP) (sz : Nat) (i n : Int32) (h0 : ¬ i < 0) (h1 : i < n) : Met l yJ3_checkIndex_8e157 wsJ3_checkIndex_8e157 rJ3_checkIndex_8e157 (zPre D T X [.int i, .int n, .null] [] sz) (zQi D T i [] [] sz) 0 0 (va_A [] sz) := by
  refine zStart [(0, .int i), (1, .int n), (2, .null)] (by decide) rfl (Nat.le_of_ble_eq_true rfl) rfl ?_
  intro p e s m args below meth c A Q ls hx hb hr hml hown hlocks hts hsz hA0 hQ hA hK hX hP hD hS hl
  replace hown : s.vm.findClass RJ3 = some m.cls := hown
  obtain ⟨H, hHe⟩ : ∃ H : Heap, H = s.heap := ⟨_, rfl⟩
  obtain ⟨locs, hLe⟩ : ∃ L : List Loc, L = [] := ⟨_, rfl⟩
  replace hP : va_P D vwCl [] H := by rw [hHe]; exact hP
  replace hS : va_S A s.heap H locs := by rw [hHe, hLe]; exact hS
  suffices hgo : W p l e rJ3_checkIndex_8e157 s m args below meth c H locs 0 0 Q (F0 m 0 ls []) by rw [hHe, hLe] at hgo; exact hgo
  clear hHe hLe
  refine lv_iload_n hx hb dJ3_checkIndex_8e157_0 rfl (lv_at hl 0 rfl) ?_
  refine lv_if_lt (tgt := 9) hx hb dJ3_checkIndex_8e157_1 (by decide) (fun hc => absurd hc h0) (fun _ => ?_)
  refine lv_iload_n hx hb dJ3_checkIndex_8e157_4 rfl (lv_at hl 0 rfl) ?_
  refine lv_iload_n hx hb dJ3_checkIndex_8e157_5 rfl (lv_at hl 1 rfl) ?_
  refine lv_icmp_lt (tgt := 16) hx hb dJ3_checkIndex_8e157_6 (by decide) (fun _ => ?_) (fun hc => absurd h1 hc)
  refine lv_iload_n hx hb dJ3_checkIndex_8e157_16 rfl (lv_at hl 0 rfl) ?_
  exact zRetI hQ hx hb hr hlocks hA0 hK hP hD hS rfl dJ3_checkIndex_8e157_17

set_option maxHeartbeats 4000000 in
set_option maxRecDepth 100000 in
theorem pJ3_checkIndex_8e157_r (l : Launch) (D : va_G) (T : Nat → ClassId) (X : zFP) (sz : Nat) (i n : Int32) (bf : Nat) (h0 : ¬ i < 0) (h1 : i < n) : Met l yJ3_checkIndex_8e157 wsJ3_checkIndex_8e157 rJ3_checkIndex_8e157 (zPre D T X [.int i, .int n, .ref bf] [] sz) (zQi D T i [] [] sz) 0 0 (va_A [] sz) := by
  refine zStart [(0, .int i), (1, .int n), (2, .ref bf)] (by decide) rfl (Nat.le_of_ble_eq_true rfl) rfl ?_
  intro p e s m args below meth c A Q ls hx hb hr hml hown hlocks hts hsz hA0 hQ hA hK hX hP hD hS hl
  replace hown : s.vm.findClass RJ3 = some m.cls := hown
  obtain ⟨H, hHe⟩ : ∃ H : Heap, H = s.heap := ⟨_, rfl⟩
  obtain ⟨locs, hLe⟩ : ∃ L : List Loc, L = [] := ⟨_, rfl⟩
  replace hP : va_P D vwCl [] H := by rw [hHe]; exact hP
  replace hS : va_S A s.heap H locs := by rw [hHe, hLe]; exact hS
  suffices hgo : W p l e rJ3_checkIndex_8e157 s m args below meth c H locs 0 0 Q (F0 m 0 ls []) by rw [hHe, hLe] at hgo; exact hgo
  clear hHe hLe
  refine lv_iload_n hx hb dJ3_checkIndex_8e157_0 rfl (lv_at hl 0 rfl) ?_
  refine lv_if_lt (tgt := 9) hx hb dJ3_checkIndex_8e157_1 (by decide) (fun hc => absurd hc h0) (fun _ => ?_)
  refine lv_iload_n hx hb dJ3_checkIndex_8e157_4 rfl (lv_at hl 0 rfl) ?_
  refine lv_iload_n hx hb dJ3_checkIndex_8e157_5 rfl (lv_at hl 1 rfl) ?_
  refine lv_icmp_lt (tgt := 16) hx hb dJ3_checkIndex_8e157_6 (by decide) (fun _ => ?_) (fun hc => absurd h1 hc)
  refine lv_iload_n hx hb dJ3_checkIndex_8e157_16 rfl (lv_at hl 0 rfl) ?_
  exact zRetI hQ hx hb hr hlocks hA0 hK hP hD hS rfl dJ3_checkIndex_8e157_17

def rJ0_checkIndex_df160 : Room := { frames := 1, cells := 0, slots := 0, locals := 30 }

set_option maxHeartbeats 4000000 in
set_option maxRecDepth 100000 in
theorem pJ0_checkIndex_df160 (l : Launch) (D : va_G) (T : Nat → ClassId) (X : zFP) (sz : Nat) (i n : Int32) (h0 : ¬ i < 0) (h1 : i < n) : Met l yJ0_checkIndex_df160 wsJ0_checkIndex_df160 rJ0_checkIndex_df160 (zPre D T X [.int i, .int n] [] sz) (zQv D T [] [] sz) 0 0 (va_A [] sz) := by
  refine zStart [(0, .int i), (1, .int n)] (by decide) rfl (Nat.le_of_ble_eq_true rfl) rfl ?_
  intro p e s m args below meth c A Q ls hx hb hr hml hown hlocks hts hsz hA0 hQ hA hK hX hP hD hS hl
  replace hown : s.vm.findClass RJ0 = some m.cls := hown
  obtain ⟨H, hHe⟩ : ∃ H : Heap, H = s.heap := ⟨_, rfl⟩
  obtain ⟨locs, hLe⟩ : ∃ L : List Loc, L = [] := ⟨_, rfl⟩
  replace hP : va_P D vwCl [] H := by rw [hHe]; exact hP
  replace hS : va_S A s.heap H locs := by rw [hHe, hLe]; exact hS
  suffices hgo : W p l e rJ0_checkIndex_df160 s m args below meth c H locs 0 0 Q (F0 m 0 ls []) by rw [hHe, hLe] at hgo; exact hgo
  clear hHe hLe
  refine lv_iload_n hx hb dJ0_checkIndex_df160_0 rfl (lv_at hl 0 rfl) ?_
  refine lv_iload_n hx hb dJ0_checkIndex_df160_1 rfl (lv_at hl 1 rfl) ?_
  rcases hX.2.2.2.1 with hZ | ⟨bf, hZ⟩
  · refine va_gets hx hb hZ hS hown (hts _ (List.mem_of_getElem? (i := 1) rfl)) (fun _ h => h) dJ0_checkIndex_df160_2 ?_
    refine zCallS0I (r := i) [.int i, .int n, .null] ⟨hx, hb, hml, hown, hts⟩ (pJ3_checkIndex_8e157_n l D T X H.size i n h0 h1) (va_cwS 3 hts gJ0_checkIndex_df160_J3_checkIndex_8e157 rfl rfl rfl (by decide +kernel) ⟨Nat.le_of_ble_eq_true rfl, Nat.le_of_ble_eq_true rfl⟩) hK hP hD hS hA hX rfl hl.1 rfl (Nat.le_of_ble_eq_true rfl) dJ0_checkIndex_df160_5 ⟨Nat.zero_le _, Nat.zero_le _⟩ (fun H locs hP hD hS => ?_)
    refine lv_pop hx hb dJ0_checkIndex_df160_8 rfl ?_
    exact zRetV hQ hx hb hr hlocks hA0 hK hP hD hS dJ0_checkIndex_df160_9
  · refine va_gets hx hb hZ hS hown (hts _ (List.mem_of_getElem? (i := 1) rfl)) (fun _ h => h) dJ0_checkIndex_df160_2 ?_
    refine zCallS0I (r := i) [.int i, .int n, .ref bf] ⟨hx, hb, hml, hown, hts⟩ (pJ3_checkIndex_8e157_r l D T X H.size i n bf h0 h1) (va_cwS 3 hts gJ0_checkIndex_df160_J3_checkIndex_8e157 rfl rfl rfl (by decide +kernel) ⟨Nat.le_of_ble_eq_true rfl, Nat.le_of_ble_eq_true rfl⟩) hK hP hD hS hA hX rfl hl.1 rfl (Nat.le_of_ble_eq_true rfl) dJ0_checkIndex_df160_5 ⟨Nat.zero_le _, Nat.zero_le _⟩ (fun H locs hP hD hS => ?_)
    refine lv_pop hx hb dJ0_checkIndex_df160_8 rfl ?_
    exact zRetV hQ hx hb hr hlocks hA0 hK hP hD hS dJ0_checkIndex_df160_9

def rJ1_charAt_3b067 : Room := { frames := 2, cells := 0, slots := 0, locals := 80 }

theorem zIn_lt32 {i : Int32} {n : Nat} (hn : n < 2 ^ 31) (h : zIn i n = true) : ¬ i < 0 ∧ i < Int32.ofNat n := by
  obtain ⟨k, hk, rfl⟩ := vp_in_of (zIn_ok h) hn
  exact ⟨nI_pos (by omega), nI_lt hk hn⟩
theorem zLen_lt (j : Nat) : zLen.getD j 0 < 2 ^ 31 := by
  by_cases h : j < 10
  · have : ∀ k, k < 10 → zLen.getD k 0 < 2 ^ 31 := by decide
    exact this j h
  · have h2 : zLen[j]? = none := List.getElem?_eq_none (by simp [zLen]; omega)
    rw [List.getD_eq_getElem?_getD, h2]
    decide

set_option maxHeartbeats 4000000 in
set_option maxRecDepth 100000 in
theorem pJ1_charAt_3b067 (l : Launch) (D : va_G) (T : Nat → ClassId) (X : zFP) (sz : Nat) (j : Nat) (hj : j < 10) (i : Int32) (hin : zIn i (zLen.getD j 0) = true) : Met l yJ1_charAt_3b067 wsJ1_charAt_3b067 rJ1_charAt_3b067 (zPre D T X [.ref (X.2.2 j), .int i] [] sz) (zQi D T (zSc j i) [] [] sz) 0 0 (va_A [] sz) := by
  refine zStart [(0, .ref (X.2.2 j)), (1, .int i)] (by decide) rfl (Nat.le_of_ble_eq_true rfl) rfl ?_
  intro p e s m args below meth c A Q ls hx hb hr hml hown hlocks hts hsz hA0 hQ hA hK hX hP hD hS hl
  replace hown : s.vm.findClass RJ1 = some m.cls := hown
  obtain ⟨H, hHe⟩ : ∃ H : Heap, H = s.heap := ⟨_, rfl⟩
  obtain ⟨locs, hLe⟩ : ∃ L : List Loc, L = [] := ⟨_, rfl⟩
  replace hP : va_P D vwCl [] H := by rw [hHe]; exact hP
  replace hS : va_S A s.heap H locs := by rw [hHe, hLe]; exact hS
  suffices hgo : W p l e rJ1_charAt_3b067 s m args below meth c H locs 0 0 Q (F0 m 0 ls []) by rw [hHe, hLe] at hgo; exact hgo
  clear hHe hLe
  have hlt := zIn_lt32 (zLen_lt j) hin
  refine lv_iload_n hx hb dJ1_charAt_3b067_0 rfl (lv_at hl 1 rfl) ?_
  refine lv_aload_n hx hb dJ1_charAt_3b067_1 rfl (lv_at hl 0 rfl) ?_
  refine va_tlen (v := Int32.ofNat (zLen.getD j 0)) hx hb (hX.2.2.2.2.1.1 j hj).2.2.2 hS rfl dJ1_charAt_3b067_2 ?_
  refine zCallS0V [.int i, .int (Int32.ofNat (zLen.getD j 0))] ⟨hx, hb, hml, hown, hts⟩ (pJ0_checkIndex_df160 l D T X H.size i (Int32.ofNat (zLen.getD j 0)) hlt.1 hlt.2) (va_cwS 2 hts gJ1_charAt_3b067_J0_checkIndex_df160 rfl rfl rfl (by decide +kernel) ⟨Nat.le_of_ble_eq_true rfl, Nat.le_of_ble_eq_true rfl⟩) hK hP hD hS hA hX rfl hl.1 rfl (Nat.le_of_ble_eq_true rfl) dJ1_charAt_3b067_3 ⟨Nat.zero_le _, Nat.zero_le _⟩ (fun H locs hP hD hS => ?_)
  refine lv_aload_n hx hb dJ1_charAt_3b067_6 rfl (lv_at hl 0 rfl) ?_
  refine lv_iload_n hx hb dJ1_charAt_3b067_7 rfl (lv_at hl 1 rfl) ?_
  refine va_tb (v := .int ((zByt.getD j []).getD i.toNatClampNeg 0)) hx hb (hX.2.2.2.2.1.1 j hj).2.2.2 hS (zIn_ok hin) rfl dJ1_charAt_3b067_8 ?_
  refine lv_sipush (v := 255) hx hb dJ1_charAt_3b067_9 (by decide) ?_
  refine lv_iand hx hb dJ1_charAt_3b067_12 ?_
  refine lv_i2c hx hb dJ1_charAt_3b067_13 rfl ?_
  exact zRetT hQ hx hb hr hlocks hA0 hK hP hD hS (pk_nc _) rfl dJ1_charAt_3b067_14

def rJ0_charAt_5068e : Room := { frames := 3, cells := 0, slots := 0, locals := 120 }

set_option maxHeartbeats 4000000 in
set_option maxRecDepth 100000 in
theorem pJ0_charAt_5068e (l : Launch) (D : va_G) (T : Nat → ClassId) (X : zFP) (sz : Nat) (j : Nat) (hj : j < 10) (i : Int32) (hin : zIn i (zLen.getD j 0) = true) : Met l yJ0_charAt_5068e wsJ0_charAt_5068e rJ0_charAt_5068e (zPre D T X [.ref (X.2.1 j), .int i] [] sz) (zQi D T (zSc j i) [] [] sz) 0 0 (va_A [] sz) := by
  refine zStart [(0, .ref (X.2.1 j)), (1, .int i)] (by decide) rfl (Nat.le_of_ble_eq_true rfl) rfl ?_
  intro p e s m args below meth c A Q ls hx hb hr hml hown hlocks hts hsz hA0 hQ hA hK hX hP hD hS hl
  replace hown : s.vm.findClass RJ0 = some m.cls := hown
  obtain ⟨H, hHe⟩ : ∃ H : Heap, H = s.heap := ⟨_, rfl⟩
  obtain ⟨locs, hLe⟩ : ∃ L : List Loc, L = [] := ⟨_, rfl⟩
  replace hP : va_P D vwCl [] H := by rw [hHe]; exact hP
  replace hS : va_S A s.heap H locs := by rw [hHe, hLe]; exact hS
  suffices hgo : W p l e rJ0_charAt_5068e s m args below meth c H locs 0 0 Q (F0 m 0 ls []) by rw [hHe, hLe] at hgo; exact hgo
  clear hHe hLe
  refine lv_aload_n hx hb dJ0_charAt_5068e_0 rfl (lv_at hl 0 rfl) ?_
  refine zCallV0I (r := 1) [] ⟨hx, hb, hml, hown, hts⟩ (pJ0_isLatin1_aae02 l D T X H.size j hj) (cwV 0 hts gJ0_charAt_5068e_J0_isLatin1_aae02 rfl rfl rfl (by decide +kernel) ⟨Nat.le_of_ble_eq_true rfl, Nat.le_of_ble_eq_true rfl⟩) hK hP hD hS hA hX (vk_recv hX.2.2.2.2.1 hj hS) rfl hl.1 rfl (Nat.le_of_ble_eq_true rfl) dJ0_charAt_5068e_1 ⟨Nat.zero_le _, Nat.zero_le _⟩ (fun H locs hP hD hS => ?_)
  refine lv_if_eq (tgt := 16) hx hb dJ0_charAt_5068e_4 (by decide) (fun hc => absurd hc (by decide)) (fun _ => ?_)
  refine lv_aload_n hx hb dJ0_charAt_5068e_7 rfl (lv_at hl 0 rfl) ?_
  refine vk_getf hx hb (hX.2.2.2.2.1.1 j hj).2.2.1 hS hown (hts _ (List.mem_of_getElem? (i := 1) rfl)) (fun _ h => h) dJ0_charAt_5068e_8 ?_
  refine lv_iload_n hx hb dJ0_charAt_5068e_11 rfl (lv_at hl 1 rfl) ?_
  refine zCallS0I (r := zSc j i) [.ref (X.2.2 j), .int i] ⟨hx, hb, hml, hown, hts⟩ (pJ1_charAt_3b067 l D T X H.size j hj i hin) (va_cwS 2 hts gJ0_charAt_5068e_J1_charAt_3b067 rfl rfl rfl (by decide +kernel) ⟨Nat.le_of_ble_eq_true rfl, Nat.le_of_ble_eq_true rfl⟩) hK hP hD hS hA hX rfl hl.1 rfl (Nat.le_of_ble_eq_true rfl) dJ0_charAt_5068e_12 ⟨Nat.zero_le _, Nat.zero_le _⟩ (fun H locs hP hD hS => ?_)
  exact zRetT hQ hx hb hr hlocks hA0 hK hP hD hS (pk_nc _) rfl dJ0_charAt_5068e_15
