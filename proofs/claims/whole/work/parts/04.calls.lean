section ZC
variable {p : Program} {l : Launch} {e : Env} {R : Room} {s : State} {m : MethodId} {args : Array Value} {below : List Frame} {meth : Method} {c : Code} {H : Heap} {locs : List Loc} {cells slots : Nat} {Q : State → Prop}
variable {cc bytes : ByteArray} {pc : Nat} {ls : Array Slot} {rest st0 : List Value} {D : va_G} {T : Nat → ClassId} {X : zFP} {A : Nat → Prop} {ws : va_W} {H0 : Heap}
variable {y : MethodName} {maxL nL n index ci q0 N : Nat} {ret : Option FieldType} {wsc Ts : List Cond} {rm : Room} {own C : String} {F : u_T} {fs : List Value} {b : Nat} {wc wr w1 ws' : va_W} {isC isR pm : List Nat}
theorem zFreeE (hD : va_D A ws) (hS : va_S A H0 H locs) (hA : ∀ q, H0.size ≤ q → A q) : ∀ q, va_A ws H.size q → A q := by
  intro q h
  rcases h with ⟨k, e, h⟩ | h
  · exact hD.2 k (q, e) h
  · exact hA q (Nat.le_trans hS.1 h)
theorem zPcE (hP : va_P D vwCl ws H) (hD : va_D A ws) (hK : va_K D vwCl (zTys T) s) {A0 : Nat → Prop} (hX : zFx X A0 s H0) (hS : va_S A0 H0 H locs) (hF : ∀ q, va_A ws H.size q → A0 q) {av : List Value} : ∀ U : State, U.heap = H → s.WarmedH U.vm → zPre D T X av ws H.size av.toArray U := fun U hU hW => ⟨rfl, by rw [hU], by rw [hU]; exact hP, va_K.moved hW.alike hK, hD.weaken (fun _ _ _ _ => trivial), by rw [hU]; exact ((hX.kept hS.2.1).narrow hF).warm hW⟩
theorem zCallV0I {r : Int32} (As : List Value) (S : CallFix p m c cc nL s args Ts own) (hM : Met l y wsc rm (zPre D T X (.ref b :: As) [] H.size) (zQi D T r [] [] H.size) 0 0 (va_A [] H.size)) (cw : CallW R s args own C index y bytes maxL ret wsc rm 0 0 n) (hK : va_K D vwCl (zTys T) s) (hP : va_P D vwCl ws H) (hD : va_D A ws) (hS : va_S A H0 H locs) (hA : ∀ q, H0.size ≤ q → A q) (hX : zFx X A s H0) (hrv : ∃ cellB : Cell, H[b]? = some cellB ∧ cellB.vm.isStatics = false ∧ s.vm.findClass C = some cellB.cls) (hn : As.length = n) (hsize : ls.size = nL) (hst : st0 = As.reverse ++ .ref b :: rest) (hW : (rest.map fun v => v.category).sum ≤ 8) (hdg : decode cc pc = .ok (.invokevirtual index, 3)) (hf : cells ≤ R.cells ∧ slots ≤ R.slots) (kk : ∀ (H1 : Heap) (locs1 : List Loc), va_P D vwCl ws H1 → va_D A ws → va_S A H0 H1 locs1 → W p l e R s m args below meth c H1 locs1 cells slots Q (F0 m (pc + 3) ls (.int r :: rest))) : W p l e R s m args below meth c H locs cells slots Q (F0 m pc ls st0) := by
  have hPc : va_P D vwCl [] H := fun k q h => by cases h
  have hDc : va_D A [] := ⟨fun i j p q h => (by cases h), fun k q h => (by cases h)⟩
  have hFc := zFreeE hDc hS hA
  refine va_calli (va_runV (As := As) (rest := rest) S hM cw ⟨zBlind, hrv, zPcE hPc hDc hK hX hS hFc⟩ rfl hn hsize hst (lv_room hW) hdg hf) hS (fun q _ h => hFc q h) hFc (fun r2 u t H1 locs1 ht hvm hw hB hz hk hS1 => ?_)
  obtain ⟨hP1, hK1, hD1⟩ := hB
  rw [ht] at hP1
  cases hw
  exact kk H1 locs1 (hP.kept (fun k x hx => hk x.1 ((hP k x hx).lt) (fun h => h.elim (fun h2 => (by obtain ⟨k2, e2, h2⟩ := h2; cases h2)) (fun h2 => Nat.not_le.mpr ((hP k x hx).lt) h2)))) hD hS1
theorem zCallV0L {r : Int64} (As : List Value) (S : CallFix p m c cc nL s args Ts own) (hM : Met l y wsc rm (zPre D T X (.ref b :: As) [] H.size) (zQl D T r [] [] H.size) 0 0 (va_A [] H.size)) (cw : CallW R s args own C index y bytes maxL ret wsc rm 0 0 n) (hK : va_K D vwCl (zTys T) s) (hP : va_P D vwCl ws H) (hD : va_D A ws) (hS : va_S A H0 H locs) (hA : ∀ q, H0.size ≤ q → A q) (hX : zFx X A s H0) (hrv : ∃ cellB : Cell, H[b]? = some cellB ∧ cellB.vm.isStatics = false ∧ s.vm.findClass C = some cellB.cls) (hn : As.length = n) (hsize : ls.size = nL) (hst : st0 = As.reverse ++ .ref b :: rest) (hW : (rest.map fun v => v.category).sum ≤ 8) (hdg : decode cc pc = .ok (.invokevirtual index, 3)) (hf : cells ≤ R.cells ∧ slots ≤ R.slots) (kk : ∀ (H1 : Heap) (locs1 : List Loc), va_P D vwCl ws H1 → va_D A ws → va_S A H0 H1 locs1 → W p l e R s m args below meth c H1 locs1 cells slots Q (F0 m (pc + 3) ls (.long r :: rest))) : W p l e R s m args below meth c H locs cells slots Q (F0 m pc ls st0) := by
  have hPc : va_P D vwCl [] H := fun k q h => by cases h
  have hDc : va_D A [] := ⟨fun i j p q h => (by cases h), fun k q h => (by cases h)⟩
  have hFc := zFreeE hDc hS hA
  refine va_calll (va_runV (As := As) (rest := rest) S hM cw ⟨zBlind, hrv, zPcE hPc hDc hK hX hS hFc⟩ rfl hn hsize hst (lv_room hW) hdg hf) hS (fun q _ h => hFc q h) hFc (fun r2 u t H1 locs1 ht hvm hw hB hz hk hS1 => ?_)
  obtain ⟨hP1, hK1, hD1⟩ := hB
  rw [ht] at hP1
  cases hw
  exact kk H1 locs1 (hP.kept (fun k x hx => hk x.1 ((hP k x hx).lt) (fun h => h.elim (fun h2 => (by obtain ⟨k2, e2, h2⟩ := h2; cases h2)) (fun h2 => Nat.not_le.mpr ((hP k x hx).lt) h2)))) hD hS1
theorem zCallV0V (As : List Value) (S : CallFix p m c cc nL s args Ts own) (hM : Met l y wsc rm (zPre D T X (.ref b :: As) [] H.size) (zQv D T [] [] H.size) 0 0 (va_A [] H.size)) (cw : CallW R s args own C index y bytes maxL ret wsc rm 0 0 n) (hK : va_K D vwCl (zTys T) s) (hP : va_P D vwCl ws H) (hD : va_D A ws) (hS : va_S A H0 H locs) (hA : ∀ q, H0.size ≤ q → A q) (hX : zFx X A s H0) (hrv : ∃ cellB : Cell, H[b]? = some cellB ∧ cellB.vm.isStatics = false ∧ s.vm.findClass C = some cellB.cls) (hn : As.length = n) (hsize : ls.size = nL) (hst : st0 = As.reverse ++ .ref b :: rest) (hW : (rest.map fun v => v.category).sum ≤ 8) (hdg : decode cc pc = .ok (.invokevirtual index, 3)) (hf : cells ≤ R.cells ∧ slots ≤ R.slots) (kk : ∀ (H1 : Heap) (locs1 : List Loc), va_P D vwCl ws H1 → va_D A ws → va_S A H0 H1 locs1 → W p l e R s m args below meth c H1 locs1 cells slots Q (F0 m (pc + 3) ls (rest))) : W p l e R s m args below meth c H locs cells slots Q (F0 m pc ls st0) := by
  have hPc : va_P D vwCl [] H := fun k q h => by cases h
  have hDc : va_D A [] := ⟨fun i j p q h => (by cases h), fun k q h => (by cases h)⟩
  have hFc := zFreeE hDc hS hA
  refine va_callv (va_runV (As := As) (rest := rest) S hM cw ⟨zBlind, hrv, zPcE hPc hDc hK hX hS hFc⟩ rfl hn hsize hst (lv_room hW) hdg hf) hS (fun q _ h => hFc q h) hFc (fun u t H1 locs1 ht hvm hw hB hz hk hS1 => ?_)
  obtain ⟨hP1, hK1, hD1⟩ := hB
  rw [ht] at hP1
  exact kk H1 locs1 (hP.kept (fun k x hx => hk x.1 ((hP k x hx).lt) (fun h => h.elim (fun h2 => (by obtain ⟨k2, e2, h2⟩ := h2; cases h2)) (fun h2 => Nat.not_le.mpr ((hP k x hx).lt) h2)))) hD hS1
theorem zCallVEI {r : Int32} (As : List Value) (S : CallFix p m c cc nL s args Ts own) (hM : Met l y wsc rm (zPre D T X (.ref b :: As) ws H.size) (zQi D T r w1 ws H.size) 0 0 (va_A ws H.size)) (cw : CallW R s args own C index y bytes maxL ret wsc rm 0 0 n) (hK : va_K D vwCl (zTys T) s) (hP : va_P D vwCl ws H) (hD : va_D A ws) (hS : va_S A H0 H locs) (hA : ∀ q, H0.size ≤ q → A q) (hX : zFx X A s H0) (q0 : Nat) (hrc : ws[q0]? = some (b, .inr (ci, fs))) (hcl : vwCl[ci]? = some (C, F, N)) (hn : As.length = n) (hsize : ls.size = nL) (hst : st0 = As.reverse ++ .ref b :: rest) (hW : (rest.map fun v => v.category).sum ≤ 8) (hdg : decode cc pc = .ok (.invokevirtual index, 3)) (hf : cells ≤ R.cells ∧ slots ≤ R.slots) (kk : ∀ (H1 : Heap) (locs1 : List Loc), va_P D vwCl w1 H1 → va_D A w1 → va_S A H0 H1 locs1 → W p l e R s m args below meth c H1 locs1 cells slots Q (F0 m (pc + 3) ls (.int r :: rest))) : W p l e R s m args below meth c H locs cells slots Q (F0 m pc ls st0) := by
  have hPc := hP
  have hDc := hD
  have hFc := zFreeE hD hS hA
  refine va_calli (va_runV (As := As) (rest := rest) S hM cw ⟨zBlind, va_recv hK hPc hcl hrc, zPcE hPc hDc hK hX hS hFc⟩ rfl hn hsize hst (lv_room hW) hdg hf) hS (fun q _ h => hFc q h) hFc (fun r2 u t H1 locs1 ht hvm hw hB hz hk hS1 => ?_)
  obtain ⟨hP1, hK1, hD1⟩ := hB
  rw [ht] at hP1
  cases hw
  exact kk H1 locs1 hP1 (hD1.weaken (fun _ _ _ h => hFc _ h)) hS1
theorem zCallVEL {r : Int64} (As : List Value) (S : CallFix p m c cc nL s args Ts own) (hM : Met l y wsc rm (zPre D T X (.ref b :: As) ws H.size) (zQl D T r w1 ws H.size) 0 0 (va_A ws H.size)) (cw : CallW R s args own C index y bytes maxL ret wsc rm 0 0 n) (hK : va_K D vwCl (zTys T) s) (hP : va_P D vwCl ws H) (hD : va_D A ws) (hS : va_S A H0 H locs) (hA : ∀ q, H0.size ≤ q → A q) (hX : zFx X A s H0) (q0 : Nat) (hrc : ws[q0]? = some (b, .inr (ci, fs))) (hcl : vwCl[ci]? = some (C, F, N)) (hn : As.length = n) (hsize : ls.size = nL) (hst : st0 = As.reverse ++ .ref b :: rest) (hW : (rest.map fun v => v.category).sum ≤ 8) (hdg : decode cc pc = .ok (.invokevirtual index, 3)) (hf : cells ≤ R.cells ∧ slots ≤ R.slots) (kk : ∀ (H1 : Heap) (locs1 : List Loc), va_P D vwCl w1 H1 → va_D A w1 → va_S A H0 H1 locs1 → W p l e R s m args below meth c H1 locs1 cells slots Q (F0 m (pc + 3) ls (.long r :: rest))) : W p l e R s m args below meth c H locs cells slots Q (F0 m pc ls st0) := by
  have hPc := hP
  have hDc := hD
  have hFc := zFreeE hD hS hA
  refine va_calll (va_runV (As := As) (rest := rest) S hM cw ⟨zBlind, va_recv hK hPc hcl hrc, zPcE hPc hDc hK hX hS hFc⟩ rfl hn hsize hst (lv_room hW) hdg hf) hS (fun q _ h => hFc q h) hFc (fun r2 u t H1 locs1 ht hvm hw hB hz hk hS1 => ?_)
  obtain ⟨hP1, hK1, hD1⟩ := hB
  rw [ht] at hP1
  cases hw
  exact kk H1 locs1 hP1 (hD1.weaken (fun _ _ _ h => hFc _ h)) hS1
theorem zCallVEV (As : List Value) (S : CallFix p m c cc nL s args Ts own) (hM : Met l y wsc rm (zPre D T X (.ref b :: As) ws H.size) (zQv D T w1 ws H.size) 0 0 (va_A ws H.size)) (cw : CallW R s args own C index y bytes maxL ret wsc rm 0 0 n) (hK : va_K D vwCl (zTys T) s) (hP : va_P D vwCl ws H) (hD : va_D A ws) (hS : va_S A H0 H locs) (hA : ∀ q, H0.size ≤ q → A q) (hX : zFx X A s H0) (q0 : Nat) (hrc : ws[q0]? = some (b, .inr (ci, fs))) (hcl : vwCl[ci]? = some (C, F, N)) (hn : As.length = n) (hsize : ls.size = nL) (hst : st0 = As.reverse ++ .ref b :: rest) (hW : (rest.map fun v => v.category).sum ≤ 8) (hdg : decode cc pc = .ok (.invokevirtual index, 3)) (hf : cells ≤ R.cells ∧ slots ≤ R.slots) (kk : ∀ (H1 : Heap) (locs1 : List Loc), va_P D vwCl w1 H1 → va_D A w1 → va_S A H0 H1 locs1 → W p l e R s m args below meth c H1 locs1 cells slots Q (F0 m (pc + 3) ls (rest))) : W p l e R s m args below meth c H locs cells slots Q (F0 m pc ls st0) := by
  have hPc := hP
  have hDc := hD
  have hFc := zFreeE hD hS hA
  refine va_callv (va_runV (As := As) (rest := rest) S hM cw ⟨zBlind, va_recv hK hPc hcl hrc, zPcE hPc hDc hK hX hS hFc⟩ rfl hn hsize hst (lv_room hW) hdg hf) hS (fun q _ h => hFc q h) hFc (fun u t H1 locs1 ht hvm hw hB hz hk hS1 => ?_)
  obtain ⟨hP1, hK1, hD1⟩ := hB
  rw [ht] at hP1
  exact kk H1 locs1 hP1 (hD1.weaken (fun _ _ _ h => hFc _ h)) hS1
theorem zCallVJI {r : Int32} (As : List Value) (S : CallFix p m c cc nL s args Ts own) (hM : Met l y wsc rm (zPre D T X (.ref b :: As) wc H.size) (zQi D T r w1 wc H.size) 0 0 (va_A wc H.size)) (cw : CallW R s args own C index y bytes maxL ret wsc rm 0 0 n) (hK : va_K D vwCl (zTys T) s) (hP : va_P D vwCl ws H) (hD : va_D A ws) (hS : va_S A H0 H locs) (hA : ∀ q, H0.size ≤ q → A q) (hX : zFx X A s H0) (isC isR pm : List Nat) (hC : isC.map (fun i => ws[i]?) = wc.map some) (hR : isR.map (fun i => ws[i]?) = wr.map some) (hpm : pm.map (fun i => (wr ++ w1)[i]?) = ws'.map some) (hns : (va_nd isC && va_nd isR && va_nd pm && isR.all (fun i => !isC.contains i)) = true) (q0 : Nat) (hrc : wc[q0]? = some (b, .inr (ci, fs))) (hcl : vwCl[ci]? = some (C, F, N)) (hn : As.length = n) (hsize : ls.size = nL) (hst : st0 = As.reverse ++ .ref b :: rest) (hW : (rest.map fun v => v.category).sum ≤ 8) (hdg : decode cc pc = .ok (.invokevirtual index, 3)) (hf : cells ≤ R.cells ∧ slots ≤ R.slots) (kk : ∀ (H1 : Heap) (locs1 : List Loc), va_P D vwCl ws' H1 → va_D A ws' → va_S A H0 H1 locs1 → W p l e R s m args below meth c H1 locs1 cells slots Q (F0 m (pc + 3) ls (.int r :: rest))) : W p l e R s m args below meth c H locs cells slots Q (F0 m pc ls st0) := by
  have hq := hns
  rw [Bool.and_eq_true, Bool.and_eq_true, Bool.and_eq_true] at hq
  obtain ⟨⟨⟨hnC, hnR⟩, hnP⟩, hdis⟩ := hq
  have hPc := hP.sub isC (zFm hC)
  have hDc := hD.sub isC hnC hC
  have hFc := va_free hD hS hA isC hC
  refine va_calli (va_runV (As := As) (rest := rest) S hM cw ⟨zBlind, va_recv hK hPc hcl hrc, zPcE hPc hDc hK hX hS hFc⟩ rfl hn hsize hst (lv_room hW) hdg hf) hS (fun q _ h => hFc q h) hFc (fun r2 u t H1 locs1 ht hvm hw hB hz hk hS1 => ?_)
  obtain ⟨hP1, hK1, hD1⟩ := hB
  rw [ht] at hP1
  cases hw
  obtain ⟨g1, g2⟩ := zJoin hP hD isC isR pm hC hR hnR (fun i hi hc => by have h9 := List.all_eq_true.mp hdis i hi; simp [hc] at h9) hpm hnP hk hFc hP1 hD1
  exact kk H1 locs1 g1 g2 hS1
theorem zCallVJL {r : Int64} (As : List Value) (S : CallFix p m c cc nL s args Ts own) (hM : Met l y wsc rm (zPre D T X (.ref b :: As) wc H.size) (zQl D T r w1 wc H.size) 0 0 (va_A wc H.size)) (cw : CallW R s args own C index y bytes maxL ret wsc rm 0 0 n) (hK : va_K D vwCl (zTys T) s) (hP : va_P D vwCl ws H) (hD : va_D A ws) (hS : va_S A H0 H locs) (hA : ∀ q, H0.size ≤ q → A q) (hX : zFx X A s H0) (isC isR pm : List Nat) (hC : isC.map (fun i => ws[i]?) = wc.map some) (hR : isR.map (fun i => ws[i]?) = wr.map some) (hpm : pm.map (fun i => (wr ++ w1)[i]?) = ws'.map some) (hns : (va_nd isC && va_nd isR && va_nd pm && isR.all (fun i => !isC.contains i)) = true) (q0 : Nat) (hrc : wc[q0]? = some (b, .inr (ci, fs))) (hcl : vwCl[ci]? = some (C, F, N)) (hn : As.length = n) (hsize : ls.size = nL) (hst : st0 = As.reverse ++ .ref b :: rest) (hW : (rest.map fun v => v.category).sum ≤ 8) (hdg : decode cc pc = .ok (.invokevirtual index, 3)) (hf : cells ≤ R.cells ∧ slots ≤ R.slots) (kk : ∀ (H1 : Heap) (locs1 : List Loc), va_P D vwCl ws' H1 → va_D A ws' → va_S A H0 H1 locs1 → W p l e R s m args below meth c H1 locs1 cells slots Q (F0 m (pc + 3) ls (.long r :: rest))) : W p l e R s m args below meth c H locs cells slots Q (F0 m pc ls st0) := by
  have hq := hns
  rw [Bool.and_eq_true, Bool.and_eq_true, Bool.and_eq_true] at hq
  obtain ⟨⟨⟨hnC, hnR⟩, hnP⟩, hdis⟩ := hq
  have hPc := hP.sub isC (zFm hC)
  have hDc := hD.sub isC hnC hC
  have hFc := va_free hD hS hA isC hC
  refine va_calll (va_runV (As := As) (rest := rest) S hM cw ⟨zBlind, va_recv hK hPc hcl hrc, zPcE hPc hDc hK hX hS hFc⟩ rfl hn hsize hst (lv_room hW) hdg hf) hS (fun q _ h => hFc q h) hFc (fun r2 u t H1 locs1 ht hvm hw hB hz hk hS1 => ?_)
  obtain ⟨hP1, hK1, hD1⟩ := hB
  rw [ht] at hP1
  cases hw
  obtain ⟨g1, g2⟩ := zJoin hP hD isC isR pm hC hR hnR (fun i hi hc => by have h9 := List.all_eq_true.mp hdis i hi; simp [hc] at h9) hpm hnP hk hFc hP1 hD1
  exact kk H1 locs1 g1 g2 hS1
theorem zCallVJV (As : List Value) (S : CallFix p m c cc nL s args Ts own) (hM : Met l y wsc rm (zPre D T X (.ref b :: As) wc H.size) (zQv D T w1 wc H.size) 0 0 (va_A wc H.size)) (cw : CallW R s args own C index y bytes maxL ret wsc rm 0 0 n) (hK : va_K D vwCl (zTys T) s) (hP : va_P D vwCl ws H) (hD : va_D A ws) (hS : va_S A H0 H locs) (hA : ∀ q, H0.size ≤ q → A q) (hX : zFx X A s H0) (isC isR pm : List Nat) (hC : isC.map (fun i => ws[i]?) = wc.map some) (hR : isR.map (fun i => ws[i]?) = wr.map some) (hpm : pm.map (fun i => (wr ++ w1)[i]?) = ws'.map some) (hns : (va_nd isC && va_nd isR && va_nd pm && isR.all (fun i => !isC.contains i)) = true) (q0 : Nat) (hrc : wc[q0]? = some (b, .inr (ci, fs))) (hcl : vwCl[ci]? = some (C, F, N)) (hn : As.length = n) (hsize : ls.size = nL) (hst : st0 = As.reverse ++ .ref b :: rest) (hW : (rest.map fun v => v.category).sum ≤ 8) (hdg : decode cc pc = .ok (.invokevirtual index, 3)) (hf : cells ≤ R.cells ∧ slots ≤ R.slots) (kk : ∀ (H1 : Heap) (locs1 : List Loc), va_P D vwCl ws' H1 → va_D A ws' → va_S A H0 H1 locs1 → W p l e R s m args below meth c H1 locs1 cells slots Q (F0 m (pc + 3) ls (rest))) : W p l e R s m args below meth c H locs cells slots Q (F0 m pc ls st0) := by
  have hq := hns
  rw [Bool.and_eq_true, Bool.and_eq_true, Bool.and_eq_true] at hq
  obtain ⟨⟨⟨hnC, hnR⟩, hnP⟩, hdis⟩ := hq
  have hPc := hP.sub isC (zFm hC)
  have hDc := hD.sub isC hnC hC
  have hFc := va_free hD hS hA isC hC
  refine va_callv (va_runV (As := As) (rest := rest) S hM cw ⟨zBlind, va_recv hK hPc hcl hrc, zPcE hPc hDc hK hX hS hFc⟩ rfl hn hsize hst (lv_room hW) hdg hf) hS (fun q _ h => hFc q h) hFc (fun u t H1 locs1 ht hvm hw hB hz hk hS1 => ?_)
  obtain ⟨hP1, hK1, hD1⟩ := hB
  rw [ht] at hP1
  obtain ⟨g1, g2⟩ := zJoin hP hD isC isR pm hC hR hnR (fun i hi hc => by have h9 := List.all_eq_true.mp hdis i hi; simp [hc] at h9) hpm hnP hk hFc hP1 hD1
  exact kk H1 locs1 g1 g2 hS1
theorem zCallS0I {r : Int32} (As : List Value) (S : CallFix p m c cc nL s args Ts own) (hM : Met l y wsc rm (zPre D T X As [] H.size) (zQi D T r [] [] H.size) 0 0 (va_A [] H.size)) (cw : CallB R s args own index y bytes maxL ret wsc rm 0 0 n ∧ (Cond.static y).before args s = true) (hK : va_K D vwCl (zTys T) s) (hP : va_P D vwCl ws H) (hD : va_D A ws) (hS : va_S A H0 H locs) (hA : ∀ q, H0.size ≤ q → A q) (hX : zFx X A s H0) (hn : As.length = n) (hsize : ls.size = nL) (hst : st0 = As.reverse ++ rest) (hW : (rest.map fun v => v.category).sum ≤ 8) (hdg : decode cc pc = .ok (.invokestatic index, 3)) (hf : cells ≤ R.cells ∧ slots ≤ R.slots) (kk : ∀ (H1 : Heap) (locs1 : List Loc), va_P D vwCl ws H1 → va_D A ws → va_S A H0 H1 locs1 → W p l e R s m args below meth c H1 locs1 cells slots Q (F0 m (pc + 3) ls (.int r :: rest))) : W p l e R s m args below meth c H locs cells slots Q (F0 m pc ls st0) := by
  have hPc : va_P D vwCl [] H := fun k q h => by cases h
  have hDc : va_D A [] := ⟨fun i j p q h => (by cases h), fun k q h => (by cases h)⟩
  have hFc := zFreeE hDc hS hA
  refine va_calli (va_runS (As := As) (rest := rest) S hM cw ⟨zBlind, zPcE hPc hDc hK hX hS hFc⟩ rfl hn hsize hst (lv_room hW) hdg hf) hS (fun q _ h => hFc q h) hFc (fun r2 u t H1 locs1 ht hvm hw hB hz hk hS1 => ?_)
  obtain ⟨hP1, hK1, hD1⟩ := hB
  rw [ht] at hP1
  cases hw
  exact kk H1 locs1 (hP.kept (fun k x hx => hk x.1 ((hP k x hx).lt) (fun h => h.elim (fun h2 => (by obtain ⟨k2, e2, h2⟩ := h2; cases h2)) (fun h2 => Nat.not_le.mpr ((hP k x hx).lt) h2)))) hD hS1
theorem zCallS0L {r : Int64} (As : List Value) (S : CallFix p m c cc nL s args Ts own) (hM : Met l y wsc rm (zPre D T X As [] H.size) (zQl D T r [] [] H.size) 0 0 (va_A [] H.size)) (cw : CallB R s args own index y bytes maxL ret wsc rm 0 0 n ∧ (Cond.static y).before args s = true) (hK : va_K D vwCl (zTys T) s) (hP : va_P D vwCl ws H) (hD : va_D A ws) (hS : va_S A H0 H locs) (hA : ∀ q, H0.size ≤ q → A q) (hX : zFx X A s H0) (hn : As.length = n) (hsize : ls.size = nL) (hst : st0 = As.reverse ++ rest) (hW : (rest.map fun v => v.category).sum ≤ 8) (hdg : decode cc pc = .ok (.invokestatic index, 3)) (hf : cells ≤ R.cells ∧ slots ≤ R.slots) (kk : ∀ (H1 : Heap) (locs1 : List Loc), va_P D vwCl ws H1 → va_D A ws → va_S A H0 H1 locs1 → W p l e R s m args below meth c H1 locs1 cells slots Q (F0 m (pc + 3) ls (.long r :: rest))) : W p l e R s m args below meth c H locs cells slots Q (F0 m pc ls st0) := by
  have hPc : va_P D vwCl [] H := fun k q h => by cases h
  have hDc : va_D A [] := ⟨fun i j p q h => (by cases h), fun k q h => (by cases h)⟩
  have hFc := zFreeE hDc hS hA
  refine va_calll (va_runS (As := As) (rest := rest) S hM cw ⟨zBlind, zPcE hPc hDc hK hX hS hFc⟩ rfl hn hsize hst (lv_room hW) hdg hf) hS (fun q _ h => hFc q h) hFc (fun r2 u t H1 locs1 ht hvm hw hB hz hk hS1 => ?_)
  obtain ⟨hP1, hK1, hD1⟩ := hB
  rw [ht] at hP1
  cases hw
  exact kk H1 locs1 (hP.kept (fun k x hx => hk x.1 ((hP k x hx).lt) (fun h => h.elim (fun h2 => (by obtain ⟨k2, e2, h2⟩ := h2; cases h2)) (fun h2 => Nat.not_le.mpr ((hP k x hx).lt) h2)))) hD hS1
theorem zCallS0V (As : List Value) (S : CallFix p m c cc nL s args Ts own) (hM : Met l y wsc rm (zPre D T X As [] H.size) (zQv D T [] [] H.size) 0 0 (va_A [] H.size)) (cw : CallB R s args own index y bytes maxL ret wsc rm 0 0 n ∧ (Cond.static y).before args s = true) (hK : va_K D vwCl (zTys T) s) (hP : va_P D vwCl ws H) (hD : va_D A ws) (hS : va_S A H0 H locs) (hA : ∀ q, H0.size ≤ q → A q) (hX : zFx X A s H0) (hn : As.length = n) (hsize : ls.size = nL) (hst : st0 = As.reverse ++ rest) (hW : (rest.map fun v => v.category).sum ≤ 8) (hdg : decode cc pc = .ok (.invokestatic index, 3)) (hf : cells ≤ R.cells ∧ slots ≤ R.slots) (kk : ∀ (H1 : Heap) (locs1 : List Loc), va_P D vwCl ws H1 → va_D A ws → va_S A H0 H1 locs1 → W p l e R s m args below meth c H1 locs1 cells slots Q (F0 m (pc + 3) ls (rest))) : W p l e R s m args below meth c H locs cells slots Q (F0 m pc ls st0) := by
  have hPc : va_P D vwCl [] H := fun k q h => by cases h
  have hDc : va_D A [] := ⟨fun i j p q h => (by cases h), fun k q h => (by cases h)⟩
  have hFc := zFreeE hDc hS hA
  refine va_callv (va_runS (As := As) (rest := rest) S hM cw ⟨zBlind, zPcE hPc hDc hK hX hS hFc⟩ rfl hn hsize hst (lv_room hW) hdg hf) hS (fun q _ h => hFc q h) hFc (fun u t H1 locs1 ht hvm hw hB hz hk hS1 => ?_)
  obtain ⟨hP1, hK1, hD1⟩ := hB
  rw [ht] at hP1
  exact kk H1 locs1 (hP.kept (fun k x hx => hk x.1 ((hP k x hx).lt) (fun h => h.elim (fun h2 => (by obtain ⟨k2, e2, h2⟩ := h2; cases h2)) (fun h2 => Nat.not_le.mpr ((hP k x hx).lt) h2)))) hD hS1
theorem zCallSEI {r : Int32} (As : List Value) (S : CallFix p m c cc nL s args Ts own) (hM : Met l y wsc rm (zPre D T X As ws H.size) (zQi D T r w1 ws H.size) 0 0 (va_A ws H.size)) (cw : CallB R s args own index y bytes maxL ret wsc rm 0 0 n ∧ (Cond.static y).before args s = true) (hK : va_K D vwCl (zTys T) s) (hP : va_P D vwCl ws H) (hD : va_D A ws) (hS : va_S A H0 H locs) (hA : ∀ q, H0.size ≤ q → A q) (hX : zFx X A s H0) (hn : As.length = n) (hsize : ls.size = nL) (hst : st0 = As.reverse ++ rest) (hW : (rest.map fun v => v.category).sum ≤ 8) (hdg : decode cc pc = .ok (.invokestatic index, 3)) (hf : cells ≤ R.cells ∧ slots ≤ R.slots) (kk : ∀ (H1 : Heap) (locs1 : List Loc), va_P D vwCl w1 H1 → va_D A w1 → va_S A H0 H1 locs1 → W p l e R s m args below meth c H1 locs1 cells slots Q (F0 m (pc + 3) ls (.int r :: rest))) : W p l e R s m args below meth c H locs cells slots Q (F0 m pc ls st0) := by
  have hPc := hP
  have hDc := hD
  have hFc := zFreeE hD hS hA
  refine va_calli (va_runS (As := As) (rest := rest) S hM cw ⟨zBlind, zPcE hPc hDc hK hX hS hFc⟩ rfl hn hsize hst (lv_room hW) hdg hf) hS (fun q _ h => hFc q h) hFc (fun r2 u t H1 locs1 ht hvm hw hB hz hk hS1 => ?_)
  obtain ⟨hP1, hK1, hD1⟩ := hB
  rw [ht] at hP1
  cases hw
  exact kk H1 locs1 hP1 (hD1.weaken (fun _ _ _ h => hFc _ h)) hS1
theorem zCallSEL {r : Int64} (As : List Value) (S : CallFix p m c cc nL s args Ts own) (hM : Met l y wsc rm (zPre D T X As ws H.size) (zQl D T r w1 ws H.size) 0 0 (va_A ws H.size)) (cw : CallB R s args own index y bytes maxL ret wsc rm 0 0 n ∧ (Cond.static y).before args s = true) (hK : va_K D vwCl (zTys T) s) (hP : va_P D vwCl ws H) (hD : va_D A ws) (hS : va_S A H0 H locs) (hA : ∀ q, H0.size ≤ q → A q) (hX : zFx X A s H0) (hn : As.length = n) (hsize : ls.size = nL) (hst : st0 = As.reverse ++ rest) (hW : (rest.map fun v => v.category).sum ≤ 8) (hdg : decode cc pc = .ok (.invokestatic index, 3)) (hf : cells ≤ R.cells ∧ slots ≤ R.slots) (kk : ∀ (H1 : Heap) (locs1 : List Loc), va_P D vwCl w1 H1 → va_D A w1 → va_S A H0 H1 locs1 → W p l e R s m args below meth c H1 locs1 cells slots Q (F0 m (pc + 3) ls (.long r :: rest))) : W p l e R s m args below meth c H locs cells slots Q (F0 m pc ls st0) := by
  have hPc := hP
  have hDc := hD
  have hFc := zFreeE hD hS hA
  refine va_calll (va_runS (As := As) (rest := rest) S hM cw ⟨zBlind, zPcE hPc hDc hK hX hS hFc⟩ rfl hn hsize hst (lv_room hW) hdg hf) hS (fun q _ h => hFc q h) hFc (fun r2 u t H1 locs1 ht hvm hw hB hz hk hS1 => ?_)
  obtain ⟨hP1, hK1, hD1⟩ := hB
  rw [ht] at hP1
  cases hw
  exact kk H1 locs1 hP1 (hD1.weaken (fun _ _ _ h => hFc _ h)) hS1
theorem zCallSEV (As : List Value) (S : CallFix p m c cc nL s args Ts own) (hM : Met l y wsc rm (zPre D T X As ws H.size) (zQv D T w1 ws H.size) 0 0 (va_A ws H.size)) (cw : CallB R s args own index y bytes maxL ret wsc rm 0 0 n ∧ (Cond.static y).before args s = true) (hK : va_K D vwCl (zTys T) s) (hP : va_P D vwCl ws H) (hD : va_D A ws) (hS : va_S A H0 H locs) (hA : ∀ q, H0.size ≤ q → A q) (hX : zFx X A s H0) (hn : As.length = n) (hsize : ls.size = nL) (hst : st0 = As.reverse ++ rest) (hW : (rest.map fun v => v.category).sum ≤ 8) (hdg : decode cc pc = .ok (.invokestatic index, 3)) (hf : cells ≤ R.cells ∧ slots ≤ R.slots) (kk : ∀ (H1 : Heap) (locs1 : List Loc), va_P D vwCl w1 H1 → va_D A w1 → va_S A H0 H1 locs1 → W p l e R s m args below meth c H1 locs1 cells slots Q (F0 m (pc + 3) ls (rest))) : W p l e R s m args below meth c H locs cells slots Q (F0 m pc ls st0) := by
  have hPc := hP
  have hDc := hD
  have hFc := zFreeE hD hS hA
  refine va_callv (va_runS (As := As) (rest := rest) S hM cw ⟨zBlind, zPcE hPc hDc hK hX hS hFc⟩ rfl hn hsize hst (lv_room hW) hdg hf) hS (fun q _ h => hFc q h) hFc (fun u t H1 locs1 ht hvm hw hB hz hk hS1 => ?_)
  obtain ⟨hP1, hK1, hD1⟩ := hB
  rw [ht] at hP1
  exact kk H1 locs1 hP1 (hD1.weaken (fun _ _ _ h => hFc _ h)) hS1
theorem zCallSJI {r : Int32} (As : List Value) (S : CallFix p m c cc nL s args Ts own) (hM : Met l y wsc rm (zPre D T X As wc H.size) (zQi D T r w1 wc H.size) 0 0 (va_A wc H.size)) (cw : CallB R s args own index y bytes maxL ret wsc rm 0 0 n ∧ (Cond.static y).before args s = true) (hK : va_K D vwCl (zTys T) s) (hP : va_P D vwCl ws H) (hD : va_D A ws) (hS : va_S A H0 H locs) (hA : ∀ q, H0.size ≤ q → A q) (hX : zFx X A s H0) (isC isR pm : List Nat) (hC : isC.map (fun i => ws[i]?) = wc.map some) (hR : isR.map (fun i => ws[i]?) = wr.map some) (hpm : pm.map (fun i => (wr ++ w1)[i]?) = ws'.map some) (hns : (va_nd isC && va_nd isR && va_nd pm && isR.all (fun i => !isC.contains i)) = true) (hn : As.length = n) (hsize : ls.size = nL) (hst : st0 = As.reverse ++ rest) (hW : (rest.map fun v => v.category).sum ≤ 8) (hdg : decode cc pc = .ok (.invokestatic index, 3)) (hf : cells ≤ R.cells ∧ slots ≤ R.slots) (kk : ∀ (H1 : Heap) (locs1 : List Loc), va_P D vwCl ws' H1 → va_D A ws' → va_S A H0 H1 locs1 → W p l e R s m args below meth c H1 locs1 cells slots Q (F0 m (pc + 3) ls (.int r :: rest))) : W p l e R s m args below meth c H locs cells slots Q (F0 m pc ls st0) := by
  have hq := hns
  rw [Bool.and_eq_true, Bool.and_eq_true, Bool.and_eq_true] at hq
  obtain ⟨⟨⟨hnC, hnR⟩, hnP⟩, hdis⟩ := hq
  have hPc := hP.sub isC (zFm hC)
  have hDc := hD.sub isC hnC hC
  have hFc := va_free hD hS hA isC hC
  refine va_calli (va_runS (As := As) (rest := rest) S hM cw ⟨zBlind, zPcE hPc hDc hK hX hS hFc⟩ rfl hn hsize hst (lv_room hW) hdg hf) hS (fun q _ h => hFc q h) hFc (fun r2 u t H1 locs1 ht hvm hw hB hz hk hS1 => ?_)
  obtain ⟨hP1, hK1, hD1⟩ := hB
  rw [ht] at hP1
  cases hw
  obtain ⟨g1, g2⟩ := zJoin hP hD isC isR pm hC hR hnR (fun i hi hc => by have h9 := List.all_eq_true.mp hdis i hi; simp [hc] at h9) hpm hnP hk hFc hP1 hD1
  exact kk H1 locs1 g1 g2 hS1
theorem zCallSJL {r : Int64} (As : List Value) (S : CallFix p m c cc nL s args Ts own) (hM : Met l y wsc rm (zPre D T X As wc H.size) (zQl D T r w1 wc H.size) 0 0 (va_A wc H.size)) (cw : CallB R s args own index y bytes maxL ret wsc rm 0 0 n ∧ (Cond.static y).before args s = true) (hK : va_K D vwCl (zTys T) s) (hP : va_P D vwCl ws H) (hD : va_D A ws) (hS : va_S A H0 H locs) (hA : ∀ q, H0.size ≤ q → A q) (hX : zFx X A s H0) (isC isR pm : List Nat) (hC : isC.map (fun i => ws[i]?) = wc.map some) (hR : isR.map (fun i => ws[i]?) = wr.map some) (hpm : pm.map (fun i => (wr ++ w1)[i]?) = ws'.map some) (hns : (va_nd isC && va_nd isR && va_nd pm && isR.all (fun i => !isC.contains i)) = true) (hn : As.length = n) (hsize : ls.size = nL) (hst : st0 = As.reverse ++ rest) (hW : (rest.map fun v => v.category).sum ≤ 8) (hdg : decode cc pc = .ok (.invokestatic index, 3)) (hf : cells ≤ R.cells ∧ slots ≤ R.slots) (kk : ∀ (H1 : Heap) (locs1 : List Loc), va_P D vwCl ws' H1 → va_D A ws' → va_S A H0 H1 locs1 → W p l e R s m args below meth c H1 locs1 cells slots Q (F0 m (pc + 3) ls (.long r :: rest))) : W p l e R s m args below meth c H locs cells slots Q (F0 m pc ls st0) := by
  have hq := hns
  rw [Bool.and_eq_true, Bool.and_eq_true, Bool.and_eq_true] at hq
  obtain ⟨⟨⟨hnC, hnR⟩, hnP⟩, hdis⟩ := hq
  have hPc := hP.sub isC (zFm hC)
  have hDc := hD.sub isC hnC hC
  have hFc := va_free hD hS hA isC hC
  refine va_calll (va_runS (As := As) (rest := rest) S hM cw ⟨zBlind, zPcE hPc hDc hK hX hS hFc⟩ rfl hn hsize hst (lv_room hW) hdg hf) hS (fun q _ h => hFc q h) hFc (fun r2 u t H1 locs1 ht hvm hw hB hz hk hS1 => ?_)
  obtain ⟨hP1, hK1, hD1⟩ := hB
  rw [ht] at hP1
  cases hw
  obtain ⟨g1, g2⟩ := zJoin hP hD isC isR pm hC hR hnR (fun i hi hc => by have h9 := List.all_eq_true.mp hdis i hi; simp [hc] at h9) hpm hnP hk hFc hP1 hD1
  exact kk H1 locs1 g1 g2 hS1
theorem zCallSJV (As : List Value) (S : CallFix p m c cc nL s args Ts own) (hM : Met l y wsc rm (zPre D T X As wc H.size) (zQv D T w1 wc H.size) 0 0 (va_A wc H.size)) (cw : CallB R s args own index y bytes maxL ret wsc rm 0 0 n ∧ (Cond.static y).before args s = true) (hK : va_K D vwCl (zTys T) s) (hP : va_P D vwCl ws H) (hD : va_D A ws) (hS : va_S A H0 H locs) (hA : ∀ q, H0.size ≤ q → A q) (hX : zFx X A s H0) (isC isR pm : List Nat) (hC : isC.map (fun i => ws[i]?) = wc.map some) (hR : isR.map (fun i => ws[i]?) = wr.map some) (hpm : pm.map (fun i => (wr ++ w1)[i]?) = ws'.map some) (hns : (va_nd isC && va_nd isR && va_nd pm && isR.all (fun i => !isC.contains i)) = true) (hn : As.length = n) (hsize : ls.size = nL) (hst : st0 = As.reverse ++ rest) (hW : (rest.map fun v => v.category).sum ≤ 8) (hdg : decode cc pc = .ok (.invokestatic index, 3)) (hf : cells ≤ R.cells ∧ slots ≤ R.slots) (kk : ∀ (H1 : Heap) (locs1 : List Loc), va_P D vwCl ws' H1 → va_D A ws' → va_S A H0 H1 locs1 → W p l e R s m args below meth c H1 locs1 cells slots Q (F0 m (pc + 3) ls (rest))) : W p l e R s m args below meth c H locs cells slots Q (F0 m pc ls st0) := by
  have hq := hns
  rw [Bool.and_eq_true, Bool.and_eq_true, Bool.and_eq_true] at hq
  obtain ⟨⟨⟨hnC, hnR⟩, hnP⟩, hdis⟩ := hq
  have hPc := hP.sub isC (zFm hC)
  have hDc := hD.sub isC hnC hC
  have hFc := va_free hD hS hA isC hC
  refine va_callv (va_runS (As := As) (rest := rest) S hM cw ⟨zBlind, zPcE hPc hDc hK hX hS hFc⟩ rfl hn hsize hst (lv_room hW) hdg hf) hS (fun q _ h => hFc q h) hFc (fun u t H1 locs1 ht hvm hw hB hz hk hS1 => ?_)
  obtain ⟨hP1, hK1, hD1⟩ := hB
  rw [ht] at hP1
  obtain ⟨g1, g2⟩ := zJoin hP hD isC isR pm hC hR hnR (fun i hi hc => by have h9 := List.all_eq_true.mp hdis i hi; simp [hc] at h9) hpm hnP hk hFc hP1 hD1
  exact kk H1 locs1 g1 g2 hS1
theorem zCallFill {N : Nat} {f : Nat → Int32} {x : Int32} {t : zM} {a : Nat} (S : CallFix p m c cc nL s args Ts own) (hM : Met l y wsc rm (zPre D T X [.ref a, .int x] (wFA T (fun _ => a) N (fun _ => f)) H.size) (zQv D T (wFA T (fun _ => a) N t) (wFA T (fun _ => a) N (fun _ => f)) H.size) 0 0 (va_A (wFA T (fun _ => a) N (fun _ => f)) H.size)) (cw : CallB R s args own index y bytes maxL ret wsc rm 0 0 2 ∧ (Cond.static y).before args s = true) (hK : va_K D vwCl (zTys T) s) (hP : va_P D vwCl ws H) (hD : va_D A ws) (hS : va_S A H0 H locs) (hA : ∀ q, H0.size ≤ q → A q) (hX : zFx X A s H0) (Wf : zM → va_W) {w : zM} (q0 k : Nat) (ha : ws[q0]? = some (a, .inl (T 0, N, .inl f))) (hnew : ws.set q0 (a, .inl (T 0, N, .inl (t 0))) = Wf (zPr w k (t 0)))
    (hsize : ls.size = nL) (hW : (rest.map fun v => v.category).sum ≤ 8) (hdg : decode cc pc = .ok (.invokestatic index, 3)) (hf : cells ≤ R.cells ∧ slots ≤ R.slots) (kk : ∀ w1 : zM, w1 = zPr w k (t 0) → ∀ (H1 : Heap) (locs1 : List Loc), va_P D vwCl (Wf w1) H1 → va_D A (Wf w1) → va_S A H0 H1 locs1 → W p l e R s m args below meth c H1 locs1 cells slots Q (F0 m (pc + 3) ls rest)) : W p l e R s m args below meth c H locs cells slots Q (F0 m pc ls (.int x :: .ref a :: rest)) := by
  have hC : ([q0].map (fun i => ws[i]?)) = (wFA T (fun _ => a) N (fun _ => f)).map some := by rw [List.map_cons, ha]; rfl
  have hPc := hP.sub [q0] (zFm hC)
  have hDc := hD.sub [q0] rfl hC
  have hFc := va_free hD hS hA [q0] hC
  refine va_callv (va_runS (As := [.ref a, .int x]) (rest := rest) S hM cw ⟨zBlind, zPcE hPc hDc hK hX hS hFc⟩ rfl rfl hsize rfl (lv_room hW) hdg hf) hS (fun q _ h => hFc q h) hFc (fun u t H1 locs1 ht hvm hw hB hz hk hS1 => ?_)
  obtain ⟨hP1, hK1, hD1⟩ := hB
  rw [ht] at hP1
  refine kk _ rfl H1 locs1 ?_ ?_ hS1
  · rw [← hnew]
    have hl := (List.getElem?_eq_some_iff.mp ha).1
    intro k2 q hk2
    by_cases hkp : k2 = q0
    · subst hkp
      rw [List.getElem?_set_self hl] at hk2
      cases hk2
      exact hP1 0 _ rfl
    · rw [List.getElem?_set_ne (Ne.symm hkp)] at hk2
      refine (hP k2 q hk2).kept (hk q.1 ((hP k2 q hk2).lt) (fun h => ?_))
      rcases h with ⟨j, e2, h2⟩ | h2
      · have hj : j = 0 := by
          have := (List.getElem?_eq_some_iff.mp h2).1
          simp [wFA] at this
          omega
        subst hj
        cases h2
        exact hkp (hD.1 k2 q0 q _ hk2 ha rfl)
      · exact Nat.not_le.mpr ((hP k2 q hk2).lt) h2
  · rw [← hnew]
    exact hD.set ha
end ZC
