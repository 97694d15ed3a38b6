/-! ===== makers: new arrays of the known array types, a constructor's start and end ===== -/
theorem zTc {D : va_G} {T : Nat → ClassId} {s : State} (hK : va_K D vwCl (zTys T) s) (k : Nat) {ty : FieldType} {cA : ClassId} (h : (zTys T)[k]? = some (T k, ty)) (hr : va_RA s cA ty) (hob : ∀ C, ty ≠ .object C) : cA = T k := by
  have h1 := (hK.2 k _ h).2
  cases ty with
  | object C => exact absurd rfl (hob C)
  | _ => exact Option.some.inj (Eq.trans (Eq.symm hr) h1)
section ZN
variable {p : Program} {l : Launch} {e : Env} {R : Room} {s : State} {m : MethodId} {args : Array Value} {below : List Frame} {meth : Method} {c : Code} {H : Heap} {locs : List Loc} {cells slots : Nat} {Q : State → Prop}
variable {cc : ByteArray} {pc : Nat} {ls : Array Slot} {rest : List Value} {D : va_G} {T : Nat → ClassId} {A : Nat → Prop} {a : Nat} {ws : va_W} {H0 : Heap}
theorem zNewI {Ts : List Cond} (hx : p.tables.exec = Jvm.exec) (hb : c.code = cc) (hts : ∀ w ∈ Ts, w.before args s = true) (i : Nat) (hi : Ts[i]? = some (.arrayClass .int)) (hK : va_K D vwCl (zTys T) s) (hP : va_P D vwCl ws H) (hD : va_D A ws) (hS : va_S A H0 H locs) (hA : ∀ q, H0.size ≤ q → A q) (N : Nat) {n : Int32} (hn : ¬ n < 0) (hN : n.toNatClampNeg = N) (hb2 : N * componentBytes .int ≤ 536870912) (hcells : cells + 1 ≤ R.cells) (hslots : slots + N ≤ R.slots) (hdg : decode cc pc = .ok (.newarray .int, 2))
    (kk : ∀ (q : Nat) (H1 : Heap), va_P D vwCl (ws ++ [(q, .inl (T 0, N, .inl (fun _ => 0)))]) H1 → va_D A (ws ++ [(q, .inl (T 0, N, .inl (fun _ => 0)))]) → va_S A H0 H1 locs → W p l e R s m args below meth c H1 locs (cells + 1) (slots + N) Q (F0 m (pc + 2) ls (.ref q :: rest))) : W p l e R s m args below meth c H locs cells slots Q (F0 m pc ls (.int n :: rest)) := by
  refine va_newa (atype := .int) (ty := .int) (a0 := (N, .inl (fun _ => 0))) hx hb (hts _ (List.mem_of_getElem? hi)) rfl hK hP hD hS hA (fun cA => rfl) hn hN hb2 hcells hslots hdg (fun q cA H1 hK1 hP1 hD1 hS1 => ?_)
  have hc : cA = T 0 := zTc hK 0 rfl (hK1.2 5 _ rfl).2 (fun C h => by cases h)
  subst hc
  exact kk q H1 hP1 hD1 hS1
theorem zNewZ {Ts : List Cond} (hx : p.tables.exec = Jvm.exec) (hb : c.code = cc) (hts : ∀ w ∈ Ts, w.before args s = true) (i : Nat) (hi : Ts[i]? = some (.arrayClass .boolean)) (hK : va_K D vwCl (zTys T) s) (hP : va_P D vwCl ws H) (hD : va_D A ws) (hS : va_S A H0 H locs) (hA : ∀ q, H0.size ≤ q → A q) (N : Nat) {n : Int32} (hn : ¬ n < 0) (hN : n.toNatClampNeg = N) (hb2 : N * componentBytes .boolean ≤ 536870912) (hcells : cells + 1 ≤ R.cells) (hslots : slots + N ≤ R.slots) (hdg : decode cc pc = .ok (.newarray .boolean, 2))
    (kk : ∀ (q : Nat) (H1 : Heap), va_P D vwCl (ws ++ [(q, .inl (T 2, N, .inl (fun _ => 0)))]) H1 → va_D A (ws ++ [(q, .inl (T 2, N, .inl (fun _ => 0)))]) → va_S A H0 H1 locs → W p l e R s m args below meth c H1 locs (cells + 1) (slots + N) Q (F0 m (pc + 2) ls (.ref q :: rest))) : W p l e R s m args below meth c H locs cells slots Q (F0 m pc ls (.int n :: rest)) := by
  refine va_newa (atype := .boolean) (ty := .boolean) (a0 := (N, .inl (fun _ => 0))) hx hb (hts _ (List.mem_of_getElem? hi)) rfl hK hP hD hS hA (fun cA => rfl) hn hN hb2 hcells hslots hdg (fun q cA H1 hK1 hP1 hD1 hS1 => ?_)
  have hc : cA = T 2 := zTc hK 2 rfl (hK1.2 5 _ rfl).2 (fun C h => by cases h)
  subst hc
  exact kk q H1 hP1 hD1 hS1
theorem zNewB {Ts : List Cond} (hx : p.tables.exec = Jvm.exec) (hb : c.code = cc) (hts : ∀ w ∈ Ts, w.before args s = true) (i : Nat) (hi : Ts[i]? = some (.arrayClass .byte)) (hK : va_K D vwCl (zTys T) s) (hP : va_P D vwCl ws H) (hD : va_D A ws) (hS : va_S A H0 H locs) (hA : ∀ q, H0.size ≤ q → A q) (N : Nat) {n : Int32} (hn : ¬ n < 0) (hN : n.toNatClampNeg = N) (hb2 : N * componentBytes .byte ≤ 536870912) (hcells : cells + 1 ≤ R.cells) (hslots : slots + N ≤ R.slots) (hdg : decode cc pc = .ok (.newarray .byte, 2))
    (kk : ∀ (q : Nat) (H1 : Heap), va_P D vwCl (ws ++ [(q, .inl (T 3, N, .inl (fun _ => 0)))]) H1 → va_D A (ws ++ [(q, .inl (T 3, N, .inl (fun _ => 0)))]) → va_S A H0 H1 locs → W p l e R s m args below meth c H1 locs (cells + 1) (slots + N) Q (F0 m (pc + 2) ls (.ref q :: rest))) : W p l e R s m args below meth c H locs cells slots Q (F0 m pc ls (.int n :: rest)) := by
  refine va_newa (atype := .byte) (ty := .byte) (a0 := (N, .inl (fun _ => 0))) hx hb (hts _ (List.mem_of_getElem? hi)) rfl hK hP hD hS hA (fun cA => rfl) hn hN hb2 hcells hslots hdg (fun q cA H1 hK1 hP1 hD1 hS1 => ?_)
  have hc : cA = T 3 := zTc hK 3 rfl (hK1.2 5 _ rfl).2 (fun C h => by cases h)
  subst hc
  exact kk q H1 hP1 hD1 hS1
theorem zNewL {Ts : List Cond} (hx : p.tables.exec = Jvm.exec) (hb : c.code = cc) (hts : ∀ w ∈ Ts, w.before args s = true) (i : Nat) (hi : Ts[i]? = some (.arrayClass .long)) (hK : va_K D vwCl (zTys T) s) (hP : va_P D vwCl ws H) (hD : va_D A ws) (hS : va_S A H0 H locs) (hA : ∀ q, H0.size ≤ q → A q) (N : Nat) {n : Int32} (hn : ¬ n < 0) (hN : n.toNatClampNeg = N) (hb2 : N * componentBytes .long ≤ 536870912) (hcells : cells + 1 ≤ R.cells) (hslots : slots + N ≤ R.slots) (hdg : decode cc pc = .ok (.newarray .long, 2))
    (kk : ∀ (q : Nat) (H1 : Heap), va_P D vwCl (ws ++ [(q, .inl (T 1, N, .inr (.inl (fun _ => 0))))]) H1 → va_D A (ws ++ [(q, .inl (T 1, N, .inr (.inl (fun _ => 0))))]) → va_S A H0 H1 locs → W p l e R s m args below meth c H1 locs (cells + 1) (slots + N) Q (F0 m (pc + 2) ls (.ref q :: rest))) : W p l e R s m args below meth c H locs cells slots Q (F0 m pc ls (.int n :: rest)) := by
  refine va_newa (atype := .long) (ty := .long) (a0 := (N, .inr (.inl (fun _ => 0)))) hx hb (hts _ (List.mem_of_getElem? hi)) rfl hK hP hD hS hA (fun cA => rfl) hn hN hb2 hcells hslots hdg (fun q cA H1 hK1 hP1 hD1 hS1 => ?_)
  have hc : cA = T 1 := zTc hK 1 rfl (hK1.2 5 _ rfl).2 (fun C h => by cases h)
  subst hc
  exact kk q H1 hP1 hD1 hS1
/-- new int[n][k]: the outer row, then the inner ones -/
theorem zNewA {Ts : List Cond} {own : String} {index : Nat} (hx : p.tables.exec = Jvm.exec) (hb : c.code = cc) (hown : s.vm.findClass own = some m.cls) (hts : ∀ w ∈ Ts, w.before args s = true) (i1 i2 : Nat) (h1 : Ts[i1]? = some (.classLink own index "[[I")) (h2 : Ts[i2]? = some (.arrayClass .int)) (hov : va_AOA .int s) (hK : va_K D vwCl (zTys T) s) (hP : va_P D vwCl ws H) (hD : va_D A ws) (hS : va_S A H0 H locs) (hA : ∀ q, H0.size ≤ q → A q) (N K : Nat) {n k : Int32} (hn : ¬ n < 0) (hk : ¬ k < 0) (hN : n.toNatClampNeg = N) (hM : k.toNatClampNeg = K) (hb1 : N * 4 ≤ 536870912) (hb2 : K * componentBytes .int ≤ 536870912) (hb3 : K ≤ 536870912) (hcells : cells + (1 + N) ≤ R.cells) (hslots : slots + (N + N * K) ≤ R.slots) (hdg : decode cc pc = .ok (.multianewarray index 2, 4))
    (kk : ∀ (q : Nat) (r : Nat → Nat) (H1 : Heap), va_P D vwCl (ws ++ [(q, .inl (T 4, N, .inr (.inr (.inr (.inr (fun i => if i < N then some (r i) else none))))))] ++ (List.range N).map (fun i => (r i, .inl (T 0, K, .inl (fun _ => 0))))) H1 → va_D A (ws ++ [(q, .inl (T 4, N, .inr (.inr (.inr (.inr (fun i => if i < N then some (r i) else none))))))] ++ (List.range N).map (fun i => (r i, .inl (T 0, K, .inl (fun _ => 0))))) → va_S A H0 H1 locs → W p l e R s m args below meth c H1 locs (cells + 1 + N) (slots + N + N * K) Q (F0 m (pc + 4) ls (.ref q :: rest))) : W p l e R s m args below meth c H locs cells slots Q (F0 m pc ls (.int k :: .int n :: rest)) := by
  have hP0 : va_P D vwCl (ws ++ va_pl [] (fun _ => .inr (0, []))) H := by rw [show va_pl [] (fun _ => Sum.inr (0, [])) = [] from rfl, List.append_nil]; exact hP
  have hD0 : va_D A (ws ++ va_pl [] (fun _ => .inr (0, []))) := by rw [show va_pl [] (fun _ => Sum.inr (0, [])) = [] from rfl, List.append_nil]; exact hD
  refine va_mna (ty := .int) (z := (K, .inl (fun _ => 0))) (own := own) (index := index) hx hb hown (hts _ (List.mem_of_getElem? h1)) hov (hts _ (List.mem_of_getElem? h2)) (hK.2 0 _ rfl).2 hK hP0 hD0 hS hA hn hk hN hM hb1 hb2 hb3 rfl rfl hcells hslots (fun c => by show ({ cls := c, slots := Array.replicate K (.int 0), vm := .none } : Cell) = _; rw [arrV_new]; rfl) hdg (fun q r cA H1 hinj hnl hK1 hP1 hD1 hS1 => ?_)
  have hc : cA = T 4 := zTc hK 4 rfl (hK1.2 5 _ rfl).2 (fun C h => by cases h)
  subst hc
  have hnm : ∀ a, a ∈ (List.range N).map r → a ∉ ([] : List Nat) := fun a _ h => by cases h
  rw [← vr_rows hnm] at hP1 hD1
  have e1 : va_pl [] (fun _ => Sum.inr (0, [])) ++ ((List.range N).map r).map (fun a => ((a, .inl (T 0, K, .inl (fun _ => 0))) : Nat × va_E)) = (List.range N).map (fun i => (r i, .inl (T 0, K, .inl (fun _ => 0)))) := by
    rw [show va_pl [] (fun _ => Sum.inr (0, [])) = [] from rfl, List.nil_append, List.map_map]; rfl
  rw [e1] at hP1 hD1
  exact kk q r H1 hP1 hD1 hS1
end ZN
/-! ===== constructors ===== -/
theorem va_AOA.moved {ty : FieldType} {u U : State} (hvm : u.vm.Alike U.vm) (h : va_AOA ty u) : va_AOA ty U := by
  have h0 := h
  unfold va_AOA Cond.before Cond.holds at h
  simp only [Cond.value, beq_iff_eq] at h
  cases hc : u.vm.findClass (FieldType.array ty).toString with
  | none => simp [hc] at h
  | some comp =>
    simp only [hc, Option.bind_some, Option.bind_eq_some_iff, Option.map_eq_some_iff] at h
    obtain ⟨c, hi0, k, hk, hb⟩ := h
    obtain ⟨k', hk', he⟩ := hvm.2.2 _ _ hk
    have hi : (U.vm.classes.findIdx? fun (x : Class) => match x.kind with | .array component _ => component == comp | _ => false) = some c := by
      have e1 := va_idx_bare U.vm comp
      rw [hvm.bare_eq] at e1
      exact e1.symm.trans ((va_idx_bare u.vm comp).trans hi0)
    have hkind : k'.kind = k.kind := by rw [he]
    have f1 : U.vm.findClass (FieldType.array ty).toString = some comp := by rw [hvm.findClass]; exact hc
    have f2 : U.vm.findClass ("[" ++ (FieldType.array ty).toString) = u.vm.findClass ("[" ++ (FieldType.array ty).toString) := by rw [hvm.findClass]
    unfold va_AOA Cond.before Cond.holds
    simp only [Cond.value]
    rw [f1, Option.bind_some]
    refine (congrArg (fun o : Option Nat => (o.bind (fun c => (U.vm.classes[c]?).map fun (k : Class) => match k.kind with | .array _ ty' => decide (ty' = FieldType.array ty) && decide (U.vm.findClass ("[" ++ (FieldType.array ty).toString) = some c) | _ => false) == some true)) hi).trans ?_
    rw [Option.bind_some, hk', Option.map_some, hkind, f2]
    exact (congrArg (fun b : Bool => (some b == some true)) hb).trans rfl
def zNs (U : State) : Prop := va_AOA .int U ∧ va_Nw (.methodLinkNest RX9 28 yX7_init RX9) U ∧ va_Nw (.methodLinkNest RX9 35 yX3_init RX9) U ∧ va_Nw (.methodLinkNest RX9 42 yX6_init RX9) U ∧ va_Nw (.methodLinkNest RX9 49 yX4_init RX9) U ∧ va_Nw (.methodLinkNest RX9 56 yX1_init RX9) U ∧ va_Nw (.methodLinkNest RX9 63 yX5_init RX9) U ∧ va_Nw (.methodLinkNest RX9 70 yX2_init RX9) U ∧ va_Nw (.methodLinkNest RX9 77 yX0_init RX9) U
theorem zNs.warm {s U : State} (hW : s.WarmedH U.vm) (h : zNs s) : zNs U := ⟨h.1.moved hW.alike, h.2.1.warmM hW, h.2.2.1.warmM hW, h.2.2.2.1.warmM hW, h.2.2.2.2.1.warmM hW, h.2.2.2.2.2.1.warmM hW, h.2.2.2.2.2.2.1.warmM hW, h.2.2.2.2.2.2.2.1.warmM hW, h.2.2.2.2.2.2.2.2.warmM hW⟩
theorem zNs.same {s U : State} (hv : U.vm = s.vm) (h : zNs s) : zNs U := ⟨h.1.moved (by rw [hv]; exact Vm.Alike.refl s.vm), h.2.1.same rfl hv.symm, h.2.2.1.same rfl hv.symm, h.2.2.2.1.same rfl hv.symm, h.2.2.2.2.1.same rfl hv.symm, h.2.2.2.2.2.1.same rfl hv.symm, h.2.2.2.2.2.2.1.same rfl hv.symm, h.2.2.2.2.2.2.2.1.same rfl hv.symm, h.2.2.2.2.2.2.2.2.same rfl hv.symm⟩
def zPreN (D : va_G) (T : Nat → ClassId) (X : zFP) (av : List Value) (wc : va_W) (sz : Nat) : Array Value → State → Prop := va_Pc av (fun U => U.heap.size = sz ∧ va_P D vwCl wc U.heap ∧ va_K D vwCl (zTys T) U ∧ va_D (fun _ => True) wc ∧ zFx X (va_A wc sz) U U.heap ∧ zNs U)
def zQn {S : Type} (D : va_G) (T : Nat → ClassId) (Wf : S → va_W) (post : S → Prop) (wc : va_W) (sz : Nat) : Array Value → State → Outcome → State → Prop := va_Qv post (fun u t => va_P D vwCl (Wf u) t.heap ∧ va_K D vwCl (zTys T) t ∧ va_D (va_A wc sz) (Wf u)) (va_A wc sz)
theorem zBlindN {D : va_G} {T : Nat → ClassId} {X : zFP} {av : List Value} {wc : va_W} {sz : Nat} : FrameBlind (zPreN D T X av wc sz) := fun a U g mk q => by
  obtain ⟨q0, q1, qP, qK, qD, qX, qN⟩ := q
  exact ⟨q0, q1, qP, va_K.moved (u := U) (U := U.calling g mk a) (Vm.Alike.refl U.vm) qK, qD, zFx.same (U := U.calling g mk a) rfl qX, zNs.same (U := U.calling g mk a) rfl qN⟩
theorem zStartN {l : Launch} {y : MethodName} {ws ws' : List Cond} {rm : Room} {Qc : Array Value → State → Outcome → State → Prop} {mc ms : Nat} {free : Addr → Prop} {cc : ByteArray} {maxL : Nat} {ret : Option FieldType} {av : List Value} {D : va_G} {T : Nat → ClassId} {X : zFP} {wc : va_W} {sz : Nat} (lv : List (Nat × Value))
    (hy : plainName y.cls = true) (hw : ws = Cond.code y cc maxL ret :: ws') (hn : (lg_sl av).length ≤ maxL) (hlv : lv_args 0 av = lv)
    (body : ∀ (p : Program) (e : Env) (s : State) (m : MethodId) (args : Array Value) (below : List Frame) (meth : Method) (c : Code) (A : Nat → Prop) (Q : State → Prop) (ls : Array Slot), p.tables.exec = Jvm.exec → c.code = cc → meth.sig.returnType = ret → c.maxLocals = maxL → s.vm.findClass y.cls = some m.cls → meth.locks = false → (∀ w ∈ ws, w.before args s = true) → s.heap.size = sz → va_A wc sz = A → MQ below Qc args s mc ms free = Q → (∀ q : Nat, s.heap.size ≤ q → A q) → va_K D vwCl (zTys T) s → zFx X A s s.heap → zNs s → meth.name = y.name → va_P D vwCl wc s.heap → va_D A wc → va_S A s.heap s.heap [] → lv_has ls maxL lv →
      W p l e rm s m args below meth c s.heap [] 0 0 Q (F0 m 0 ls [])) : Met l y ws rm (zPreN D T X av wc sz) Qc mc ms free := by
  refine Met.ofW (cc := cc) (maxL := maxL) (ret := ret) hy hw ?_
  intro p e s m args below meth c s₁ B hml hv
  obtain ⟨rfl, hsz, hP, hK, hD0, hX, hN⟩ := hv
  have hts := atoms_spec (ws := ws) B.pre
  have hl := lv_entry av (n := maxL) hn
  rw [lg_entry_eq]
  rw [hlv] at hl
  generalize (lg_sl av ++ List.replicate (maxL - (lg_sl av).length) Slot.unset).toArray = ls at hl ⊢
  exact body p e s m av.toArray below meth c (va_A wc sz) _ ls B.exec B.bytes B.returns hml (findClass_of_methodNamed B.named) B.notSynchronized hts hsz rfl rfl (fun q h => Or.inr (hsz ▸ h)) hK hX hN (name_of_methodNamed B.named B.method).1 hP (hD0.self) va_S.rf hl
section ZI
variable {p : Program} {l : Launch} {e : Env} {R : Room} {s : State} {m : MethodId} {args : Array Value} {below : List Frame} {meth : Method} {c : Code} {H : Heap} {locs : List Loc} {cells slots : Nat} {Q : State → Prop}
variable {cc bytes : ByteArray} {pc : Nat} {ls : Array Slot} {rest st0 : List Value} {D : va_G} {T : Nat → ClassId} {X : zFP} {A : Nat → Prop} {ws : va_W} {H0 : Heap}
variable {y : MethodName} {maxL nL n index mc ms : Nat} {wsc Ts : List Cond} {rm : Room} {own host : String} {b : Nat} {wc wr : va_W} {S0 : Type} {Wf : S0 → va_W} {post : S0 → Prop}
theorem zRetN {sz : Nat} {u : S0} (hQ : MQ below (zQn D T Wf post wc sz) args s cells slots (va_A wc sz) = Q) (hx : p.tables.exec = Jvm.exec) (hb : c.code = cc) (hr : meth.sig.returnType = none) (hlocks : meth.locks = false) (hA : va_A wc sz = A) (hK : va_K D vwCl (zTys T) s) (hP : va_P D vwCl (Wf u) H) (hD : va_D A (Wf u)) (hS : va_S A s.heap H locs) (hp : post u) (hdg : decode cc pc = .ok (.return_, 1)) : W p l e R s m args below meth c H locs cells slots Q (F0 m pc ls []) := by
  subst hQ
  subst hA
  exact W.vret hx hb hr (fun t ht hW => ⟨⟨u, rfl, hp, by rw [ht]; exact hP, va_K.moved hW.alike hK, hD⟩, hS.F ht⟩) hS.2.2 hdg hlocks
theorem zPcN (hP : va_P D vwCl ws H) (hD : va_D A ws) (hK : va_K D vwCl (zTys T) s) {A0 : Nat → Prop} (hX : zFx X A0 s H0) (hN : zNs s) (hS : va_S A0 H0 H locs) (hF : ∀ q, va_A ws H.size q → A0 q) {av : List Value} : ∀ U : State, U.heap = H → s.WarmedH U.vm → zPreN D T X av ws H.size av.toArray U := fun U hU hW => ⟨rfl, by rw [hU], by rw [hU]; exact hP, va_K.moved hW.alike hK, hD.weaken (fun _ _ _ _ => trivial), by rw [hU]; exact ((hX.kept hS.2.1).narrow hF).warm hW, hN.warm hW⟩
theorem zMkI (S : CallFix p m c cc nL s args Ts own) (hM : Met l y wsc rm (zPreN D T X [.ref b] wc H.size) (zQn D T Wf post wc H.size) mc ms (va_A wc H.size)) (cw : CallB R s args own index y bytes maxL none wsc rm mc ms 0 ∧ y.name = "<init>" ∧ (Cond.instanceMethod y).before args s = true) (hK : va_K D vwCl (zTys T) s) (hP : va_P D vwCl ws H) (hD : va_D A ws) (hS : va_S A H0 H locs) (hA : ∀ q, H0.size ≤ q → A q) (hX : zFx X A s H0) (hN : zNs s) (isC isR : List Nat) (hC : isC.map (fun i => ws[i]?) = wc.map some) (hR : isR.map (fun i => ws[i]?) = wr.map some) (hns : (va_nd isC && va_nd isR && isR.all (fun i => !isC.contains i)) = true) (hsize : ls.size = nL) (hW : (rest.map fun v => v.category).sum ≤ 8) (hdg : decode cc pc = .ok (.invokespecial index, 3)) (hf : cells + mc ≤ R.cells ∧ slots + ms ≤ R.slots) (kk : ∀ (u : S0) (H1 : Heap) (locs1 : List Loc), post u → va_P D vwCl (wr ++ Wf u) H1 → va_D A (wr ++ Wf u) → va_S A H0 H1 locs1 → W p l e R s m args below meth c H1 locs1 (cells + mc) (slots + ms) Q (F0 m (pc + 3) ls rest)) : W p l e R s m args below meth c H locs cells slots Q (F0 m pc ls (.ref b :: rest)) := by
  have hq := hns
  rw [Bool.and_eq_true, Bool.and_eq_true] at hq
  obtain ⟨⟨hnC, hnR⟩, hdis⟩ := hq
  have hPc := hP.sub isC (zFm hC)
  have hDc := hD.sub isC hnC hC
  have hFc := va_free hD hS hA isC hC
  refine va_callv (va_runI (As := []) (rest := rest) S hM cw ⟨zBlindN, zPcN hPc hDc hK hX hN hS hFc⟩ rfl rfl hsize rfl (lv_room hW) hdg hf) hS (fun q _ h => hFc q h) hFc (fun u t H1 locs1 ht hvm hw hB hz hk hS1 => ?_)
  obtain ⟨hP1, hK1, hD1⟩ := hB
  rw [ht] at hP1
  obtain ⟨g1, g2⟩ := va_join hP hD isC isR hC hR hnR (fun i hi hc => by have h9 := List.all_eq_true.mp hdis i hi; simp [hc] at h9) hk hFc hP1 hD1
  exact kk u H1 locs1 hw g1 g2 hS1
theorem zMkN (S : CallFix p m c cc nL s args Ts own) (hM : Met l y wsc rm (zPreN D T X [.ref b] wc H.size) (zQn D T Wf post wc H.size) mc ms (va_A wc H.size)) (cw : va_CN R s args own index y host bytes maxL none wsc rm mc ms 0 ∧ y.name = "<init>" ∧ (Cond.instanceMethod y).before args s = true) (hK : va_K D vwCl (zTys T) s) (hP : va_P D vwCl ws H) (hD : va_D A ws) (hS : va_S A H0 H locs) (hA : ∀ q, H0.size ≤ q → A q) (hX : zFx X A s H0) (hN : zNs s) (isC isR : List Nat) (hC : isC.map (fun i => ws[i]?) = wc.map some) (hR : isR.map (fun i => ws[i]?) = wr.map some) (hns : (va_nd isC && va_nd isR && isR.all (fun i => !isC.contains i)) = true) (hsize : ls.size = nL) (hW : (rest.map fun v => v.category).sum ≤ 8) (hdg : decode cc pc = .ok (.invokespecial index, 3)) (hf : cells + mc ≤ R.cells ∧ slots + ms ≤ R.slots) (kk : ∀ (u : S0) (H1 : Heap) (locs1 : List Loc), post u → va_P D vwCl (wr ++ Wf u) H1 → va_D A (wr ++ Wf u) → va_S A H0 H1 locs1 → W p l e R s m args below meth c H1 locs1 (cells + mc) (slots + ms) Q (F0 m (pc + 3) ls rest)) : W p l e R s m args below meth c H locs cells slots Q (F0 m pc ls (.ref b :: rest)) := by
  have hq := hns
  rw [Bool.and_eq_true, Bool.and_eq_true] at hq
  obtain ⟨⟨hnC, hnR⟩, hdis⟩ := hq
  have hPc := hP.sub isC (zFm hC)
  have hDc := hD.sub isC hnC hC
  have hFc := va_free hD hS hA isC hC
  refine va_callv (va_runIN (As := []) (rest := rest) S hM cw ⟨zBlindN, zPcN hPc hDc hK hX hN hS hFc⟩ rfl rfl hsize rfl (lv_room hW) hdg hf) hS (fun q _ h => hFc q h) hFc (fun u t H1 locs1 ht hvm hw hB hz hk hS1 => ?_)
  obtain ⟨hP1, hK1, hD1⟩ := hB
  rw [ht] at hP1
  obtain ⟨g1, g2⟩ := va_join hP hD isC isR hC hR hnR (fun i hi hc => by have h9 := List.all_eq_true.mp hdis i hi; simp [hc] at h9) hk hFc hP1 hD1
  exact kk u H1 locs1 hw g1 g2 hS1
end ZI
