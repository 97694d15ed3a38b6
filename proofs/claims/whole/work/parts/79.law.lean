/-! ===== the law's worlds, by their groups ===== -/
theorem zD_iff {A : Nat → Prop} {ws : va_W} : va_D A ws ↔ ws.Pairwise (fun p q => p.1 ≠ q.1) ∧ ∀ q ∈ ws, A q.1 := by
  constructor
  · rintro ⟨h1, h2⟩
    refine ⟨List.pairwise_iff_getElem.mpr fun i j hi hj hij he => ?_, fun q hq => ?_⟩
    · have := h1 i j _ _ (List.getElem?_eq_getElem hi) (List.getElem?_eq_getElem hj) he
      omega
    · obtain ⟨k, hk⟩ := List.getElem?_of_mem hq
      exact h2 k q hk
  · rintro ⟨h1, h2⟩
    have h3 := List.pairwise_iff_getElem.mp h1
    refine ⟨fun i j p q hp hq he => ?_, fun k q hk => h2 q (List.mem_of_getElem? hk)⟩
    obtain ⟨hi, ep⟩ := List.getElem?_eq_some_iff.mp hp
    obtain ⟨hj, eq⟩ := List.getElem?_eq_some_iff.mp hq
    by_cases hij : i = j
    · exact hij
    · rcases Nat.lt_or_gt_of_ne hij with h | h
      · exact absurd (by rw [ep, eq]; exact he) (h3 i j hi hj h)
      · exact absurd (by rw [ep, eq]; exact he.symm) (h3 j i hj hi h)
theorem zD_perm {A : Nat → Prop} {ws ws' : va_W} (h : va_D A ws) (hp : ws.Perm ws') : va_D A ws' := by
  obtain ⟨h1, h2⟩ := zD_iff.mp h
  exact zD_iff.mpr ⟨(hp.pairwise_iff (fun {a b} h => Ne.symm h)).mp h1, fun q hq => h2 q (hp.mem_iff.mpr hq)⟩
theorem zP_perm {D : va_G} {cl : List vw_C} {ws ws' : va_W} {H : Heap} (h : va_P D cl ws H) (hp : ws.Perm ws') : va_P D cl ws' H := fun k q hk => by
  obtain ⟨i, hi⟩ := List.getElem?_of_mem (hp.mem_iff.mpr (List.mem_of_getElem? hk))
  exact h i q hi
theorem zNdOf : ∀ {l : List Nat}, l.Nodup → va_nd l = true
  | [], _ => rfl
  | a :: l, h => by
    obtain ⟨h1, h2⟩ := List.nodup_cons.mp h
    show (decide (a ∉ l) && va_nd l) = true
    rw [Bool.and_eq_true, decide_eq_true_eq]
    exact ⟨h1, zNdOf h2⟩
theorem zRgL (wc wr : va_W) : (List.range wc.length).map (fun i => (wc ++ wr)[i]?) = wc.map some := by
  apply List.ext_getElem (by simp)
  intro k h1 h2
  have hk : k < wc.length := by simpa using h1
  rw [List.getElem_map, List.getElem_map, List.getElem_range, List.getElem?_append_left hk, List.getElem?_eq_getElem hk]
theorem zRgR (wc wr : va_W) : (List.range' wc.length wr.length).map (fun i => (wc ++ wr)[i]?) = wr.map some := by
  apply List.ext_getElem (by simp)
  intro k h1 h2
  have hk : k < wr.length := by simpa using h1
  rw [List.getElem_map, List.getElem_map, List.getElem_range', List.getElem?_append_right (by omega), show wc.length + 1 * k - wc.length = k by omega, List.getElem?_eq_getElem hk]
theorem zRgA (w : va_W) : (List.range w.length).map (fun i => w[i]?) = w.map some := by
  have h := zRgL w []
  rw [List.append_nil] at h
  exact h
theorem zRgN (a b k : Nat) : (va_nd (List.range a) && va_nd (List.range' a b) && va_nd (List.range k) && (List.range' a b).all (fun i => !(List.range a).contains i)) = true := by
  rw [zNdOf List.nodup_range, zNdOf List.nodup_range', zNdOf List.nodup_range, Bool.and_self, Bool.and_self, Bool.true_and, List.all_eq_true]
  intro i hi
  rw [Bool.not_eq_true', ← Bool.not_eq_true, List.contains_iff_mem, List.mem_range]
  have := (List.mem_range'_1.mp hi).1
  omega
def zFlat (G : Nat → va_W) : va_W := ((List.range 13).map G).flatten
theorem zFlat_perm (G : Nat → va_W) (pC pR : List Nat) (hpp : (pC ++ pR).isPerm (List.range 13) = true) : (zFlat G).Perm ((pC.map G).flatten ++ (pR.map G).flatten) := by
  have h := ((List.isPerm_iff.mp hpp).map G).flatten
  rw [List.map_append, List.flatten_append] at h
  exact h.symm
theorem zFl1 (a : va_W) : [a].flatten = a := by simp
theorem zFl2 (a b : va_W) : [a, b].flatten = a ++ b := by simp
theorem zFl3 (a b c : va_W) : [a, b, c].flatten = a ++ b ++ c := by simp
theorem zFl4 (a b c d : va_W) : [a, b, c, d].flatten = a ++ b ++ c ++ d := by simp
theorem zFl5 (a b c d e : va_W) : [a, b, c, d, e].flatten = a ++ b ++ c ++ d ++ e := by simp
theorem zFl6 (a b c d e f : va_W) : [a, b, c, d, e, f].flatten = a ++ b ++ c ++ d ++ e ++ f := by simp
theorem zFl7 (a b c d e f g : va_W) : [a, b, c, d, e, f, g].flatten = a ++ b ++ c ++ d ++ e ++ f ++ g := by simp
theorem zFl8 (a b c d e f g h : va_W) : [a, b, c, d, e, f, g, h].flatten = a ++ b ++ c ++ d ++ e ++ f ++ g ++ h := by simp
theorem zFl13 (a b c d e f g h i j k l m : va_W) : [a, b, c, d, e, f, g, h, i, j, k, l, m].flatten = a ++ b ++ c ++ d ++ e ++ f ++ g ++ h ++ i ++ j ++ k ++ l ++ m := by simp
theorem zHt {args : Array Value} {s : State} {Ts Ts' : List Cond} (h : ∀ w ∈ Ts, w.before args s = true) (h2 : ∀ w ∈ Ts', w ∈ Ts) : ∀ w ∈ Ts', w.before args s = true := fun w hw => h w (h2 w hw)
section ZG
variable {p : Program} {l : Launch} {e : Env} {R : Room} {s : State} {m : MethodId} {args : Array Value} {below : List Frame} {meth : Method} {c : Code} {H : Heap} {locs : List Loc} {cells slots : Nat} {Q : State → Prop}
variable {cc bytes : ByteArray} {pc : Nat} {ls : Array Slot} {rest st0 : List Value} {D : va_G} {T : Nat → ClassId} {X : zFP} {A : Nat → Prop} {H0 : Heap}
variable {y : MethodName} {ret : Option FieldType} {maxL nL n index : Nat} {wsc Ts : List Cond} {rm : Room} {own C : String} {b : Nat} {wc w1 : va_W} {ci N : Nat} {fs : List Value} {F : u_T}
theorem zCallGI {r : Int32} (G G' : Nat → va_W) (As : List Value) (S : CallFix p m c cc nL s args Ts own) (hM : Met l y wsc rm (zPre D T X (.ref b :: As) wc H.size) (zQi D T r w1 wc H.size) 0 0 (va_A wc H.size)) (cw : CallW R s args own C index y bytes maxL ret wsc rm 0 0 n) (hK : va_K D vwCl (zTys T) s) (hP : va_P D vwCl (zFlat G) H) (hD : va_D A (zFlat G)) (hS : va_S A H0 H locs) (hA : ∀ q, H0.size ≤ q → A q) (hX : zFx X A s H0) (pC pR : List Nat) (hpp : (pC ++ pR).isPerm (List.range 13) = true) (hC : (pC.map G).flatten = wc) (hC' : (pC.map G').flatten = w1) (hR : pR.map G = pR.map G') (q0 : Nat) (hrc : wc[q0]? = some (b, .inr (ci, fs))) (hcl : vwCl[ci]? = some (C, F, N)) (hn : As.length = n) (hsize : ls.size = nL) (hst : st0 = As.reverse ++ .ref b :: rest) (hW : (rest.map fun v => v.category).sum ≤ 8) (hdg : decode cc pc = .ok (.invokevirtual index, 3)) (hf : cells ≤ R.cells ∧ slots ≤ R.slots) (kk : ∀ (H1 : Heap) (locs1 : List Loc), va_P D vwCl (zFlat G') H1 → va_D A (zFlat G') → va_S A H0 H1 locs1 → W p l e R s m args below meth c H1 locs1 cells slots Q (F0 m (pc + 3) ls (.int r :: rest))) : W p l e R s m args below meth c H locs cells slots Q (F0 m pc ls st0) := by
  have hp := zFlat_perm G pC pR hpp
  have hp' := zFlat_perm G' pC pR hpp
  rw [hC] at hp
  rw [hC', ← hR] at hp'
  refine zCallVJI (wr := (pR.map G).flatten) (ws' := (pR.map G).flatten ++ w1) As S hM cw hK (zP_perm hP hp) (zD_perm hD hp) hS hA hX (List.range wc.length) (List.range' wc.length (pR.map G).flatten.length) (List.range ((pR.map G).flatten ++ w1).length) (zRgL _ _) (zRgR _ _) (zRgA _) (zRgN _ _ _) q0 hrc hcl hn hsize hst hW hdg hf (fun H1 locs1 h1 h2 h3 => ?_)
  have hq : ((pR.map G).flatten ++ w1).Perm (zFlat G') := (List.perm_append_comm).trans hp'.symm
  exact kk H1 locs1 (zP_perm h1 hq) (zD_perm h2 hq) h3
theorem zCallGL {r : Int64} (G G' : Nat → va_W) (As : List Value) (S : CallFix p m c cc nL s args Ts own) (hM : Met l y wsc rm (zPre D T X (.ref b :: As) wc H.size) (zQl D T r w1 wc H.size) 0 0 (va_A wc H.size)) (cw : CallW R s args own C index y bytes maxL ret wsc rm 0 0 n) (hK : va_K D vwCl (zTys T) s) (hP : va_P D vwCl (zFlat G) H) (hD : va_D A (zFlat G)) (hS : va_S A H0 H locs) (hA : ∀ q, H0.size ≤ q → A q) (hX : zFx X A s H0) (pC pR : List Nat) (hpp : (pC ++ pR).isPerm (List.range 13) = true) (hC : (pC.map G).flatten = wc) (hC' : (pC.map G').flatten = w1) (hR : pR.map G = pR.map G') (q0 : Nat) (hrc : wc[q0]? = some (b, .inr (ci, fs))) (hcl : vwCl[ci]? = some (C, F, N)) (hn : As.length = n) (hsize : ls.size = nL) (hst : st0 = As.reverse ++ .ref b :: rest) (hW : (rest.map fun v => v.category).sum ≤ 8) (hdg : decode cc pc = .ok (.invokevirtual index, 3)) (hf : cells ≤ R.cells ∧ slots ≤ R.slots) (kk : ∀ (H1 : Heap) (locs1 : List Loc), va_P D vwCl (zFlat G') H1 → va_D A (zFlat G') → va_S A H0 H1 locs1 → W p l e R s m args below meth c H1 locs1 cells slots Q (F0 m (pc + 3) ls (.long r :: rest))) : W p l e R s m args below meth c H locs cells slots Q (F0 m pc ls st0) := by
  have hp := zFlat_perm G pC pR hpp
  have hp' := zFlat_perm G' pC pR hpp
  rw [hC] at hp
  rw [hC', ← hR] at hp'
  refine zCallVJL (wr := (pR.map G).flatten) (ws' := (pR.map G).flatten ++ w1) As S hM cw hK (zP_perm hP hp) (zD_perm hD hp) hS hA hX (List.range wc.length) (List.range' wc.length (pR.map G).flatten.length) (List.range ((pR.map G).flatten ++ w1).length) (zRgL _ _) (zRgR _ _) (zRgA _) (zRgN _ _ _) q0 hrc hcl hn hsize hst hW hdg hf (fun H1 locs1 h1 h2 h3 => ?_)
  have hq : ((pR.map G).flatten ++ w1).Perm (zFlat G') := (List.perm_append_comm).trans hp'.symm
  exact kk H1 locs1 (zP_perm h1 hq) (zD_perm h2 hq) h3
end ZG
/-- the groups: the class's twelve, then the model's -/
def zWg (T : Nat → ClassId) (ad : Nat → Nat → Nat) (hm : Nat → Nat) (gs : Nat → zM) (g : zM) (gl : zL) : Nat → va_W
  | 0 => wX9 T ad (gs 0)
  | 1 => wX8 T (ad 1) (gs 1)
  | 2 => wX8 T (ad 2) (gs 2)
  | 3 => wX8 T (ad 3) (gs 3)
  | 4 => wX7 T (ad 4) (gs 4)
  | 5 => wX3 T (ad 5) (gs 5)
  | 6 => wX6 T (ad 6) (gs 6)
  | 7 => wX4 T (ad 7) (gs 7)
  | 8 => wX1 T (ad 8) (gs 8)
  | 9 => wX5 T (ad 9) (gs 9)
  | 10 => wX2 T (ad 10) (gs 10)
  | 11 => wX0 T (ad 11) (gs 11)
  | _ => wX10 T hm g gl
theorem zFlat_eq (T : Nat → ClassId) (ad : Nat → Nat → Nat) (hm : Nat → Nat) (gs : Nat → zM) (g : zM) (gl : zL) : zFlat (zWg T ad hm gs g gl) = wAll T ad gs ++ wX10 T hm g gl := zFl13 (zWg T ad hm gs g gl 0) (zWg T ad hm gs g gl 1) (zWg T ad hm gs g gl 2) (zWg T ad hm gs g gl 3) (zWg T ad hm gs g gl 4) (zWg T ad hm gs g gl 5) (zWg T ad hm gs g gl 6) (zWg T ad hm gs g gl 7) (zWg T ad hm gs g gl 8) (zWg T ad hm gs g gl 9) (zWg T ad hm gs g gl 10) (zWg T ad hm gs g gl 11) (zWg T ad hm gs g gl 12)
/-- what stays through the law's loop -/
def zLw (p : Program) (R : Room) (s : State) (m : MethodId) (c : Code) (b L : Nat) (xs : Nat → Int32) (D : va_G) (T : Nat → ClassId) (X : zFP) (A : Nat → Prop) (cells slots : Nat) : Prop := (p.tables.exec = Jvm.exec) ∧ (c.code = cL_law) ∧ (c.maxLocals = 4) ∧ (s.vm.findClass RL = some m.cls) ∧ (∀ w ∈ lw_tbl, w.before #[Value.ref b] s = true) ∧ (va_X b L xs s s.heap) ∧ (b < s.heap.size) ∧ (¬ A b) ∧ (va_K D vwCl (zTys T) s) ∧ (∀ q, s.heap.size ≤ q → A q) ∧ (zFx X A s s.heap) ∧ (L ≤ 384) ∧ (cells ≤ R.cells ∧ slots ≤ R.slots)
theorem zLw.hx {p : Program} {R : Room} {s : State} {m : MethodId} {c : Code} {b L : Nat} {xs : Nat → Int32} {D : va_G} {T : Nat → ClassId} {X : zFP} {A : Nat → Prop} {cells slots : Nat} (C : zLw p R s m c b L xs D T X A cells slots) : p.tables.exec = Jvm.exec := C.1
theorem zLw.hb {p : Program} {R : Room} {s : State} {m : MethodId} {c : Code} {b L : Nat} {xs : Nat → Int32} {D : va_G} {T : Nat → ClassId} {X : zFP} {A : Nat → Prop} {cells slots : Nat} (C : zLw p R s m c b L xs D T X A cells slots) : c.code = cL_law := C.2.1
theorem zLw.hml {p : Program} {R : Room} {s : State} {m : MethodId} {c : Code} {b L : Nat} {xs : Nat → Int32} {D : va_G} {T : Nat → ClassId} {X : zFP} {A : Nat → Prop} {cells slots : Nat} (C : zLw p R s m c b L xs D T X A cells slots) : c.maxLocals = 4 := C.2.2.1
theorem zLw.hown {p : Program} {R : Room} {s : State} {m : MethodId} {c : Code} {b L : Nat} {xs : Nat → Int32} {D : va_G} {T : Nat → ClassId} {X : zFP} {A : Nat → Prop} {cells slots : Nat} (C : zLw p R s m c b L xs D T X A cells slots) : s.vm.findClass RL = some m.cls := C.2.2.2.1
theorem zLw.hts {p : Program} {R : Room} {s : State} {m : MethodId} {c : Code} {b L : Nat} {xs : Nat → Int32} {D : va_G} {T : Nat → ClassId} {X : zFP} {A : Nat → Prop} {cells slots : Nat} (C : zLw p R s m c b L xs D T X A cells slots) : ∀ w ∈ lw_tbl, w.before #[Value.ref b] s = true := C.2.2.2.2.1
theorem zLw.hXs {p : Program} {R : Room} {s : State} {m : MethodId} {c : Code} {b L : Nat} {xs : Nat → Int32} {D : va_G} {T : Nat → ClassId} {X : zFP} {A : Nat → Prop} {cells slots : Nat} (C : zLw p R s m c b L xs D T X A cells slots) : va_X b L xs s s.heap := C.2.2.2.2.2.1
theorem zLw.hbl {p : Program} {R : Room} {s : State} {m : MethodId} {c : Code} {b L : Nat} {xs : Nat → Int32} {D : va_G} {T : Nat → ClassId} {X : zFP} {A : Nat → Prop} {cells slots : Nat} (C : zLw p R s m c b L xs D T X A cells slots) : b < s.heap.size := C.2.2.2.2.2.2.1
theorem zLw.hbA {p : Program} {R : Room} {s : State} {m : MethodId} {c : Code} {b L : Nat} {xs : Nat → Int32} {D : va_G} {T : Nat → ClassId} {X : zFP} {A : Nat → Prop} {cells slots : Nat} (C : zLw p R s m c b L xs D T X A cells slots) : ¬ A b := C.2.2.2.2.2.2.2.1
theorem zLw.hK {p : Program} {R : Room} {s : State} {m : MethodId} {c : Code} {b L : Nat} {xs : Nat → Int32} {D : va_G} {T : Nat → ClassId} {X : zFP} {A : Nat → Prop} {cells slots : Nat} (C : zLw p R s m c b L xs D T X A cells slots) : va_K D vwCl (zTys T) s := C.2.2.2.2.2.2.2.2.1
theorem zLw.hA {p : Program} {R : Room} {s : State} {m : MethodId} {c : Code} {b L : Nat} {xs : Nat → Int32} {D : va_G} {T : Nat → ClassId} {X : zFP} {A : Nat → Prop} {cells slots : Nat} (C : zLw p R s m c b L xs D T X A cells slots) : ∀ q, s.heap.size ≤ q → A q := C.2.2.2.2.2.2.2.2.2.1
theorem zLw.hX {p : Program} {R : Room} {s : State} {m : MethodId} {c : Code} {b L : Nat} {xs : Nat → Int32} {D : va_G} {T : Nat → ClassId} {X : zFP} {A : Nat → Prop} {cells slots : Nat} (C : zLw p R s m c b L xs D T X A cells slots) : zFx X A s s.heap := C.2.2.2.2.2.2.2.2.2.2.1
theorem zLw.hL {p : Program} {R : Room} {s : State} {m : MethodId} {c : Code} {b L : Nat} {xs : Nat → Int32} {D : va_G} {T : Nat → ClassId} {X : zFP} {A : Nat → Prop} {cells slots : Nat} (C : zLw p R s m c b L xs D T X A cells slots) : L ≤ 384 := C.2.2.2.2.2.2.2.2.2.2.2.1
theorem zLw.hf {p : Program} {R : Room} {s : State} {m : MethodId} {c : Code} {b L : Nat} {xs : Nat → Int32} {D : va_G} {T : Nat → ClassId} {X : zFP} {A : Nat → Prop} {cells slots : Nat} (C : zLw p R s m c b L xs D T X A cells slots) : cells ≤ R.cells ∧ slots ≤ R.slots := C.2.2.2.2.2.2.2.2.2.2.2.2
theorem zSi {i L k : Nat} (hi : i + 6 ≤ L) (hL : L ≤ 384) (hk : k < 6) : vp_in (nI i + nI k) L := by
  rw [nI_add]
  have h1 : (nI (i + k)).toNatClampNeg = i + k := nI_clamp (by omega)
  have h2 : ¬ nI (i + k) < 0 := by
    rw [show (0 : Int32) = nI 0 from rfl, nI_ltI (by omega) (by omega)]
    omega
  rintro (h | h)
  · exact h2 h
  · rw [h1] at h; omega
theorem zSi0 {i L : Nat} (hi : i + 6 ≤ L) (hL : L ≤ 384) : vp_in (nI i) L := by
  have h := zSi (k := 0) hi hL (by omega)
  rw [nI_add] at h
  exact h
theorem zLim {i L : Nat} (hi : i ≤ L) (hL : L ≤ 384) (h : ¬ Int32.ofNat L - 6 < nI i) : i + 6 ≤ L := by
  by_cases h6 : 6 ≤ L
  · have e : Int32.ofNat L - 6 = nI (L - 6) := by
      have e1 : nI (L - 6) + nI 6 = nI L := by rw [nI_add, Nat.sub_add_cancel h6]
      show nI L - nI 6 = nI (L - 6)
      rw [← e1, Int32.add_sub_cancel]
    rw [e, nI_ltI (by omega) (by omega)] at h
    omega
  · exfalso
    have hl : L = 0 ∨ L = 1 ∨ L = 2 ∨ L = 3 ∨ L = 4 ∨ L = 5 := by omega
    have hi' : i = 0 ∨ i = 1 ∨ i = 2 ∨ i = 3 ∨ i = 4 ∨ i = 5 := by omega
    rcases hl with rfl | rfl | rfl | rfl | rfl | rfl <;> rcases hi' with rfl | rfl | rfl | rfl | rfl | rfl <;> exact h (by decide)
section ZLd
variable {p : Program} {l : Launch} {e : Env} {R : Room} {s : State} {m : MethodId} {below : List Frame} {meth : Method} {c : Code} {H : Heap} {locs : List Loc} {cells slots : Nat} {Q : State → Prop} {pc : Nat} {ls : Array Slot} {rest : List Value} {D : va_G} {T : Nat → ClassId} {X : zFP} {A : Nat → Prop} {b L : Nat} {xs : Nat → Int32} {i : Nat} {u1 u2 : Value} {args : Array Value}
theorem zLd (k : Nat) {n : Int} (C : zLw p R s m c b L xs D T X A cells slots) (hS : va_S A s.heap H locs) (hl : lv_has ls 4 [(0, .ref b), (1, u1), (2, u2), (3, .int (nI i))]) (hi : i + 6 ≤ L) (hk : k < 6) (hn : Int32.ofInt n = nI k) (d0 : decode cL_law pc = .ok (.aload_n 0, 1)) (d1 : decode cL_law (pc + 1) = .ok (.iload_n 3, 1)) (d2 : decode cL_law (pc + 2) = .ok (.iconst n, 1)) (d3 : decode cL_law (pc + 3) = .ok (.iadd, 1)) (d4 : decode cL_law (pc + 4) = .ok (.iaload, 1)) (kk : W p l e R s m args below meth c H locs cells slots Q (F0 m (pc + 5) ls (.int (xs (nI i + nI k).toNatClampNeg) :: rest))) : W p l e R s m args below meth c H locs cells slots Q (F0 m pc ls rest) := by
  refine lv_aload_n C.hx C.hb d0 rfl (lv_at hl 0 rfl) ?_
  refine lv_iload_n C.hx C.hb d1 rfl (lv_at hl 3 rfl) ?_
  refine lv_iconst (v := nI k) C.hx C.hb d2 hn ?_
  refine lv_iadd C.hx C.hb d3 ?_
  exact va_sld C.hx C.hb C.hXs C.hbl C.hbA hS (zSi hi C.hL hk) d4 kk
end ZLd
/-- the script's word at place k of row i -/
def zAt (xs : Nat → Int32) (i k : Nat) : Int32 := xs (nI i + nI k).toNatClampNeg
theorem zCmp0 (r : Int64) : lg_cmp r r = 0 := by
  unfold lg_cmp
  rw [if_neg (Int64.lt_irrefl (a := r)), if_pos rfl]
