/-! ===== BEGIN words of one list among another's, by their places ===== -/
theorem goodIn_r {big : List Cond} (ws : List Cond) (ps : List Nat) (hp : ws = ps.filterMap (fun i => big[i]?)) (h : ws.all goodWord = true) : GoodIn big ws := by
  intro w hw
  have h1 := List.all_eq_true.mp h w hw
  rw [hp] at hw
  obtain ⟨i, -, hi⟩ := List.mem_filterMap.mp hw
  have hm : w ∈ big := by first | exact List.mem_of_getElem? hi | exact List.getElem?_mem hi
  exact ⟨hm, good_of_word h1⟩
theorem goodIn_app {big a b : List Cond} (ha : GoodIn big a) (hb : GoodIn big b) : GoodIn big (a ++ b) := fun w h => (List.mem_append.mp h).elim (ha w) (hb w)
theorem goodIn_ca {big a b : List Cond} {c : Cond} (ha : GoodIn big (c :: a)) (hb : GoodIn big b) : GoodIn big (c :: (a ++ b)) := fun w h => (List.mem_cons.mp h).elim (fun e => ha w (List.mem_cons.mpr (Or.inl e))) (fun h => (List.mem_append.mp h).elim (fun h => ha w (List.mem_cons.mpr (Or.inr h))) (hb w))
theorem goodIn_sub {big ws : List Cond} (hm : ∀ w ∈ ws, w ∈ big) (h : ws.all goodWord = true) : GoodIn big ws := fun w hw => ⟨hm w hw, good_of_word (List.all_eq_true.mp h w hw)⟩
/-! ===== END ===== -/

/-! ===== BEGIN new T[n][m]: the outer array a place, the inner ones among the pooled ===== -/
/-- f, but v at every address of l -/
def vr_up {α : Type} (f : Nat → α) (l : List Nat) (v : α) : Nat → α := fun a => if a ∈ l then v else f a
theorem vr_up_in {α : Type} {f : Nat → α} {l : List Nat} {v : α} {a : Nat} (h : a ∈ l) : vr_up f l v a = v := if_pos h
theorem vr_up_ne {α : Type} {f : Nat → α} {l : List Nat} {v : α} {a : Nat} (h : a ∉ l) : vr_up f l v a = f a := if_neg h
theorem vr_rows {L l : List Nat} {f : Nat → va_E} {e : va_E} (h : ∀ a, a ∈ l → a ∉ L) : va_pl L f ++ l.map (fun a => (a, e)) = va_pl (L ++ l) (vr_up f l e) := by
  unfold va_pl
  rw [List.map_append]
  congr 1
  · apply List.map_congr_left
    intro a ha
    rw [vr_up_ne (fun q => h a q ha)]
  · apply List.map_congr_left
    intro a ha
    rw [vr_up_in ha]
theorem vr_lay {X rows : va_W} {x : Nat × va_E} {pl : va_W} {D : va_G} {cl : List vw_C} {H : Heap} (hP : va_P D cl (((X ++ pl) ++ [x]) ++ rows) H) : va_P D cl ((X ++ [x]) ++ (pl ++ rows)) H := by
  rw [List.append_assoc (X ++ pl)] at hP
  have h := va_P.swap hP
  rw [← List.append_assoc X] at h
  have h2 := va_P.swap h
  rw [List.append_assoc (X ++ [x])] at h2
  exact h2
theorem vr_layD {X rows : va_W} {x : Nat × va_E} {pl : va_W} {A : Nat → Prop} (hD : va_D A (((X ++ pl) ++ [x]) ++ rows)) : va_D A ((X ++ [x]) ++ (pl ++ rows)) := by
  rw [List.append_assoc (X ++ pl)] at hD
  have h := va_D.swap hD
  rw [← List.append_assoc X] at h
  have h2 := va_D.swap h
  rw [List.append_assoc (X ++ [x])] at h2
  exact h2
theorem vr_outer (c : ClassId) (N h0 : Nat) : ∀ i : Nat, Jvm.Free.Multi.outerC c N h0 i = arrV c N (fun j => va_rf (if j < i then some (h0 + 1 + j) else none))
  | 0 => by
    show ({ cls := c, slots := Array.replicate N .null, vm := .none } : Cell) = _
    rw [arrV_new]
    refine congrArg (arrV c N) (funext fun j => ?_)
    simp [va_rf]
  | i + 1 => by
    show (Jvm.Free.Multi.outerC c N h0 i).setSlot i (.ref (h0 + 1 + i)) = _
    rw [vr_outer c N h0 i, arrV_store]
    refine congrArg (arrV c N) (funext fun j => ?_)
    by_cases e : j = i
    · subst e
      simp [updV, va_rf]
    · by_cases h : j < i
      · simp [updV, e, h, Nat.lt_succ_of_lt h]
      · simp [updV, e, h, show ¬ j < i + 1 by omega]
def va_AOA (ty : FieldType) (U : State) : Prop := (Cond.arrayOver (.array ty)).before #[] U = true
theorem va_AOA.of {ty : FieldType} {A : Array Value} {U : State} (h : (Cond.arrayOver (.array ty)).before A U = true) : va_AOA ty U := h
theorem va_AOA.use {ty : FieldType} {A : Array Value} {U : State} (h : va_AOA ty U) : (Cond.arrayOver (.array ty)).before A U = true := h
section VGM
variable {p : Program} {l : Launch} {e : Env} {R : Room} {s : State} {m : MethodId} {args : Array Value} {below : List Frame} {meth : Method} {c : Code} {H : Heap} {locs : List Loc} {cells slots : Nat} {Q : State → Prop}
variable {cc : ByteArray} {pc : Nat} {ls : Array Slot} {rest : List Value} {D : va_G} {cl : List vw_C} {A : Nat → Prop} {a : Nat} {tys : List (ClassId × FieldType)} {ws : va_W} {H0 : Heap}
theorem va_mna {X : va_W} {L : List Nat} {f : Nat → va_E} {cc : ByteArray} (hexec : p.tables.exec = Jvm.exec) (hb : c.code = cc) {own : String} {index : Nat} {ty : FieldType} {cy : ClassId} (hown : s.vm.findClass own = some m.cls) (hclink : (Cond.classLink own index ("[" ++ (FieldType.array ty).toString)).before args s = true) (hover : va_AOA ty s) (harr : (Cond.arrayClass ty).before args s = true) (hcy : s.vm.findClass (FieldType.array ty).toString = some cy)
    (hK : va_K D cl tys s) (hP : va_P D cl (X ++ va_pl L f) H) (hD : va_D A (X ++ va_pl L f)) (hS : va_S A H0 H locs) (hA : ∀ q, H0.size ≤ q → A q) {n k : Int32} {N' K' : Nat} {z : vp_A} (hn : ¬ n < 0) (hk : ¬ k < 0) (hN : n.toNatClampNeg = N') (hM : k.toNatClampNeg = K')
    (hb1 : N' * 4 ≤ 536870912) (hb2 : K' * componentBytes ty ≤ 536870912) (hb3 : K' ≤ 536870912) (hdf : fits ty (defaultValue ty) = true) (hdd : (defaultValue ty).isDefault = true) (hcells : cells + (1 + N') ≤ R.cells) (hslots : slots + (N' + N' * K') ≤ R.slots) (hz : ∀ c : ClassId, Jvm.Free.Multi.innerC c K' (defaultValue ty) = vp_cell c z) (hdg : decode cc pc = .ok (.multianewarray index 2, 4))
    (kk : ∀ (q : Nat) (r : Nat → Nat) (cA : ClassId) (H1 : Heap), (∀ i j : Nat, i < N' → j < N' → r i = r j → i = j) → (∀ i : Nat, i < N' → r i ∉ L) → va_K D cl (tys ++ [(cA, .array ty)]) s →
      va_P D cl ((X ++ [(q, .inl (cA, N', .inr (.inr (.inr (.inr (fun i => if i < N' then some (r i) else none))))))]) ++ va_pl (L ++ (List.range N').map r) (vr_up f ((List.range N').map r) (.inl (cy, z)))) H1 → va_D A ((X ++ [(q, .inl (cA, N', .inr (.inr (.inr (.inr (fun i => if i < N' then some (r i) else none))))))]) ++ va_pl (L ++ (List.range N').map r) (vr_up f ((List.range N').map r) (.inl (cy, z)))) → va_S A H0 H1 locs →
      W p l e R s m args below meth c H1 locs (cells + 1 + N') (slots + N' + N' * K') Q (F0 m (pc + 4) ls (.ref q :: rest))) : W p l e R s m args below meth c H locs cells slots Q (F0 m pc ls (.int k :: .int n :: rest)) := by
  subst hN
  subst hM
  intro T hT Xs
  obtain ⟨vm₁, cA, comp, -, fA, fC, hO, -, X', step⟩ := Xs.multianewarray2F hexec hown hclink (va_AOA.use hover) harr (g := F0 m pc ls (.int k :: .int n :: rest)) rfl (by rw [hb]; exact hdg) rfl hn hk hb1 hb2 hb3 hdf hdd hcells hslots
  have ec : some cy = some comp := hcy.symm.trans fC
  cases ec
  generalize hF : Jvm.Free.Multi.fill (T.setVm vm₁) cA cy n.toNatClampNeg k.toNatClampNeg (defaultValue ty) n.toNatClampNeg = F at X' step
  have hTh : (T.setVm vm₁).heap = H := hT
  obtain ⟨f1, f2, -, -⟩ := Jvm.Free.Multi.fill_facts (T.setVm vm₁) cA cy n.toNatClampNeg k.toNatClampNeg (defaultValue ty) n.toNatClampNeg
  rw [hF, hTh] at f1 f2
  have hold : ∀ x : Nat, x < H.size → F.heap[x]? = H[x]? := fun x hx => by
    have := Jvm.Free.Multi.fill_old (T.setVm vm₁) cA cy n.toNatClampNeg k.toNatClampNeg (defaultValue ty) (a := x) (by rw [hTh]; exact hx) n.toNatClampNeg
    rw [hF, hTh] at this
    exact this
  have hrow : ∀ j : Nat, j < n.toNatClampNeg → F.heap[H.size + 1 + j]? = some (vp_cell cy z) := fun j hj => by
    have := Jvm.Free.Multi.fill_inner (T.setVm vm₁) cA cy n.toNatClampNeg k.toNatClampNeg (defaultValue ty) n.toNatClampNeg j hj
    rw [hF, hTh, hz] at this
    exact this
  have hout : Jvm.Free.Multi.outerC cA n.toNatClampNeg H.size n.toNatClampNeg = vp_cell cA (n.toNatClampNeg, .inr (.inr (.inr (.inr (fun i => if i < n.toNatClampNeg then some (H.size + 1 + i) else none))))) := by
    rw [vp_cell_q]
    exact vr_outer cA n.toNatClampNeg H.size n.toNatClampNeg
  rw [hout] at f2
  have hlt : ∀ a, a ∈ L → a < H.size := fun a ha => by
    obtain ⟨k9, hk9⟩ := va_pl_get (X := X) (f := f) ha
    exact (hP k9 _ hk9).lt
  have hnl : ∀ i : Nat, i < n.toNatClampNeg → H.size + 1 + i ∉ L := fun i _ h => by
    have := hlt _ h
    omega
  have hnm : ∀ a, a ∈ (List.range n.toNatClampNeg).map (fun i => H.size + 1 + i) → a ∉ L := fun a ha h => by
    obtain ⟨i, -, rfl⟩ := List.mem_map.mp ha
    have := hlt _ h
    omega
  have hP0 : va_P D cl (X ++ va_pl L f) F.heap := hP.kept (fun k9 x hx => hold x.1 ((hP k9 x hx).lt))
  have hP1 : va_P D cl ((X ++ va_pl L f) ++ [(H.size, .inl (cA, n.toNatClampNeg, .inr (.inr (.inr (.inr (fun i => if i < n.toNatClampNeg then some (H.size + 1 + i) else none))))))]) F.heap := hP0.app (fun k9 x hx => by
    have h0 : k9 < 1 := (List.getElem?_eq_some_iff.mp hx).1
    rw [show k9 = 0 by omega] at hx
    cases hx
    exact f2)
  have hP2 : va_P D cl (((X ++ va_pl L f) ++ [(H.size, .inl (cA, n.toNatClampNeg, .inr (.inr (.inr (.inr (fun i => if i < n.toNatClampNeg then some (H.size + 1 + i) else none))))))]) ++ ((List.range n.toNatClampNeg).map (fun i => H.size + 1 + i)).map (fun a => (a, .inl (cy, z)))) F.heap := hP1.app (fun k9 x hx => by
    obtain ⟨a, ha, rfl⟩ := List.mem_map.mp (List.mem_of_getElem? hx)
    obtain ⟨i, hi, rfl⟩ := List.mem_map.mp ha
    exact hrow i (List.mem_range.mp hi))
  have hD2 : va_D A (((X ++ va_pl L f) ++ [(H.size, .inl (cA, n.toNatClampNeg, .inr (.inr (.inr (.inr (fun i => if i < n.toNatClampNeg then some (H.size + 1 + i) else none))))))]) ++ ((List.range n.toNatClampNeg).map (fun i => H.size + 1 + i)).map (fun a => (a, .inl (cy, z)))) := by
    have hD1 := hD.push (e := .inl (cA, n.toNatClampNeg, .inr (.inr (.inr (.inr (fun i => if i < n.toNatClampNeg then some (H.size + 1 + i) else none)))))) hP rfl (hA _ hS.1)
    generalize hW1 : (X ++ va_pl L f) ++ [(H.size, .inl (cA, n.toNatClampNeg, .inr (.inr (.inr (.inr (fun i => if i < n.toNatClampNeg then some (H.size + 1 + i) else none))))))] = W1 at hD1 hP1 ⊢
    have hle : ∀ (k9 : Nat) (x : Nat × va_E), W1[k9]? = some x → x.1 ≤ H.size := fun k9 x hx => by
      rw [← hW1] at hx
      by_cases hl : k9 < (X ++ va_pl L f).length
      · rw [List.getElem?_append_left hl] at hx
        exact Nat.le_of_lt ((hP k9 x hx).lt)
      · rw [List.getElem?_append_right (by omega)] at hx
        have h0 : k9 - (X ++ va_pl L f).length < 1 := (List.getElem?_eq_some_iff.mp hx).1
        rw [show k9 - (X ++ va_pl L f).length = 0 by omega] at hx
        cases hx
        exact Nat.le_refl _
    have hr : ∀ (k9 : Nat) (x : Nat × va_E), (((List.range n.toNatClampNeg).map (fun i => H.size + 1 + i)).map (fun a => ((a, .inl (cy, z)) : Nat × va_E)))[k9]? = some x → x.1 = H.size + 1 + k9 := fun k9 x hx => by
      rw [List.getElem?_map, List.getElem?_map] at hx
      by_cases h9 : k9 < n.toNatClampNeg
      · rw [List.getElem?_range h9] at hx
        cases hx
        rfl
      · have hn0 : (List.range n.toNatClampNeg)[k9]? = none := List.getElem?_eq_none (by rw [List.length_range]; omega)
        rw [hn0] at hx
        cases hx
    refine ⟨fun i j x y hi hj hxy => ?_, fun k9 x hx => ?_⟩
    · by_cases h1 : i < W1.length <;> by_cases h2 : j < W1.length
      · rw [List.getElem?_append_left h1] at hi
        rw [List.getElem?_append_left h2] at hj
        exact hD1.1 i j x y hi hj hxy
      · rw [List.getElem?_append_left h1] at hi
        rw [List.getElem?_append_right (by omega)] at hj
        have := hle _ _ hi
        have := hr _ _ hj
        omega
      · rw [List.getElem?_append_right (by omega)] at hi
        rw [List.getElem?_append_left h2] at hj
        have := hle _ _ hj
        have := hr _ _ hi
        omega
      · rw [List.getElem?_append_right (by omega)] at hi hj
        have := hr _ _ hi
        have := hr _ _ hj
        omega
    · by_cases h1 : k9 < W1.length
      · rw [List.getElem?_append_left h1] at hx
        exact hD1.2 k9 x hx
      · rw [List.getElem?_append_right (by omega)] at hx
        have := hr _ _ hx
        exact hA _ (by have := hS.1; omega)
  have hAr : ArrOfT s cA (.array ty) := fun N9 z9 => by
    obtain ⟨-, k9, hk9, cm9, hkk9⟩ := (hO 0 0 0).1
    exact ⟨(fun q hq => by cases hq), k9, hk9, cm9, hkk9⟩
  have hK2 : va_K D cl (tys ++ [(cA, .array ty)]) s := ⟨hK.1, fun k9 x hx => by
    by_cases hl : k9 < tys.length
    · rw [List.getElem?_append_left hl] at hx
      exact hK.2 k9 x hx
    · rw [List.getElem?_append_right (by omega)] at hx
      have h0 : k9 - tys.length < 1 := (List.getElem?_eq_some_iff.mp hx).1
      rw [show k9 - tys.length = 0 by omega] at hx
      cases hx
      exact ⟨hAr, fA⟩⟩
  obtain ⟨t, a1, b1⟩ := kk H.size (fun i => H.size + 1 + i) cA F.heap (fun i j _ _ h => by have h9 : H.size + 1 + i = H.size + 1 + j := h; omega) hnl hK2 (by rw [← vr_rows hnm]; exact vr_lay hP2) (by rw [← vr_rows hnm]; exact vr_layD hD2) ⟨by rw [f1]; have := hS.1; omega, fun x h1 h2 => (hold x (Nat.lt_of_lt_of_le h1 hS.1)).trans (hS.2.1 x h1 h2), hS.2.2⟩ F rfl X'
  refine ⟨t, step t ?_, b1⟩
  have e : T.heap.size = H.size := by rw [hT]
  rw [e]
  exact a1
end VGM
/-! ===== END ===== -/

/-! ===== BEGIN printed: names, fields, word lists, decode rows ===== -/
def RX0 : String := "HushTables$Acts"
def TX0 : u_T := fun k => match k with
  | 0 => ("HushTables$Acts", "bodies", "[I", true)
  | 1 => ("HushTables$Acts", "count", "I", false)
  | 2 => ("HushTables$Acts", "broken", "Z", false)
  | 3 => ("HushTables$Acts", "own", "I", false)
  | 4 => ("HushTables$Acts", "n", "I", false)
  | _ => ("HushTables$Acts", "a", "I", false)
def tyX0 : Nat → FieldType := fun k => match k with
  | 0 => .array .int
  | 1 => .int
  | 2 => .boolean
  | 3 => .int
  | 4 => .int
  | _ => .int
abbrev wsX00 : List Cond := u_ws RX0 TX0 6
theorem nmX0 : ∀ a, a < 6 → ∀ b, b < 6 → a ≠ b → (TX0 a).2.1 ≠ (TX0 b).2.1 := by decide +kernel
theorem tyX0_ok : ∀ k, k < 6 → parseFieldDescriptor (TX0 k).2.2.1 = some (tyX0 k) := by decide +kernel
abbrev cX0_init : ByteArray := prog_2_method_1_code
def yX0_init : MethodName := ⟨RX0, "<init>", "()V"⟩
abbrev cX0_forget : ByteArray := prog_2_method_2_code
def yX0_forget : MethodName := ⟨RX0, "forget", "()V"⟩
abbrev cX0_perform : ByteArray := prog_2_method_3_code
def yX0_perform : MethodName := ⟨RX0, "perform", "(LHushTables$Works;III)I"⟩
abbrev cX0_begin : ByteArray := prog_2_method_4_code
def yX0_begin : MethodName := ⟨RX0, "begin", "(I)V"⟩
abbrev cX0_parts : ByteArray := prog_2_method_5_code
def yX0_parts : MethodName := ⟨RX0, "parts", "(II)I"⟩
abbrev cX0_costs : ByteArray := prog_2_method_6_code
def yX0_costs : MethodName := ⟨RX0, "costs", "(II)I"⟩
abbrev cX0_shares : ByteArray := prog_2_method_7_code
def yX0_shares : MethodName := ⟨RX0, "shares", "(II)I"⟩
abbrev cX0_shareOut : ByteArray := prog_2_method_8_code
def yX0_shareOut : MethodName := ⟨RX0, "shareOut", "(I)I"⟩
abbrev cX0_tells : ByteArray := prog_2_method_9_code
def yX0_tells : MethodName := ⟨RX0, "tells", "(II)I"⟩
def RX1 : String := "HushTables$Days"
def TX1 : u_T := fun k => match k with
  | 0 => ("HushTables$Days", "behind", "[I", true)
  | _ => ("HushTables$Days", "reached", "[I", true)
def tyX1 : Nat → FieldType := fun k => match k with
  | 0 => .array .int
  | _ => .array .int
abbrev wsX10 : List Cond := u_ws RX1 TX1 2
theorem nmX1 : ∀ a, a < 2 → ∀ b, b < 2 → a ≠ b → (TX1 a).2.1 ≠ (TX1 b).2.1 := by decide +kernel
theorem tyX1_ok : ∀ k, k < 2 → parseFieldDescriptor (TX1 k).2.2.1 = some (tyX1 k) := by decide +kernel
abbrev cX1_init : ByteArray := prog_3_method_1_code
def yX1_init : MethodName := ⟨RX1, "<init>", "()V"⟩
abbrev cX1_follow : ByteArray := prog_3_method_2_code
def yX1_follow : MethodName := ⟨RX1, "follow", "(LHushTables$Works;I)V"⟩
abbrev cX1_isAtEdge : ByteArray := prog_3_method_3_code
def yX1_isAtEdge : MethodName := ⟨RX1, "isAtEdge", "(LHushTables$Works;II)Z"⟩
abbrev cX1_spread : ByteArray := prog_3_method_4_code
def yX1_spread : MethodName := ⟨RX1, "spread", "(LHushTables$Works;II)I"⟩
abbrev cX1_knowingBehind : ByteArray := prog_3_method_5_code
def yX1_knowingBehind : MethodName := ⟨RX1, "knowingBehind", "(I)I"⟩
abbrev cX1_fillReached : ByteArray := prog_3_method_6_code
def yX1_fillReached : MethodName := ⟨RX1, "fillReached", "(LHushTables$Works;I)V"⟩
abbrev cX1_reachedBy : ByteArray := prog_3_method_7_code
def yX1_reachedBy : MethodName := ⟨RX1, "reachedBy", "(I)I"⟩
abbrev cX1_chanceDay : ByteArray := prog_3_method_8_code
def yX1_chanceDay : MethodName := ⟨RX1, "chanceDay", "(LHushTables$Works;II)I"⟩
def RX2 : String := "HushTables$Host"
def TX2 : u_T := fun k => match k with
  | 0 => ("HushTables$Host", "sort", "[I", true)
  | 1 => ("HushTables$Host", "size", "[I", true)
  | 2 => ("HushTables$Host", "items", "[[I", true)
  | 3 => ("HushTables$Host", "holds", "[I", true)
  | 4 => ("HushTables$Host", "heldNumber", "[I", true)
  | _ => ("HushTables$Host", "heldSort", "[I", true)
def tyX2 : Nat → FieldType := fun k => match k with
  | 0 => .array .int
  | 1 => .array .int
  | 2 => .array (.array .int)
  | 3 => .array .int
  | 4 => .array .int
  | _ => .array .int
abbrev wsX20 : List Cond := u_ws RX2 TX2 6
theorem nmX2 : ∀ a, a < 6 → ∀ b, b < 6 → a ≠ b → (TX2 a).2.1 ≠ (TX2 b).2.1 := by decide +kernel
theorem tyX2_ok : ∀ k, k < 6 → parseFieldDescriptor (TX2 k).2.2.1 = some (tyX2 k) := by decide +kernel
abbrev cX2_init : ByteArray := prog_4_method_1_code
def yX2_init : MethodName := ⟨RX2, "<init>", "()V"⟩
abbrev cX2_hasPlace : ByteArray := prog_4_method_2_code
def yX2_hasPlace : MethodName := ⟨RX2, "hasPlace", "(I)Z"⟩
abbrev cX2_renew : ByteArray := prog_4_method_3_code
def yX2_renew : MethodName := ⟨RX2, "renew", "(III)V"⟩
abbrev cX2_refusalOf : ByteArray := prog_4_method_4_code
def yX2_refusalOf : MethodName := ⟨RX2, "refusalOf", "(II)I"⟩
abbrev cX2_narrowed : ByteArray := prog_4_method_5_code
def yX2_narrowed : MethodName := ⟨RX2, "narrowed", "(II)I"⟩
abbrev cX2_holdCut : ByteArray := prog_4_method_6_code
def yX2_holdCut : MethodName := ⟨RX2, "holdCut", "(II)V"⟩
abbrev cX2_holdRow : ByteArray := prog_4_method_7_code
def yX2_holdRow : MethodName := ⟨RX2, "holdRow", "(II)V"⟩
abbrev cX2_holdNothing : ByteArray := prog_4_method_8_code
def yX2_holdNothing : MethodName := ⟨RX2, "holdNothing", "(I)V"⟩
abbrev cX2_isRow : ByteArray := prog_4_method_9_code
def yX2_isRow : MethodName := ⟨RX2, "isRow", "(I)Z"⟩
abbrev cX2_cutOn : ByteArray := prog_4_method_10_code
def yX2_cutOn : MethodName := ⟨RX2, "cutOn", "(I)I"⟩
def RX3 : String := "HushTables$Net"
def TX3 : u_T := fun k => match k with
  | _ => ("HushTables$Net", "near", "[I", true)
def tyX3 : Nat → FieldType := fun k => match k with
  | _ => .array .int
abbrev wsX30 : List Cond := u_ws RX3 TX3 1
theorem nmX3 : ∀ a, a < 1 → ∀ b, b < 1 → a ≠ b → (TX3 a).2.1 ≠ (TX3 b).2.1 := by decide +kernel
theorem tyX3_ok : ∀ k, k < 1 → parseFieldDescriptor (TX3 k).2.2.1 = some (tyX3 k) := by decide +kernel
abbrev cX3_init : ByteArray := prog_5_method_1_code
def yX3_init : MethodName := ⟨RX3, "<init>", "()V"⟩
abbrev cX3_lay : ByteArray := prog_5_method_2_code
def yX3_lay : MethodName := ⟨RX3, "lay", "(LHushTables$Works;I)V"⟩
abbrev cX3_flood : ByteArray := prog_5_method_3_code
def yX3_flood : MethodName := ⟨RX3, "flood", "(II)I"⟩
abbrev cX3_around : ByteArray := prog_5_method_4_code
def yX3_around : MethodName := ⟨RX3, "around", "(I)I"⟩
abbrev cX3_isThreatened : ByteArray := prog_5_method_5_code
def yX3_isThreatened : MethodName := ⟨RX3, "isThreatened", "(II)Z"⟩
abbrev cX3_howManySets : ByteArray := prog_5_method_6_code
def yX3_howManySets : MethodName := ⟨RX3, "howManySets", "(I)I"⟩
abbrev cX3_greatestSet : ByteArray := prog_5_method_7_code
def yX3_greatestSet : MethodName := ⟨RX3, "greatestSet", "(I)I"⟩
def RX4 : String := "HushTables$Parting"
def TX4 : u_T := fun k => match k with
  | 0 => ("HushTables$Parting", "setOf", "[I", true)
  | _ => ("HushTables$Parting", "crowd", "I", false)
def tyX4 : Nat → FieldType := fun k => match k with
  | 0 => .array .int
  | _ => .int
abbrev wsX40 : List Cond := u_ws RX4 TX4 2
theorem nmX4 : ∀ a, a < 2 → ∀ b, b < 2 → a ≠ b → (TX4 a).2.1 ≠ (TX4 b).2.1 := by decide +kernel
theorem tyX4_ok : ∀ k, k < 2 → parseFieldDescriptor (TX4 k).2.2.1 = some (tyX4 k) := by decide +kernel
abbrev cX4_init : ByteArray := prog_6_method_1_code
def yX4_init : MethodName := ⟨RX4, "<init>", "()V"⟩
abbrev cX4_begin : ByteArray := prog_6_method_2_code
def yX4_begin : MethodName := ⟨RX4, "begin", "(I)Z"⟩
abbrev cX4_halve : ByteArray := prog_6_method_3_code
def yX4_halve : MethodName := ⟨RX4, "halve", "(I)V"⟩
abbrev cX4_advance : ByteArray := prog_6_method_4_code
def yX4_advance : MethodName := ⟨RX4, "advance", "()Z"⟩
abbrev cX4_unusedBefore : ByteArray := prog_6_method_5_code
def yX4_unusedBefore : MethodName := ⟨RX4, "unusedBefore", "(I)I"⟩
abbrev cX4_holds : ByteArray := prog_6_method_6_code
def yX4_holds : MethodName := ⟨RX4, "holds", "(I)Z"⟩
abbrev cX4_isWithin : ByteArray := prog_6_method_7_code
def yX4_isWithin : MethodName := ⟨RX4, "isWithin", "(LHushTables$Works;I)Z"⟩
abbrev cX4_cost : ByteArray := prog_6_method_8_code
def yX4_cost : MethodName := ⟨RX4, "cost", "(LHushTables$Works;I)I"⟩
abbrev cX4_worthWithin : ByteArray := prog_6_method_9_code
def yX4_worthWithin : MethodName := ⟨RX4, "worthWithin", "(LHushTables$Works;)I"⟩
def RX5 : String := "HushTables$Rows"
def TX5 : u_T := fun k => match k with
  | 0 => ("HushTables$Rows", "cell", "[[I", true)
  | _ => ("HushTables$Rows", "count", "I", false)
def tyX5 : Nat → FieldType := fun k => match k with
  | 0 => .array (.array .int)
  | _ => .int
abbrev wsX50 : List Cond := u_ws RX5 TX5 2
theorem nmX5 : ∀ a, a < 2 → ∀ b, b < 2 → a ≠ b → (TX5 a).2.1 ≠ (TX5 b).2.1 := by decide +kernel
theorem tyX5_ok : ∀ k, k < 2 → parseFieldDescriptor (TX5 k).2.2.1 = some (tyX5 k) := by decide +kernel
abbrev cX5_init : ByteArray := prog_7_method_1_code
def yX5_init : MethodName := ⟨RX5, "<init>", "()V"⟩
abbrev cX5_has : ByteArray := prog_7_method_2_code
def yX5_has : MethodName := ⟨RX5, "has", "(II)Z"⟩
abbrev cX5_tellHow : ByteArray := prog_7_method_3_code
def yX5_tellHow : MethodName := ⟨RX5, "tellHow", "(LHushTables$Works;LHushTables$Days;I)V"⟩
abbrev cX5_leastTeller : ByteArray := prog_7_method_4_code
def yX5_leastTeller : MethodName := ⟨RX5, "leastTeller", "(LHushTables$Works;III)I"⟩
abbrev cX5_isTold : ByteArray := prog_7_method_5_code
def yX5_isTold : MethodName := ⟨RX5, "isTold", "(LHushTables$Works;III)Z"⟩
abbrev cX5_verdict : ByteArray := prog_7_method_6_code
def yX5_verdict : MethodName := ⟨RX5, "verdict", "(LHushTables$Works;II)I"⟩
def RX6 : String := "HushTables$Tale"
def TX6 : u_T := fun k => match k with
  | 0 => ("HushTables$Tale", "unsure", "[I", true)
  | 1 => ("HushTables$Tale", "howMany", "I", false)
  | _ => ("HushTables$Tale", "sure", "I", false)
def tyX6 : Nat → FieldType := fun k => match k with
  | 0 => .array .int
  | 1 => .int
  | _ => .int
abbrev wsX60 : List Cond := u_ws RX6 TX6 3
theorem nmX6 : ∀ a, a < 3 → ∀ b, b < 3 → a ≠ b → (TX6 a).2.1 ≠ (TX6 b).2.1 := by decide +kernel
theorem tyX6_ok : ∀ k, k < 3 → parseFieldDescriptor (TX6 k).2.2.1 = some (tyX6 k) := by decide +kernel
abbrev cX6_init : ByteArray := prog_8_method_1_code
def yX6_init : MethodName := ⟨RX6, "<init>", "()V"⟩
abbrev cX6_gather : ByteArray := prog_8_method_2_code
def yX6_gather : MethodName := ⟨RX6, "gather", "(LHushTables$Works;)V"⟩
abbrev cX6_allOdds : ByteArray := prog_8_method_3_code
def yX6_allOdds : MethodName := ⟨RX6, "allOdds", "(LHushTables$Works;)J"⟩
abbrev cX6_layWay : ByteArray := prog_8_method_4_code
def yX6_layWay : MethodName := ⟨RX6, "layWay", "(LHushTables$Works;LHushTables$Net;I)I"⟩
abbrev cX6_oddsToKnow : ByteArray := prog_8_method_5_code
def yX6_oddsToKnow : MethodName := ⟨RX6, "oddsToKnow", "(LHushTables$Works;LHushTables$Net;I)J"⟩
abbrev cX6_meanKnowing : ByteArray := prog_8_method_6_code
def yX6_meanKnowing : MethodName := ⟨RX6, "meanKnowing", "(LHushTables$Works;LHushTables$Net;)J"⟩
abbrev cX6_oddsShown : ByteArray := prog_8_method_7_code
def yX6_oddsShown : MethodName := ⟨RX6, "oddsShown", "(LHushTables$Works;LHushTables$Net;I)J"⟩
def RX7 : String := "HushTables$Tape"
def TX7 : u_T := fun k => match k with
  | 0 => ("HushTables$Tape", "bytes", "[B", true)
  | 1 => ("HushTables$Tape", "length", "I", false)
  | 2 => ("HushTables$Tape", "start", "I", false)
  | 3 => ("HushTables$Tape", "at", "I", false)
  | 4 => ("HushTables$Tape", "sort", "I", false)
  | _ => ("HushTables$Tape", "value", "I", false)
def tyX7 : Nat → FieldType := fun k => match k with
  | 0 => .array .byte
  | 1 => .int
  | 2 => .int
  | 3 => .int
  | 4 => .int
  | _ => .int
abbrev wsX70 : List Cond := u_ws RX7 TX7 6
theorem nmX7 : ∀ a, a < 6 → ∀ b, b < 6 → a ≠ b → (TX7 a).2.1 ≠ (TX7 b).2.1 := by decide +kernel
theorem tyX7_ok : ∀ k, k < 6 → parseFieldDescriptor (TX7 k).2.2.1 = some (tyX7 k) := by decide +kernel
abbrev cX7_init : ByteArray := prog_9_method_1_code
def yX7_init : MethodName := ⟨RX7, "<init>", "()V"⟩
abbrev cX7_take : ByteArray := prog_9_method_2_code
def yX7_take : MethodName := ⟨RX7, "take", "(JI)Z"⟩
abbrev cX7_isReadInto : ByteArray := prog_9_method_3_code
def yX7_isReadInto : MethodName := ⟨RX7, "isReadInto", "(LHushTables$Works;)Z"⟩
abbrev cX7_isTiePiece : ByteArray := prog_9_method_4_code
def yX7_isTiePiece : MethodName := ⟨RX7, "isTiePiece", "(LHushTables$Works;)Z"⟩
abbrev cX7_extraNamed : ByteArray := prog_9_method_5_code
def yX7_extraNamed : MethodName := ⟨RX7, "extraNamed", "()I"⟩
abbrev cX7_readExtra : ByteArray := prog_9_method_6_code
def yX7_readExtra : MethodName := ⟨RX7, "readExtra", "(LHushTables$Works;II)I"⟩
abbrev cX7_isFirstPiece : ByteArray := prog_9_method_7_code
def yX7_isFirstPiece : MethodName := ⟨RX7, "isFirstPiece", "(LHushTables$Works;)Z"⟩
abbrev cX7_isSeatPiece : ByteArray := prog_9_method_8_code
def yX7_isSeatPiece : MethodName := ⟨RX7, "isSeatPiece", "(LHushTables$Works;)Z"⟩
abbrev cX7_isLatePiece : ByteArray := prog_9_method_9_code
def yX7_isLatePiece : MethodName := ⟨RX7, "isLatePiece", "(LHushTables$Works;)Z"⟩
abbrev cX7_stepNumber : ByteArray := prog_9_method_10_code
def yX7_stepNumber : MethodName := ⟨RX7, "stepNumber", "(II)Z"⟩
abbrev cX7_stepStop : ByteArray := prog_9_method_11_code
def yX7_stepStop : MethodName := ⟨RX7, "stepStop", "()Z"⟩
abbrev cX7_step : ByteArray := prog_9_method_12_code
def yX7_step : MethodName := ⟨RX7, "step", "()V"⟩
abbrev cX7_readNumber : ByteArray := prog_9_method_13_code
def yX7_readNumber : MethodName := ⟨RX7, "readNumber", "()V"⟩
abbrev cX7_isWord : ByteArray := prog_9_method_14_code
def yX7_isWord : MethodName := ⟨RX7, "isWord", "(Ljava/lang/String;)Z"⟩
abbrev cX7_sortOf : ByteArray := prog_9_method_15_code
def yX7_sortOf : MethodName := ⟨RX7, "sortOf", "(B)I"⟩
def RX8 : String := "HushTables$Works"
def TX8 : u_T := fun k => match k with
  | 0 => ("HushTables$Works", "crowd", "I", false)
  | 1 => ("HushTables$Works", "weight", "[I", true)
  | 2 => ("HushTables$Works", "shown", "[I", true)
  | 3 => ("HushTables$Works", "tieCount", "I", false)
  | 4 => ("HushTables$Works", "low", "[I", true)
  | 5 => ("HushTables$Works", "high", "[I", true)
  | 6 => ("HushTables$Works", "worth", "[I", true)
  | 7 => ("HushTables$Works", "odds", "[I", true)
  | 8 => ("HushTables$Works", "must", "[Z", true)
  | 9 => ("HushTables$Works", "cutCount", "I", false)
  | 10 => ("HushTables$Works", "cutKind", "[I", true)
  | 11 => ("HushTables$Works", "cutA", "[I", true)
  | 12 => ("HushTables$Works", "cutB", "[I", true)
  | _ => ("HushTables$Works", "z", "I", false)
def tyX8 : Nat → FieldType := fun k => match k with
  | 0 => .int
  | 1 => .array .int
  | 2 => .array .int
  | 3 => .int
  | 4 => .array .int
  | 5 => .array .int
  | 6 => .array .int
  | 7 => .array .int
  | 8 => .array .boolean
  | 9 => .int
  | 10 => .array .int
  | 11 => .array .int
  | 12 => .array .int
  | _ => .int
abbrev wsX80 : List Cond := u_ws RX8 TX8 14
theorem nmX8 : ∀ a, a < 14 → ∀ b, b < 14 → a ≠ b → (TX8 a).2.1 ≠ (TX8 b).2.1 := by decide +kernel
theorem tyX8_ok : ∀ k, k < 14 → parseFieldDescriptor (TX8 k).2.2.1 = some (tyX8 k) := by decide +kernel
abbrev cX8_init : ByteArray := prog_10_method_1_code
def yX8_init : MethodName := ⟨RX8, "<init>", "()V"⟩
abbrev cX8_startWith : ByteArray := prog_10_method_2_code
def yX8_startWith : MethodName := ⟨RX8, "startWith", "(I)V"⟩
abbrev cX8_become : ByteArray := prog_10_method_3_code
def yX8_become : MethodName := ⟨RX8, "become", "(LHushTables$Works;)V"⟩
abbrev cX8_hasPerson : ByteArray := prog_10_method_4_code
def yX8_hasPerson : MethodName := ⟨RX8, "hasPerson", "(I)Z"⟩
abbrev cX8_hasTie : ByteArray := prog_10_method_5_code
def yX8_hasTie : MethodName := ⟨RX8, "hasTie", "(I)Z"⟩
abbrev cX8_hasCut : ByteArray := prog_10_method_6_code
def yX8_hasCut : MethodName := ⟨RX8, "hasCut", "(I)Z"⟩
abbrev cX8_hasSet : ByteArray := prog_10_method_7_code
def yX8_hasSet : MethodName := ⟨RX8, "hasSet", "(I)Z"⟩
abbrev cX8_everybody : ByteArray := prog_10_method_8_code
def yX8_everybody : MethodName := ⟨RX8, "everybody", "()I"⟩
abbrev cX8_weightOf : ByteArray := prog_10_method_9_code
def yX8_weightOf : MethodName := ⟨RX8, "weightOf", "(I)I"⟩
abbrev cX8_howManyShow : ByteArray := prog_10_method_10_code
def yX8_howManyShow : MethodName := ⟨RX8, "howManyShow", "()I"⟩
abbrev cX8_isAsShown : ByteArray := prog_10_method_11_code
def yX8_isAsShown : MethodName := ⟨RX8, "isAsShown", "(I)Z"⟩
abbrev cX8_tieBetween : ByteArray := prog_10_method_12_code
def yX8_tieBetween : MethodName := ⟨RX8, "tieBetween", "(II)I"⟩
abbrev cX8_addTie : ByteArray := prog_10_method_13_code
def yX8_addTie : MethodName := ⟨RX8, "addTie", "(II)I"⟩
abbrev cX8_addCut : ByteArray := prog_10_method_14_code
def yX8_addCut : MethodName := ⟨RX8, "addCut", "(III)I"⟩
abbrev cX8_bothOf : ByteArray := prog_10_method_15_code
def yX8_bothOf : MethodName := ⟨RX8, "bothOf", "(I)I"⟩
abbrev cX8_isOpen : ByteArray := prog_10_method_16_code
def yX8_isOpen : MethodName := ⟨RX8, "isOpen", "(II)Z"⟩
abbrev cX8_isCutBy : ByteArray := prog_10_method_17_code
def yX8_isCutBy : MethodName := ⟨RX8, "isCutBy", "(III)Z"⟩
abbrev cX8_openTies : ByteArray := prog_10_method_18_code
def yX8_openTies : MethodName := ⟨RX8, "openTies", "(I)I"⟩
abbrev cX8_unsureTies : ByteArray := prog_10_method_19_code
def yX8_unsureTies : MethodName := ⟨RX8, "unsureTies", "()I"⟩
abbrev cX8_kindAbove : ByteArray := prog_10_method_20_code
def yX8_kindAbove : MethodName := ⟨RX8, "kindAbove", "(I)I"⟩
abbrev cX8_isUnder : ByteArray := prog_10_method_21_code
def yX8_isUnder : MethodName := ⟨RX8, "isUnder", "(II)Z"⟩
def RX9 : String := "HushTables"
def TX9 : u_T := fun k => match k with
  | 0 => ("HushTables", "now", "LHushTables$Works;", true)
  | 1 => ("HushTables", "draft", "LHushTables$Works;", true)
  | 2 => ("HushTables", "kept", "LHushTables$Works;", true)
  | 3 => ("HushTables", "anyKept", "Z", false)
  | 4 => ("HushTables", "tape", "LHushTables$Tape;", true)
  | 5 => ("HushTables", "net", "LHushTables$Net;", true)
  | 6 => ("HushTables", "tale", "LHushTables$Tale;", true)
  | 7 => ("HushTables", "parting", "LHushTables$Parting;", true)
  | 8 => ("HushTables", "calendar", "LHushTables$Days;", true)
  | 9 => ("HushTables", "rows", "LHushTables$Rows;", true)
  | 10 => ("HushTables", "host", "LHushTables$Host;", true)
  | _ => ("HushTables", "acts", "LHushTables$Acts;", true)
def tyX9 : Nat → FieldType := fun k => match k with
  | 0 => .object "HushTables$Works"
  | 1 => .object "HushTables$Works"
  | 2 => .object "HushTables$Works"
  | 3 => .boolean
  | 4 => .object "HushTables$Tape"
  | 5 => .object "HushTables$Net"
  | 6 => .object "HushTables$Tale"
  | 7 => .object "HushTables$Parting"
  | 8 => .object "HushTables$Days"
  | 9 => .object "HushTables$Rows"
  | 10 => .object "HushTables$Host"
  | _ => .object "HushTables$Acts"
abbrev wsX90 : List Cond := u_ws RX9 TX9 12
theorem nmX9 : ∀ a, a < 12 → ∀ b, b < 12 → a ≠ b → (TX9 a).2.1 ≠ (TX9 b).2.1 := by decide +kernel
theorem tyX9_ok : ∀ k, k < 12 → parseFieldDescriptor (TX9 k).2.2.1 = some (tyX9 k) := by decide +kernel
abbrev cX9_init : ByteArray := prog_1_method_1_code
def yX9_init : MethodName := ⟨RX9, "<init>", "()V"⟩
abbrev cX9_feed : ByteArray := prog_1_method_2_code
def yX9_feed : MethodName := ⟨RX9, "feed", "(JI)I"⟩
abbrev cX9_works : ByteArray := prog_1_method_3_code
def yX9_works : MethodName := ⟨RX9, "works", "()I"⟩
abbrev cX9_people : ByteArray := prog_1_method_4_code
def yX9_people : MethodName := ⟨RX9, "people", "(I)I"⟩
abbrev cX9_tie : ByteArray := prog_1_method_5_code
def yX9_tie : MethodName := ⟨RX9, "tie", "(IIIIZ)I"⟩
abbrev cX9_tieOf : ByteArray := prog_1_method_6_code
def yX9_tieOf : MethodName := ⟨RX9, "tieOf", "(II)I"⟩
abbrev cX9_first : ByteArray := prog_1_method_7_code
def yX9_first : MethodName := ⟨RX9, "first", "(II)I"⟩
abbrev cX9_cut : ByteArray := prog_1_method_8_code
def yX9_cut : MethodName := ⟨RX9, "cut", "(III)I"⟩
abbrev cX9_cutOf : ByteArray := prog_1_method_9_code
def yX9_cutOf : MethodName := ⟨RX9, "cutOf", "(II)I"⟩
abbrev cX9_uncut : ByteArray := prog_1_method_10_code
def yX9_uncut : MethodName := ⟨RX9, "uncut", "()I"⟩
abbrev cX9_open : ByteArray := prog_1_method_11_code
def yX9_open : MethodName := ⟨RX9, "open", "(II)I"⟩
abbrev cX9_joined : ByteArray := prog_1_method_12_code
def yX9_joined : MethodName := ⟨RX9, "joined", "(I)I"⟩
abbrev cX9_sets : ByteArray := prog_1_method_13_code
def yX9_sets : MethodName := ⟨RX9, "sets", "(I)I"⟩
abbrev cX9_chance : ByteArray := prog_1_method_14_code
def yX9_chance : MethodName := ⟨RX9, "chance", "(II)I"⟩
abbrev cX9_reach : ByteArray := prog_1_method_15_code
def yX9_reach : MethodName := ⟨RX9, "reach", "(I)J"⟩
abbrev cX9_seen : ByteArray := prog_1_method_16_code
def yX9_seen : MethodName := ⟨RX9, "seen", "(II)I"⟩
abbrev cX9_who : ByteArray := prog_1_method_17_code
def yX9_who : MethodName := ⟨RX9, "who", "(II)I"⟩
abbrev cX9_fewest : ByteArray := prog_1_method_18_code
def yX9_fewest : MethodName := ⟨RX9, "fewest", "(III)I"⟩
abbrev cX9_between : ByteArray := prog_1_method_19_code
def yX9_between : MethodName := ⟨RX9, "between", "(III)I"⟩
abbrev cX9_small : ByteArray := prog_1_method_20_code
def yX9_small : MethodName := ⟨RX9, "small", "(II)I"⟩
abbrev cX9_sit : ByteArray := prog_1_method_21_code
def yX9_sit : MethodName := ⟨RX9, "sit", "(II)I"⟩
abbrev cX9_early : ByteArray := prog_1_method_22_code
def yX9_early : MethodName := ⟨RX9, "early", "(II)I"⟩
abbrev cX9_could : ByteArray := prog_1_method_23_code
def yX9_could : MethodName := ⟨RX9, "could", "(II)I"⟩
abbrev cX9_seed : ByteArray := prog_1_method_24_code
def yX9_seed : MethodName := ⟨RX9, "seed", "(I)I"⟩
abbrev cX9_run : ByteArray := prog_1_method_25_code
def yX9_run : MethodName := ⟨RX9, "run", "(II)I"⟩
abbrev cX9_guards : ByteArray := prog_1_method_26_code
def yX9_guards : MethodName := ⟨RX9, "guards", "(II)I"⟩
abbrev cX9_prove : ByteArray := prog_1_method_27_code
def yX9_prove : MethodName := ⟨RX9, "prove", "(II)I"⟩
abbrev cX9_row : ByteArray := prog_1_method_28_code
def yX9_row : MethodName := ⟨RX9, "row", "(II)I"⟩
abbrev cX9_alterRow : ByteArray := prog_1_method_29_code
def yX9_alterRow : MethodName := ⟨RX9, "alterRow", "(III)I"⟩
abbrev cX9_judge : ByteArray := prog_1_method_30_code
def yX9_judge : MethodName := ⟨RX9, "judge", "(II)I"⟩
abbrev cX9_chair : ByteArray := prog_1_method_31_code
def yX9_chair : MethodName := ⟨RX9, "chair", "(I)I"⟩
abbrev cX9_meet : ByteArray := prog_1_method_32_code
def yX9_meet : MethodName := ⟨RX9, "meet", "(II)I"⟩
abbrev cX9_tell : ByteArray := prog_1_method_33_code
def yX9_tell : MethodName := ⟨RX9, "tell", "(II)I"⟩
abbrev cX9_best : ByteArray := prog_1_method_34_code
def yX9_best : MethodName := ⟨RX9, "best", "(II)I"⟩
abbrev cX9_sheet : ByteArray := prog_1_method_35_code
def yX9_sheet : MethodName := ⟨RX9, "sheet", "(III)I"⟩
abbrev cX9_put : ByteArray := prog_1_method_36_code
def yX9_put : MethodName := ⟨RX9, "put", "(III)I"⟩
abbrev cX9_item : ByteArray := prog_1_method_37_code
def yX9_item : MethodName := ⟨RX9, "item", "(III)I"⟩
abbrev cX9_shelf : ByteArray := prog_1_method_38_code
def yX9_shelf : MethodName := ⟨RX9, "shelf", "(III)I"⟩
abbrev cX9_taken : ByteArray := prog_1_method_39_code
def yX9_taken : MethodName := ⟨RX9, "taken", "(II)I"⟩
abbrev cX9_act : ByteArray := prog_1_method_40_code
def yX9_act : MethodName := ⟨RX9, "act", "(III)I"⟩
abbrev cX9_trace : ByteArray := prog_1_method_41_code
def yX9_trace : MethodName := ⟨RX9, "trace", "(I)I"⟩
abbrev cX9_many : ByteArray := prog_1_method_42_code
def yX9_many : MethodName := ⟨RX9, "many", "(I)I"⟩
abbrev cX9_keep : ByteArray := prog_1_method_43_code
def yX9_keep : MethodName := ⟨RX9, "keep", "()I"⟩
abbrev cX9_back : ByteArray := prog_1_method_44_code
def yX9_back : MethodName := ⟨RX9, "back", "()I"⟩
abbrev cX9_isEither : ByteArray := prog_1_method_45_code
def yX9_isEither : MethodName := ⟨RX9, "isEither", "(I)Z"⟩
abbrev cX9_isPair : ByteArray := prog_1_method_46_code
def yX9_isPair : MethodName := ⟨RX9, "isPair", "(II)Z"⟩
abbrev cX9_layOpenTies : ByteArray := prog_1_method_47_code
def yX9_layOpenTies : MethodName := ⟨RX9, "layOpenTies", "()V"⟩
abbrev cX9_countOrSet : ByteArray := prog_1_method_48_code
def yX9_countOrSet : MethodName := ⟨RX9, "countOrSet", "(II)I"⟩
abbrev cX9_taleRefusal : ByteArray := prog_1_method_49_code
def yX9_taleRefusal : MethodName := ⟨RX9, "taleRefusal", "()I"⟩
abbrev cX9_partOf : ByteArray := prog_1_method_50_code
def yX9_partOf : MethodName := ⟨RX9, "partOf", "(JJI)J"⟩
abbrev cX9_leastKnowing : ByteArray := prog_1_method_51_code
def yX9_leastKnowing : MethodName := ⟨RX9, "leastKnowing", "(III)I"⟩
abbrev cX9_knowingWithout : ByteArray := prog_1_method_52_code
def yX9_knowingWithout : MethodName := ⟨RX9, "knowingWithout", "(IIII)I"⟩
def RX10 : String := "HushTablesModel"
def TX10 : u_T := fun k => match k with
  | 0 => ("HushTablesModel", "people", "I", false)
  | 1 => ("HushTablesModel", "weight", "[I", true)
  | 2 => ("HushTablesModel", "ties", "I", false)
  | 3 => ("HushTablesModel", "tie", "[I", true)
  | 4 => ("HushTablesModel", "cuts", "I", false)
  | 5 => ("HushTablesModel", "cut", "[I", true)
  | 6 => ("HushTablesModel", "sight", "[I", true)
  | 7 => ("HushTablesModel", "z", "I", false)
  | 8 => ("HushTablesModel", "tape", "[I", true)
  | 9 => ("HushTablesModel", "tapeMany", "I", false)
  | 10 => ("HushTablesModel", "sort", "I", false)
  | 11 => ("HushTablesModel", "begins", "I", false)
  | 12 => ("HushTablesModel", "tokenEnds", "I", false)
  | 13 => ("HushTablesModel", "word", "J", false)
  | 14 => ("HushTablesModel", "value", "I", false)
  | 15 => ("HushTablesModel", "good", "Z", false)
  | 16 => ("HushTablesModel", "freshPeople", "I", false)
  | 17 => ("HushTablesModel", "freshTies", "I", false)
  | 18 => ("HushTablesModel", "freshCuts", "I", false)
  | 19 => ("HushTablesModel", "freshWeight", "[I", true)
  | 20 => ("HushTablesModel", "freshTie", "[I", true)
  | 21 => ("HushTablesModel", "freshCut", "[I", true)
  | 22 => ("HushTablesModel", "setMany", "I", false)
  | 23 => ("HushTablesModel", "knows", "[J", true)
  | 24 => ("HushTablesModel", "could", "[J", true)
  | 25 => ("HushTablesModel", "above", "J", false)
  | 26 => ("HushTablesModel", "below", "J", false)
  | 27 => ("HushTablesModel", "cutMany", "I", false)
  | 28 => ("HushTablesModel", "cutWorth", "I", false)
  | 29 => ("HushTablesModel", "cutsMust", "Z", false)
  | 30 => ("HushTablesModel", "inWhich", "[I", true)
  | 31 => ("HushTablesModel", "many", "[I", true)
  | 32 => ("HushTablesModel", "know", "[I", true)
  | 33 => ("HushTablesModel", "ending", "[I", true)
  | 34 => ("HushTablesModel", "next", "[I", true)
  | 35 => ("HushTablesModel", "rows", "[I", true)
  | 36 => ("HushTablesModel", "rowMany", "I", false)
  | 37 => ("HushTablesModel", "reached", "[I", true)
  | 38 => ("HushTablesModel", "sorts", "[I", true)
  | 39 => ("HushTablesModel", "sizes", "[I", true)
  | 40 => ("HushTablesModel", "sheets", "[J", true)
  | 41 => ("HushTablesModel", "held", "[I", true)
  | 42 => ("HushTablesModel", "heldNumber", "[I", true)
  | 43 => ("HushTablesModel", "heldSize", "[I", true)
  | 44 => ("HushTablesModel", "kind", "I", false)
  | 45 => ("HushTablesModel", "number", "I", false)
  | 46 => ("HushTablesModel", "own", "I", false)
  | 47 => ("HushTablesModel", "traced", "[I", true)
  | 48 => ("HushTablesModel", "bodies", "I", false)
  | 49 => ("HushTablesModel", "isParted", "Z", false)
  | 50 => ("HushTablesModel", "isKept", "Z", false)
  | 51 => ("HushTablesModel", "kept", "[I", true)
  | 52 => ("HushTablesModel", "movedTo", "I", false)
  | _ => ("HushTablesModel", "single", "[I", true)
def tyX10 : Nat → FieldType := fun k => match k with
  | 0 => .int
  | 1 => .array .int
  | 2 => .int
  | 3 => .array .int
  | 4 => .int
  | 5 => .array .int
  | 6 => .array .int
  | 7 => .int
  | 8 => .array .int
  | 9 => .int
  | 10 => .int
  | 11 => .int
  | 12 => .int
  | 13 => .long
  | 14 => .int
  | 15 => .boolean
  | 16 => .int
  | 17 => .int
  | 18 => .int
  | 19 => .array .int
  | 20 => .array .int
  | 21 => .array .int
  | 22 => .int
  | 23 => .array .long
  | 24 => .array .long
  | 25 => .long
  | 26 => .long
  | 27 => .int
  | 28 => .int
  | 29 => .boolean
  | 30 => .array .int
  | 31 => .array .int
  | 32 => .array .int
  | 33 => .array .int
  | 34 => .array .int
  | 35 => .array .int
  | 36 => .int
  | 37 => .array .int
  | 38 => .array .int
  | 39 => .array .int
  | 40 => .array .long
  | 41 => .array .int
  | 42 => .array .int
  | 43 => .array .int
  | 44 => .int
  | 45 => .int
  | 46 => .int
  | 47 => .array .int
  | 48 => .int
  | 49 => .boolean
  | 50 => .boolean
  | 51 => .array .int
  | 52 => .int
  | _ => .array .int
abbrev wsX100 : List Cond := u_ws RX10 TX10 54
theorem nmX10 : ∀ a, a < 54 → ∀ b, b < 54 → a ≠ b → (TX10 a).2.1 ≠ (TX10 b).2.1 := by decide +kernel
theorem tyX10_ok : ∀ k, k < 54 → parseFieldDescriptor (TX10 k).2.2.1 = some (tyX10 k) := by decide +kernel
abbrev cX10_init : ByteArray := prog_12_method_1_code
def yX10_init : MethodName := ⟨RX10, "<init>", "()V"⟩
abbrev cX10_in : ByteArray := prog_12_method_2_code
def yX10_in : MethodName := ⟨RX10, "in", "(III)Z"⟩
abbrev cX10_isPerson : ByteArray := prog_12_method_3_code
def yX10_isPerson : MethodName := ⟨RX10, "isPerson", "(I)Z"⟩
abbrev cX10_isTie : ByteArray := prog_12_method_4_code
def yX10_isTie : MethodName := ⟨RX10, "isTie", "(I)Z"⟩
abbrev cX10_areTwo : ByteArray := prog_12_method_5_code
def yX10_areTwo : MethodName := ⟨RX10, "areTwo", "(II)Z"⟩
abbrev cX10_isSide : ByteArray := prog_12_method_6_code
def yX10_isSide : MethodName := ⟨RX10, "isSide", "(I)Z"⟩
abbrev cX10_all : ByteArray := prog_12_method_7_code
def yX10_all : MethodName := ⟨RX10, "all", "()I"⟩
abbrev cX10_its : ByteArray := prog_12_method_8_code
def yX10_its : MethodName := ⟨RX10, "its", "(II)I"⟩
abbrev cX10_ends : ByteArray := prog_12_method_9_code
def yX10_ends : MethodName := ⟨RX10, "ends", "(I)I"⟩
abbrev cX10_ones : ByteArray := prog_12_method_10_code
def yX10_ones : MethodName := ⟨RX10, "ones", "(I)I"⟩
abbrev cX10_inSet : ByteArray := prog_12_method_11_code
def yX10_inSet : MethodName := ⟨RX10, "inSet", "(II)I"⟩
abbrev cX10_feed : ByteArray := prog_12_method_12_code
def yX10_feed : MethodName := ⟨RX10, "feed", "(JI)I"⟩
abbrev cX10_byteAt : ByteArray := prog_12_method_13_code
def yX10_byteAt : MethodName := ⟨RX10, "byteAt", "(I)I"⟩
abbrev cX10_isLetter : ByteArray := prog_12_method_14_code
def yX10_isLetter : MethodName := ⟨RX10, "isLetter", "(I)Z"⟩
abbrev cX10_isDigit : ByteArray := prog_12_method_15_code
def yX10_isDigit : MethodName := ⟨RX10, "isDigit", "(I)Z"⟩
abbrev cX10_advance : ByteArray := prog_12_method_16_code
def yX10_advance : MethodName := ⟨RX10, "advance", "()V"⟩
abbrev cX10_isWord : ByteArray := prog_12_method_17_code
def yX10_isWord : MethodName := ⟨RX10, "isWord", "(J)Z"⟩
abbrev cX10_wantWord : ByteArray := prog_12_method_18_code
def yX10_wantWord : MethodName := ⟨RX10, "wantWord", "(J)V"⟩
abbrev cX10_wantNumber : ByteArray := prog_12_method_19_code
def yX10_wantNumber : MethodName := ⟨RX10, "wantNumber", "(II)I"⟩
abbrev cX10_wantEnd : ByteArray := prog_12_method_20_code
def yX10_wantEnd : MethodName := ⟨RX10, "wantEnd", "()V"⟩
abbrev cX10_isFreshTie : ByteArray := prog_12_method_21_code
def yX10_isFreshTie : MethodName := ⟨RX10, "isFreshTie", "(II)Z"⟩
abbrev cX10_wantTie : ByteArray := prog_12_method_22_code
def yX10_wantTie : MethodName := ⟨RX10, "wantTie", "()V"⟩
abbrev cX10_wantFirst : ByteArray := prog_12_method_23_code
def yX10_wantFirst : MethodName := ⟨RX10, "wantFirst", "()V"⟩
abbrev cX10_addCut : ByteArray := prog_12_method_24_code
def yX10_addCut : MethodName := ⟨RX10, "addCut", "(III)V"⟩
abbrev cX10_wantSeat : ByteArray := prog_12_method_25_code
def yX10_wantSeat : MethodName := ⟨RX10, "wantSeat", "()V"⟩
abbrev cX10_wantLate : ByteArray := prog_12_method_26_code
def yX10_wantLate : MethodName := ⟨RX10, "wantLate", "()V"⟩
abbrev cX10_wantWorks : ByteArray := prog_12_method_27_code
def yX10_wantWorks : MethodName := ⟨RX10, "wantWorks", "()V"⟩
abbrev cX10_begin : ByteArray := prog_12_method_28_code
def yX10_begin : MethodName := ⟨RX10, "begin", "(I)V"⟩
abbrev cX10_works : ByteArray := prog_12_method_29_code
def yX10_works : MethodName := ⟨RX10, "works", "()I"⟩
abbrev cX10_people : ByteArray := prog_12_method_30_code
def yX10_people : MethodName := ⟨RX10, "people", "(I)I"⟩
abbrev cX10_tie : ByteArray := prog_12_method_31_code
def yX10_tie : MethodName := ⟨RX10, "tie", "(IIIIZ)I"⟩
abbrev cX10_tieOf : ByteArray := prog_12_method_32_code
def yX10_tieOf : MethodName := ⟨RX10, "tieOf", "(II)I"⟩
abbrev cX10_first : ByteArray := prog_12_method_33_code
def yX10_first : MethodName := ⟨RX10, "first", "(II)I"⟩
abbrev cX10_isWhat : ByteArray := prog_12_method_34_code
def yX10_isWhat : MethodName := ⟨RX10, "isWhat", "(II)Z"⟩
abbrev cX10_cut : ByteArray := prog_12_method_35_code
def yX10_cut : MethodName := ⟨RX10, "cut", "(III)I"⟩
abbrev cX10_isCut : ByteArray := prog_12_method_36_code
def yX10_isCut : MethodName := ⟨RX10, "isCut", "(I)Z"⟩
abbrev cX10_cutOf : ByteArray := prog_12_method_37_code
def yX10_cutOf : MethodName := ⟨RX10, "cutOf", "(II)I"⟩
abbrev cX10_uncut : ByteArray := prog_12_method_38_code
def yX10_uncut : MethodName := ⟨RX10, "uncut", "()I"⟩
abbrev cX10_cutsIt : ByteArray := prog_12_method_39_code
def yX10_cutsIt : MethodName := ⟨RX10, "cutsIt", "(III)Z"⟩
abbrev cX10_isOpen : ByteArray := prog_12_method_40_code
def yX10_isOpen : MethodName := ⟨RX10, "isOpen", "(II)Z"⟩
abbrev cX10_openOn : ByteArray := prog_12_method_41_code
def yX10_openOn : MethodName := ⟨RX10, "openOn", "(I)I"⟩
abbrev cX10_open : ByteArray := prog_12_method_42_code
def yX10_open : MethodName := ⟨RX10, "open", "(II)I"⟩
abbrev cX10_around : ByteArray := prog_12_method_43_code
def yX10_around : MethodName := ⟨RX10, "around", "(II)I"⟩
abbrev cX10_joinedBy : ByteArray := prog_12_method_44_code
def yX10_joinedBy : MethodName := ⟨RX10, "joinedBy", "(III)I"⟩
abbrev cX10_joined : ByteArray := prog_12_method_45_code
def yX10_joined : MethodName := ⟨RX10, "joined", "(I)I"⟩
abbrev cX10_greatest : ByteArray := prog_12_method_46_code
def yX10_greatest : MethodName := ⟨RX10, "greatest", "(II)I"⟩
abbrev cX10_sets : ByteArray := prog_12_method_47_code
def yX10_sets : MethodName := ⟨RX10, "sets", "(I)I"⟩
abbrev cX10_weights : ByteArray := prog_12_method_48_code
def yX10_weights : MethodName := ⟨RX10, "weights", "()I"⟩
abbrev cX10_unsure : ByteArray := prog_12_method_49_code
def yX10_unsure : MethodName := ⟨RX10, "unsure", "()I"⟩
abbrev cX10_oftenOf : ByteArray := prog_12_method_50_code
def yX10_oftenOf : MethodName := ⟨RX10, "oftenOf", "(II)J"⟩
abbrev cX10_isSeen : ByteArray := prog_12_method_51_code
def yX10_isSeen : MethodName := ⟨RX10, "isSeen", "(I)Z"⟩
abbrev cX10_findTale : ByteArray := prog_12_method_52_code
def yX10_findTale : MethodName := ⟨RX10, "findTale", "()V"⟩
abbrev cX10_lowest : ByteArray := prog_12_method_53_code
def yX10_lowest : MethodName := ⟨RX10, "lowest", "(JJ)V"⟩
abbrev cX10_often : ByteArray := prog_12_method_54_code
def yX10_often : MethodName := ⟨RX10, "often", "()J"⟩
abbrev cX10_lacksTale : ByteArray := prog_12_method_55_code
def yX10_lacksTale : MethodName := ⟨RX10, "lacksTale", "()I"⟩
abbrev cX10_chance : ByteArray := prog_12_method_56_code
def yX10_chance : MethodName := ⟨RX10, "chance", "(II)I"⟩
abbrev cX10_reach : ByteArray := prog_12_method_57_code
def yX10_reach : MethodName := ⟨RX10, "reach", "(I)J"⟩
abbrev cX10_seen : ByteArray := prog_12_method_58_code
def yX10_seen : MethodName := ⟨RX10, "seen", "(II)I"⟩
abbrev cX10_who : ByteArray := prog_12_method_59_code
def yX10_who : MethodName := ⟨RX10, "who", "(II)I"⟩
abbrev cX10_beginCut : ByteArray := prog_12_method_60_code
def yX10_beginCut : MethodName := ⟨RX10, "beginCut", "()V"⟩
abbrev cX10_countCut : ByteArray := prog_12_method_61_code
def yX10_countCut : MethodName := ⟨RX10, "countCut", "(I)V"⟩
abbrev cX10_fewest : ByteArray := prog_12_method_62_code
def yX10_fewest : MethodName := ⟨RX10, "fewest", "(III)I"⟩
abbrev cX10_between : ByteArray := prog_12_method_63_code
def yX10_between : MethodName := ⟨RX10, "between", "(III)I"⟩
abbrev cX10_nextParting : ByteArray := prog_12_method_64_code
def yX10_nextParting : MethodName := ⟨RX10, "nextParting", "()Z"⟩
abbrev cX10_beginPartings : ByteArray := prog_12_method_65_code
def yX10_beginPartings : MethodName := ⟨RX10, "beginPartings", "()V"⟩
abbrev cX10_isSmall : ByteArray := prog_12_method_66_code
def yX10_isSmall : MethodName := ⟨RX10, "isSmall", "(I)Z"⟩
abbrev cX10_isWithin : ByteArray := prog_12_method_67_code
def yX10_isWithin : MethodName := ⟨RX10, "isWithin", "(I)Z"⟩
abbrev cX10_small : ByteArray := prog_12_method_68_code
def yX10_small : MethodName := ⟨RX10, "small", "(II)I"⟩
abbrev cX10_sit : ByteArray := prog_12_method_69_code
def yX10_sit : MethodName := ⟨RX10, "sit", "(II)I"⟩
abbrev cX10_findDays : ByteArray := prog_12_method_70_code
def yX10_findDays : MethodName := ⟨RX10, "findDays", "(I)V"⟩
abbrev cX10_earlyOf : ByteArray := prog_12_method_71_code
def yX10_earlyOf : MethodName := ⟨RX10, "earlyOf", "(I)I"⟩
abbrev cX10_early : ByteArray := prog_12_method_72_code
def yX10_early : MethodName := ⟨RX10, "early", "(II)I"⟩
abbrev cX10_could : ByteArray := prog_12_method_73_code
def yX10_could : MethodName := ⟨RX10, "could", "(II)I"⟩
abbrev cX10_seed : ByteArray := prog_12_method_74_code
def yX10_seed : MethodName := ⟨RX10, "seed", "(I)I"⟩
abbrev cX10_run : ByteArray := prog_12_method_75_code
def yX10_run : MethodName := ⟨RX10, "run", "(II)I"⟩
abbrev cX10_tells : ByteArray := prog_12_method_76_code
def yX10_tells : MethodName := ⟨RX10, "tells", "(II)I"⟩
abbrev cX10_guards : ByteArray := prog_12_method_77_code
def yX10_guards : MethodName := ⟨RX10, "guards", "(II)I"⟩
abbrev cX10_tieOfTwo : ByteArray := prog_12_method_78_code
def yX10_tieOfTwo : MethodName := ⟨RX10, "tieOfTwo", "(II)I"⟩
abbrev cX10_areOpen : ByteArray := prog_12_method_79_code
def yX10_areOpen : MethodName := ⟨RX10, "areOpen", "(III)Z"⟩
abbrev cX10_prove : ByteArray := prog_12_method_80_code
def yX10_prove : MethodName := ⟨RX10, "prove", "(II)I"⟩
abbrev cX10_isRow : ByteArray := prog_12_method_81_code
def yX10_isRow : MethodName := ⟨RX10, "isRow", "(II)Z"⟩
abbrev cX10_row : ByteArray := prog_12_method_82_code
def yX10_row : MethodName := ⟨RX10, "row", "(II)I"⟩
abbrev cX10_alterRow : ByteArray := prog_12_method_83_code
def yX10_alterRow : MethodName := ⟨RX10, "alterRow", "(III)I"⟩
abbrev cX10_judge : ByteArray := prog_12_method_84_code
def yX10_judge : MethodName := ⟨RX10, "judge", "(II)I"⟩
abbrev cX10_chair : ByteArray := prog_12_method_85_code
def yX10_chair : MethodName := ⟨RX10, "chair", "(I)I"⟩
abbrev cX10_meet : ByteArray := prog_12_method_86_code
def yX10_meet : MethodName := ⟨RX10, "meet", "(II)I"⟩
abbrev cX10_tell : ByteArray := prog_12_method_87_code
def yX10_tell : MethodName := ⟨RX10, "tell", "(II)I"⟩
abbrev cX10_best : ByteArray := prog_12_method_88_code
def yX10_best : MethodName := ⟨RX10, "best", "(II)I"⟩
abbrev cX10_isShelf : ByteArray := prog_12_method_89_code
def yX10_isShelf : MethodName := ⟨RX10, "isShelf", "(I)Z"⟩
abbrev cX10_sheet : ByteArray := prog_12_method_90_code
def yX10_sheet : MethodName := ⟨RX10, "sheet", "(III)I"⟩
abbrev cX10_put : ByteArray := prog_12_method_91_code
def yX10_put : MethodName := ⟨RX10, "put", "(III)I"⟩
abbrev cX10_lacksSort : ByteArray := prog_12_method_92_code
def yX10_lacksSort : MethodName := ⟨RX10, "lacksSort", "(II)I"⟩
abbrev cX10_item : ByteArray := prog_12_method_93_code
def yX10_item : MethodName := ⟨RX10, "item", "(III)I"⟩
abbrev cX10_isHeld : ByteArray := prog_12_method_94_code
def yX10_isHeld : MethodName := ⟨RX10, "isHeld", "(II)Z"⟩
abbrev cX10_shelf : ByteArray := prog_12_method_95_code
def yX10_shelf : MethodName := ⟨RX10, "shelf", "(III)I"⟩
abbrev cX10_kindOn : ByteArray := prog_12_method_96_code
def yX10_kindOn : MethodName := ⟨RX10, "kindOn", "(I)I"⟩
abbrev cX10_isUnder : ByteArray := prog_12_method_97_code
def yX10_isUnder : MethodName := ⟨RX10, "isUnder", "(II)Z"⟩
abbrev cX10_taken : ByteArray := prog_12_method_98_code
def yX10_taken : MethodName := ⟨RX10, "taken", "(II)I"⟩
abbrev cX10_ran : ByteArray := prog_12_method_99_code
def yX10_ran : MethodName := ⟨RX10, "ran", "(I)V"⟩
abbrev cX10_plainParts : ByteArray := prog_12_method_100_code
def yX10_plainParts : MethodName := ⟨RX10, "plainParts", "(I)I"⟩
abbrev cX10_tableParts : ByteArray := prog_12_method_101_code
def yX10_tableParts : MethodName := ⟨RX10, "tableParts", "(I)I"⟩
abbrev cX10_partsIt : ByteArray := prog_12_method_102_code
def yX10_partsIt : MethodName := ⟨RX10, "partsIt", "(I)I"⟩
abbrev cX10_plainCosts : ByteArray := prog_12_method_103_code
def yX10_plainCosts : MethodName := ⟨RX10, "plainCosts", "(I)I"⟩
abbrev cX10_tieCosts : ByteArray := prog_12_method_104_code
def yX10_tieCosts : MethodName := ⟨RX10, "tieCosts", "(I)I"⟩
abbrev cX10_costsIt : ByteArray := prog_12_method_105_code
def yX10_costsIt : MethodName := ⟨RX10, "costsIt", "(I)I"⟩
abbrev cX10_plainShares : ByteArray := prog_12_method_106_code
def yX10_plainShares : MethodName := ⟨RX10, "plainShares", "(I)I"⟩
abbrev cX10_sharesIt : ByteArray := prog_12_method_107_code
def yX10_sharesIt : MethodName := ⟨RX10, "sharesIt", "(I)I"⟩
abbrev cX10_plainTells : ByteArray := prog_12_method_108_code
def yX10_plainTells : MethodName := ⟨RX10, "plainTells", "(I)I"⟩
abbrev cX10_tableTells : ByteArray := prog_12_method_109_code
def yX10_tableTells : MethodName := ⟨RX10, "tableTells", "(I)I"⟩
abbrev cX10_tellsIt : ByteArray := prog_12_method_110_code
def yX10_tellsIt : MethodName := ⟨RX10, "tellsIt", "(I)I"⟩
abbrev cX10_act : ByteArray := prog_12_method_111_code
def yX10_act : MethodName := ⟨RX10, "act", "(III)I"⟩
abbrev cX10_trace : ByteArray := prog_12_method_112_code
def yX10_trace : MethodName := ⟨RX10, "trace", "(I)I"⟩
abbrev cX10_many : ByteArray := prog_12_method_113_code
def yX10_many : MethodName := ⟨RX10, "many", "(I)I"⟩
abbrev cX10_move : ByteArray := prog_12_method_114_code
def yX10_move : MethodName := ⟨RX10, "move", "([IIZ)V"⟩
abbrev cX10_moveAll : ByteArray := prog_12_method_115_code
def yX10_moveAll : MethodName := ⟨RX10, "moveAll", "(Z)V"⟩
abbrev cX10_keep : ByteArray := prog_12_method_116_code
def yX10_keep : MethodName := ⟨RX10, "keep", "()I"⟩
abbrev cX10_back : ByteArray := prog_12_method_117_code
def yX10_back : MethodName := ⟨RX10, "back", "()I"⟩
def RJx145de : String := "java/io/Serializable"
def TJx145de : u_T := fun k => match k with
  | _ => ("", "", "", false)
def tyJx145de : Nat → FieldType := fun k => match k with
  | _ => .int
abbrev wsJx145de0 : List Cond := u_ws RJx145de TJx145de 0
theorem nmJx145de : ∀ a, a < 0 → ∀ b, b < 0 → a ≠ b → (TJx145de a).2.1 ≠ (TJx145de b).2.1 := by decide +kernel
theorem tyJx145de_ok : ∀ k, k < 0 → parseFieldDescriptor (TJx145de k).2.2.1 = some (tyJx145de k) := by decide +kernel
def RJx9f9b0 : String := "java/lang/CharSequence"
def TJx9f9b0 : u_T := fun k => match k with
  | _ => ("", "", "", false)
def tyJx9f9b0 : Nat → FieldType := fun k => match k with
  | _ => .int
abbrev wsJx9f9b00 : List Cond := u_ws RJx9f9b0 TJx9f9b0 0
theorem nmJx9f9b0 : ∀ a, a < 0 → ∀ b, b < 0 → a ≠ b → (TJx9f9b0 a).2.1 ≠ (TJx9f9b0 b).2.1 := by decide +kernel
theorem tyJx9f9b0_ok : ∀ k, k < 0 → parseFieldDescriptor (TJx9f9b0 k).2.2.1 = some (tyJx9f9b0 k) := by decide +kernel
def RJxb160c : String := "java/lang/Comparable"
def TJxb160c : u_T := fun k => match k with
  | _ => ("", "", "", false)
def tyJxb160c : Nat → FieldType := fun k => match k with
  | _ => .int
abbrev wsJxb160c0 : List Cond := u_ws RJxb160c TJxb160c 0
theorem nmJxb160c : ∀ a, a < 0 → ∀ b, b < 0 → a ≠ b → (TJxb160c a).2.1 ≠ (TJxb160c b).2.1 := by decide +kernel
theorem tyJxb160c_ok : ∀ k, k < 0 → parseFieldDescriptor (TJxb160c k).2.2.1 = some (tyJxb160c k) := by decide +kernel
def RJ6 : String := "java/lang/Integer"
def TJ6 : u_T := fun k => match k with
  | _ => ("", "", "", false)
def tyJ6 : Nat → FieldType := fun k => match k with
  | _ => .int
abbrev wsJ60 : List Cond := u_ws RJ6 TJ6 0
theorem nmJ6 : ∀ a, a < 0 → ∀ b, b < 0 → a ≠ b → (TJ6 a).2.1 ≠ (TJ6 b).2.1 := by decide +kernel
theorem tyJ6_ok : ∀ k, k < 0 → parseFieldDescriptor (TJ6 k).2.2.1 = some (tyJ6 k) := by decide +kernel
abbrev cJ6_bitCount_0f7a4 : ByteArray := prog_13_method_49_code
def yJ6_bitCount_0f7a4 : MethodName := ⟨RJ6, "bitCount", "(I)I"⟩
def RJ9 : String := "java/lang/Math"
def TJ9 : u_T := fun k => match k with
  | _ => ("", "", "", false)
def tyJ9 : Nat → FieldType := fun k => match k with
  | _ => .int
abbrev wsJ90 : List Cond := u_ws RJ9 TJ9 0
theorem nmJ9 : ∀ a, a < 0 → ∀ b, b < 0 → a ≠ b → (TJ9 a).2.1 ≠ (TJ9 b).2.1 := by decide +kernel
theorem tyJ9_ok : ∀ k, k < 0 → parseFieldDescriptor (TJ9 k).2.2.1 = some (tyJ9 k) := by decide +kernel
abbrev cJ9_max_7cf53 : ByteArray := prog_14_method_65_code
def yJ9_max_7cf53 : MethodName := ⟨RJ9, "max", "(II)I"⟩
abbrev cJ9_min_7cf53 : ByteArray := prog_14_method_69_code
def yJ9_min_7cf53 : MethodName := ⟨RJ9, "min", "(II)I"⟩
def RJ0 : String := "java/lang/String"
def TJ0 : u_T := fun k => match k with
  | _ => ("", "", "", false)
def tyJ0 : Nat → FieldType := fun k => match k with
  | _ => .int
abbrev wsJ00 : List Cond := u_ws RJ0 TJ0 0
theorem nmJ0 : ∀ a, a < 0 → ∀ b, b < 0 → a ≠ b → (TJ0 a).2.1 ≠ (TJ0 b).2.1 := by decide +kernel
theorem tyJ0_ok : ∀ k, k < 0 → parseFieldDescriptor (TJ0 k).2.2.1 = some (tyJ0 k) := by decide +kernel
abbrev cJ0_length_8abf5 : ByteArray := prog_15_method_54_code
def yJ0_length_8abf5 : MethodName := ⟨RJ0, "length", "()I"⟩
abbrev cJ0_charAt_5068e : ByteArray := prog_15_method_56_code
def yJ0_charAt_5068e : MethodName := ⟨RJ0, "charAt", "(I)C"⟩
abbrev cJ0_coder_7d493 : ByteArray := prog_15_method_152_code
def yJ0_coder_7d493 : MethodName := ⟨RJ0, "coder", "()B"⟩
abbrev cJ0_isLatin1_aae02 : ByteArray := prog_15_method_154_code
def yJ0_isLatin1_aae02 : MethodName := ⟨RJ0, "isLatin1", "()Z"⟩
abbrev cJ0_checkIndex_df160 : ByteArray := prog_15_method_155_code
def yJ0_checkIndex_df160 : MethodName := ⟨RJ0, "checkIndex", "(II)V"⟩
def RJ1 : String := "java/lang/StringLatin1"
def TJ1 : u_T := fun k => match k with
  | _ => ("", "", "", false)
def tyJ1 : Nat → FieldType := fun k => match k with
  | _ => .int
abbrev wsJ10 : List Cond := u_ws RJ1 TJ1 0
theorem nmJ1 : ∀ a, a < 0 → ∀ b, b < 0 → a ≠ b → (TJ1 a).2.1 ≠ (TJ1 b).2.1 := by decide +kernel
theorem tyJ1_ok : ∀ k, k < 0 → parseFieldDescriptor (TJ1 k).2.2.1 = some (tyJ1 k) := by decide +kernel
abbrev cJ1_charAt_3b067 : ByteArray := prog_16_method_2_code
def yJ1_charAt_3b067 : MethodName := ⟨RJ1, "charAt", "([BI)C"⟩
def RJ2 : String := "java/lang/StringUTF16"
def TJ2 : u_T := fun k => match k with
  | _ => ("", "", "", false)
def tyJ2 : Nat → FieldType := fun k => match k with
  | _ => .int
abbrev wsJ20 : List Cond := u_ws RJ2 TJ2 0
theorem nmJ2 : ∀ a, a < 0 → ∀ b, b < 0 → a ≠ b → (TJ2 a).2.1 ≠ (TJ2 b).2.1 := by decide +kernel
theorem tyJ2_ok : ∀ k, k < 0 → parseFieldDescriptor (TJ2 k).2.2.1 = some (tyJ2 k) := by decide +kernel
abbrev cJ2_getChar_3b067 : ByteArray := prog_17_method_5_code
def yJ2_getChar_3b067 : MethodName := ⟨RJ2, "getChar", "([BI)C"⟩
abbrev cJ2_length_9d52b : ByteArray := prog_17_method_6_code
def yJ2_length_9d52b : MethodName := ⟨RJ2, "length", "([B)I"⟩
abbrev cJ2_charAt_3b067 : ByteArray := prog_17_method_83_code
def yJ2_charAt_3b067 : MethodName := ⟨RJ2, "charAt", "([BI)C"⟩
abbrev cJ2_checkIndex_2214a : ByteArray := prog_17_method_91_code
def yJ2_checkIndex_2214a : MethodName := ⟨RJ2, "checkIndex", "(I[B)V"⟩
def RJ10 : String := "java/lang/System"
def TJ10 : u_T := fun k => match k with
  | _ => ("", "", "", false)
def tyJ10 : Nat → FieldType := fun k => match k with
  | _ => .int
abbrev wsJ100 : List Cond := u_ws RJ10 TJ10 0
theorem nmJ10 : ∀ a, a < 0 → ∀ b, b < 0 → a ≠ b → (TJ10 a).2.1 ≠ (TJ10 b).2.1 := by decide +kernel
theorem tyJ10_ok : ∀ k, k < 0 → parseFieldDescriptor (TJ10 k).2.2.1 = some (tyJ10 k) := by decide +kernel
def RJxfd54e : String := "java/lang/constant/Constable"
def TJxfd54e : u_T := fun k => match k with
  | _ => ("", "", "", false)
def tyJxfd54e : Nat → FieldType := fun k => match k with
  | _ => .int
abbrev wsJxfd54e0 : List Cond := u_ws RJxfd54e TJxfd54e 0
theorem nmJxfd54e : ∀ a, a < 0 → ∀ b, b < 0 → a ≠ b → (TJxfd54e a).2.1 ≠ (TJxfd54e b).2.1 := by decide +kernel
theorem tyJxfd54e_ok : ∀ k, k < 0 → parseFieldDescriptor (TJxfd54e k).2.2.1 = some (tyJxfd54e k) := by decide +kernel
def RJx3cf43 : String := "java/lang/constant/ConstantDesc"
def TJx3cf43 : u_T := fun k => match k with
  | _ => ("", "", "", false)
def tyJx3cf43 : Nat → FieldType := fun k => match k with
  | _ => .int
abbrev wsJx3cf430 : List Cond := u_ws RJx3cf43 TJx3cf43 0
theorem nmJx3cf43 : ∀ a, a < 0 → ∀ b, b < 0 → a ≠ b → (TJx3cf43 a).2.1 ≠ (TJx3cf43 b).2.1 := by decide +kernel
theorem tyJx3cf43_ok : ∀ k, k < 0 → parseFieldDescriptor (TJx3cf43 k).2.2.1 = some (tyJx3cf43 k) := by decide +kernel
def RJ7 : String := "java/util/Arrays"
def TJ7 : u_T := fun k => match k with
  | _ => ("", "", "", false)
def tyJ7 : Nat → FieldType := fun k => match k with
  | _ => .int
abbrev wsJ70 : List Cond := u_ws RJ7 TJ7 0
theorem nmJ7 : ∀ a, a < 0 → ∀ b, b < 0 → a ≠ b → (TJ7 a).2.1 ≠ (TJ7 b).2.1 := by decide +kernel
theorem tyJ7_ok : ∀ k, k < 0 → parseFieldDescriptor (TJ7 k).2.2.1 = some (tyJ7 k) := by decide +kernel
abbrev cJ7_fill_53178 : ByteArray := prog_19_method_103_code
def yJ7_fill_53178 : MethodName := ⟨RJ7, "fill", "([II)V"⟩
def RJ3 : String := "jdk/internal/util/Preconditions"
def TJ3 : u_T := fun k => match k with
  | _ => ("", "", "", false)
def tyJ3 : Nat → FieldType := fun k => match k with
  | _ => .int
abbrev wsJ30 : List Cond := u_ws RJ3 TJ3 0
theorem nmJ3 : ∀ a, a < 0 → ∀ b, b < 0 → a ≠ b → (TJ3 a).2.1 ≠ (TJ3 b).2.1 := by decide +kernel
theorem tyJ3_ok : ∀ k, k < 0 → parseFieldDescriptor (TJ3 k).2.2.1 = some (tyJ3 k) := by decide +kernel
abbrev cJ3_checkIndex_8e157 : ByteArray := prog_20_method_11_code
def yJ3_checkIndex_8e157 : MethodName := ⟨RJ3, "checkIndex", "(IILjava/util/function/BiFunction;)I"⟩
def RL : String := "HushTablesLaw"
abbrev cL_law : ByteArray := code
def yL_law : MethodName := ⟨RL, "law", "([I)Z"⟩
abbrev vwCl : List vw_C := [(RX0, TX0, 6), (RX1, TX1, 2), (RX2, TX2, 6), (RX3, TX3, 1), (RX4, TX4, 2), (RX5, TX5, 2), (RX6, TX6, 3), (RX7, TX7, 6), (RX8, TX8, 14), (RX9, TX9, 12), (RX10, TX10, 54)]
