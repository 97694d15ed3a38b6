theorem zRgM (a b : Nat) : (va_nd (List.range' a b) && va_nd (List.range a) && (List.range a).all (fun i => !(List.range' a b).contains i)) = true := by
  rw [zNdOf List.nodup_range, zNdOf List.nodup_range', Bool.and_self, Bool.true_and, List.all_eq_true]
  intro i hi
  rw [Bool.not_eq_true', ← Bool.not_eq_true, List.contains_iff_mem]
  intro h9
  have h8 := (List.mem_range'_1.mp h9).1
  have h7 := List.mem_range.mp hi
  omega
