/-! small methods of the class -/
theorem zb01 (p : Prop) [Decidable p] : narrow .boolean (.int (if p then 1 else 0)) = .int (if p then 1 else 0) := by split <;> rfl
theorem zb0 : narrow .boolean (.int 0) = .int 0 := rfl
theorem zb1 : narrow .boolean (.int 1) = .int 1 := rfl
theorem zcat_nil : zcat [] = 0 := rfl
theorem zcat_i (x : Int32) (st : List Value) : zcat (.int x :: st) = 1 + zcat st := by simp [zcat, Value.category]
theorem zcat_r (x : Nat) (st : List Value) : zcat (.ref x :: st) = 1 + zcat st := by simp [zcat, Value.category]
theorem zcat_l (x : Int64) (st : List Value) : zcat (.long x :: st) = 2 + zcat st := by simp [zcat, Value.category]
theorem zcat_n (st : List Value) : zcat (.null :: st) = 1 + zcat st := by simp [zcat, Value.category]
theorem zct_i (x : Int32) : (Value.int x).category = 1 := rfl
theorem zct_r (x : Nat) : (Value.ref x).category = 1 := rfl
theorem zct_n : (Value.null).category = 1 := rfl
theorem zct_J : zJ.category = 1 := rfl
theorem zle32 {a b : Int32} : ¬ a < b ↔ b ≤ a := Int32.not_lt
theorem zlt32 {a b : Int32} : ¬ a ≤ b ↔ b < a := Int32.not_le
theorem zlt_iff {a b : Int32} : a < b ↔ ¬ b ≤ a := Int32.not_le.symm
theorem k_within (v a b : Int32) (w : zH) : zrun none (100, 0, [.int v, .int a, .int b], [], w) = some (some (.int (if a ≤ v ∧ v ≤ b then 1 else 0)), w) := by
  simp (disch := first | exact Nat.le_of_ble_eq_true rfl | rfl | exact zb01 _ | assumption | decide) only [e100_0, e100_1, e100_2, e100_5, e100_6, e100_7, e100_10, e100_11, e100_14, e100_15, zo_some, zoi_some, zon_some, zcl_some, Option.toList_some, Option.toList_none, List.cons_append, List.nil_append, ite_true, ite_false, reduceIte, zlt_iff]
  by_cases h1 : a ≤ v <;> by_cases h2 : v ≤ b <;> simp [h1, h2]
theorem k_isDay (v : Int32) (w : zH) : zrun none (101, 0, [.int v], [], w) = some (some (.int (if 0 ≤ v ∧ v ≤ 99999 then 1 else 0)), w) := by
  simp (disch := first | exact Nat.le_of_ble_eq_true rfl | rfl | exact zb01 _ | assumption | decide) only [e101_0, e101_1, e101_2, e101_5, e101_8, zo_some, zoi_some, zon_some, zcl_some, Option.toList_some, Option.toList_none, List.cons_append, List.nil_append, ite_true, ite_false, reduceIte, k_within]
theorem k_oneIf (x : Int32) (w : zH) : zrun none (108, 0, [.int x], [], w) = some (some (.int (if x = 0 then 0 else 1)), w) := by
  simp (disch := first | exact Nat.le_of_ble_eq_true rfl | rfl | exact zb01 _ | assumption | decide) only [e108_0, e108_1, e108_4, e108_5, e108_8, e108_9, zo_some, zoi_some, zon_some, zcl_some, Option.toList_some, Option.toList_none, List.cons_append, List.nil_append, ite_true, ite_false, reduceIte]
  split <;> rfl
theorem k_isGrade (v : Int32) (w : zH) : zrun none (102, 0, [.int v], [], w) = some (some (.int (if 0 ≤ v ∧ v ≤ 3 then 1 else 0)), w) := by
  simp (disch := first | exact Nat.le_of_ble_eq_true rfl | rfl | exact zb01 _ | assumption | decide) only [e102_0, e102_1, e102_2, e102_3, e102_6, zo_some, zoi_some, zon_some, zcl_some, Option.toList_some, Option.toList_none, List.cons_append, List.nil_append, ite_true, ite_false, reduceIte, k_within]
theorem k_isWork (v : Int32) (w : zH) : zrun none (103, 0, [.int v], [], w) = some (some (.int (if 0 ≤ v ∧ v ≤ 3 then 1 else 0)), w) := by
  simp (disch := first | exact Nat.le_of_ble_eq_true rfl | rfl | exact zb01 _ | assumption | decide) only [e103_0, e103_1, e103_2, e103_3, e103_6, zo_some, zoi_some, zon_some, zcl_some, Option.toList_some, Option.toList_none, List.cons_append, List.nil_append, ite_true, ite_false, reduceIte, k_within]
theorem k_isCondition (v : Int32) (w : zH) : zrun none (104, 0, [.int v], [], w) = some (some (.int (if 0 ≤ v ∧ v ≤ 7 then 1 else 0)), w) := by
  simp (disch := first | exact Nat.le_of_ble_eq_true rfl | rfl | exact zb01 _ | assumption | decide) only [e104_0, e104_1, e104_2, e104_4, e104_7, zo_some, zoi_some, zon_some, zcl_some, Option.toList_some, Option.toList_none, List.cons_append, List.nil_append, ite_true, ite_false, reduceIte, k_within]
theorem k_isMarks (v : Int32) (w : zH) : zrun none (105, 0, [.int v], [], w) = some (some (.int (if 0 ≤ v ∧ v ≤ 4095 then 1 else 0)), w) := by
  simp (disch := first | exact Nat.le_of_ble_eq_true rfl | rfl | exact zb01 _ | assumption | decide) only [e105_0, e105_1, e105_2, e105_5, e105_8, zo_some, zoi_some, zon_some, zcl_some, Option.toList_some, Option.toList_none, List.cons_append, List.nil_append, ite_true, ite_false, reduceIte, k_within]
theorem zif10 (p : Prop) [Decidable p] : ((if p then 1 else 0 : Int32) = 0) = ¬ p := by
  by_cases h : p <;> simp [h]
theorem k_isPlace (x y : Int32) (w : zH) : zrun none (106, 0, [.int x, .int y], [], w) = some (some (.int (if (0 ≤ x ∧ x ≤ 9) ∧ 0 ≤ y ∧ y ≤ 9 then 1 else 0)), w) := by
  simp (disch := first | exact Nat.le_of_ble_eq_true rfl | rfl | exact zb01 _ | assumption | decide) only [e106_0, e106_1, e106_2, e106_4, e106_7, e106_10, e106_11, e106_12, e106_14, e106_17, e106_20, e106_21, e106_24, e106_25, zo_some, zoi_some, zon_some, zcl_some, Option.toList_some, Option.toList_none, List.cons_append, List.nil_append, ite_true, ite_false, reduceIte, k_within, zif10]
  by_cases h1 : 0 ≤ x ∧ x ≤ 9 <;> by_cases h2 : 0 ≤ y ∧ y ≤ 9 <;> simp [h1, h2]
theorem k_holdsBit (x b : Int32) (w : zH) : zrun none (107, 0, [.int x, .int b], [], w) = some (some (.int (if (x >>> (b &&& 31)) &&& 1 = 0 then 0 else 1)), w) := by
  simp (disch := first | exact Nat.le_of_ble_eq_true rfl | rfl | exact zb01 _ | assumption | decide) only [e107_0, e107_1, e107_2, e107_3, e107_4, e107_5, e107_8, e107_9, e107_12, e107_13, zo_some, zoi_some, zon_some, zcl_some, Option.toList_some, Option.toList_none, List.cons_append, List.nil_append, ite_true, ite_false, reduceIte]
  split <;> rfl
theorem k_yearOf (d : Int32) (w : zH) : zrun none (109, 0, [.int d], [], w) = some (some (.int (1700 + d / 365)), w) := by
  simp (disch := first | exact Nat.le_of_ble_eq_true rfl | rfl | exact zb01 _ | assumption | decide) only [e109_0, e109_3, e109_4, e109_7, e109_8, e109_9, zo_some, zoi_some, zon_some, zcl_some, Option.toList_some, Option.toList_none, List.cons_append, List.nil_append, ite_true, ite_false, reduceIte]
