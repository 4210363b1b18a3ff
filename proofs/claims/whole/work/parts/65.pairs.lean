/-! pairs of a sheet; sums over sets -/
theorem k_item {w : zH} (h : Sh w) {s N k : Nat} (hs : s < 8) (hN : N ≤ 100) (eN : gi w (19 + 2 * s) 803 = nI N) (hk : k < N) : zrun none (37, 0, [.ref (19 + 2 * s), .int (nI k)], [], w) = some (some (.int (ga w (20 + 2 * s) k)), w) := by
  have q0 : ¬ nI k < 0 := nI_pos (by omega)
  have q1 : ¬ nI N ≤ nI k := nI_ge (by omega) (by omega)
  have k1 : k < 100 := by omega
  simp (disch := first | exact Nat.le_of_ble_eq_true rfl | exact zct_i _ | exact zct_r _ | exact zct_J | exact zct_n | with_reducible assumption | (with_reducible show (zf _ _ _).isSome = true; exact Sh.some (by repeat first | with_reducible assumption | (with_reducible refine Sh.pf ?_ ?_; rotate_left 1; exact fun _ => by decide +kernel) | (with_reducible refine Sh.as ?_ ?_; rotate_left 1; exact fun _ => by decide +kernel) | (with_reducible refine Sh.asr ?_ ?_; rotate_left 1; exact fun _ => by decide +kernel) | with_reducible refine Sh.push ?_ | (with_reducible refine Sh.pfn ?_ ?_; rotate_left 1; omega) | (with_reducible refine Sh.asn ?_ ?_; rotate_left 1; omega)) (by decide) (by decide +kernel) (by decide +kernel)) | exact rfl | exact zb01 _ | decide | fail) only [e37_0, e37_1, e37_4, e37_5, e37_6, e37_9, e37_12, e37_13, e37_15, e37_18, e37_19, e37_22, e37_23, e37_24, e37_27, e37_28, zgd_true, zcl_ite, zX, Nat.reduceLT, Option.isSome_some, true_and, and_true, zo_some, zoi_some, zon_some, zcl_some, Option.toList_some, Option.toList_none, List.cons_append, List.nil_append, ite_true, ite_false, ↓reduceIte, z10, eq_self, not_true_eq_false, not_false_eq_true, and_self, or_true, true_or, q0, S_803 h hs, eN, q1, Gt_100, S_800 h hs, S_A h hs k1]
theorem k_holds_yes {w : zH} (h : Sh w) {s N k m : Nat} (hs : s < 8) (hN : N ≤ 100) (eN : gi w (19 + 2 * s) 803 = nI N) (hk : k + m ≤ N) : zrun none (36, 0, [.ref (19 + 2 * s), .int (nI k), .int (nI m)], [], w) = some (some (.int 1), w) := by
  have q0 : ¬ nI k < 0 := nI_pos (by omega)
  have q1 : ¬ nI m < 0 := nI_pos (by omega)
  have q2 : ¬ nI N < nI m := nI_nlt (by omega) (by omega)
  have q3 : nI N - nI m = nI (N - m) := pk_sub (by omega)
  have q4 : ¬ nI (N - m) < nI k := nI_nlt (by omega) (by omega)
  simp (disch := first | exact Nat.le_of_ble_eq_true rfl | exact zct_i _ | exact zct_r _ | exact zct_J | exact zct_n | with_reducible assumption | (with_reducible show (zf _ _ _).isSome = true; exact Sh.some (by repeat first | with_reducible assumption | (with_reducible refine Sh.pf ?_ ?_; rotate_left 1; exact fun _ => by decide +kernel) | (with_reducible refine Sh.as ?_ ?_; rotate_left 1; exact fun _ => by decide +kernel) | (with_reducible refine Sh.asr ?_ ?_; rotate_left 1; exact fun _ => by decide +kernel) | with_reducible refine Sh.push ?_ | (with_reducible refine Sh.pfn ?_ ?_; rotate_left 1; omega) | (with_reducible refine Sh.asn ?_ ?_; rotate_left 1; omega)) (by decide) (by decide +kernel) (by decide +kernel)) | exact rfl | exact zb01 _ | decide | fail) only [e36_0, e36_1, e36_4, e36_5, e36_8, e36_9, e36_10, e36_13, e36_16, e36_17, e36_18, e36_21, e36_22, e36_23, e36_26, e36_27, e36_30, e36_31, zgd_true, zcl_ite, zX, Nat.reduceLT, Option.isSome_some, true_and, and_true, zo_some, zoi_some, zon_some, zcl_some, Option.toList_some, Option.toList_none, List.cons_append, List.nil_append, ite_true, ite_false, ↓reduceIte, z10, eq_self, not_true_eq_false, not_false_eq_true, and_self, or_true, true_or, S_803 h hs, eN, q0, q1, q2, q3, q4]
theorem k_holds_no {w : zH} (h : Sh w) {s N m : Nat} {y : Int32} (hs : s < 8) (hN : N ≤ 100) (eN : gi w (19 + 2 * s) 803 = nI N) (hm : m < 1000) (hk : ∀ k, y = nI k → k < 2 ^ 31 → N < k + m) : zrun none (36, 0, [.ref (19 + 2 * s), .int y, .int (nI m)], [], w) = some (some (.int 0), w) := by
  by_cases q0 : y < 0
  · simp (disch := first | exact Nat.le_of_ble_eq_true rfl | exact zct_i _ | exact zct_r _ | exact zct_J | exact zct_n | with_reducible assumption | (with_reducible show (zf _ _ _).isSome = true; exact Sh.some (by repeat first | with_reducible assumption | (with_reducible refine Sh.pf ?_ ?_; rotate_left 1; exact fun _ => by decide +kernel) | (with_reducible refine Sh.as ?_ ?_; rotate_left 1; exact fun _ => by decide +kernel) | (with_reducible refine Sh.asr ?_ ?_; rotate_left 1; exact fun _ => by decide +kernel) | with_reducible refine Sh.push ?_ | (with_reducible refine Sh.pfn ?_ ?_; rotate_left 1; omega) | (with_reducible refine Sh.asn ?_ ?_; rotate_left 1; omega)) (by decide) (by decide +kernel) (by decide +kernel)) | exact rfl | exact zb01 _ | decide | fail) only [e36_0, e36_1, e36_4, e36_5, e36_8, e36_9, e36_10, e36_13, e36_16, e36_17, e36_18, e36_21, e36_22, e36_23, e36_26, e36_27, e36_30, e36_31, zgd_true, zcl_ite, zX, Nat.reduceLT, Option.isSome_some, true_and, and_true, zo_some, zoi_some, zon_some, zcl_some, Option.toList_some, Option.toList_none, List.cons_append, List.nil_append, ite_true, ite_false, ↓reduceIte, z10, eq_self, not_true_eq_false, not_false_eq_true, and_self, or_true, true_or, q0]
  · obtain ⟨k, hk1, rfl⟩ := nI_of q0
    have q1 : ¬ nI m < 0 := nI_pos (by omega)
    have hh := hk k rfl hk1
    by_cases e : N < m
    · have q2 : nI N < nI m := nI_lt e (by omega)
      simp (disch := first | exact Nat.le_of_ble_eq_true rfl | exact zct_i _ | exact zct_r _ | exact zct_J | exact zct_n | with_reducible assumption | (with_reducible show (zf _ _ _).isSome = true; exact Sh.some (by repeat first | with_reducible assumption | (with_reducible refine Sh.pf ?_ ?_; rotate_left 1; exact fun _ => by decide +kernel) | (with_reducible refine Sh.as ?_ ?_; rotate_left 1; exact fun _ => by decide +kernel) | (with_reducible refine Sh.asr ?_ ?_; rotate_left 1; exact fun _ => by decide +kernel) | with_reducible refine Sh.push ?_ | (with_reducible refine Sh.pfn ?_ ?_; rotate_left 1; omega) | (with_reducible refine Sh.asn ?_ ?_; rotate_left 1; omega)) (by decide) (by decide +kernel) (by decide +kernel)) | exact rfl | exact zb01 _ | decide | fail) only [e36_0, e36_1, e36_4, e36_5, e36_8, e36_9, e36_10, e36_13, e36_16, e36_17, e36_18, e36_21, e36_22, e36_23, e36_26, e36_27, e36_30, e36_31, zgd_true, zcl_ite, zX, Nat.reduceLT, Option.isSome_some, true_and, and_true, zo_some, zoi_some, zon_some, zcl_some, Option.toList_some, Option.toList_none, List.cons_append, List.nil_append, ite_true, ite_false, ↓reduceIte, z10, eq_self, not_true_eq_false, not_false_eq_true, and_self, or_true, true_or, S_803 h hs, eN, q0, q1, q2]
    · have q2 : ¬ nI N < nI m := nI_nlt (by omega) (by omega)
      have q3 : nI N - nI m = nI (N - m) := pk_sub (by omega)
      have q4 : nI (N - m) < nI k := nI_lt (by omega) hk1
      simp (disch := first | exact Nat.le_of_ble_eq_true rfl | exact zct_i _ | exact zct_r _ | exact zct_J | exact zct_n | with_reducible assumption | (with_reducible show (zf _ _ _).isSome = true; exact Sh.some (by repeat first | with_reducible assumption | (with_reducible refine Sh.pf ?_ ?_; rotate_left 1; exact fun _ => by decide +kernel) | (with_reducible refine Sh.as ?_ ?_; rotate_left 1; exact fun _ => by decide +kernel) | (with_reducible refine Sh.asr ?_ ?_; rotate_left 1; exact fun _ => by decide +kernel) | with_reducible refine Sh.push ?_ | (with_reducible refine Sh.pfn ?_ ?_; rotate_left 1; omega) | (with_reducible refine Sh.asn ?_ ?_; rotate_left 1; omega)) (by decide) (by decide +kernel) (by decide +kernel)) | exact rfl | exact zb01 _ | decide | fail) only [e36_0, e36_1, e36_4, e36_5, e36_8, e36_9, e36_10, e36_13, e36_16, e36_17, e36_18, e36_21, e36_22, e36_23, e36_26, e36_27, e36_30, e36_31, zgd_true, zcl_ite, zX, Nat.reduceLT, Option.isSome_some, true_and, and_true, zo_some, zoi_some, zon_some, zcl_some, Option.toList_some, Option.toList_none, List.cons_append, List.nil_append, ite_true, ite_false, ↓reduceIte, z10, eq_self, not_true_eq_false, not_false_eq_true, and_self, or_true, true_or, S_803 h hs, eN, q0, q1, q2, q3, q4]
theorem sh12 : ∀ k, k < 13 → ((nI k &&& 31).toBitVec.smod 32).toNat = k := by decide +kernel
theorem zbt12 {T k : Nat} (hT : T < 4096) (hk : k < 12) : (nI T >>> (nI k &&& 31)) &&& 1 = if T.testBit k then 1 else 0 := by
  rw [pk_shrN (by omega) _ k (sh12 k (by omega)), pk_andN (Nat.lt_of_le_of_lt (Nat.div_le_self _ _) (by omega)) 1 (by decide), Nat.testBit_eq_decide_div_mod_eq]
  have : T / 2 ^ k % 2 = 0 ∨ T / 2 ^ k % 2 = 1 := by omega
  rcases this with e | e
  · rw [e]; rfl
  · rw [e]; rfl
theorem shl1 : ∀ n, n < 13 → (1 : Int32) <<< (nI n &&& 31) = nI (2 ^ n) := by decide +kernel
/-- the sum over a set -/
def ss (f : Nat → Int32) (T : Nat) : Int32 := sm (fun k => if T.testBit k = true then f k else 0) 12
/-- the least member -/
def lm (T : Nat) : Nat := match lnB (fun c => T.testBit c) 12 0 with
  | some c => c
  | none => 0
def lmC (T : Nat) : Bool := decide (lm T < 12) && (List.range 12).all (fun k => if k < lm T then !T.testBit k && (T - 1).testBit k else if k = lm T then T.testBit k && !(T - 1).testBit k else T.testBit k == (T - 1).testBit k)
theorem lmC64 : ∀ a, a < 64 → ∀ b, b < 64 → 0 < 64 * a + b → lmC (64 * a + b) = true := by decide +kernel
theorem lm64 {T : Nat} (hT : T < 4096) (h0 : 0 < T) : lm T < 12 ∧ ∀ k, k < 12 → (k < lm T → T.testBit k = false ∧ (T - 1).testBit k = true) ∧ (k = lm T → T.testBit k = true ∧ (T - 1).testBit k = false) ∧ (lm T < k → T.testBit k = (T - 1).testBit k) := by
  have e : T = 64 * (T / 64) + T % 64 := by omega
  have l := lmC64 (T / 64) (by omega) (T % 64) (by omega) (by omega)
  rw [← e] at l
  unfold lmC at l
  rw [Bool.and_eq_true, decide_eq_true_iff] at l
  refine ⟨l.1, fun k hk => ?_⟩
  have q := List.all_eq_true.mp l.2 k (List.mem_range.mpr hk)
  refine ⟨fun h => ?_, fun h => ?_, fun h => ?_⟩
  · rw [if_pos h] at q
    simpa using q
  · rw [if_neg (by omega), if_pos h] at q
    simpa using q
  · rw [if_neg (by omega), if_neg (by omega)] at q
    simpa using q
theorem lmI : ∀ a, a < 64 → ∀ b, b < 64 → 0 < 64 * a + b → (nI (64 * a + b) &&& -nI (64 * a + b)) - 1 = nI (2 ^ lm (64 * a + b) - 1) := by decide +kernel
theorem bc12 : ∀ k, k < 12 → bc5 (bc4 (bc3 (bc2 (bc1 (nI (2 ^ k - 1)))))) = nI k := by decide +kernel
theorem k_leastMember {T : Nat} (hT : T < 4096) (h0 : 0 < T) (w : zH) : lm T < 12 ∧ zrun none (130, 0, [.int (nI T)], [], w) = some (some (.int (nI (lm T))), w) := by
  have e : T = 64 * (T / 64) + T % 64 := by omega
  have l := lm64 hT h0
  have i := lmI (T / 64) (by omega) (T % 64) (by omega) (by omega)
  rw [← e] at i
  refine ⟨l.1, ?_⟩
  have kb : zrun none (225, 0, [.int (nI (2 ^ lm T - 1))], [], w) = some (some (.int (nI (lm T))), w) := by
    rw [← bc12 (lm T) l.1]
    generalize nI (2 ^ lm T - 1) = x
    simp (disch := first | exact Nat.le_of_ble_eq_true rfl | exact zct_i _ | exact zct_r _ | exact zct_J | exact zct_n | with_reducible assumption | (with_reducible show (zf _ _ _).isSome = true; exact Sh.some (by repeat first | with_reducible assumption | (with_reducible refine Sh.pf ?_ ?_; rotate_left 1; exact fun _ => by decide +kernel) | (with_reducible refine Sh.as ?_ ?_; rotate_left 1; exact fun _ => by decide +kernel) | (with_reducible refine Sh.asr ?_ ?_; rotate_left 1; exact fun _ => by decide +kernel) | with_reducible refine Sh.push ?_ | (with_reducible refine Sh.pfn ?_ ?_; rotate_left 1; omega) | (with_reducible refine Sh.asn ?_ ?_; rotate_left 1; omega)) (by decide) (by decide +kernel) (by decide +kernel)) | exact rfl | exact zb01 _ | decide | fail) only [e225_0, e225_1, e225_2, e225_3, e225_4, e225_7, e225_8, e225_9, e225_10, e225_11, e225_14, e225_15, e225_16, e225_17, e225_18, e225_21, e225_22, e225_23, e225_24, e225_25, e225_26, e225_27, e225_28, e225_29, e225_32, e225_33, e225_34, e225_35, e225_36, e225_38, e225_39, e225_40, e225_41, e225_42, e225_43, e225_45, e225_46, e225_47, e225_48, e225_49, e225_51, e225_52, zgd_true, zcl_ite, zX, Nat.reduceLT, Option.isSome_some, true_and, and_true, zo_some, zoi_some, zon_some, zcl_some, Option.toList_some, Option.toList_none, List.cons_append, List.nil_append, ite_true, ite_false, ↓reduceIte, z10, eq_self, not_true_eq_false, not_false_eq_true, and_self, or_true, true_or]
    rfl
  have q : ¬ (11 : Int32) < nI (lm T) := nI_nlt (b := lm T) (a := 11) (by omega) (by decide)
  simp (disch := first | exact Nat.le_of_ble_eq_true rfl | exact zct_i _ | exact zct_r _ | exact zct_J | exact zct_n | with_reducible assumption | (with_reducible show (zf _ _ _).isSome = true; exact Sh.some (by repeat first | with_reducible assumption | (with_reducible refine Sh.pf ?_ ?_; rotate_left 1; exact fun _ => by decide +kernel) | (with_reducible refine Sh.as ?_ ?_; rotate_left 1; exact fun _ => by decide +kernel) | (with_reducible refine Sh.asr ?_ ?_; rotate_left 1; exact fun _ => by decide +kernel) | with_reducible refine Sh.push ?_ | (with_reducible refine Sh.pfn ?_ ?_; rotate_left 1; omega) | (with_reducible refine Sh.asn ?_ ?_; rotate_left 1; omega)) (by decide) (by decide +kernel) (by decide +kernel)) | exact rfl | exact zb01 _ | decide | fail) only [e130_0, e130_1, e130_2, e130_3, e130_4, e130_5, e130_6, e130_9, e130_11, e130_14, zgd_true, zcl_ite, zX, Nat.reduceLT, Option.isSome_some, true_and, and_true, zo_some, zoi_some, zon_some, zcl_some, Option.toList_some, Option.toList_none, List.cons_append, List.nil_append, ite_true, ite_false, ↓reduceIte, z10, eq_self, not_true_eq_false, not_false_eq_true, and_self, or_true, true_or, i, kb, k_min, q]
theorem zadsub (a b : Int32) : a + (b - a) = b := by rw [Int32.sub_eq_add_neg, Int32.add_comm b, ← Int32.add_assoc, Int32.add_right_neg, Int32.zero_add]
theorem ss_step (f : Nat → Int32) {T : Nat} (hT : T < 4096) (h0 : 0 < T) : ss f T = ss f (T - 1) + (f (lm T) - sm f (lm T)) := by
  obtain ⟨l1, l2⟩ := lm64 hT h0
  have lo : ∀ n, n ≤ lm T → sm (fun k => if T.testBit k = true then f k else 0) n = 0 ∧ sm (fun k => if (T - 1).testBit k = true then f k else 0) n = sm f n := by
    intro n
    induction n with
    | zero => intro _; exact ⟨rfl, rfl⟩
    | succ n ih =>
      intro hn
      obtain ⟨i1, i2⟩ := ih (by omega)
      have b := (l2 n (by omega)).1 (by omega)
      rw [sm, sm, sm, i1, i2, b.1, b.2]
      exact ⟨rfl, rfl⟩
  have hi : ∀ m, lm T + 1 + m ≤ 12 → sm (fun k => if T.testBit k = true then f k else 0) (lm T + 1 + m) = sm (fun k => if (T - 1).testBit k = true then f k else 0) (lm T + 1 + m) + (f (lm T) - sm f (lm T)) := by
    intro m
    induction m with
    | zero =>
      intro _
      have b := (l2 (lm T) l1).2.1 rfl
      have o := lo (lm T) (Nat.le_refl _)
      rw [Nat.add_zero, sm, sm, o.1, o.2, b.1, b.2]
      simp only [if_true, Bool.false_eq_true, if_false]
      rw [Int32.zero_add, Int32.add_zero, zadsub]
    | succ m ih =>
      intro hm
      have b := (l2 (lm T + 1 + m) (by omega)).2.2 (by omega)
      have i := ih (by omega)
      rw [show lm T + 1 + (m + 1) = (lm T + 1 + m) + 1 by omega, sm, sm, i, b]
      rw [Int32.add_assoc, Int32.add_assoc, Int32.add_comm (f (lm T) - sm f (lm T))]
  have := hi (11 - lm T) (by omega)
  rw [show lm T + 1 + (11 - lm T) = 12 by omega] at this
  exact this
theorem ss_0 (f : Nat → Int32) : ss f 0 = 0 := by
  unfold ss
  simp only [Nat.zero_testBit, Bool.false_eq_true, if_false]
  exact sm_zero 12
/-- n pairs from i on, in both -/
def PW (w : zH) (s i n N : Nat) (c b : Nat → Int32) : Prop := Sh w ∧ s < 8 ∧ N ≤ 100 ∧ i + 2 * n ≤ N ∧ n ≤ 12 ∧ gi w (19 + 2 * s) 803 = nI N ∧ ∀ k, k < n → ga w (20 + 2 * s) (i + 2 * k) = c k ∧ ga w (20 + 2 * s) (i + 2 * k + 1) = b k ∧ ga w 38 (100 * s + i + 2 * k) = c k ∧ ga w 38 (100 * s + i + 2 * k + 1) = b k
theorem smL_sm12 (f : Nat → Int32) : smL f 12 0 0 = sm f 12 := rfl
theorem k_sumOver_loop {w : zH} (h : Sh w) {s N X j : Nat} (hs : s < 8) (hN : N ≤ 100) (eN : gi w (19 + 2 * s) 803 = nI N) (hX : X < 4096) {f : Nat → Int32} (hf : ∀ k, k < 12 → X.testBit k = true → j + 2 * k < N ∧ ga w (20 + 2 * s) (j + 2 * k) = f k) : ∀ (m i : Nat) (acc : Int32), i + m = 12 → zrun none (41, 5, [.ref (19 + 2 * s), .int (nI X), .int (nI j), .int acc, .int (nI i)], [], w) = some (some (.int (smL (fun k => if X.testBit k = true then f k else 0) m i acc)), w) := by
  intro m
  induction m with
  | zero =>
    intro i acc hi
    have q1 : (12 : Int32) ≤ nI i := nI_le (a := 12) (by omega) (by omega)
    rw [e41_5]
    simp (disch := first | exact Nat.le_of_ble_eq_true rfl | exact zct_i _ | exact zct_r _ | exact zct_J | exact zct_n | with_reducible assumption | (with_reducible show (zf _ _ _).isSome = true; exact Sh.some (by repeat first | with_reducible assumption | (with_reducible refine Sh.pf ?_ ?_; rotate_left 1; exact fun _ => by decide +kernel) | (with_reducible refine Sh.as ?_ ?_; rotate_left 1; exact fun _ => by decide +kernel) | (with_reducible refine Sh.asr ?_ ?_; rotate_left 1; exact fun _ => by decide +kernel) | with_reducible refine Sh.push ?_ | (with_reducible refine Sh.pfn ?_ ?_; rotate_left 1; omega) | (with_reducible refine Sh.asn ?_ ?_; rotate_left 1; omega)) (by decide) (by decide +kernel) (by decide +kernel)) | exact rfl | exact zb01 _ | decide | fail) only [e41_0, e41_1, e41_2, e41_3, e41_7, e41_9, e41_12, e41_13, e41_15, e41_18, e41_21, e41_22, e41_23, e41_24, e41_25, e41_27, e41_28, e41_29, e41_32, e41_33, e41_34, e41_37, e41_40, e41_41, zgd_true, zcl_ite, zX, Nat.reduceLT, Option.isSome_some, true_and, and_true, zo_some, zoi_some, zon_some, zcl_some, Option.toList_some, Option.toList_none, List.cons_append, List.nil_append, ite_true, ite_false, ↓reduceIte, z10, eq_self, not_true_eq_false, not_false_eq_true, and_self, or_true, true_or, q1, smL]
  | succ m ih =>
    intro i acc hi
    have hi12 : i < 12 := by omega
    have ih1 := fun a => ih (i + 1) a (by omega)
    have bt := zbt12 hX hi12
    have si := S_is h hs
    rw [e41_5]
    cases hb : X.testBit i with
    | false =>
      rw [hb] at bt
      simp only [Bool.false_eq_true, if_false] at bt
      simp (disch := first | exact Nat.le_of_ble_eq_true rfl | exact zct_i _ | exact zct_r _ | exact zct_J | exact zct_n | with_reducible assumption | (with_reducible show (zf _ _ _).isSome = true; exact Sh.some (by repeat first | with_reducible assumption | (with_reducible refine Sh.pf ?_ ?_; rotate_left 1; exact fun _ => by decide +kernel) | (with_reducible refine Sh.as ?_ ?_; rotate_left 1; exact fun _ => by decide +kernel) | (with_reducible refine Sh.asr ?_ ?_; rotate_left 1; exact fun _ => by decide +kernel) | with_reducible refine Sh.push ?_ | (with_reducible refine Sh.pfn ?_ ?_; rotate_left 1; omega) | (with_reducible refine Sh.asn ?_ ?_; rotate_left 1; omega)) (by decide) (by decide +kernel) (by decide +kernel)) | exact rfl | exact zb01 _ | decide | fail) only [e41_0, e41_1, e41_2, e41_3, e41_7, e41_9, e41_12, e41_13, e41_15, e41_18, e41_21, e41_22, e41_23, e41_24, e41_25, e41_27, e41_28, e41_29, e41_32, e41_33, e41_34, e41_37, e41_40, e41_41, zgd_true, zcl_ite, zX, Nat.reduceLT, Option.isSome_some, true_and, and_true, zo_some, zoi_some, zon_some, zcl_some, Option.toList_some, Option.toList_none, List.cons_append, List.nil_append, ite_true, ite_false, ↓reduceIte, z10, eq_self, not_true_eq_false, not_false_eq_true, and_self, or_true, true_or, Gt_12, k_holdsBit, bt, nI_1, ih1, smL, hb, Bool.false_eq_true, Int32.add_zero]
    | true =>
      rw [hb] at bt
      simp only [if_true] at bt
      have hh := hf i hi12 hb
      have ki := k_item h hs hN eN hh.1
      rw [hh.2] at ki
      simp (disch := first | exact Nat.le_of_ble_eq_true rfl | exact zct_i _ | exact zct_r _ | exact zct_J | exact zct_n | with_reducible assumption | (with_reducible show (zf _ _ _).isSome = true; exact Sh.some (by repeat first | with_reducible assumption | (with_reducible refine Sh.pf ?_ ?_; rotate_left 1; exact fun _ => by decide +kernel) | (with_reducible refine Sh.as ?_ ?_; rotate_left 1; exact fun _ => by decide +kernel) | (with_reducible refine Sh.asr ?_ ?_; rotate_left 1; exact fun _ => by decide +kernel) | with_reducible refine Sh.push ?_ | (with_reducible refine Sh.pfn ?_ ?_; rotate_left 1; omega) | (with_reducible refine Sh.asn ?_ ?_; rotate_left 1; omega)) (by decide) (by decide +kernel) (by decide +kernel)) | exact rfl | exact zb01 _ | decide | fail) only [e41_0, e41_1, e41_2, e41_3, e41_7, e41_9, e41_12, e41_13, e41_15, e41_18, e41_21, e41_22, e41_23, e41_24, e41_25, e41_27, e41_28, e41_29, e41_32, e41_33, e41_34, e41_37, e41_40, e41_41, zgd_true, zcl_ite, zX, Nat.reduceLT, Option.isSome_some, true_and, and_true, zo_some, zoi_some, zon_some, zcl_some, Option.toList_some, Option.toList_none, List.cons_append, List.nil_append, ite_true, ite_false, ↓reduceIte, z10, eq_self, not_true_eq_false, not_false_eq_true, and_self, or_true, true_or, Gt_12, k_holdsBit, bt, zm_2, nI_add, si, ki, nI_1, ih1, smL, hb]
theorem bit_lt {X n k : Nat} (hX : X < 2 ^ n) (h : X.testBit k = true) : k < n := by
  refine Classical.byContradiction (fun q => ?_)
  have : 2 ^ n ≤ 2 ^ k := Nat.pow_le_pow_right (by decide) (by omega)
  rw [Nat.testBit_lt_two_pow (by omega)] at h
  cases h
theorem p12 {n : Nat} (h : n ≤ 12) : 2 ^ n ≤ 4096 := Nat.pow_le_pow_right (by decide) h
theorem k_sumOver_c {w : zH} {s i n N : Nat} {c b : Nat → Int32} (P : PW w s i n N c b) {X : Nat} (hX : X < 2 ^ n) : zrun none (41, 0, [.ref (19 + 2 * s), .int (nI X), .int (nI i), zJ, zJ], [], w) = some (some (.int (ss c X)), w) := by
  obtain ⟨h, hs, hN, hi, hn, eN, hp⟩ := P
  have hX2 := Nat.lt_of_lt_of_le hX (p12 hn)
  have lp := k_sumOver_loop h hs hN eN hX2 (f := c) (j := i) (fun k hk hb => by
    have := bit_lt hX hb
    exact ⟨by omega, (hp k this).1⟩) 12 0 0 (by omega)
  rw [smL_sm12, nI_0] at lp
  simp (disch := first | exact Nat.le_of_ble_eq_true rfl | exact zct_i _ | exact zct_r _ | exact zct_J | exact zct_n | with_reducible assumption | (with_reducible show (zf _ _ _).isSome = true; exact Sh.some (by repeat first | with_reducible assumption | (with_reducible refine Sh.pf ?_ ?_; rotate_left 1; exact fun _ => by decide +kernel) | (with_reducible refine Sh.as ?_ ?_; rotate_left 1; exact fun _ => by decide +kernel) | (with_reducible refine Sh.asr ?_ ?_; rotate_left 1; exact fun _ => by decide +kernel) | with_reducible refine Sh.push ?_ | (with_reducible refine Sh.pfn ?_ ?_; rotate_left 1; omega) | (with_reducible refine Sh.asn ?_ ?_; rotate_left 1; omega)) (by decide) (by decide +kernel) (by decide +kernel)) | exact rfl | exact zb01 _ | decide | fail) only [e41_0, e41_1, e41_2, e41_3, e41_7, e41_9, e41_12, e41_13, e41_15, e41_18, e41_21, e41_22, e41_23, e41_24, e41_25, e41_27, e41_28, e41_29, e41_32, e41_33, e41_34, e41_37, e41_40, e41_41, zgd_true, zcl_ite, zX, Nat.reduceLT, Option.isSome_some, true_and, and_true, zo_some, zoi_some, zon_some, zcl_some, Option.toList_some, Option.toList_none, List.cons_append, List.nil_append, ite_true, ite_false, ↓reduceIte, z10, eq_self, not_true_eq_false, not_false_eq_true, and_self, or_true, true_or]
  exact lp
theorem k_sumOver_b {w : zH} {s i n N : Nat} {c b : Nat → Int32} (P : PW w s i n N c b) {X : Nat} (hX : X < 2 ^ n) : zrun none (41, 0, [.ref (19 + 2 * s), .int (nI X), .int (nI (i + 1)), zJ, zJ], [], w) = some (some (.int (ss b X)), w) := by
  obtain ⟨h, hs, hN, hi, hn, eN, hp⟩ := P
  have hX2 := Nat.lt_of_lt_of_le hX (p12 hn)
  have lp := k_sumOver_loop h hs hN eN hX2 (f := b) (j := i + 1) (fun k hk hb => by
    have := bit_lt hX hb
    refine ⟨by omega, ?_⟩
    rw [show i + 1 + 2 * k = i + 2 * k + 1 by omega]
    exact (hp k this).2.1) 12 0 0 (by omega)
  rw [smL_sm12, nI_0] at lp
  simp (disch := first | exact Nat.le_of_ble_eq_true rfl | exact zct_i _ | exact zct_r _ | exact zct_J | exact zct_n | with_reducible assumption | (with_reducible show (zf _ _ _).isSome = true; exact Sh.some (by repeat first | with_reducible assumption | (with_reducible refine Sh.pf ?_ ?_; rotate_left 1; exact fun _ => by decide +kernel) | (with_reducible refine Sh.as ?_ ?_; rotate_left 1; exact fun _ => by decide +kernel) | (with_reducible refine Sh.asr ?_ ?_; rotate_left 1; exact fun _ => by decide +kernel) | with_reducible refine Sh.push ?_ | (with_reducible refine Sh.pfn ?_ ?_; rotate_left 1; omega) | (with_reducible refine Sh.asn ?_ ?_; rotate_left 1; omega)) (by decide) (by decide +kernel) (by decide +kernel)) | exact rfl | exact zb01 _ | decide | fail) only [e41_0, e41_1, e41_2, e41_3, e41_7, e41_9, e41_12, e41_13, e41_15, e41_18, e41_21, e41_22, e41_23, e41_24, e41_25, e41_27, e41_28, e41_29, e41_32, e41_33, e41_34, e41_37, e41_40, e41_41, zgd_true, zcl_ite, zX, Nat.reduceLT, Option.isSome_some, true_and, and_true, zo_some, zoi_some, zon_some, zcl_some, Option.toList_some, Option.toList_none, List.cons_append, List.nil_append, ite_true, ite_false, ↓reduceIte, z10, eq_self, not_true_eq_false, not_false_eq_true, and_self, or_true, true_or]
  exact lp
theorem m_sumOf_loop {w : zH} (h : Sh w) {X j : Nat} {q : Int32} {o : Nat} (hq : q = nI o) (hX : X < 4096) {f : Nat → Int32} (hf : ∀ k, k < 12 → X.testBit k = true → j + 2 * k + o < 800 ∧ ga w 38 (j + 2 * k + o) = f k) : ∀ (m i : Nat) (acc : Int32), i + m = 12 → zrun none (200, 6, [.ref 35, .int (nI j), .int (nI X), .int q, .int acc, .int (nI i)], [], w) = some (some (.int (smL (fun k => if X.testBit k = true then f k else 0) m i acc)), w) := by
  intro m
  induction m with
  | zero =>
    intro i acc hi
    have q1 : (12 : Int32) ≤ nI i := nI_le (a := 12) (by omega) (by omega)
    rw [e200_6]
    simp (disch := first | exact Nat.le_of_ble_eq_true rfl | exact zct_i _ | exact zct_r _ | exact zct_J | exact zct_n | with_reducible assumption | (with_reducible show (zf _ _ _).isSome = true; exact Sh.some (by repeat first | with_reducible assumption | (with_reducible refine Sh.pf ?_ ?_; rotate_left 1; exact fun _ => by decide +kernel) | (with_reducible refine Sh.as ?_ ?_; rotate_left 1; exact fun _ => by decide +kernel) | (with_reducible refine Sh.asr ?_ ?_; rotate_left 1; exact fun _ => by decide +kernel) | with_reducible refine Sh.push ?_ | (with_reducible refine Sh.pfn ?_ ?_; rotate_left 1; omega) | (with_reducible refine Sh.asn ?_ ?_; rotate_left 1; omega)) (by decide) (by decide +kernel) (by decide +kernel)) | exact rfl | exact zb01 _ | decide | fail) only [e200_0, e200_1, e200_3, e200_4, e200_8, e200_10, e200_13, e200_15, e200_16, e200_18, e200_19, e200_20, e200_21, e200_22, e200_25, e200_26, e200_29, e200_30, e200_31, e200_33, e200_34, e200_35, e200_36, e200_37, e200_38, e200_41, e200_42, e200_43, e200_45, e200_48, e200_51, e200_53, zgd_true, zcl_ite, zX, Nat.reduceLT, Option.isSome_some, true_and, and_true, zo_some, zoi_some, zon_some, zcl_some, Option.toList_some, Option.toList_none, List.cons_append, List.nil_append, ite_true, ite_false, ↓reduceIte, z10, eq_self, not_true_eq_false, not_false_eq_true, and_self, or_true, true_or, q1, smL]
  | succ m ih =>
    intro i acc hi
    have hi12 : i < 12 := by omega
    have ih1 := fun a => ih (i + 1) a (by omega)
    have bt := zbt12 hX hi12
    rw [e200_6]
    cases hb : X.testBit i with
    | false =>
      rw [hb] at bt
      simp only [Bool.false_eq_true, if_false] at bt
      simp (disch := first | exact Nat.le_of_ble_eq_true rfl | exact zct_i _ | exact zct_r _ | exact zct_J | exact zct_n | with_reducible assumption | (with_reducible show (zf _ _ _).isSome = true; exact Sh.some (by repeat first | with_reducible assumption | (with_reducible refine Sh.pf ?_ ?_; rotate_left 1; exact fun _ => by decide +kernel) | (with_reducible refine Sh.as ?_ ?_; rotate_left 1; exact fun _ => by decide +kernel) | (with_reducible refine Sh.asr ?_ ?_; rotate_left 1; exact fun _ => by decide +kernel) | with_reducible refine Sh.push ?_ | (with_reducible refine Sh.pfn ?_ ?_; rotate_left 1; omega) | (with_reducible refine Sh.asn ?_ ?_; rotate_left 1; omega)) (by decide) (by decide +kernel) (by decide +kernel)) | exact rfl | exact zb01 _ | decide | fail) only [e200_0, e200_1, e200_3, e200_4, e200_8, e200_10, e200_13, e200_15, e200_16, e200_18, e200_19, e200_20, e200_21, e200_22, e200_25, e200_26, e200_29, e200_30, e200_31, e200_33, e200_34, e200_35, e200_36, e200_37, e200_38, e200_41, e200_42, e200_43, e200_45, e200_48, e200_51, e200_53, zgd_true, zcl_ite, zX, Nat.reduceLT, Option.isSome_some, true_and, and_true, zo_some, zoi_some, zon_some, zcl_some, Option.toList_some, Option.toList_none, List.cons_append, List.nil_append, ite_true, ite_false, ↓reduceIte, z10, eq_self, not_true_eq_false, not_false_eq_true, and_self, or_true, true_or, Gt_12, bt, Int32.reduceAdd, Int32.reduceMul, Int32.reduceSub, Int32.reduceDiv, Int32.reduceLT, Int32.reduceLE, Int32.reduceToNatClampNeg, Nat.reduceAdd, Nat.reduceMul, Nat.reduceLT, Nat.reduceEqDiff, q_0_1, q_0_2, q_0_3, q_0_4, q_0_5, q_0_6, q_0_7, q_0_8, q_0_9, q_1_0, q_1_2, q_1_3, q_1_4, q_1_5, q_1_6, q_1_7, q_1_8, q_1_9, q_2_0, q_2_1, q_2_3, q_2_4, q_2_5, q_2_6, q_2_7, q_2_8, q_2_9, q_3_0, q_3_1, q_3_2, q_3_4, q_3_5, q_3_6, q_3_7, q_3_8, q_3_9, q_4_0, q_4_1, q_4_2, q_4_3, q_4_5, q_4_6, q_4_7, q_4_8, q_4_9, q_5_0, q_5_1, q_5_2, q_5_3, q_5_4, q_5_6, q_5_7, q_5_8, q_5_9, q_6_0, q_6_1, q_6_2, q_6_3, q_6_4, q_6_5, q_6_7, q_6_8, q_6_9, q_7_0, q_7_1, q_7_2, q_7_3, q_7_4, q_7_5, q_7_6, q_7_8, q_7_9, q_8_0, q_8_1, q_8_2, q_8_3, q_8_4, q_8_5, q_8_6, q_8_7, q_8_9, q_9_0, q_9_1, q_9_2, q_9_3, q_9_4, q_9_5, q_9_6, q_9_7, q_9_8, nI_1, ih1, smL, hb, Bool.false_eq_true]
    | true =>
      rw [hb] at bt
      simp only [if_true] at bt
      have hh := hf i hi12 hb
      have ai := A_38 h hh.1
      rw [hh.2] at ai
      rw [hq] at ih1 ⊢
      simp (disch := first | exact Nat.le_of_ble_eq_true rfl | exact zct_i _ | exact zct_r _ | exact zct_J | exact zct_n | with_reducible assumption | (with_reducible show (zf _ _ _).isSome = true; exact Sh.some (by repeat first | with_reducible assumption | (with_reducible refine Sh.pf ?_ ?_; rotate_left 1; exact fun _ => by decide +kernel) | (with_reducible refine Sh.as ?_ ?_; rotate_left 1; exact fun _ => by decide +kernel) | (with_reducible refine Sh.asr ?_ ?_; rotate_left 1; exact fun _ => by decide +kernel) | with_reducible refine Sh.push ?_ | (with_reducible refine Sh.pfn ?_ ?_; rotate_left 1; omega) | (with_reducible refine Sh.asn ?_ ?_; rotate_left 1; omega)) (by decide) (by decide +kernel) (by decide +kernel)) | exact rfl | exact zb01 _ | decide | fail) only [e200_0, e200_1, e200_3, e200_4, e200_8, e200_10, e200_13, e200_15, e200_16, e200_18, e200_19, e200_20, e200_21, e200_22, e200_25, e200_26, e200_29, e200_30, e200_31, e200_33, e200_34, e200_35, e200_36, e200_37, e200_38, e200_41, e200_42, e200_43, e200_45, e200_48, e200_51, e200_53, zgd_true, zcl_ite, zX, Nat.reduceLT, Option.isSome_some, true_and, and_true, zo_some, zoi_some, zon_some, zcl_some, Option.toList_some, Option.toList_none, List.cons_append, List.nil_append, ite_true, ite_false, ↓reduceIte, z10, eq_self, not_true_eq_false, not_false_eq_true, and_self, or_true, true_or, i_35 h, f_35_1200 h, f_35_1201 h, f_35_1202 h, f_35_1203 h, f_35_1204 h, f_35_1205 h, f_35_1206 h, f_35_1207 h, f_35_1208 h, f_35_1209 h, f_35_1210 h, f_35_1211 h, f_35_1212 h, f_35_1213 h, f_35_1214 h, f_35_1215 h, f_35_1216 h, f_35_1217 h, f_35_1218 h, f_35_1219 h, f_35_1220 h, f_35_1221 h, f_35_1222 h, f_35_1223 h, f_35_1224 h, f_35_1225 h, f_35_1226 h, f_35_1227 h, f_35_1228 h, f_35_1229 h, f_35_1230 h, f_35_1231 h, f_35_1232 h, f_35_1233 h, f_35_1234 h, f_35_1235 h, f_35_1236 h, f_35_1237 h, f_35_1238 h, f_35_1239 h, f_35_1240 h, f_35_1241 h, f_35_1242 h, f_35_1243 h, f_35_1244 h, f_35_1245 h, f_35_1246 h, f_35_1247 h, f_35_1248 h, f_35_1249 h, f_35_1250 h, Gt_12, bt, zm_2, nI_add, ai, nI_1, ih1, smL, hb]
theorem m_sumOf_c {w : zH} {s i n N : Nat} {c b : Nat → Int32} (P : PW w s i n N c b) {X : Nat} (hX : X < 2 ^ n) : zrun none (200, 0, [.ref 35, .int (nI (100 * s + i)), .int (nI X), .int 0, zJ, zJ], [], w) = some (some (.int (ss c X)), w) := by
  obtain ⟨h, hs, hN, hi, hn, eN, hp⟩ := P
  have hX2 := Nat.lt_of_lt_of_le hX (p12 hn)
  have lp := m_sumOf_loop h (q := 0) (o := 0) rfl hX2 (f := c) (j := 100 * s + i) (fun k hk hb => by
    have := bit_lt hX hb
    exact ⟨by omega, (hp k this).2.2.1⟩) 12 0 0 (by omega)
  rw [smL_sm12, nI_0] at lp
  simp (disch := first | exact Nat.le_of_ble_eq_true rfl | exact zct_i _ | exact zct_r _ | exact zct_J | exact zct_n | with_reducible assumption | (with_reducible show (zf _ _ _).isSome = true; exact Sh.some (by repeat first | with_reducible assumption | (with_reducible refine Sh.pf ?_ ?_; rotate_left 1; exact fun _ => by decide +kernel) | (with_reducible refine Sh.as ?_ ?_; rotate_left 1; exact fun _ => by decide +kernel) | (with_reducible refine Sh.asr ?_ ?_; rotate_left 1; exact fun _ => by decide +kernel) | with_reducible refine Sh.push ?_ | (with_reducible refine Sh.pfn ?_ ?_; rotate_left 1; omega) | (with_reducible refine Sh.asn ?_ ?_; rotate_left 1; omega)) (by decide) (by decide +kernel) (by decide +kernel)) | exact rfl | exact zb01 _ | decide | fail) only [e200_0, e200_1, e200_3, e200_4, e200_8, e200_10, e200_13, e200_15, e200_16, e200_18, e200_19, e200_20, e200_21, e200_22, e200_25, e200_26, e200_29, e200_30, e200_31, e200_33, e200_34, e200_35, e200_36, e200_37, e200_38, e200_41, e200_42, e200_43, e200_45, e200_48, e200_51, e200_53, zgd_true, zcl_ite, zX, Nat.reduceLT, Option.isSome_some, true_and, and_true, zo_some, zoi_some, zon_some, zcl_some, Option.toList_some, Option.toList_none, List.cons_append, List.nil_append, ite_true, ite_false, ↓reduceIte, z10, eq_self, not_true_eq_false, not_false_eq_true, and_self, or_true, true_or]
  exact lp
theorem m_sumOf_b {w : zH} {s i n N : Nat} {c b : Nat → Int32} (P : PW w s i n N c b) {X : Nat} (hX : X < 2 ^ n) : zrun none (200, 0, [.ref 35, .int (nI (100 * s + i)), .int (nI X), .int 1, zJ, zJ], [], w) = some (some (.int (ss b X)), w) := by
  obtain ⟨h, hs, hN, hi, hn, eN, hp⟩ := P
  have hX2 := Nat.lt_of_lt_of_le hX (p12 hn)
  have lp := m_sumOf_loop h (q := 1) (o := 1) rfl hX2 (f := b) (j := 100 * s + i) (fun k hk hb => by
    have := bit_lt hX hb
    exact ⟨by omega, (hp k this).2.2.2⟩) 12 0 0 (by omega)
  rw [smL_sm12, nI_0] at lp
  simp (disch := first | exact Nat.le_of_ble_eq_true rfl | exact zct_i _ | exact zct_r _ | exact zct_J | exact zct_n | with_reducible assumption | (with_reducible show (zf _ _ _).isSome = true; exact Sh.some (by repeat first | with_reducible assumption | (with_reducible refine Sh.pf ?_ ?_; rotate_left 1; exact fun _ => by decide +kernel) | (with_reducible refine Sh.as ?_ ?_; rotate_left 1; exact fun _ => by decide +kernel) | (with_reducible refine Sh.asr ?_ ?_; rotate_left 1; exact fun _ => by decide +kernel) | with_reducible refine Sh.push ?_ | (with_reducible refine Sh.pfn ?_ ?_; rotate_left 1; omega) | (with_reducible refine Sh.asn ?_ ?_; rotate_left 1; omega)) (by decide) (by decide +kernel) (by decide +kernel)) | exact rfl | exact zb01 _ | decide | fail) only [e200_0, e200_1, e200_3, e200_4, e200_8, e200_10, e200_13, e200_15, e200_16, e200_18, e200_19, e200_20, e200_21, e200_22, e200_25, e200_26, e200_29, e200_30, e200_31, e200_33, e200_34, e200_35, e200_36, e200_37, e200_38, e200_41, e200_42, e200_43, e200_45, e200_48, e200_51, e200_53, zgd_true, zcl_ite, zX, Nat.reduceLT, Option.isSome_some, true_and, and_true, zo_some, zoi_some, zon_some, zcl_some, Option.toList_some, Option.toList_none, List.cons_append, List.nil_append, ite_true, ite_false, ↓reduceIte, z10, eq_self, not_true_eq_false, not_false_eq_true, and_self, or_true, true_or]
  exact lp
theorem PW_fr {w u : zH} {s i n N : Nat} {c b : Nat → Int32} {as : List Nat} {fs : List (Nat × Nat)} (P : PW w s i n N c b) (hf : zFr as fs w u) (h1 : (as.all fun a => decide (a < 19 ∨ (34 < a ∧ a ≠ 38))) = true) (h2 : (fs.all fun q => decide (q.1 < 19 ∨ (34 < q.1 ∧ q.1 ≠ 38))) = true) : PW u s i n N c b := by
  obtain ⟨h, hs, hN, hi, hn, eN, hp⟩ := P
  have g : ∀ a, (19 ≤ a ∧ a ≤ 34) ∨ a = 38 → as.contains a = false ∧ (fs.all fun q => decide (q.1 ≠ a)) = true := by
    intro a ha
    constructor
    · rw [← Bool.not_eq_true]
      intro hc
      have := of_decide_eq_true (List.all_eq_true.mp h1 a (by simpa using hc))
      omega
    · refine List.all_eq_true.mpr (fun q hq => decide_eq_true ?_)
      have := of_decide_eq_true (List.all_eq_true.mp h2 q hq)
      omega
  have g1 := g (19 + 2 * s) (by omega)
  have g2 := g (20 + 2 * s) (by omega)
  have g3 := g 38 (by omega)
  refine ⟨hf.sh h, hs, hN, hi, hn, by rw [gi_eq (hf.get g1.1 g1.2)]; exact eN, fun k hk => ?_⟩
  rw [hf.hga g2.1 g2.2, hf.hga g2.1 g2.2, hf.hga g3.1 g3.2, hf.hga g3.1 g3.2]
  exact hp k hk
theorem k_laySteps_loop {w : zH} {s i n N : Nat} {c b : Nat → Int32} (P : PW w s i n N c b) : ∀ (m k : Nat) (u : zH) (v7 v8 : Value), k + m = n → v7.category = 1 → zFr [13, 14] [] w u → (∀ j, j < k → ga u 13 j = c j - sm c j ∧ ga u 14 j = b j - sm b j) → ∃ u', zFr [13, 14] [] w u' ∧ (∀ j, j < n → ga u' 13 j = c j - sm c j ∧ ga u' 14 j = b j - sm b j) ∧ zrun none (129, 9, [.ref 0, .ref (19 + 2 * s), .int (nI i), .int (nI n), .int (sm c k), .int (sm b k), .int (nI k), v7, v8], [], u) = some (none, u') := by
  intro m
  induction m with
  | zero =>
    intro k u v7 v8 hk h7 hf hv
    have q1 : nI n ≤ nI k := nI_le (by omega) (by have := P.2.2.2.2.1; omega)
    refine ⟨u, hf, fun j hj => hv j (by omega), ?_⟩
    rw [e129_9]
    simp (disch := first | exact Nat.le_of_ble_eq_true rfl | exact zct_i _ | exact zct_r _ | exact zct_J | exact zct_n | with_reducible assumption | (with_reducible show (zf _ _ _).isSome = true; exact Sh.some (by repeat first | with_reducible assumption | (with_reducible refine Sh.pf ?_ ?_; rotate_left 1; exact fun _ => by decide +kernel) | (with_reducible refine Sh.as ?_ ?_; rotate_left 1; exact fun _ => by decide +kernel) | (with_reducible refine Sh.asr ?_ ?_; rotate_left 1; exact fun _ => by decide +kernel) | with_reducible refine Sh.push ?_ | (with_reducible refine Sh.pfn ?_ ?_; rotate_left 1; omega) | (with_reducible refine Sh.asn ?_ ?_; rotate_left 1; omega)) (by decide) (by decide +kernel) (by decide +kernel)) | exact rfl | exact zb01 _ | decide | fail) only [e129_0, e129_1, e129_3, e129_4, e129_6, e129_7, e129_11, e129_12, e129_15, e129_17, e129_19, e129_22, e129_22n, e129_23, e129_24, e129_25, e129_27, e129_28, e129_29, e129_32, e129_34, e129_34n, e129_35, e129_36, e129_37, e129_39, e129_40, e129_41, e129_42, e129_43, e129_46, e129_48, e129_49, e129_52, e129_54, e129_56, e129_58, e129_59, e129_60, e129_61, e129_64, e129_66, e129_68, e129_70, e129_71, e129_72, e129_74, e129_76, e129_77, e129_79, e129_81, e129_83, e129_84, e129_86, e129_89, e129_92, zgd_true, zcl_ite, zX, Nat.reduceLT, Option.isSome_some, true_and, and_true, zo_some, zoi_some, zon_some, zcl_some, Option.toList_some, Option.toList_none, List.cons_append, List.nil_append, ite_true, ite_false, ↓reduceIte, z10, eq_self, not_true_eq_false, not_false_eq_true, and_self, or_true, true_or, q1]
  | succ m ih =>
    intro k u v7 v8 hk h7 hf hv
    have PU := PW_fr P hf (by decide) (by decide)
    obtain ⟨h, hs, hN, hi, hn, eN, hp⟩ := PU
    have q1 : ¬ nI n ≤ nI k := nI_ge (by omega) (by omega)
    have k12 : k < 12 := by omega
    have hk1 := hp k (by omega)
    have i1 := k_item h hs hN eN (show i + 2 * k < N by omega)
    have i2 := k_item h hs hN eN (show i + 2 * k + 1 < N by omega)
    rw [hk1.1] at i1
    rw [hk1.2.1] at i2
    have si := S_is h hs
    have f1 : zFr [13, 14] [] w (zas (zas u 13 (nI k) (.int (c k - sm c k))) 14 (nI k) (.int (b k - sm b k))) := (hf.as (by decide) (by decide +kernel)).as (by decide) (by decide +kernel)
    have l13 := L_13 h k12
    have l14 := L_14 h k12
    obtain ⟨u', g1, g2, g3⟩ := ih (k + 1) _ (.int (c k)) (.int (b k)) (by omega) rfl f1 (fun j hj => by
      simp (disch := first | exact Nat.le_of_ble_eq_true rfl | exact zct_i _ | exact zct_r _ | exact zct_J | exact zct_n | with_reducible assumption | (with_reducible show zln _ _ _; repeat first | with_reducible assumption | with_reducible refine zln_pf ?_ | with_reducible refine zln_as ?_ | with_reducible refine zln_ps ?_) | (with_reducible show (zf _ _ _).isSome = true; exact Sh.some (by repeat first | with_reducible assumption | (with_reducible refine Sh.pf ?_ ?_; rotate_left 1; exact fun _ => by decide +kernel) | (with_reducible refine Sh.as ?_ ?_; rotate_left 1; exact fun _ => by decide +kernel) | (with_reducible refine Sh.asr ?_ ?_; rotate_left 1; exact fun _ => by decide +kernel) | with_reducible refine Sh.push ?_ | (with_reducible refine Sh.pfn ?_ ?_; rotate_left 1; omega) | (with_reducible refine Sh.asn ?_ ?_; rotate_left 1; omega)) (by decide) (by decide +kernel) (by decide +kernel)) | exact rfl | exact zb01 _ | decide | omega | fail) only [gi_pf1, gi_pf2, gi_pf3, gi_as1, ga_pf1, ga_as1, ga_asn, gr_pf1, gr_as1, gr_asn, zsm_pf, zsm_as]
      by_cases e : k = j
      · subst e
        rw [if_pos rfl, if_pos rfl]
        exact ⟨rfl, rfl⟩
      · rw [if_neg e, if_neg e]
        exact hv j (by omega))
    refine ⟨u', g1, g2, ?_⟩
    rw [show sm c (k + 1) = sm c k + c k from rfl, show sm b (k + 1) = sm b k + b k from rfl] at g3
    rw [e129_9]
    simp (disch := first | exact Nat.le_of_ble_eq_true rfl | exact zct_i _ | exact zct_r _ | exact zct_J | exact zct_n | with_reducible assumption | (with_reducible show (zf _ _ _).isSome = true; exact Sh.some (by repeat first | with_reducible assumption | (with_reducible refine Sh.pf ?_ ?_; rotate_left 1; exact fun _ => by decide +kernel) | (with_reducible refine Sh.as ?_ ?_; rotate_left 1; exact fun _ => by decide +kernel) | (with_reducible refine Sh.asr ?_ ?_; rotate_left 1; exact fun _ => by decide +kernel) | with_reducible refine Sh.push ?_ | (with_reducible refine Sh.pfn ?_ ?_; rotate_left 1; omega) | (with_reducible refine Sh.asn ?_ ?_; rotate_left 1; omega)) (by decide) (by decide +kernel) (by decide +kernel)) | exact rfl | exact zb01 _ | decide | fail) only [e129_0, e129_1, e129_3, e129_4, e129_6, e129_7, e129_11, e129_12, e129_15, e129_17, e129_19, e129_22, e129_22n, e129_23, e129_24, e129_25, e129_27, e129_28, e129_29, e129_32, e129_34, e129_34n, e129_35, e129_36, e129_37, e129_39, e129_40, e129_41, e129_42, e129_43, e129_46, e129_48, e129_49, e129_52, e129_54, e129_56, e129_58, e129_59, e129_60, e129_61, e129_64, e129_66, e129_68, e129_70, e129_71, e129_72, e129_74, e129_76, e129_77, e129_79, e129_81, e129_83, e129_84, e129_86, e129_89, e129_92, zgd_true, zcl_ite, zX, Nat.reduceLT, Option.isSome_some, true_and, and_true, zo_some, zoi_some, zon_some, zcl_some, Option.toList_some, Option.toList_none, List.cons_append, List.nil_append, ite_true, ite_false, ↓reduceIte, z10, eq_self, not_true_eq_false, not_false_eq_true, and_self, or_true, true_or, i_0 h, f_0_1100 h, f_0_1101 h, f_0_1102 h, f_0_1103 h, f_0_1104 h, f_0_1105 h, f_0_1106 h, f_0_1107 h, f_0_1108 h, f_0_1109 h, f_0_1110 h, f_0_1111 h, f_0_1112 h, f_0_1113 h, f_0_1114 h, f_0_1115 h, f_0_1116 h, f_0_1117 h, f_0_1118 h, f_0_1119 h, A_13 h, N_13 h, A_14 h, N_14 h, q1, Gt_12, zm_2, nI_add, nI_1, si, i1, i2, zf_pf1, zf_pf2, zf_pf3, zf_as1, zsm_pf, zsm_as, zis_pf, zis_as1, zin_pf, zin_as, zai_pf1, zai_as1, zaa_pf1, zaa_as1, gi_pf1, gi_pf2, gi_pf3, gi_as1, ga_pf1, ga_as1, gr_pf1, gr_as1, zpf_len, zas_len, g3]
theorem k_laySteps {w : zH} {s i n N : Nat} {c b : Nat → Int32} (P : PW w s i n N c b) : ∃ u', zFr [13, 14] [] w u' ∧ (∀ j, j < n → ga u' 13 j = c j - sm c j ∧ ga u' 14 j = b j - sm b j) ∧ zrun none (129, 0, [.ref 0, .ref (19 + 2 * s), .int (nI i), .int (nI n), zJ, zJ, zJ, zJ, zJ], [], w) = some (none, u') := by
  obtain ⟨u', g1, g2, g3⟩ := k_laySteps_loop P n 0 w zJ zJ (by omega) rfl zFr.refl (fun j hj => by omega)
  refine ⟨u', g1, g2, ?_⟩
  simp (disch := first | exact Nat.le_of_ble_eq_true rfl | exact zct_i _ | exact zct_r _ | exact zct_J | exact zct_n | with_reducible assumption | (with_reducible show (zf _ _ _).isSome = true; exact Sh.some (by repeat first | with_reducible assumption | (with_reducible refine Sh.pf ?_ ?_; rotate_left 1; exact fun _ => by decide +kernel) | (with_reducible refine Sh.as ?_ ?_; rotate_left 1; exact fun _ => by decide +kernel) | (with_reducible refine Sh.asr ?_ ?_; rotate_left 1; exact fun _ => by decide +kernel) | with_reducible refine Sh.push ?_ | (with_reducible refine Sh.pfn ?_ ?_; rotate_left 1; omega) | (with_reducible refine Sh.asn ?_ ?_; rotate_left 1; omega)) (by decide) (by decide +kernel) (by decide +kernel)) | exact rfl | exact zb01 _ | decide | fail) only [e129_0, e129_1, e129_3, e129_4, e129_6, e129_7, e129_11, e129_12, e129_15, e129_17, e129_19, e129_22, e129_22n, e129_23, e129_24, e129_25, e129_27, e129_28, e129_29, e129_32, e129_34, e129_34n, e129_35, e129_36, e129_37, e129_39, e129_40, e129_41, e129_42, e129_43, e129_46, e129_48, e129_49, e129_52, e129_54, e129_56, e129_58, e129_59, e129_60, e129_61, e129_64, e129_66, e129_68, e129_70, e129_71, e129_72, e129_74, e129_76, e129_77, e129_79, e129_81, e129_83, e129_84, e129_86, e129_89, e129_92, zgd_true, zcl_ite, zX, Nat.reduceLT, Option.isSome_some, true_and, and_true, zo_some, zoi_some, zon_some, zcl_some, Option.toList_some, Option.toList_none, List.cons_append, List.nil_append, ite_true, ite_false, ↓reduceIte, z10, eq_self, not_true_eq_false, not_false_eq_true, and_self, or_true, true_or]
  exact g3
