/-! words -/
def zWd (r : Nat) (W : List Nat) : Prop := W.length ≤ 100 ∧ (∀ i, W.getD i 0 < 256) ∧ (∀ u : zH, zis u r 13) ∧ (∀ u : zH, zrun none (230, 0, [.ref r], [], u) = some (some (.int (nI W.length)), u)) ∧ ∀ (u : zH) (i : Nat), i < W.length → zrun none (231, 0, [.ref r, .int (nI i)], [], u) = some (some (.int (nI (W.getD i 0))), u)
def eqF (t : Nat → Nat) (s : Nat) (W : List Nat) (a : Nat) : Nat → Nat → Bool
  | 0, _ => true
  | m + 1, j => if W.getD (a + j) 0 = t (s + j) then eqF t s W a m (j + 1) else false
theorem eqF_iff (t : Nat → Nat) (s : Nat) (W : List Nat) (a : Nat) : ∀ m j, eqF t s W a m j = true ↔ ∀ i, j ≤ i → i < j + m → W.getD (a + i) 0 = t (s + i) := by
  intro m
  induction m with
  | zero => intro j; exact ⟨fun _ i h1 h2 => by omega, fun _ => rfl⟩
  | succ m ih =>
    intro j
    rw [eqF]
    by_cases h : W.getD (a + j) 0 = t (s + j)
    · rw [if_pos h, ih]
      refine ⟨fun q i h1 h2 => ?_, fun q i h1 h2 => q i (by omega) (by omega)⟩
      by_cases e : i = j
      · rw [e]; exact h
      · exact q i (by omega) (by omega)
    · rw [if_neg h]
      refine ⟨fun q => ?_, fun q => absurd (q j (Nat.le_refl _) (by omega)) h⟩
      cases q
def tb (t : Nat → Nat) (s x : Nat) : List Nat := (List.range (x - s)).map (fun i => t (s + i))
theorem tb_len (t : Nat → Nat) (s x : Nat) : (tb t s x).length = x - s := by rw [tb, List.length_map, List.length_range]
theorem tb_get (t : Nat → Nat) {s x i : Nat} (h : i < x - s) : (tb t s x)[i]? = some (t (s + i)) := by
  rw [tb, List.getElem?_map, List.getElem?_range h]; rfl
theorem eqF_tb {t : Nat → Nat} {s x a b : Nat} {W : List Nat} (hab : a ≤ b) (hb : b ≤ W.length) (e : x - s = b - a) : eqF t s W a (b - a) 0 = true ↔ tb t s x = (W.drop a).take (b - a) := by
  rw [eqF_iff]
  constructor
  · intro q
    apply List.ext_getElem?
    intro i
    by_cases hi : i < b - a
    · rw [tb_get t (by omega), List.getElem?_take_of_lt hi, List.getElem?_drop, ← q i (Nat.zero_le _) (by omega), List.getElem?_eq_getElem (by omega), List.getD_eq_getElem?_getD, List.getElem?_eq_getElem (by omega)]
      rfl
    · rw [List.getElem?_eq_none (by rw [tb_len]; omega), List.getElem?_eq_none (by rw [List.length_take]; omega)]
  · intro q i _ hi
    have : (tb t s x)[i]? = ((W.drop a).take (b - a))[i]? := by rw [q]
    rw [tb_get t (by omega), List.getElem?_take_of_lt (by omega), List.getElem?_drop, List.getElem?_eq_getElem (by omega)] at this
    rw [List.getD_eq_getElem?_getD, List.getElem?_eq_getElem (by omega)]
    exact (Option.some.inj this).symm
theorem k_isName_loop {r n s a b : Nat} {W : List Nat} {t : Nat → Nat} {u : zH} (hW : zWd r W) (h : Sh u) (hT : zTp 6 t n u) (c : gi u 5 901 = nI n) (cs : gi u 5 903 = nI s) (hab : a ≤ b) (hb : b ≤ W.length) (hx : s + (b - a) ≤ n) : ∀ m j, j + m = b - a → zrun none (56, 32, [.ref 5, .ref r, .int (nI a), .int (nI b), .int (nI (a + j))], [], u) = some (some (.int (if eqF t s W a m j = true then 1 else 0)), u) := by
  obtain ⟨w1, w2, w3, w4, w5⟩ := hW
  have hn := hT.1
  intro m
  induction m with
  | zero =>
    intro j hj
    have q1 : nI b ≤ nI (a + j) := nI_le (by omega) (by omega)
    rw [e56_32, eqF, if_pos rfl]
    simp (disch := first | exact Nat.le_of_ble_eq_true rfl | exact zct_i _ | exact zct_r _ | exact zct_J | exact zct_n | with_reducible assumption | (with_reducible show (zf _ _ _).isSome = true; exact Sh.some (by repeat first | with_reducible assumption | (with_reducible refine Sh.pf ?_ ?_; rotate_left 1; exact fun _ => by decide +kernel) | (with_reducible refine Sh.as ?_ ?_; rotate_left 1; exact fun _ => by decide +kernel) | (with_reducible refine Sh.asr ?_ ?_; rotate_left 1; exact fun _ => by decide +kernel) | with_reducible refine Sh.push ?_ | (with_reducible refine Sh.pfn ?_ ?_; rotate_left 1; omega) | (with_reducible refine Sh.asn ?_ ?_; rotate_left 1; omega)) (by decide) (by decide +kernel) (by decide +kernel)) | exact rfl | exact zb01 _ | decide | fail) only [e56_34, e56_35, e56_38, e56_38n, e56_39, e56_41, e56_44, e56_45, e56_46, e56_49, e56_51, e56_52, e56_53, e56_54, e56_57, e56_60, e56_61, e56_62, e56_65, e56_68, e56_69, zgd_true, zcl_ite, zX, Nat.reduceLT, Option.isSome_some, true_and, and_true, zo_some, zoi_some, zon_some, zcl_some, Option.toList_some, Option.toList_none, List.cons_append, List.nil_append, ite_true, ite_false, ↓reduceIte, z10, eq_self, not_true_eq_false, not_false_eq_true, and_self, or_true, true_or, q1]
  | succ m ih =>
    intro j hj
    have q1 : ¬ nI b ≤ nI (a + j) := nI_ge (by omega) (by omega)
    have e1 : nI s + nI (a + j) - nI a = nI (s + j) := by rw [nI_add, pk_sub (by omega), show s + (a + j) - a = s + j by omega]
    have bt := k_byteAt (i := s + j) h hT c (by omega)
    have ch := w5 u (a + j) (by omega)
    have z := w3 u
    have ih1 := ih (j + 1) (by omega)
    rw [show a + (j + 1) = a + j + 1 by omega] at ih1
    have hc := (hT.2 (s + j) (by omega)).1
    have hd := w2 (a + j)
    rw [e56_32, eqF]
    by_cases e : W.getD (a + j) 0 = t (s + j)
    · rw [if_pos e]
      have q2 : (nI (W.getD (a + j) 0) = nI (t (s + j))) = True := eq_true (by rw [e])
      simp (disch := first | exact Nat.le_of_ble_eq_true rfl | exact zct_i _ | exact zct_r _ | exact zct_J | exact zct_n | with_reducible assumption | (with_reducible show (zf _ _ _).isSome = true; exact Sh.some (by repeat first | with_reducible assumption | (with_reducible refine Sh.pf ?_ ?_; rotate_left 1; exact fun _ => by decide +kernel) | (with_reducible refine Sh.as ?_ ?_; rotate_left 1; exact fun _ => by decide +kernel) | (with_reducible refine Sh.asr ?_ ?_; rotate_left 1; exact fun _ => by decide +kernel) | with_reducible refine Sh.push ?_ | (with_reducible refine Sh.pfn ?_ ?_; rotate_left 1; omega) | (with_reducible refine Sh.asn ?_ ?_; rotate_left 1; omega)) (by decide) (by decide +kernel) (by decide +kernel)) | exact rfl | exact zb01 _ | decide | fail) only [e56_34, e56_35, e56_38, e56_38n, e56_39, e56_41, e56_44, e56_45, e56_46, e56_49, e56_51, e56_52, e56_53, e56_54, e56_57, e56_60, e56_61, e56_62, e56_65, e56_68, e56_69, zgd_true, zcl_ite, zX, Nat.reduceLT, Option.isSome_some, true_and, and_true, zo_some, zoi_some, zon_some, zcl_some, Option.toList_some, Option.toList_none, List.cons_append, List.nil_append, ite_true, ite_false, ↓reduceIte, z10, eq_self, not_true_eq_false, not_false_eq_true, and_self, or_true, true_or, i_5 h, f_5_900 h, f_5_901 h, f_5_902 h, f_5_903 h, f_5_904 h, f_5_905 h, f_5_906 h, q1, e1, bt, ch, z, cs, q2, nI_1, ih1]
    · rw [if_neg e]
      have q2 : (nI (W.getD (a + j) 0) = nI (t (s + j))) = False := eq_false (fun q => e ((nI_eq (by omega) (by omega)).mp q))
      simp (disch := first | exact Nat.le_of_ble_eq_true rfl | exact zct_i _ | exact zct_r _ | exact zct_J | exact zct_n | with_reducible assumption | (with_reducible show (zf _ _ _).isSome = true; exact Sh.some (by repeat first | with_reducible assumption | (with_reducible refine Sh.pf ?_ ?_; rotate_left 1; exact fun _ => by decide +kernel) | (with_reducible refine Sh.as ?_ ?_; rotate_left 1; exact fun _ => by decide +kernel) | (with_reducible refine Sh.asr ?_ ?_; rotate_left 1; exact fun _ => by decide +kernel) | with_reducible refine Sh.push ?_ | (with_reducible refine Sh.pfn ?_ ?_; rotate_left 1; omega) | (with_reducible refine Sh.asn ?_ ?_; rotate_left 1; omega)) (by decide) (by decide +kernel) (by decide +kernel)) | exact rfl | exact zb01 _ | decide | fail) only [e56_34, e56_35, e56_38, e56_38n, e56_39, e56_41, e56_44, e56_45, e56_46, e56_49, e56_51, e56_52, e56_53, e56_54, e56_57, e56_60, e56_61, e56_62, e56_65, e56_68, e56_69, zgd_true, zcl_ite, zX, Nat.reduceLT, Option.isSome_some, true_and, and_true, zo_some, zoi_some, zon_some, zcl_some, Option.toList_some, Option.toList_none, List.cons_append, List.nil_append, ite_true, ite_false, ↓reduceIte, z10, eq_self, not_true_eq_false, not_false_eq_true, and_self, or_true, true_or, i_5 h, f_5_900 h, f_5_901 h, f_5_902 h, f_5_903 h, f_5_904 h, f_5_905 h, f_5_906 h, q1, e1, bt, ch, z, cs, q2, Bool.false_eq_true]
theorem k_isName {r n s x a b : Nat} {W : List Nat} {t : Nat → Nat} {u : zH} (hW : zWd r W) (h : Sh u) (hT : zTp 6 t n u) (c : gi u 5 901 = nI n) (cs : gi u 5 903 = nI s) (cx : gi u 5 904 = nI x) (hsx : s ≤ x) (hxn : x ≤ n) (hab : a ≤ b) (hb : b ≤ W.length) : zrun none (56, 0, [.ref 5, .ref r, .int (nI a), .int (nI b), zJ], [], u) = some (some (.int (if tb t s x = (W.drop a).take (b - a) then 1 else 0)), u) := by
  have hn := hT.1
  have w1 := hW.1
  have z := hW.2.2.1 u
  have wl := hW.2.2.2.1 u
  have e1 : nI b - nI a = nI (b - a) := pk_sub hab
  have e2 : nI x - nI s = nI (x - s) := pk_sub hsx
  by_cases e : x - s = b - a
  · have q1 : (nI (b - a) = nI (x - s)) = True := eq_true (by rw [e])
    have q2 : ¬ nI a < 0 := nI_pos (by omega)
    have q3 : nI b ≤ nI W.length := nI_le hb (by omega)
    have lo := k_isName_loop hW h hT c cs hab hb (by omega) (b - a) 0 (by omega)
    rw [Nat.add_zero] at lo
    simp only [eqF_tb (t := t) hab hb e] at lo
    simp (disch := first | exact Nat.le_of_ble_eq_true rfl | exact zct_i _ | exact zct_r _ | exact zct_J | exact zct_n | with_reducible assumption | (with_reducible show (zf _ _ _).isSome = true; exact Sh.some (by repeat first | with_reducible assumption | (with_reducible refine Sh.pf ?_ ?_; rotate_left 1; exact fun _ => by decide +kernel) | (with_reducible refine Sh.as ?_ ?_; rotate_left 1; exact fun _ => by decide +kernel) | (with_reducible refine Sh.asr ?_ ?_; rotate_left 1; exact fun _ => by decide +kernel) | with_reducible refine Sh.push ?_ | (with_reducible refine Sh.pfn ?_ ?_; rotate_left 1; omega) | (with_reducible refine Sh.asn ?_ ?_; rotate_left 1; omega)) (by decide) (by decide +kernel) (by decide +kernel)) | exact rfl | exact zb01 _ | decide | fail) only [e56_0, e56_1, e56_2, e56_3, e56_4, e56_7, e56_8, e56_11, e56_12, e56_15, e56_16, e56_19, e56_20, e56_20n, e56_21, e56_24, e56_27, e56_28, e56_29, e56_30, zgd_true, zcl_ite, zX, Nat.reduceLT, Option.isSome_some, true_and, and_true, zo_some, zoi_some, zon_some, zcl_some, Option.toList_some, Option.toList_none, List.cons_append, List.nil_append, ite_true, ite_false, ↓reduceIte, z10, eq_self, not_true_eq_false, not_false_eq_true, and_self, or_true, true_or, i_5 h, f_5_900 h, f_5_901 h, f_5_902 h, f_5_903 h, f_5_904 h, f_5_905 h, f_5_906 h, e1, e2, cs, cx, q1, q2, q3, z, wl, lo]
  · have q1 : (nI (b - a) = nI (x - s)) = False := eq_false (fun q => e ((nI_eq (by omega) (by omega)).mp q).symm)
    have : ¬ tb t s x = (W.drop a).take (b - a) := fun q => e (by rw [← tb_len t s x, q, List.length_take, List.length_drop]; omega)
    simp (disch := first | exact Nat.le_of_ble_eq_true rfl | exact zct_i _ | exact zct_r _ | exact zct_J | exact zct_n | with_reducible assumption | (with_reducible show (zf _ _ _).isSome = true; exact Sh.some (by repeat first | with_reducible assumption | (with_reducible refine Sh.pf ?_ ?_; rotate_left 1; exact fun _ => by decide +kernel) | (with_reducible refine Sh.as ?_ ?_; rotate_left 1; exact fun _ => by decide +kernel) | (with_reducible refine Sh.asr ?_ ?_; rotate_left 1; exact fun _ => by decide +kernel) | with_reducible refine Sh.push ?_ | (with_reducible refine Sh.pfn ?_ ?_; rotate_left 1; omega) | (with_reducible refine Sh.asn ?_ ?_; rotate_left 1; omega)) (by decide) (by decide +kernel) (by decide +kernel)) | exact rfl | exact zb01 _ | decide | fail) only [e56_0, e56_1, e56_2, e56_3, e56_4, e56_7, e56_8, e56_11, e56_12, e56_15, e56_16, e56_19, e56_20, e56_20n, e56_21, e56_24, e56_27, e56_28, e56_29, e56_30, zgd_true, zcl_ite, zX, Nat.reduceLT, Option.isSome_some, true_and, and_true, zo_some, zoi_some, zon_some, zcl_some, Option.toList_some, Option.toList_none, List.cons_append, List.nil_append, ite_true, ite_false, ↓reduceIte, z10, eq_self, not_true_eq_false, not_false_eq_true, and_self, or_true, true_or, i_5 h, f_5_900 h, f_5_901 h, f_5_902 h, f_5_903 h, f_5_904 h, f_5_905 h, f_5_906 h, e1, e2, cs, cx, q1, this]
def pla (W T : List Nat) : Nat → Nat → Nat → Nat → Option Nat
  | 0, i, c, a => if T = (W.drop a).take (i - a) then some c else none
  | m + 1, i, c, a => if W.getD i 0 = 32 then (if T = (W.drop a).take (i - a) then some c else pla W T m (i + 1) (c + 1) (i + 1)) else pla W T m (i + 1) c a
theorem k_pla_end {r : Nat} {W : List Nat} {u : zH} (v v' : Value) (hW : zWd r W) : zrun none (55, 18, [.ref 5, .ref r, v, v', .int (nI (W.length + 1))], [], u) = some (some (.int (-1000000)), u) := by
  have w1 := hW.1
  have z := hW.2.2.1 u
  have wl := hW.2.2.2.1 u
  have q1 : nI W.length < nI (W.length + 1) := nI_lt (by omega) (by omega)
  rw [e55_18]
  simp (disch := first | exact Nat.le_of_ble_eq_true rfl | exact zct_i _ | exact zct_r _ | exact zct_J | exact zct_n | with_reducible assumption | (with_reducible show (zf _ _ _).isSome = true; exact Sh.some (by repeat first | with_reducible assumption | (with_reducible refine Sh.pf ?_ ?_; rotate_left 1; exact fun _ => by decide +kernel) | (with_reducible refine Sh.as ?_ ?_; rotate_left 1; exact fun _ => by decide +kernel) | (with_reducible refine Sh.asr ?_ ?_; rotate_left 1; exact fun _ => by decide +kernel) | with_reducible refine Sh.push ?_ | (with_reducible refine Sh.pfn ?_ ?_; rotate_left 1; omega) | (with_reducible refine Sh.asn ?_ ?_; rotate_left 1; omega)) (by decide) (by decide +kernel) (by decide +kernel)) | exact rfl | exact zb01 _ | decide | fail) only [e55_20, e55_20n, e55_21, e55_24, e55_27, e55_29, e55_29n, e55_30, e55_33, e55_36, e55_36n, e55_37, e55_39, e55_42, e55_44, e55_47, e55_48, e55_48n, e55_49, e55_50, e55_52, e55_55, e55_58, e55_59, e55_60, e55_63, e55_65, e55_66, e55_67, e55_68, e55_71, e55_74, e55_76, zgd_true, zcl_ite, zX, Nat.reduceLT, Option.isSome_some, true_and, and_true, zo_some, zoi_some, zon_some, zcl_some, Option.toList_some, Option.toList_none, List.cons_append, List.nil_append, ite_true, ite_false, ↓reduceIte, z10, eq_self, not_true_eq_false, not_false_eq_true, and_self, or_true, true_or, z, wl, q1]
theorem k_pla_loop {r n s x : Nat} {W : List Nat} {t : Nat → Nat} {u : zH} (hW : zWd r W) (h : Sh u) (hT : zTp 6 t n u) (c : gi u 5 901 = nI n) (cs : gi u 5 903 = nI s) (cx : gi u 5 904 = nI x) (hsx : s ≤ x) (hxn : x ≤ n) : ∀ m i k a, i + m = W.length → a ≤ i → zrun none (55, 18, [.ref 5, .ref r, .int (nI k), .int (nI a), .int (nI i)], [], u) = some (some (.int (zen (pla W (tb t s x) m i k a))), u) := by
  have w1 := hW.1
  have z := hW.2.2.1 u
  have wl := hW.2.2.2.1 u
  have p5 := i_5 h
  intro m
  induction m with
  | zero =>
    intro i k a hi ha
    obtain rfl : i = W.length := by omega
    have q1 : ¬ nI W.length < nI W.length := nI_nlt (Nat.le_refl _) (by omega)
    have nm := k_isName hW h hT c cs cx hsx hxn ha (Nat.le_refl _)
    have en := fun v v' => k_pla_end (u := u) v v' hW
    rw [e55_18, pla]
    by_cases e : tb t s x = (W.drop a).take (W.length - a)
    · rw [if_pos e] at nm
      rw [if_pos e]
      simp (disch := first | exact Nat.le_of_ble_eq_true rfl | exact zct_i _ | exact zct_r _ | exact zct_J | exact zct_n | with_reducible assumption | (with_reducible show (zf _ _ _).isSome = true; exact Sh.some (by repeat first | with_reducible assumption | (with_reducible refine Sh.pf ?_ ?_; rotate_left 1; exact fun _ => by decide +kernel) | (with_reducible refine Sh.as ?_ ?_; rotate_left 1; exact fun _ => by decide +kernel) | (with_reducible refine Sh.asr ?_ ?_; rotate_left 1; exact fun _ => by decide +kernel) | with_reducible refine Sh.push ?_ | (with_reducible refine Sh.pfn ?_ ?_; rotate_left 1; omega) | (with_reducible refine Sh.asn ?_ ?_; rotate_left 1; omega)) (by decide) (by decide +kernel) (by decide +kernel)) | exact rfl | exact zb01 _ | decide | fail) only [e55_20, e55_20n, e55_21, e55_24, e55_27, e55_29, e55_29n, e55_30, e55_33, e55_36, e55_36n, e55_37, e55_39, e55_42, e55_44, e55_47, e55_48, e55_48n, e55_49, e55_50, e55_52, e55_55, e55_58, e55_59, e55_60, e55_63, e55_65, e55_66, e55_67, e55_68, e55_71, e55_74, e55_76, zgd_true, zcl_ite, zX, Nat.reduceLT, Option.isSome_some, true_and, and_true, zo_some, zoi_some, zon_some, zcl_some, Option.toList_some, Option.toList_none, List.cons_append, List.nil_append, ite_true, ite_false, ↓reduceIte, z10, eq_self, not_true_eq_false, not_false_eq_true, and_self, or_true, true_or, z, wl, q1, nm, p5, zen]
    · rw [if_neg e] at nm
      rw [if_neg e]
      simp (disch := first | exact Nat.le_of_ble_eq_true rfl | exact zct_i _ | exact zct_r _ | exact zct_J | exact zct_n | with_reducible assumption | (with_reducible show (zf _ _ _).isSome = true; exact Sh.some (by repeat first | with_reducible assumption | (with_reducible refine Sh.pf ?_ ?_; rotate_left 1; exact fun _ => by decide +kernel) | (with_reducible refine Sh.as ?_ ?_; rotate_left 1; exact fun _ => by decide +kernel) | (with_reducible refine Sh.asr ?_ ?_; rotate_left 1; exact fun _ => by decide +kernel) | with_reducible refine Sh.push ?_ | (with_reducible refine Sh.pfn ?_ ?_; rotate_left 1; omega) | (with_reducible refine Sh.asn ?_ ?_; rotate_left 1; omega)) (by decide) (by decide +kernel) (by decide +kernel)) | exact rfl | exact zb01 _ | decide | fail) only [e55_20, e55_20n, e55_21, e55_24, e55_27, e55_29, e55_29n, e55_30, e55_33, e55_36, e55_36n, e55_37, e55_39, e55_42, e55_44, e55_47, e55_48, e55_48n, e55_49, e55_50, e55_52, e55_55, e55_58, e55_59, e55_60, e55_63, e55_65, e55_66, e55_67, e55_68, e55_71, e55_74, e55_76, zgd_true, zcl_ite, zX, Nat.reduceLT, Option.isSome_some, true_and, and_true, zo_some, zoi_some, zon_some, zcl_some, Option.toList_some, Option.toList_none, List.cons_append, List.nil_append, ite_true, ite_false, ↓reduceIte, z10, eq_self, not_true_eq_false, not_false_eq_true, and_self, or_true, true_or, z, wl, q1, nm, p5, zen, nI_1, en]
  | succ m ih =>
    intro i k a hi ha
    have q1 : ¬ nI W.length < nI i := nI_nlt (by omega) (by omega)
    have q2 : (nI i = nI W.length) = False := eq_false (fun q => by have := (nI_eq (by omega) (by omega)).mp q; omega)
    have nm := k_isName hW h hT c cs cx hsx hxn ha (show i ≤ W.length by omega)
    have ch := hW.2.2.2.2 u i (by omega)
    have hd := hW.2.1 i
    have ih1 := ih (i + 1) k a (by omega) (by omega)
    have ih2 := ih (i + 1) (k + 1) (i + 1) (by omega) (by omega)
    rw [e55_18, pla]
    by_cases b : W.getD i 0 = 32
    · rw [if_pos b]
      by_cases e : tb t s x = (W.drop a).take (i - a)
      · rw [if_pos e] at nm
        rw [if_pos e]
        simp (disch := first | exact Nat.le_of_ble_eq_true rfl | exact zct_i _ | exact zct_r _ | exact zct_J | exact zct_n | with_reducible assumption | (with_reducible show (zf _ _ _).isSome = true; exact Sh.some (by repeat first | with_reducible assumption | (with_reducible refine Sh.pf ?_ ?_; rotate_left 1; exact fun _ => by decide +kernel) | (with_reducible refine Sh.as ?_ ?_; rotate_left 1; exact fun _ => by decide +kernel) | (with_reducible refine Sh.asr ?_ ?_; rotate_left 1; exact fun _ => by decide +kernel) | with_reducible refine Sh.push ?_ | (with_reducible refine Sh.pfn ?_ ?_; rotate_left 1; omega) | (with_reducible refine Sh.asn ?_ ?_; rotate_left 1; omega)) (by decide) (by decide +kernel) (by decide +kernel)) | exact rfl | exact zb01 _ | decide | fail) only [e55_20, e55_20n, e55_21, e55_24, e55_27, e55_29, e55_29n, e55_30, e55_33, e55_36, e55_36n, e55_37, e55_39, e55_42, e55_44, e55_47, e55_48, e55_48n, e55_49, e55_50, e55_52, e55_55, e55_58, e55_59, e55_60, e55_63, e55_65, e55_66, e55_67, e55_68, e55_71, e55_74, e55_76, zgd_true, zcl_ite, zX, Nat.reduceLT, Option.isSome_some, true_and, and_true, zo_some, zoi_some, zon_some, zcl_some, Option.toList_some, Option.toList_none, List.cons_append, List.nil_append, ite_true, ite_false, ↓reduceIte, z10, eq_self, not_true_eq_false, not_false_eq_true, and_self, or_true, true_or, z, wl, q1, q2, ch, b32 hd, eq_true b, nm, p5, zen]
      · rw [if_neg e] at nm
        rw [if_neg e]
        simp (disch := first | exact Nat.le_of_ble_eq_true rfl | exact zct_i _ | exact zct_r _ | exact zct_J | exact zct_n | with_reducible assumption | (with_reducible show (zf _ _ _).isSome = true; exact Sh.some (by repeat first | with_reducible assumption | (with_reducible refine Sh.pf ?_ ?_; rotate_left 1; exact fun _ => by decide +kernel) | (with_reducible refine Sh.as ?_ ?_; rotate_left 1; exact fun _ => by decide +kernel) | (with_reducible refine Sh.asr ?_ ?_; rotate_left 1; exact fun _ => by decide +kernel) | with_reducible refine Sh.push ?_ | (with_reducible refine Sh.pfn ?_ ?_; rotate_left 1; omega) | (with_reducible refine Sh.asn ?_ ?_; rotate_left 1; omega)) (by decide) (by decide +kernel) (by decide +kernel)) | exact rfl | exact zb01 _ | decide | fail) only [e55_20, e55_20n, e55_21, e55_24, e55_27, e55_29, e55_29n, e55_30, e55_33, e55_36, e55_36n, e55_37, e55_39, e55_42, e55_44, e55_47, e55_48, e55_48n, e55_49, e55_50, e55_52, e55_55, e55_58, e55_59, e55_60, e55_63, e55_65, e55_66, e55_67, e55_68, e55_71, e55_74, e55_76, zgd_true, zcl_ite, zX, Nat.reduceLT, Option.isSome_some, true_and, and_true, zo_some, zoi_some, zon_some, zcl_some, Option.toList_some, Option.toList_none, List.cons_append, List.nil_append, ite_true, ite_false, ↓reduceIte, z10, eq_self, not_true_eq_false, not_false_eq_true, and_self, or_true, true_or, z, wl, q1, q2, ch, b32 hd, eq_true b, nm, p5, nI_1, ih2]
    · rw [if_neg b]
      simp (disch := first | exact Nat.le_of_ble_eq_true rfl | exact zct_i _ | exact zct_r _ | exact zct_J | exact zct_n | with_reducible assumption | (with_reducible show (zf _ _ _).isSome = true; exact Sh.some (by repeat first | with_reducible assumption | (with_reducible refine Sh.pf ?_ ?_; rotate_left 1; exact fun _ => by decide +kernel) | (with_reducible refine Sh.as ?_ ?_; rotate_left 1; exact fun _ => by decide +kernel) | (with_reducible refine Sh.asr ?_ ?_; rotate_left 1; exact fun _ => by decide +kernel) | with_reducible refine Sh.push ?_ | (with_reducible refine Sh.pfn ?_ ?_; rotate_left 1; omega) | (with_reducible refine Sh.asn ?_ ?_; rotate_left 1; omega)) (by decide) (by decide +kernel) (by decide +kernel)) | exact rfl | exact zb01 _ | decide | fail) only [e55_20, e55_20n, e55_21, e55_24, e55_27, e55_29, e55_29n, e55_30, e55_33, e55_36, e55_36n, e55_37, e55_39, e55_42, e55_44, e55_47, e55_48, e55_48n, e55_49, e55_50, e55_52, e55_55, e55_58, e55_59, e55_60, e55_63, e55_65, e55_66, e55_67, e55_68, e55_71, e55_74, e55_76, zgd_true, zcl_ite, zX, Nat.reduceLT, Option.isSome_some, true_and, and_true, zo_some, zoi_some, zon_some, zcl_some, Option.toList_some, Option.toList_none, List.cons_append, List.nil_append, ite_true, ite_false, ↓reduceIte, z10, eq_self, not_true_eq_false, not_false_eq_true, and_self, or_true, true_or, z, wl, q1, q2, ch, b32 hd, eq_false b, nI_1, ih1]
