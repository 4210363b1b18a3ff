/-! one act: the program -/
def rA (t : Nat → Nat) (n : Nat) (S : zTk) : zTk := pTN 0 99999 t n (pTW sAct t n S)
def rB (t : Nat → Nat) (n : Nat) (S : zTk) : zTk := pTN 1 3 t n (pTW sGrade t n (rA t n S))
def rC (t : Nat → Nat) (n : Nat) (S : zTk) : zTk := pTW sSort t n (rB t n S)
def rD (t : Nat → Nat) (n : Nat) (S : zTk) : zTk := pTW sWork t n (rC t n S)
def rE (t : Nat → Nat) (n : Nat) (S : zTk) : zTk := if (pTv sOlder t (rD t n S)).isSome = true then pTN 0 999 t n (pTW sOlder t n (rD t n S)) else rD t n S
def rF (t : Nat → Nat) (n : Nat) (S : zTk) : zTk := pTW sEnd t n (rE t n S)
def rG (t : Nat → Nat) (n : Nat) (S : zTk) : zTk := pTG t n (rF t n S)
def vDay (t : Nat → Nat) (n : Nat) (S : zTk) : Int32 := nI (pVal t (pTW sAct t n S))
def vGrade (t : Nat → Nat) (n : Nat) (S : zTk) : Int32 := nI (pVal t (pTW sGrade t n (rA t n S)))
def vSort (t : Nat → Nat) (n : Nat) (S : zTk) : Int32 := zen (pTv sSort t (rB t n S))
def vWork (t : Nat → Nat) (n : Nat) (S : zTk) : Int32 := zen (pTv sWork t (rC t n S))
def vOlder (t : Nat → Nat) (n : Nat) (S : zTk) : Int32 := if (pTv sOlder t (rD t n S)).isSome = true then nI (pVal t (pTW sOlder t n (rD t n S))) else 0
def vLeave (t : Nat → Nat) (n : Nat) (S : zTk) : Int32 := if pTv sEnd t (rE t n S) = some 0 then 1 else 0
theorem f_TW {W : List Nat} {t : Nat → Nat} {n : Nat} {S : zTk} (h : tsf (pTW W t n S) = 0) : tsf S = 0 := by
  by_cases f0 : tsf S = 0
  · exact f0
  · unfold pTW at h; rw [if_neg f0] at h; exact h
theorem f_TN {a b : Nat} {t : Nat → Nat} {n : Nat} {S : zTk} (h : tsf (pTN a b t n S) = 0) : tsf S = 0 := by
  by_cases f0 : tsf S = 0
  · exact f0
  · unfold pTN at h; rw [if_neg f0] at h; exact h
theorem f_TG {t : Nat → Nat} {n : Nat} {S : zTk} (h : tsf (pTG t n S) = 0) : tsf S = 0 := by
  by_cases f0 : tsf S = 0
  · exact f0
  · unfold pTG at h; rw [if_neg f0] at h; exact h
theorem f_E {t : Nat → Nat} {n : Nat} {S : zTk} (h : tsf (rE t n S) = 0) : tsf (rD t n S) = 0 := by
  unfold rE at h
  split at h
  · exact f_TW (f_TN h)
  · exact h
theorem f_G {t : Nat → Nat} {n : Nat} {S : zTk} (h : tsf (rG t n S) = 0) : tsf (rE t n S) = 0 := by
  unfold rG rF at h
  exact f_TW (f_TG h)
theorem f_D {t : Nat → Nat} {n : Nat} {S : zTk} (h : tsf (rD t n S) = 0) : tsf (rC t n S) = 0 ∧ tsf (rB t n S) = 0 ∧ tsf (rA t n S) = 0 := by
  unfold rD at h
  have h1 := f_TW h
  have h2 := h1
  unfold rC at h2
  have h3 := f_TW h2
  have h4 := h3
  unfold rB at h4
  exact ⟨h1, h3, f_TW (f_TN h4)⟩
theorem zen_0 {o : Option Nat} (h : ∀ v, o = some v → v < 2 ^ 31) : (zen o = 0) = (o = some 0) := by
  cases o with
  | none => exact propext ⟨fun q => absurd (show (-1000000 : Int32) = 0 from q) (by decide), fun q => by cases q⟩
  | some v =>
    have := h v rfl
    exact propext ⟨fun q => by rw [(nI_eq (b := 0) this (by decide)).mp q], fun q => by cases q; rfl⟩
theorem pTv_lt {W : List Nat} {t : Nat → Nat} {S : zTk} (hl : W.length ≤ 100) : ∀ v, pTv W t S = some v → v < 2 ^ 31 := by
  intro v h
  unfold pTv at h
  split at h
  · have := plc_le h; omega
  · cases h
theorem k_act1 {t : Nat → Nat} {n : Nat} {S : zTk} {u : zH} (H : cO t n S u) : ∃ (u' : zH) (a b : Int32), zFr [] fK u u' ∧ cO t n (rD t n S) u' ∧ (tsf (rD t n S) = 0 → a = vDay t n S ∧ b = vGrade t n S) ∧ zrun none (122, 0, [.ref 0, zJ, zJ, zJ, zJ, zJ, zJ], [], u) = zrun none (122, 67, [.ref 0, .int a, .int b, .int (vSort t n S), .int (vWork t n S), zJ, zJ], [], u') := by
  obtain ⟨u1, f1, g1, e1⟩ := k_takeWord d_act H
  obtain ⟨u2, a, f2, g2, e2, r2⟩ := k_takeNumber (a := 0) (b := 99999) g1 (by decide) (by decide)
  obtain ⟨u3, f3, g3, e3⟩ := k_takeWord d_grade g2
  obtain ⟨u4, b, f4, g4, e4, r4⟩ := k_takeNumber (a := 1) (b := 3) g3 (by decide) (by decide)
  obtain ⟨u5, f5, g5, e5⟩ := k_takeWord d_sort g4
  obtain ⟨u6, f6, g6, e6⟩ := k_takeWord d_work g5
  have h := H.1
  have h1 := g1.1
  have h2 := g2.1
  have h3 := g3.1
  have h4 := g4.1
  have h5 := g5.1
  have i0 := i_5 h
  have i1 := i_5 h1
  have i2 := i_5 h2
  have i3 := i_5 h3
  have i4 := i_5 h4
  have i5 := i_5 h5
  refine ⟨u6, a, b, f1.trans (f2.trans (f3.trans (f4.trans (f5.trans f6)))), g6, fun q => ⟨r2 (f_D q).2.2, r4 (f_D q).2.1⟩, ?_⟩
  simp (disch := first | exact Nat.le_of_ble_eq_true rfl | exact zct_i _ | exact zct_r _ | exact zct_J | exact zct_n | with_reducible assumption | (with_reducible show (zf _ _ _).isSome = true; exact Sh.some (by repeat first | with_reducible assumption | (with_reducible refine Sh.pf ?_ ?_; rotate_left 1; exact fun _ => by decide +kernel) | (with_reducible refine Sh.as ?_ ?_; rotate_left 1; exact fun _ => by decide +kernel) | (with_reducible refine Sh.asr ?_ ?_; rotate_left 1; exact fun _ => by decide +kernel) | with_reducible refine Sh.push ?_ | (with_reducible refine Sh.pfn ?_ ?_; rotate_left 1; omega) | (with_reducible refine Sh.asn ?_ ?_; rotate_left 1; omega)) (by decide) (by decide +kernel) (by decide +kernel)) | exact rfl | exact zb01 _ | decide | fail) only [e122_0, e122_1, e122_4, e122_7, e122_10, e122_11, e122_12, e122_15, e122_16, e122_19, e122_22, e122_23, e122_24, e122_27, e122_30, e122_33, e122_34, e122_35, e122_38, e122_39, e122_40, e122_43, e122_44, e122_45, e122_48, e122_51, e122_54, e122_55, e122_56, e122_59, e122_62, e122_65, zgd_true, zcl_ite, zX, Nat.reduceLT, Option.isSome_some, true_and, and_true, zo_some, zoi_some, zon_some, zcl_some, Option.toList_some, Option.toList_none, List.cons_append, List.nil_append, ite_true, ite_false, ↓reduceIte, z10, eq_self, not_true_eq_false, not_false_eq_true, and_self, or_true, true_or, i_0 h, f_0_1100 h, f_0_1101 h, f_0_1102 h, f_0_1103 h, f_0_1104 h, f_0_1105 h, f_0_1106 h, f_0_1107 h, f_0_1108 h, f_0_1109 h, f_0_1110 h, f_0_1111 h, f_0_1112 h, f_0_1113 h, f_0_1114 h, f_0_1115 h, f_0_1116 h, f_0_1117 h, f_0_1118 h, f_0_1119 h, i_0 h1, f_0_1100 h1, f_0_1101 h1, f_0_1102 h1, f_0_1103 h1, f_0_1104 h1, f_0_1105 h1, f_0_1106 h1, f_0_1107 h1, f_0_1108 h1, f_0_1109 h1, f_0_1110 h1, f_0_1111 h1, f_0_1112 h1, f_0_1113 h1, f_0_1114 h1, f_0_1115 h1, f_0_1116 h1, f_0_1117 h1, f_0_1118 h1, f_0_1119 h1, i_0 h2, f_0_1100 h2, f_0_1101 h2, f_0_1102 h2, f_0_1103 h2, f_0_1104 h2, f_0_1105 h2, f_0_1106 h2, f_0_1107 h2, f_0_1108 h2, f_0_1109 h2, f_0_1110 h2, f_0_1111 h2, f_0_1112 h2, f_0_1113 h2, f_0_1114 h2, f_0_1115 h2, f_0_1116 h2, f_0_1117 h2, f_0_1118 h2, f_0_1119 h2, i_0 h3, f_0_1100 h3, f_0_1101 h3, f_0_1102 h3, f_0_1103 h3, f_0_1104 h3, f_0_1105 h3, f_0_1106 h3, f_0_1107 h3, f_0_1108 h3, f_0_1109 h3, f_0_1110 h3, f_0_1111 h3, f_0_1112 h3, f_0_1113 h3, f_0_1114 h3, f_0_1115 h3, f_0_1116 h3, f_0_1117 h3, f_0_1118 h3, f_0_1119 h3, i_0 h4, f_0_1100 h4, f_0_1101 h4, f_0_1102 h4, f_0_1103 h4, f_0_1104 h4, f_0_1105 h4, f_0_1106 h4, f_0_1107 h4, f_0_1108 h4, f_0_1109 h4, f_0_1110 h4, f_0_1111 h4, f_0_1112 h4, f_0_1113 h4, f_0_1114 h4, f_0_1115 h4, f_0_1116 h4, f_0_1117 h4, f_0_1118 h4, f_0_1119 h4, i_0 h5, f_0_1100 h5, f_0_1101 h5, f_0_1102 h5, f_0_1103 h5, f_0_1104 h5, f_0_1105 h5, f_0_1106 h5, f_0_1107 h5, f_0_1108 h5, f_0_1109 h5, f_0_1110 h5, f_0_1111 h5, f_0_1112 h5, f_0_1113 h5, f_0_1114 h5, f_0_1115 h5, f_0_1116 h5, f_0_1117 h5, f_0_1118 h5, f_0_1119 h5, i0, i1, i2, i3, i4, i5, e1, show zrun none (60, 0, [.ref 5, .int 0, .int 99999, zJ], [], u1) = _ from e2, e3, show zrun none (60, 0, [.ref 5, .int 1, .int 3, zJ], [], u3) = _ from e4, e5, e6]
  rfl
theorem k_act2 {t : Nat → Nat} {n : Nat} {S : zTk} {u : zH} {a b c d : Int32} (H : cO t n (rD t n S) u) : ∃ (u' : zH) (e : Int32), zFr [] fK u u' ∧ cO t n (rE t n S) u' ∧ (tsf (rE t n S) = 0 → e = vOlder t n S) ∧ zrun none (122, 67, [.ref 0, .int a, .int b, .int c, .int d, zJ, zJ], [], u) = zrun none (122, 107, [.ref 0, .int a, .int b, .int c, .int d, .int e, zJ], [], u') := by
  have sw := k_sees d_older H
  have h := H.1
  have i0 := i_5 h
  unfold rE vOlder
  by_cases o : (pTv sOlder t (rD t n S)).isSome = true
  · rw [if_pos o] at sw
    rw [if_pos o, if_pos o]
    obtain ⟨u1, f1, g1, e1⟩ := k_takeWord d_older H
    obtain ⟨u2, e, f2, g2, e2, r2⟩ := k_takeNumber (a := 0) (b := 999) g1 (by decide) (by decide)
    have h1 := g1.1
    have i1 := i_5 h1
    refine ⟨u2, e, f1.trans f2, g2, r2, ?_⟩
    simp (disch := first | exact Nat.le_of_ble_eq_true rfl | exact zct_i _ | exact zct_r _ | exact zct_J | exact zct_n | with_reducible assumption | (with_reducible show (zf _ _ _).isSome = true; exact Sh.some (by repeat first | with_reducible assumption | (with_reducible refine Sh.pf ?_ ?_; rotate_left 1; exact fun _ => by decide +kernel) | (with_reducible refine Sh.as ?_ ?_; rotate_left 1; exact fun _ => by decide +kernel) | (with_reducible refine Sh.asr ?_ ?_; rotate_left 1; exact fun _ => by decide +kernel) | with_reducible refine Sh.push ?_ | (with_reducible refine Sh.pfn ?_ ?_; rotate_left 1; omega) | (with_reducible refine Sh.asn ?_ ?_; rotate_left 1; omega)) (by decide) (by decide +kernel) (by decide +kernel)) | exact rfl | exact zb01 _ | decide | fail) only [e122_67, e122_68, e122_70, e122_71, e122_74, e122_77, e122_80, e122_83, e122_84, e122_87, e122_90, e122_93, e122_94, e122_95, e122_98, e122_99, e122_102, e122_105, zgd_true, zcl_ite, zX, Nat.reduceLT, Option.isSome_some, true_and, and_true, zo_some, zoi_some, zon_some, zcl_some, Option.toList_some, Option.toList_none, List.cons_append, List.nil_append, ite_true, ite_false, ↓reduceIte, z10, eq_self, not_true_eq_false, not_false_eq_true, and_self, or_true, true_or, i_0 h, f_0_1100 h, f_0_1101 h, f_0_1102 h, f_0_1103 h, f_0_1104 h, f_0_1105 h, f_0_1106 h, f_0_1107 h, f_0_1108 h, f_0_1109 h, f_0_1110 h, f_0_1111 h, f_0_1112 h, f_0_1113 h, f_0_1114 h, f_0_1115 h, f_0_1116 h, f_0_1117 h, f_0_1118 h, f_0_1119 h, i_0 h1, f_0_1100 h1, f_0_1101 h1, f_0_1102 h1, f_0_1103 h1, f_0_1104 h1, f_0_1105 h1, f_0_1106 h1, f_0_1107 h1, f_0_1108 h1, f_0_1109 h1, f_0_1110 h1, f_0_1111 h1, f_0_1112 h1, f_0_1113 h1, f_0_1114 h1, f_0_1115 h1, f_0_1116 h1, f_0_1117 h1, f_0_1118 h1, f_0_1119 h1, i0, i1, sw, show ((1 : Int32) = 0) = False from eq_false (by decide), e1, show zrun none (60, 0, [.ref 5, .int 0, .int 999, zJ], [], u1) = _ from e2]
  · rw [if_neg o] at sw
    rw [if_neg o, if_neg o]
    refine ⟨u, 0, zFr.refl, H, fun _ => rfl, ?_⟩
    simp (disch := first | exact Nat.le_of_ble_eq_true rfl | exact zct_i _ | exact zct_r _ | exact zct_J | exact zct_n | with_reducible assumption | (with_reducible show (zf _ _ _).isSome = true; exact Sh.some (by repeat first | with_reducible assumption | (with_reducible refine Sh.pf ?_ ?_; rotate_left 1; exact fun _ => by decide +kernel) | (with_reducible refine Sh.as ?_ ?_; rotate_left 1; exact fun _ => by decide +kernel) | (with_reducible refine Sh.asr ?_ ?_; rotate_left 1; exact fun _ => by decide +kernel) | with_reducible refine Sh.push ?_ | (with_reducible refine Sh.pfn ?_ ?_; rotate_left 1; omega) | (with_reducible refine Sh.asn ?_ ?_; rotate_left 1; omega)) (by decide) (by decide +kernel) (by decide +kernel)) | exact rfl | exact zb01 _ | decide | fail) only [e122_67, e122_68, e122_70, e122_71, e122_74, e122_77, e122_80, e122_83, e122_84, e122_87, e122_90, e122_93, e122_94, e122_95, e122_98, e122_99, e122_102, e122_105, zgd_true, zcl_ite, zX, Nat.reduceLT, Option.isSome_some, true_and, and_true, zo_some, zoi_some, zon_some, zcl_some, Option.toList_some, Option.toList_none, List.cons_append, List.nil_append, ite_true, ite_false, ↓reduceIte, z10, eq_self, not_true_eq_false, not_false_eq_true, and_self, or_true, true_or, i_0 h, f_0_1100 h, f_0_1101 h, f_0_1102 h, f_0_1103 h, f_0_1104 h, f_0_1105 h, f_0_1106 h, f_0_1107 h, f_0_1108 h, f_0_1109 h, f_0_1110 h, f_0_1111 h, f_0_1112 h, f_0_1113 h, f_0_1114 h, f_0_1115 h, f_0_1116 h, f_0_1117 h, f_0_1118 h, f_0_1119 h, i0, sw]
theorem k_act3 {t : Nat → Nat} {n : Nat} {S : zTk} {u : zH} {a b c d e : Int32} (H : cO t n (rE t n S) u) (hz : u.length + 1 < zX) : ∃ u' : zH, zFr [] fK u u' ∧ cO t n (rG t n S) u' ∧ (tsf (rG t n S) ≠ 0 → zrun none (122, 107, [.ref 0, .int a, .int b, .int c, .int d, .int e, zJ], [], u) = some (some .null, u')) ∧ (tsf (rG t n S) = 0 → zrun none (122, 107, [.ref 0, .int a, .int b, .int c, .int d, .int e, zJ], [], u) = some (some (.ref u'.length), u' ++ [(0, [.int a, .int b, .int c, .int d, .int e, .int (vLeave t n S)])])) := by
  obtain ⟨u1, f1, g1, e1⟩ := k_takeWord d_end H
  obtain ⟨u2, f2, g2, e2⟩ := k_takeSign g1
  rw [show pTG t n (pTW sEnd t n (rE t n S)) = rG t n S from rfl] at g2
  unfold vLeave
  generalize rG t n S = G at *
  generalize rE t n S = Z at *
  have h := H.1
  have h1 := g1.1
  have h2 := g2.1
  have i0 := i_5 h
  have i1 := i_5 h1
  have i2 := i_5 h2
  have c5 := g2.2.2.1.2.2.2.2.1
  have hk := g2.2.2.2.2.2.2.1
  have z9 := zen_0 (o := pTv sEnd t Z) (pTv_lt (by decide))
  have hz2 : u2.length < zX := by rw [f2.len, f1.len]; omega
  have hz3 : u2.length + 1 < 1000000 := by rw [f2.len, f1.len]; exact hz
  have hz4 : u2.length < 1000000 := by omega
  refine ⟨u2, f1.trans f2, g2, fun f0 => ?_, fun f0 => ?_⟩
  · have n0 := (nI3 hk f0).1
    by_cases p : pTv sEnd t Z = some 0
    · simp (disch := first | exact Nat.le_of_ble_eq_true rfl | exact zct_i _ | exact zct_r _ | exact zct_J | exact zct_n | with_reducible assumption | (with_reducible show (zf _ _ _).isSome = true; exact Sh.some (by repeat first | with_reducible assumption | (with_reducible refine Sh.pf ?_ ?_; rotate_left 1; exact fun _ => by decide +kernel) | (with_reducible refine Sh.as ?_ ?_; rotate_left 1; exact fun _ => by decide +kernel) | (with_reducible refine Sh.asr ?_ ?_; rotate_left 1; exact fun _ => by decide +kernel) | with_reducible refine Sh.push ?_ | (with_reducible refine Sh.pfn ?_ ?_; rotate_left 1; omega) | (with_reducible refine Sh.asn ?_ ?_; rotate_left 1; omega)) (by decide) (by decide +kernel) (by decide +kernel)) | exact rfl | exact zb01 _ | decide | fail) only [e122_107, e122_108, e122_111, e122_114, e122_117, e122_120, e122_121, e122_124, e122_125, e122_127, e122_128, e122_131, e122_134, e122_135, e122_138, e122_141, e122_144, e122_145, e122_148, e122_151, e122_151r, e122_152, e122_153, e122_154, e122_155, e122_157, e122_159, e122_161, e122_164, e122_164n, zgd_true, zcl_ite, zX, Nat.reduceLT, Option.isSome_some, true_and, and_true, zo_some, zoi_some, zon_some, zcl_some, Option.toList_some, Option.toList_none, List.cons_append, List.nil_append, ite_true, ite_false, ↓reduceIte, z10, eq_self, not_true_eq_false, not_false_eq_true, and_self, or_true, true_or, i_0 h, f_0_1100 h, f_0_1101 h, f_0_1102 h, f_0_1103 h, f_0_1104 h, f_0_1105 h, f_0_1106 h, f_0_1107 h, f_0_1108 h, f_0_1109 h, f_0_1110 h, f_0_1111 h, f_0_1112 h, f_0_1113 h, f_0_1114 h, f_0_1115 h, f_0_1116 h, f_0_1117 h, f_0_1118 h, f_0_1119 h, i_0 h1, f_0_1100 h1, f_0_1101 h1, f_0_1102 h1, f_0_1103 h1, f_0_1104 h1, f_0_1105 h1, f_0_1106 h1, f_0_1107 h1, f_0_1108 h1, f_0_1109 h1, f_0_1110 h1, f_0_1111 h1, f_0_1112 h1, f_0_1113 h1, f_0_1114 h1, f_0_1115 h1, f_0_1116 h1, f_0_1117 h1, f_0_1118 h1, f_0_1119 h1, i_0 h2, f_0_1100 h2, f_0_1101 h2, f_0_1102 h2, f_0_1103 h2, f_0_1104 h2, f_0_1105 h2, f_0_1106 h2, f_0_1107 h2, f_0_1108 h2, f_0_1109 h2, f_0_1110 h2, f_0_1111 h2, f_0_1112 h2, f_0_1113 h2, f_0_1114 h2, f_0_1115 h2, f_0_1116 h2, f_0_1117 h2, f_0_1118 h2, f_0_1119 h2, i_5 h2, f_5_900 h2, f_5_901 h2, f_5_902 h2, f_5_903 h2, f_5_904 h2, f_5_905 h2, f_5_906 h2, i0, i1, i2, e1, z9, eq_true p, e2, c5, n0]
    · simp (disch := first | exact Nat.le_of_ble_eq_true rfl | exact zct_i _ | exact zct_r _ | exact zct_J | exact zct_n | with_reducible assumption | (with_reducible show (zf _ _ _).isSome = true; exact Sh.some (by repeat first | with_reducible assumption | (with_reducible refine Sh.pf ?_ ?_; rotate_left 1; exact fun _ => by decide +kernel) | (with_reducible refine Sh.as ?_ ?_; rotate_left 1; exact fun _ => by decide +kernel) | (with_reducible refine Sh.asr ?_ ?_; rotate_left 1; exact fun _ => by decide +kernel) | with_reducible refine Sh.push ?_ | (with_reducible refine Sh.pfn ?_ ?_; rotate_left 1; omega) | (with_reducible refine Sh.asn ?_ ?_; rotate_left 1; omega)) (by decide) (by decide +kernel) (by decide +kernel)) | exact rfl | exact zb01 _ | decide | fail) only [e122_107, e122_108, e122_111, e122_114, e122_117, e122_120, e122_121, e122_124, e122_125, e122_127, e122_128, e122_131, e122_134, e122_135, e122_138, e122_141, e122_144, e122_145, e122_148, e122_151, e122_151r, e122_152, e122_153, e122_154, e122_155, e122_157, e122_159, e122_161, e122_164, e122_164n, zgd_true, zcl_ite, zX, Nat.reduceLT, Option.isSome_some, true_and, and_true, zo_some, zoi_some, zon_some, zcl_some, Option.toList_some, Option.toList_none, List.cons_append, List.nil_append, ite_true, ite_false, ↓reduceIte, z10, eq_self, not_true_eq_false, not_false_eq_true, and_self, or_true, true_or, i_0 h, f_0_1100 h, f_0_1101 h, f_0_1102 h, f_0_1103 h, f_0_1104 h, f_0_1105 h, f_0_1106 h, f_0_1107 h, f_0_1108 h, f_0_1109 h, f_0_1110 h, f_0_1111 h, f_0_1112 h, f_0_1113 h, f_0_1114 h, f_0_1115 h, f_0_1116 h, f_0_1117 h, f_0_1118 h, f_0_1119 h, i_0 h1, f_0_1100 h1, f_0_1101 h1, f_0_1102 h1, f_0_1103 h1, f_0_1104 h1, f_0_1105 h1, f_0_1106 h1, f_0_1107 h1, f_0_1108 h1, f_0_1109 h1, f_0_1110 h1, f_0_1111 h1, f_0_1112 h1, f_0_1113 h1, f_0_1114 h1, f_0_1115 h1, f_0_1116 h1, f_0_1117 h1, f_0_1118 h1, f_0_1119 h1, i_0 h2, f_0_1100 h2, f_0_1101 h2, f_0_1102 h2, f_0_1103 h2, f_0_1104 h2, f_0_1105 h2, f_0_1106 h2, f_0_1107 h2, f_0_1108 h2, f_0_1109 h2, f_0_1110 h2, f_0_1111 h2, f_0_1112 h2, f_0_1113 h2, f_0_1114 h2, f_0_1115 h2, f_0_1116 h2, f_0_1117 h2, f_0_1118 h2, f_0_1119 h2, i_5 h2, f_5_900 h2, f_5_901 h2, f_5_902 h2, f_5_903 h2, f_5_904 h2, f_5_905 h2, f_5_906 h2, i0, i1, i2, e1, z9, eq_false p, e2, c5, n0]
  · rw [f0] at c5
    by_cases p : pTv sEnd t Z = some 0
    · rw [if_pos p]
      simp (disch := first | exact Nat.le_of_ble_eq_true rfl | exact zct_i _ | exact zct_r _ | exact zct_J | exact zct_n | with_reducible assumption | (with_reducible show (zf _ _ _).isSome = true; exact Sh.some (by repeat first | with_reducible assumption | (with_reducible refine Sh.pf ?_ ?_; rotate_left 1; exact fun _ => by decide +kernel) | (with_reducible refine Sh.as ?_ ?_; rotate_left 1; exact fun _ => by decide +kernel) | (with_reducible refine Sh.asr ?_ ?_; rotate_left 1; exact fun _ => by decide +kernel) | with_reducible refine Sh.push ?_ | (with_reducible refine Sh.pfn ?_ ?_; rotate_left 1; omega) | (with_reducible refine Sh.asn ?_ ?_; rotate_left 1; omega)) (by decide) (by decide +kernel) (by decide +kernel)) | exact rfl | exact zb01 _ | decide | fail) only [e122_107, e122_108, e122_111, e122_114, e122_117, e122_120, e122_121, e122_124, e122_125, e122_127, e122_128, e122_131, e122_134, e122_135, e122_138, e122_141, e122_144, e122_145, e122_148, e122_151, e122_151r, e122_152, e122_153, e122_154, e122_155, e122_157, e122_159, e122_161, e122_164, e122_164n, e0_0, e0_1, e0_4, e0_5, e0_6, e0_9, e0_10, e0_11, e0_14, e0_15, e0_16, e0_19, e0_20, e0_22, e0_25, e0_26, e0_28, e0_31, e0_32, e0_34, e0_37, zgd_true, zcl_ite, zX, Nat.reduceLT, Option.isSome_some, true_and, and_true, zo_some, zoi_some, zon_some, zcl_some, Option.toList_some, Option.toList_none, List.cons_append, List.nil_append, ite_true, ite_false, ↓reduceIte, z10, eq_self, not_true_eq_false, not_false_eq_true, and_self, or_true, true_or, i_0 h, f_0_1100 h, f_0_1101 h, f_0_1102 h, f_0_1103 h, f_0_1104 h, f_0_1105 h, f_0_1106 h, f_0_1107 h, f_0_1108 h, f_0_1109 h, f_0_1110 h, f_0_1111 h, f_0_1112 h, f_0_1113 h, f_0_1114 h, f_0_1115 h, f_0_1116 h, f_0_1117 h, f_0_1118 h, f_0_1119 h, i_0 h1, f_0_1100 h1, f_0_1101 h1, f_0_1102 h1, f_0_1103 h1, f_0_1104 h1, f_0_1105 h1, f_0_1106 h1, f_0_1107 h1, f_0_1108 h1, f_0_1109 h1, f_0_1110 h1, f_0_1111 h1, f_0_1112 h1, f_0_1113 h1, f_0_1114 h1, f_0_1115 h1, f_0_1116 h1, f_0_1117 h1, f_0_1118 h1, f_0_1119 h1, i_0 h2, f_0_1100 h2, f_0_1101 h2, f_0_1102 h2, f_0_1103 h2, f_0_1104 h2, f_0_1105 h2, f_0_1106 h2, f_0_1107 h2, f_0_1108 h2, f_0_1109 h2, f_0_1110 h2, f_0_1111 h2, f_0_1112 h2, f_0_1113 h2, f_0_1114 h2, f_0_1115 h2, f_0_1116 h2, f_0_1117 h2, f_0_1118 h2, f_0_1119 h2, i_5 h2, f_5_900 h2, f_5_901 h2, f_5_902 h2, f_5_903 h2, f_5_904 h2, f_5_905 h2, f_5_906 h2, i0, i1, i2, e1, z9, eq_true p, e2, c5, nI_0, hz3, hz4, zf_ps h2, gi_ps h2, ga_ps h2, gr_ps h2, zai_ps h2, zaa_ps h2, zis_ps h2, zin_ps h2, zis_new hz2, zf_new hz2, zpf_new, Nat.reduceDiv, Nat.reduceMod, Nat.reduceEqDiff, List.set_cons_zero, List.set_cons_succ, List.getElem?_cons_zero, List.getElem?_cons_succ, List.length_cons, List.length_nil]
    · rw [if_neg p]
      simp (disch := first | exact Nat.le_of_ble_eq_true rfl | exact zct_i _ | exact zct_r _ | exact zct_J | exact zct_n | with_reducible assumption | (with_reducible show (zf _ _ _).isSome = true; exact Sh.some (by repeat first | with_reducible assumption | (with_reducible refine Sh.pf ?_ ?_; rotate_left 1; exact fun _ => by decide +kernel) | (with_reducible refine Sh.as ?_ ?_; rotate_left 1; exact fun _ => by decide +kernel) | (with_reducible refine Sh.asr ?_ ?_; rotate_left 1; exact fun _ => by decide +kernel) | with_reducible refine Sh.push ?_ | (with_reducible refine Sh.pfn ?_ ?_; rotate_left 1; omega) | (with_reducible refine Sh.asn ?_ ?_; rotate_left 1; omega)) (by decide) (by decide +kernel) (by decide +kernel)) | exact rfl | exact zb01 _ | decide | fail) only [e122_107, e122_108, e122_111, e122_114, e122_117, e122_120, e122_121, e122_124, e122_125, e122_127, e122_128, e122_131, e122_134, e122_135, e122_138, e122_141, e122_144, e122_145, e122_148, e122_151, e122_151r, e122_152, e122_153, e122_154, e122_155, e122_157, e122_159, e122_161, e122_164, e122_164n, e0_0, e0_1, e0_4, e0_5, e0_6, e0_9, e0_10, e0_11, e0_14, e0_15, e0_16, e0_19, e0_20, e0_22, e0_25, e0_26, e0_28, e0_31, e0_32, e0_34, e0_37, zgd_true, zcl_ite, zX, Nat.reduceLT, Option.isSome_some, true_and, and_true, zo_some, zoi_some, zon_some, zcl_some, Option.toList_some, Option.toList_none, List.cons_append, List.nil_append, ite_true, ite_false, ↓reduceIte, z10, eq_self, not_true_eq_false, not_false_eq_true, and_self, or_true, true_or, i_0 h, f_0_1100 h, f_0_1101 h, f_0_1102 h, f_0_1103 h, f_0_1104 h, f_0_1105 h, f_0_1106 h, f_0_1107 h, f_0_1108 h, f_0_1109 h, f_0_1110 h, f_0_1111 h, f_0_1112 h, f_0_1113 h, f_0_1114 h, f_0_1115 h, f_0_1116 h, f_0_1117 h, f_0_1118 h, f_0_1119 h, i_0 h1, f_0_1100 h1, f_0_1101 h1, f_0_1102 h1, f_0_1103 h1, f_0_1104 h1, f_0_1105 h1, f_0_1106 h1, f_0_1107 h1, f_0_1108 h1, f_0_1109 h1, f_0_1110 h1, f_0_1111 h1, f_0_1112 h1, f_0_1113 h1, f_0_1114 h1, f_0_1115 h1, f_0_1116 h1, f_0_1117 h1, f_0_1118 h1, f_0_1119 h1, i_0 h2, f_0_1100 h2, f_0_1101 h2, f_0_1102 h2, f_0_1103 h2, f_0_1104 h2, f_0_1105 h2, f_0_1106 h2, f_0_1107 h2, f_0_1108 h2, f_0_1109 h2, f_0_1110 h2, f_0_1111 h2, f_0_1112 h2, f_0_1113 h2, f_0_1114 h2, f_0_1115 h2, f_0_1116 h2, f_0_1117 h2, f_0_1118 h2, f_0_1119 h2, i_5 h2, f_5_900 h2, f_5_901 h2, f_5_902 h2, f_5_903 h2, f_5_904 h2, f_5_905 h2, f_5_906 h2, i0, i1, i2, e1, z9, eq_false p, e2, c5, nI_0, hz3, hz4, zf_ps h2, gi_ps h2, ga_ps h2, gr_ps h2, zai_ps h2, zaa_ps h2, zis_ps h2, zin_ps h2, zis_new hz2, zf_new hz2, zpf_new, Nat.reduceDiv, Nat.reduceMod, Nat.reduceEqDiff, List.set_cons_zero, List.set_cons_succ, List.getElem?_cons_zero, List.getElem?_cons_succ, List.length_cons, List.length_nil]
theorem k_readAct {t : Nat → Nat} {n : Nat} {S : zTk} {u : zH} (H : cO t n S u) (hz : u.length + 1 < zX) : ∃ u' : zH, zFr [] fK u u' ∧ cO t n (rG t n S) u' ∧ (tsf (rG t n S) ≠ 0 → zrun none (122, 0, [.ref 0, zJ, zJ, zJ, zJ, zJ, zJ], [], u) = some (some .null, u')) ∧ (tsf (rG t n S) = 0 → zrun none (122, 0, [.ref 0, zJ, zJ, zJ, zJ, zJ, zJ], [], u) = some (some (.ref u'.length), u' ++ [(0, [.int (vDay t n S), .int (vGrade t n S), .int (vSort t n S), .int (vWork t n S), .int (vOlder t n S), .int (vLeave t n S)])])) := by
  obtain ⟨u1, a, b, f1, g1, r1, e1⟩ := k_act1 H
  obtain ⟨u2, e, f2, g2, r2, e2⟩ := k_act2 (a := a) (b := b) (c := vSort t n S) (d := vWork t n S) g1
  obtain ⟨u3, f3, g3, p1, p2⟩ := k_act3 (a := a) (b := b) (c := vSort t n S) (d := vWork t n S) (e := e) g2 (by rw [f2.len, f1.len]; exact hz)
  refine ⟨u3, f1.trans (f2.trans f3), g3, fun q => ?_, fun q => ?_⟩
  · rw [e1, e2, p1 q]
  · have q2 := f_G q
    have q1 := f_E q2
    rw [e1, e2, p2 q, (r1 q1).1, (r1 q1).2, r2 q2]
