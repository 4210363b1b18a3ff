/-! all acts: the program -/
theorem Sh.asN {w : zH} {a : Nat} {j : Int32} (h : Sh w) (hp : a < 65 → (zsh a).2.2 = [] ∧ 200 ≤ (zsh a).1) : Sh (zas w a j .null) := by
  intro b hb
  obtain ⟨vs, h1, h3, h4⟩ := h b hb
  by_cases hab : a = b
  · subst hab
    refine ⟨_, zas_get_eq h1, by rw [List.length_set]; exact h3, fun i v hj => ?_⟩
    rw [List.getElem?_set] at hj
    split at hj
    · split at hj
      · cases hj
        unfold zslot zptr
        rw [(hp hb).1]
        dsimp only [List.getD_nil]
        rw [if_pos (hp hb).2]
        rfl
      · cases hj
    · exact h4 i v hj
  · exact ⟨vs, by rw [zas_get_ne hab]; exact h1, h3, h4⟩
theorem zaq_null {w : zH} (h : Sh w) {n : Nat} (hn : n < 24) : zaq w 7 (nI n) .null = True := by
  refine eq_true ⟨200, ?_, by unfold zastq; rfl⟩
  obtain ⟨us, h1, h2, -⟩ := h 7 (by decide)
  have e1 : (zsh 7).1 = 200 := by decide +kernel
  have e2 : (zsh 7).2.1 = 24 := by decide +kernel
  exact ⟨by have := z65; omega, us, by rw [h1, e1], nI_pos (by omega), by rw [nI_clamp (by omega)]; omega⟩
theorem cO_get {t : Nat → Nat} {n : Nat} {S : zTk} {u u' : zH} (H : cO t n S u) (h' : Sh u') (h5 : u'[5]? = u[5]?) (h6 : u'[6]? = u[6]?) : cO t n S u' := by
  obtain ⟨h, hT, ⟨c1, c2, c3, c4, c5, c6⟩, hk⟩ := H
  refine ⟨h', ⟨hT.1, fun i hi => ⟨(hT.2 i hi).1, (ga_eq h6 i).trans (hT.2 i hi).2⟩⟩, ⟨(gi_eq h5 _).trans c1, (gi_eq h5 _).trans c2, (gi_eq h5 _).trans c3, (gi_eq h5 _).trans c4, (gi_eq h5 _).trans c5, fun q => (gi_eq h5 _).trans (c6 q)⟩, hk⟩
def zGr (u u' : zH) : Prop := u.length ≤ u'.length ∧ ∀ b, b < u.length → b ≠ 5 → b ≠ 7 → u'[b]? = u[b]?
theorem zGr.trans {u v w : zH} (h : zGr u v) (g : zGr v w) : zGr u w := ⟨Nat.le_trans h.1 g.1, fun b b1 b2 b3 => (g.2 b (Nat.lt_of_lt_of_le b1 h.1) b2 b3).trans (h.2 b b1 b2 b3)⟩
theorem zGr.fr {u v : zH} (h : zFr [] fK u v) : zGr u v := ⟨by rw [h.len]; exact Nat.le_refl _, fun b _ b2 _ => h.get rfl (by simp [Ne.symm b2])⟩
abbrev ovr (S : zTk) : Prop := tsf S ≠ 0 ∨ tsk S = 0
theorem k_over {t : Nat → Nat} {n : Nat} {S : zTk} {u : zH} (H : cO t n S u) : zrun none (47, 0, [.ref 5], [], u) = some (some (.int (if ovr S then 1 else 0)), u) := by
  obtain ⟨h, hT, ⟨c1, c2, c3, c4, c5, c6⟩, hk⟩ := H
  by_cases f0 : tsf S = 0
  · rw [f0] at c5
    by_cases k0 : tsk S = 0
    · rw [k0] at c2
      rw [if_pos (show ovr S from Or.inr k0)]
      simp (disch := first | exact Nat.le_of_ble_eq_true rfl | exact zct_i _ | exact zct_r _ | exact zct_J | exact zct_n | with_reducible assumption | (with_reducible show (zf _ _ _).isSome = true; exact Sh.some (by repeat first | with_reducible assumption | (with_reducible refine Sh.pf ?_ ?_; rotate_left 1; exact fun _ => by decide +kernel) | (with_reducible refine Sh.as ?_ ?_; rotate_left 1; exact fun _ => by decide +kernel) | (with_reducible refine Sh.asr ?_ ?_; rotate_left 1; exact fun _ => by decide +kernel) | with_reducible refine Sh.push ?_ | (with_reducible refine Sh.pfn ?_ ?_; rotate_left 1; omega) | (with_reducible refine Sh.asn ?_ ?_; rotate_left 1; omega)) (by decide) (by decide +kernel) (by decide +kernel)) | exact rfl | exact zb01 _ | decide | fail) only [e47_0, e47_1, e47_4, e47_7, e47_8, e47_11, e47_14, e47_15, e47_18, e47_19, zgd_true, zcl_ite, zX, Nat.reduceLT, Option.isSome_some, true_and, and_true, zo_some, zoi_some, zon_some, zcl_some, Option.toList_some, Option.toList_none, List.cons_append, List.nil_append, ite_true, ite_false, ↓reduceIte, z10, eq_self, not_true_eq_false, not_false_eq_true, and_self, or_true, true_or, i_5 h, f_5_900 h, f_5_901 h, f_5_902 h, f_5_903 h, f_5_904 h, f_5_905 h, f_5_906 h, c5, c2, nI_0]
    · have q : (nI (tsk S) = 0) = False := eq_false (nI_ne0 (by omega) (by have := hk.1; omega))
      rw [if_neg (show ¬ ovr S from fun z => z.elim (fun y => y f0) k0)]
      simp (disch := first | exact Nat.le_of_ble_eq_true rfl | exact zct_i _ | exact zct_r _ | exact zct_J | exact zct_n | with_reducible assumption | (with_reducible show (zf _ _ _).isSome = true; exact Sh.some (by repeat first | with_reducible assumption | (with_reducible refine Sh.pf ?_ ?_; rotate_left 1; exact fun _ => by decide +kernel) | (with_reducible refine Sh.as ?_ ?_; rotate_left 1; exact fun _ => by decide +kernel) | (with_reducible refine Sh.asr ?_ ?_; rotate_left 1; exact fun _ => by decide +kernel) | with_reducible refine Sh.push ?_ | (with_reducible refine Sh.pfn ?_ ?_; rotate_left 1; omega) | (with_reducible refine Sh.asn ?_ ?_; rotate_left 1; omega)) (by decide) (by decide +kernel) (by decide +kernel)) | exact rfl | exact zb01 _ | decide | fail) only [e47_0, e47_1, e47_4, e47_7, e47_8, e47_11, e47_14, e47_15, e47_18, e47_19, zgd_true, zcl_ite, zX, Nat.reduceLT, Option.isSome_some, true_and, and_true, zo_some, zoi_some, zon_some, zcl_some, Option.toList_some, Option.toList_none, List.cons_append, List.nil_append, ite_true, ite_false, ↓reduceIte, z10, eq_self, not_true_eq_false, not_false_eq_true, and_self, or_true, true_or, i_5 h, f_5_900 h, f_5_901 h, f_5_902 h, f_5_903 h, f_5_904 h, f_5_905 h, f_5_906 h, c5, c2, nI_0, q]
  · rw [if_pos (show ovr S from Or.inl f0)]
    simp (disch := first | exact Nat.le_of_ble_eq_true rfl | exact zct_i _ | exact zct_r _ | exact zct_J | exact zct_n | with_reducible assumption | (with_reducible show (zf _ _ _).isSome = true; exact Sh.some (by repeat first | with_reducible assumption | (with_reducible refine Sh.pf ?_ ?_; rotate_left 1; exact fun _ => by decide +kernel) | (with_reducible refine Sh.as ?_ ?_; rotate_left 1; exact fun _ => by decide +kernel) | (with_reducible refine Sh.asr ?_ ?_; rotate_left 1; exact fun _ => by decide +kernel) | with_reducible refine Sh.push ?_ | (with_reducible refine Sh.pfn ?_ ?_; rotate_left 1; omega) | (with_reducible refine Sh.asn ?_ ?_; rotate_left 1; omega)) (by decide) (by decide +kernel) (by decide +kernel)) | exact rfl | exact zb01 _ | decide | fail) only [e47_0, e47_1, e47_4, e47_7, e47_8, e47_11, e47_14, e47_15, e47_18, e47_19, zgd_true, zcl_ite, zX, Nat.reduceLT, Option.isSome_some, true_and, and_true, zo_some, zoi_some, zon_some, zcl_some, Option.toList_some, Option.toList_none, List.cons_append, List.nil_append, ite_true, ite_false, ↓reduceIte, z10, eq_self, not_true_eq_false, not_false_eq_true, and_self, or_true, true_or, i_5 h, f_5_900 h, f_5_901 h, f_5_902 h, f_5_903 h, f_5_904 h, f_5_905 h, f_5_906 h, c5, (nI3 hk.2.2.2.1 f0).1]
theorem k_acts_over {t : Nat → Nat} {n k : Nat} {S : zTk} {u : zH} {x : Int32} (H : cO t n S u) (hk : k ≤ 25) (ho : ovr S) : zrun none (121, 14, [.ref 0, .int x, .int (nI k)], [], u) = some (some (.int x), u) := by
  have ov := k_over H
  have h := H.1
  have i0 := i_5 h
  rw [if_pos ho] at ov
  rw [e121_14]
  by_cases q : (24 : Int32) < nI k
  · simp (disch := first | exact Nat.le_of_ble_eq_true rfl | exact zct_i _ | exact zct_r _ | exact zct_J | exact zct_n | with_reducible assumption | (with_reducible show (zf _ _ _).isSome = true; exact Sh.some (by repeat first | with_reducible assumption | (with_reducible refine Sh.pf ?_ ?_; rotate_left 1; exact fun _ => by decide +kernel) | (with_reducible refine Sh.as ?_ ?_; rotate_left 1; exact fun _ => by decide +kernel) | (with_reducible refine Sh.asr ?_ ?_; rotate_left 1; exact fun _ => by decide +kernel) | with_reducible refine Sh.push ?_ | (with_reducible refine Sh.pfn ?_ ?_; rotate_left 1; omega) | (with_reducible refine Sh.asn ?_ ?_; rotate_left 1; omega)) (by decide) (by decide +kernel) (by decide +kernel)) | exact rfl | exact zb01 _ | decide | fail) only [e121_15, e121_17, e121_20, e121_21, e121_24, e121_27, e121_30, e121_31, e121_33, e121_36, e121_37, e121_40, e121_43, e121_44, e121_47, e121_50, e121_51, e121_54, e121_55, e121_56, e121_59, e121_60, e121_63, e121_66, e121_69, e121_70, zgd_true, zcl_ite, zX, Nat.reduceLT, Option.isSome_some, true_and, and_true, zo_some, zoi_some, zon_some, zcl_some, Option.toList_some, Option.toList_none, List.cons_append, List.nil_append, ite_true, ite_false, ↓reduceIte, z10, eq_self, not_true_eq_false, not_false_eq_true, and_self, or_true, true_or, q]
  · simp (disch := first | exact Nat.le_of_ble_eq_true rfl | exact zct_i _ | exact zct_r _ | exact zct_J | exact zct_n | with_reducible assumption | (with_reducible show (zf _ _ _).isSome = true; exact Sh.some (by repeat first | with_reducible assumption | (with_reducible refine Sh.pf ?_ ?_; rotate_left 1; exact fun _ => by decide +kernel) | (with_reducible refine Sh.as ?_ ?_; rotate_left 1; exact fun _ => by decide +kernel) | (with_reducible refine Sh.asr ?_ ?_; rotate_left 1; exact fun _ => by decide +kernel) | with_reducible refine Sh.push ?_ | (with_reducible refine Sh.pfn ?_ ?_; rotate_left 1; omega) | (with_reducible refine Sh.asn ?_ ?_; rotate_left 1; omega)) (by decide) (by decide +kernel) (by decide +kernel)) | exact rfl | exact zb01 _ | decide | fail) only [e121_15, e121_17, e121_20, e121_21, e121_24, e121_27, e121_30, e121_31, e121_33, e121_36, e121_37, e121_40, e121_43, e121_44, e121_47, e121_50, e121_51, e121_54, e121_55, e121_56, e121_59, e121_60, e121_63, e121_66, e121_69, e121_70, zgd_true, zcl_ite, zX, Nat.reduceLT, Option.isSome_some, true_and, and_true, zo_some, zoi_some, zon_some, zcl_some, Option.toList_some, Option.toList_none, List.cons_append, List.nil_append, ite_true, ite_false, ↓reduceIte, z10, eq_self, not_true_eq_false, not_false_eq_true, and_self, or_true, true_or, i_0 h, f_0_1100 h, f_0_1101 h, f_0_1102 h, f_0_1103 h, f_0_1104 h, f_0_1105 h, f_0_1106 h, f_0_1107 h, f_0_1108 h, f_0_1109 h, f_0_1110 h, f_0_1111 h, f_0_1112 h, f_0_1113 h, f_0_1114 h, f_0_1115 h, f_0_1116 h, f_0_1117 h, f_0_1118 h, f_0_1119 h, i0, q, ov, show ((1 : Int32) = 0) = False from eq_false (by decide)]
