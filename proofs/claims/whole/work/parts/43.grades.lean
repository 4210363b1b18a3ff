/-! grades: the class -/
/-- the rows of the list, as the class goes through them: m of them are left, from i on -/
def xgr (fH fG fD fE : Nat → Int32) (hh d kn : Int32) : Nat → Nat → Int32 → Int32 → Int32
  | 0, _, _, g => g
  | m + 1, i, l, g => if fH i = hh then if kn < fE i then xgr fH fG fD fE hh d kn m (i + 1) l g else if d < fD i then xgr fH fG fD fE hh d kn m (i + 1) l g else if fD i < l then xgr fH fG fD fE hh d kn m (i + 1) l g else xgr fH fG fD fE hh d kn m (i + 1) (fD i) (fG i) else xgr fH fG fD fE hh d kn m (i + 1) l g
/-- the listings that the class holds -/
def oL (w : zH) (n : Nat) (fH fG fD fE : Nat → Int32) : Prop := ∀ i, i < n → ∃ a, gr w 3 i = .ref a ∧ a < zX ∧ zf w a 500 = some (.int (fH i)) ∧ zf w a 501 = some (.int (fG i)) ∧ zf w a 502 = some (.int (fD i)) ∧ zf w a 503 = some (.int (fE i))
theorem k_gradeOf_loop {w : zH} (h : Sh w) {n : Nat} {fH fG fD fE : Nat → Int32} (hn : n ≤ 30) (hc : gi w 2 301 = nI n) (hl : oL w n fH fG fD fE) (hh d kn : Int32) : ∀ (m i : Nat) (l g : Int32) (v7 : Value), i + m = n → zrun none (17, 9, [.ref 2, .int hh, .int d, .int kn, .int l, .int g, .int (nI i), v7], [], w) = some (some (.int (xgr fH fG fD fE hh d kn m i l g)), w) := by
  intro m
  induction m with
  | zero =>
    intro i l g v7 hi
    have q1 : nI n ≤ nI i := nI_le (by omega) (by omega)
    simp (disch := first | exact Nat.le_of_ble_eq_true rfl | exact zct_i _ | exact zct_r _ | exact zct_J | exact zct_n | exact rfl | rfl | exact zb01 _ | assumption | decide | (simp only [zsm_pf, zsm_as]; exact Sh.some (by assumption) (by decide) (by decide +kernel) (by decide +kernel))) only [e17_0, e17_1, e17_3, e17_4, e17_6, e17_7, e17_9, e17_11, e17_12, e17_15, e17_18, e17_20, e17_22, e17_25, e17_26, e17_29, e17_31, e17_32, e17_32n, e17_34, e17_34n, e17_36n, e17_36, e17_39, e17_39n, e17_41, e17_44, e17_45, e17_48, e17_48n, e17_50, e17_53, e17_54, e17_57, e17_57n, e17_59, e17_62, e17_63, e17_66, e17_66n, e17_68, e17_71, e17_73, e17_76, e17_76n, e17_78, e17_81, e17_83, e17_83n, e17_85, e17_88, e17_90, e17_93, e17_96, e17_98, zgd_true, zcl_ite, zX, Nat.reduceLT, Option.isSome_some, true_and, and_true, zo_some, zoi_some, zon_some, zcl_some, Option.toList_some, Option.toList_none, List.cons_append, List.nil_append, ite_true, ite_false, reduceIte, f_2_301 h, hc, q1, xgr]
  | succ m ih =>
    intro i l g v7 hi
    have q1 : ¬ nI n ≤ nI i := nI_ge (by omega) (by omega)
    have q2 : ¬ (30 : Int32) ≤ nI i := nI_ge (b := 30) (by omega) (by omega)
    obtain ⟨a, g1, g2, g3, g4, g5, g6⟩ := hl i (by omega)
    have q3 : 0 ≤ nI i := nI_pos' (by omega)
    have q4 : i < 30 := by omega
    rw [e17_9]
    simp (disch := first | exact Nat.le_of_ble_eq_true rfl | exact zct_i _ | exact zct_r _ | exact zct_J | exact zct_n | exact rfl | rfl | exact zb01 _ | assumption | decide | (simp only [zsm_pf, zsm_as]; exact Sh.some (by assumption) (by decide) (by decide +kernel) (by decide +kernel))) only [e17_0, e17_1, e17_3, e17_4, e17_6, e17_7, e17_11, e17_12, e17_15, e17_18, e17_20, e17_22, e17_25, e17_26, e17_29, e17_31, e17_32, e17_32n, e17_34, e17_34n, e17_36n, e17_36, e17_39, e17_39n, e17_41, e17_44, e17_45, e17_48, e17_48n, e17_50, e17_53, e17_54, e17_57, e17_57n, e17_59, e17_62, e17_63, e17_66, e17_66n, e17_68, e17_71, e17_73, e17_76, e17_76n, e17_78, e17_81, e17_83, e17_83n, e17_85, e17_88, e17_90, e17_93, e17_96, e17_98, zgd_true, zcl_ite, zX, Nat.reduceLT, Option.isSome_some, true_and, and_true, zo_some, zoi_some, zon_some, zcl_some, Option.toList_some, Option.toList_none, List.cons_append, List.nil_append, ite_true, ite_false, reduceIte, f_2_301 h, f_2_300 h, hc, q1, q2, a_3 h, q3, q4, nI_clamp (show i < 2 ^ 31 by omega), g1, g2, g3, g4, g5, g6, nI_1, ih (i + 1) _ _ _ (show i + 1 + m = n by omega), xgr, and_self]
    repeat' split
    all_goals rfl
theorem k_gradeOf {w : zH} (h : Sh w) {n : Nat} {fH fG fD fE : Nat → Int32} (hn : n ≤ 30) (hc : gi w 2 301 = nI n) (hl : oL w n fH fG fD fE) (hh d kn : Int32) : zrun none (17, 0, [.ref 2, .int hh, .int d, .int kn, zJ, zJ, zJ, zJ], [], w) = some (some (.int (xgr fH fG fD fE hh d kn n 0 (-1) 0)), w) := by
  simp (disch := first | exact Nat.le_of_ble_eq_true rfl | exact zct_i _ | exact zct_r _ | exact zct_J | exact zct_n | exact rfl | rfl | exact zb01 _ | assumption | decide | (simp only [zsm_pf, zsm_as]; exact Sh.some (by assumption) (by decide) (by decide +kernel) (by decide +kernel))) only [e17_0, e17_1, e17_3, e17_4, e17_6, e17_7, e17_11, e17_12, e17_15, e17_18, e17_20, e17_22, e17_25, e17_26, e17_29, e17_31, e17_32, e17_32n, e17_34, e17_34n, e17_36n, e17_36, e17_39, e17_39n, e17_41, e17_44, e17_45, e17_48, e17_48n, e17_50, e17_53, e17_54, e17_57, e17_57n, e17_59, e17_62, e17_63, e17_66, e17_66n, e17_68, e17_71, e17_73, e17_76, e17_76n, e17_78, e17_81, e17_83, e17_83n, e17_85, e17_88, e17_90, e17_93, e17_96, e17_98, zgd_true, zcl_ite, zX, Nat.reduceLT, Option.isSome_some, true_and, and_true, zo_some, zoi_some, zon_some, zcl_some, Option.toList_some, Option.toList_none, List.cons_append, List.nil_append, ite_true, ite_false, reduceIte]
  exact k_gradeOf_loop h hn hc hl hh d kn n 0 (-1) 0 zJ (by omega)
