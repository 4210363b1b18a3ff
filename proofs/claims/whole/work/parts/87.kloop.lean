/-! all acts: the program's loop -/
def rL (t : Nat → Nat) (n : Nat) : Nat → zTk → zTk × Nat
  | 0, S => if ovr S then (S, 0) else (pRef S (if (pTv sAct t S).isSome = true then 3 else 1), 0)
  | d + 1, S => if ovr S then (S, d + 1) else rL t n d (rG t n S)
def itS (t : Nat → Nat) (n : Nat) : Nat → zTk → zTk
  | 0, S => S
  | j + 1, S => itS t n j (rG t n S)
def zAt (t : Nat → Nat) (n : Nat) (u : zH) (i : Nat) (S : zTk) : Prop := ∃ b, 65 ≤ b ∧ b < u.length ∧ gr u 7 i = .ref b ∧ u[b]? = some (0, [.int (vDay t n S), .int (vGrade t n S), .int (vSort t n S), .int (vWork t n S), .int (vOlder t n S), .int (vLeave t n S)])
theorem rL_le (t : Nat → Nat) (n : Nat) : ∀ d S, (rL t n d S).2 ≤ d := by
  intro d
  induction d with
  | zero => intro S; rw [rL]; split <;> exact Nat.le_refl _
  | succ d ih =>
    intro S
    rw [rL]
    split
    · exact Nat.le_refl _
    · have := ih (rG t n S); omega
theorem rL_o {t : Nat → Nat} {n d : Nat} {S : zTk} (ho : ovr S) : rL t n d S = (S, d) := by
  cases d <;> rw [rL, if_pos ho]
theorem rL_nf (t : Nat → Nat) (n d : Nat) (S : zTk) (z : tsf S ≠ 0) : tsf (rL t n d S).1 ≠ 0 := by
  rw [rL_o (Or.inl z)]
  exact z
theorem k_acts_loop {t : Nat → Nat} {n : Nat} : ∀ (d a k : Nat) (S : zTk) (u : zH), a + d = 24 → k ≤ a → cO t n S u → u.length + d + 2 < zX → ∃ (u' : zH) (r : Int32), zGr u u' ∧ u'.length ≤ u.length + d ∧ zsz u' ≤ zsz u + 6 * d ∧ cO t n (rL t n d S).1 u' ∧ (∀ i, i < a → gr u' 7 i = gr u 7 i) ∧ (tsf (rL t n d S).1 = 0 → r = nI (24 - (rL t n d S).2) ∧ ∀ j, j < d - (rL t n d S).2 → zAt t n u' (a + j) (itS t n j S)) ∧ zrun none (121, 14, [.ref 0, .int (nI a), .int (nI k)], [], u) = some (some (.int r), u') := by
  intro d
  induction d with
  | zero =>
    intro a k S u ha hk H hz
    rw [rL]
    by_cases o : ovr S
    · rw [if_pos o]
      exact ⟨u, nI a, ⟨Nat.le_refl _, fun _ _ _ _ => rfl⟩, Nat.le_refl _, Nat.le_refl _, H, fun _ _ => rfl, fun _ => ⟨by rw [show a = 24 by omega]; rfl, fun j hj => by omega⟩, k_acts_over H (by omega) o⟩
    · rw [if_neg o]
      obtain rfl : a = 24 := by omega
      have f0 : tsf S = 0 := Classical.byContradiction (fun z => o (Or.inl z))
      have ov := k_over H
      rw [if_neg o] at ov
      have sw := k_sees d_act H
      have h := H.1
      have i0 := i_5 h
      have q : ¬ (24 : Int32) < nI k := nI_nlt (b := k) (a := 24) (by omega) (by decide)
      by_cases s : (pTv sAct t S).isSome = true
      · rw [if_pos s] at sw
        rw [if_pos s]
        obtain ⟨u1, f1, g1, e1⟩ := k_refuse (c := 3) H (by decide)
        have z1 : tsf (pRef S 3) ≠ 0 := by rw [pRef_f f0]; decide
        refine ⟨u1, nI 24, zGr.fr f1, by rw [f1.len]; exact Nat.le_refl _, by rw [f1.sz]; exact Nat.le_refl _, g1, fun i _ => f1.hgr rfl rfl, fun z => absurd z z1, ?_⟩
        have en := k_acts_over (k := k + 1) (x := nI 24) g1 (by omega) (Or.inl z1)
        rw [e121_14]
        simp (disch := first | exact Nat.le_of_ble_eq_true rfl | exact zct_i _ | exact zct_r _ | exact zct_J | exact zct_n | with_reducible assumption | (with_reducible show (zf _ _ _).isSome = true; exact Sh.some (by repeat first | with_reducible assumption | (with_reducible refine Sh.pf ?_ ?_; rotate_left 1; exact fun _ => by decide +kernel) | (with_reducible refine Sh.as ?_ ?_; rotate_left 1; exact fun _ => by decide +kernel) | (with_reducible refine Sh.asr ?_ ?_; rotate_left 1; exact fun _ => by decide +kernel) | with_reducible refine Sh.push ?_ | (with_reducible refine Sh.pfn ?_ ?_; rotate_left 1; omega) | (with_reducible refine Sh.asn ?_ ?_; rotate_left 1; omega)) (by decide) (by decide +kernel) (by decide +kernel)) | exact rfl | exact zb01 _ | decide | fail) only [e121_15, e121_17, e121_20, e121_21, e121_24, e121_27, e121_30, e121_31, e121_33, e121_36, e121_37, e121_40, e121_43, e121_44, e121_47, e121_50, e121_51, e121_54, e121_55, e121_56, e121_59, e121_60, e121_63, e121_66, e121_69, e121_70, e59_0, e59_1, e59_2, e59_2n, e59_3, e59_6, e59_9, e59_10, e59_13, e59_14, e59_17, zgd_true, zcl_ite, zX, Nat.reduceLT, Option.isSome_some, true_and, and_true, zo_some, zoi_some, zon_some, zcl_some, Option.toList_some, Option.toList_none, List.cons_append, List.nil_append, ite_true, ite_false, ↓reduceIte, z10, eq_self, not_true_eq_false, not_false_eq_true, and_self, or_true, true_or, i_0 h, f_0_1100 h, f_0_1101 h, f_0_1102 h, f_0_1103 h, f_0_1104 h, f_0_1105 h, f_0_1106 h, f_0_1107 h, f_0_1108 h, f_0_1109 h, f_0_1110 h, f_0_1111 h, f_0_1112 h, f_0_1113 h, f_0_1114 h, f_0_1115 h, f_0_1116 h, f_0_1117 h, f_0_1118 h, f_0_1119 h, i0, q, ov, sw, show (nI 24 < 24) = False from eq_false (by decide), show ((1 : Int32) = 0) = False from eq_false (by decide), show zrun none (54, 0, [.ref 5, .int 3], [], u) = _ from e1, nI_1, en]
      · rw [if_neg s] at sw
        rw [if_neg s]
        obtain ⟨u1, f1, g1, e1⟩ := k_refuse (c := 1) H (by decide)
        have z1 : tsf (pRef S 1) ≠ 0 := by rw [pRef_f f0]; decide
        refine ⟨u1, nI 24, zGr.fr f1, by rw [f1.len]; exact Nat.le_refl _, by rw [f1.sz]; exact Nat.le_refl _, g1, fun i _ => f1.hgr rfl rfl, fun z => absurd z z1, ?_⟩
        have en := k_acts_over (k := k + 1) (x := nI 24) g1 (by omega) (Or.inl z1)
        rw [e121_14]
        simp (disch := first | exact Nat.le_of_ble_eq_true rfl | exact zct_i _ | exact zct_r _ | exact zct_J | exact zct_n | with_reducible assumption | (with_reducible show (zf _ _ _).isSome = true; exact Sh.some (by repeat first | with_reducible assumption | (with_reducible refine Sh.pf ?_ ?_; rotate_left 1; exact fun _ => by decide +kernel) | (with_reducible refine Sh.as ?_ ?_; rotate_left 1; exact fun _ => by decide +kernel) | (with_reducible refine Sh.asr ?_ ?_; rotate_left 1; exact fun _ => by decide +kernel) | with_reducible refine Sh.push ?_ | (with_reducible refine Sh.pfn ?_ ?_; rotate_left 1; omega) | (with_reducible refine Sh.asn ?_ ?_; rotate_left 1; omega)) (by decide) (by decide +kernel) (by decide +kernel)) | exact rfl | exact zb01 _ | decide | fail) only [e121_15, e121_17, e121_20, e121_21, e121_24, e121_27, e121_30, e121_31, e121_33, e121_36, e121_37, e121_40, e121_43, e121_44, e121_47, e121_50, e121_51, e121_54, e121_55, e121_56, e121_59, e121_60, e121_63, e121_66, e121_69, e121_70, e59_0, e59_1, e59_2, e59_2n, e59_3, e59_6, e59_9, e59_10, e59_13, e59_14, e59_17, zgd_true, zcl_ite, zX, Nat.reduceLT, Option.isSome_some, true_and, and_true, zo_some, zoi_some, zon_some, zcl_some, Option.toList_some, Option.toList_none, List.cons_append, List.nil_append, ite_true, ite_false, ↓reduceIte, z10, eq_self, not_true_eq_false, not_false_eq_true, and_self, or_true, true_or, i_0 h, f_0_1100 h, f_0_1101 h, f_0_1102 h, f_0_1103 h, f_0_1104 h, f_0_1105 h, f_0_1106 h, f_0_1107 h, f_0_1108 h, f_0_1109 h, f_0_1110 h, f_0_1111 h, f_0_1112 h, f_0_1113 h, f_0_1114 h, f_0_1115 h, f_0_1116 h, f_0_1117 h, f_0_1118 h, f_0_1119 h, i0, q, ov, sw, show (nI 24 < 24) = False from eq_false (by decide), show zrun none (54, 0, [.ref 5, .int 1], [], u) = _ from e1, nI_1, en]
  | succ d ih =>
    intro a k S u ha hk H hz
    rw [rL]
    by_cases o : ovr S
    · rw [if_pos o]
      exact ⟨u, nI a, ⟨Nat.le_refl _, fun _ _ _ _ => rfl⟩, by omega, by omega, H, fun _ _ => rfl, fun _ => ⟨by rw [show 24 - (d + 1) = a by omega], fun j hj => by omega⟩, k_acts_over H (by omega) o⟩
    rw [if_neg o]
    have ov := k_over H
    rw [if_neg o] at ov
    have h := H.1
    have hl := h.len
    have i0 := i_5 h
    have a24 : a < 24 := by omega
    have q : ¬ (24 : Int32) < nI k := nI_nlt (b := k) (a := 24) (by omega) (by decide)
    obtain ⟨u1, f1, g1, x1, y1⟩ := k_readAct H (by omega)
    have h1 := g1.1
    have p0 := i_0 h
    have hl1 := h1.len
    have l7 : zln u1 7 a := L_7 h1 a24
    have s7 : 7 < 65 → (zsh 7).2.2 = [] ∧ 200 ≤ (zsh 7).1 := fun _ => by decide +kernel
    by_cases z : tsf (rG t n S) = 0
    · have y := y1 z
      have hz1 : u1.length < zX := by rw [f1.len]; omega
      generalize hc : (0, [Value.int (vDay t n S), .int (vGrade t n S), .int (vSort t n S), .int (vWork t n S), .int (vOlder t n S), .int (vLeave t n S)]) = c at *
      have hS : Sh (zas (u1 ++ [c]) 7 (nI a) (.ref u1.length)) := Sh.asr h1.push s7
      have g5 : (zas (u1 ++ [c]) 7 (nI a) (.ref u1.length))[5]? = u1[5]? := by rw [zas_get_ne (by decide), List.getElem?_append_left (by omega)]
      have g6 : (zas (u1 ++ [c]) 7 (nI a) (.ref u1.length))[6]? = u1[6]? := by rw [zas_get_ne (by decide), List.getElem?_append_left (by omega)]
      have G := cO_get g1 hS g5 g6
      have L : (zas (u1 ++ [c]) 7 (nI a) (.ref u1.length)).length = u.length + 1 := by rw [zas_len, List.length_append, f1.len]; rfl
      have Z : zsz (zas (u1 ++ [c]) 7 (nI a) (.ref u1.length)) = zsz u + 6 := by rw [zsz_as, zsz_push, f1.sz, ← hc]; rfl
      obtain ⟨u2, r, w1, w2, w3, w4, w5, w6, w7⟩ := ih (a + 1) (k + 1) (rG t n S) _ (by omega) (by omega) G (by rw [L]; omega)
      have aq : zaq (u1 ++ [c]) 7 (nI a) (.ref u1.length) = True := by rw [← hc]; exact zaq_new h1 hz1 (by decide) (by decide +kernel) (Nat.lt_of_lt_of_le a24 (by decide +kernel)) (by omega)
      have l7' : zln (u1 ++ [c]) 7 a := zln_ps l7
      have K : zGr u (zas (u1 ++ [c]) 7 (nI a) (.ref u1.length)) := (zGr.fr f1).trans ⟨by rw [zas_len, List.length_append]; omega, fun b b1 _ b3 => by rw [zas_get_ne (fun e => b3 e.symm), List.getElem?_append_left b1]⟩
      refine ⟨u2, r, K.trans w1, by omega, by omega, w4, fun i hi => ?_, fun f0 => ⟨(w6 f0).1, fun j hj => ?_⟩, ?_⟩
      · rw [w5 i (by omega), gr_asn l7', if_neg (by omega), gr_ps h1 (by decide), f1.hgr rfl rfl]
      · cases j with
        | zero =>
          have le := rL_le t n d (rG t n S)
          refine ⟨u1.length, by omega, ?_, ?_, ?_⟩
          · have := w1.1; rw [L] at this; rw [f1.len]; omega
          · rw [Nat.add_zero, w5 a (by omega), gr_asn l7', if_pos rfl]
          · rw [w1.2 u1.length (by rw [L, f1.len]; omega) (by omega) (by omega), zas_get_ne (by omega), znwc]
            exact congrArg some hc.symm
        | succ j =>
          have := (w6 f0).2 j (by omega)
          rw [show a + 1 + j = a + (j + 1) by omega] at this
          exact this
      · rw [e121_14]
        simp (disch := first | exact Nat.le_of_ble_eq_true rfl | exact zct_i _ | exact zct_r _ | exact zct_J | exact zct_n | with_reducible assumption | (with_reducible show (zf _ _ _).isSome = true; exact Sh.some (by repeat first | with_reducible assumption | (with_reducible refine Sh.pf ?_ ?_; rotate_left 1; exact fun _ => by decide +kernel) | (with_reducible refine Sh.as ?_ ?_; rotate_left 1; exact fun _ => by decide +kernel) | (with_reducible refine Sh.asr ?_ ?_; rotate_left 1; exact fun _ => by decide +kernel) | with_reducible refine Sh.push ?_ | (with_reducible refine Sh.pfn ?_ ?_; rotate_left 1; omega) | (with_reducible refine Sh.asn ?_ ?_; rotate_left 1; omega)) (by decide) (by decide +kernel) (by decide +kernel)) | exact rfl | exact zb01 _ | decide | fail) only [e121_15, e121_17, e121_20, e121_21, e121_24, e121_27, e121_30, e121_31, e121_33, e121_36, e121_37, e121_40, e121_43, e121_44, e121_47, e121_50, e121_51, e121_54, e121_55, e121_56, e121_59, e121_60, e121_63, e121_66, e121_69, e121_70, zgd_true, zcl_ite, zX, Nat.reduceLT, Option.isSome_some, true_and, and_true, zo_some, zoi_some, zon_some, zcl_some, Option.toList_some, Option.toList_none, List.cons_append, List.nil_append, ite_true, ite_false, ↓reduceIte, z10, eq_self, not_true_eq_false, not_false_eq_true, and_self, or_true, true_or, i_0 h, f_0_1100 h, f_0_1101 h, f_0_1102 h, f_0_1103 h, f_0_1104 h, f_0_1105 h, f_0_1106 h, f_0_1107 h, f_0_1108 h, f_0_1109 h, f_0_1110 h, f_0_1111 h, f_0_1112 h, f_0_1113 h, f_0_1114 h, f_0_1115 h, f_0_1116 h, f_0_1117 h, f_0_1118 h, f_0_1119 h, i0, p0, q, ov, Gt_24, Lt_24, Ne_24, y, aq, nI_1, w7]
    · have x := x1 z
      have hS : Sh (zas u1 7 (nI a) .null) := Sh.asN h1 s7
      have G := cO_get g1 hS (zas_get_ne (by decide)) (zas_get_ne (by decide))
      have L : (zas u1 7 (nI a) .null).length = u.length := by rw [zas_len, f1.len]
      have Z : zsz (zas u1 7 (nI a) .null) = zsz u := by rw [zsz_as, f1.sz]
      obtain ⟨u2, r, w1, w2, w3, w4, w5, w6, w7⟩ := ih (a + 1) (k + 1) (rG t n S) _ (by omega) (by omega) G (by rw [L]; omega)
      have aq := zaq_null h1 a24
      have K : zGr u (zas u1 7 (nI a) .null) := (zGr.fr f1).trans ⟨by rw [zas_len]; exact Nat.le_refl _, fun b b1 _ b3 => zas_get_ne (fun e => b3 e.symm)⟩
      have nf := rL_nf t n d (rG t n S) z
      refine ⟨u2, r, K.trans w1, by omega, by omega, w4, fun i hi => ?_, fun f0 => absurd f0 nf, ?_⟩
      · rw [w5 i (by omega), gr_asn l7, if_neg (by omega), f1.hgr rfl rfl]
      · rw [e121_14]
        simp (disch := first | exact Nat.le_of_ble_eq_true rfl | exact zct_i _ | exact zct_r _ | exact zct_J | exact zct_n | with_reducible assumption | (with_reducible show (zf _ _ _).isSome = true; exact Sh.some (by repeat first | with_reducible assumption | (with_reducible refine Sh.pf ?_ ?_; rotate_left 1; exact fun _ => by decide +kernel) | (with_reducible refine Sh.as ?_ ?_; rotate_left 1; exact fun _ => by decide +kernel) | (with_reducible refine Sh.asr ?_ ?_; rotate_left 1; exact fun _ => by decide +kernel) | with_reducible refine Sh.push ?_ | (with_reducible refine Sh.pfn ?_ ?_; rotate_left 1; omega) | (with_reducible refine Sh.asn ?_ ?_; rotate_left 1; omega)) (by decide) (by decide +kernel) (by decide +kernel)) | exact rfl | exact zb01 _ | decide | fail) only [e121_15, e121_17, e121_20, e121_21, e121_24, e121_27, e121_30, e121_31, e121_33, e121_36, e121_37, e121_40, e121_43, e121_44, e121_47, e121_50, e121_51, e121_54, e121_55, e121_56, e121_59, e121_60, e121_63, e121_66, e121_69, e121_70, zgd_true, zcl_ite, zX, Nat.reduceLT, Option.isSome_some, true_and, and_true, zo_some, zoi_some, zon_some, zcl_some, Option.toList_some, Option.toList_none, List.cons_append, List.nil_append, ite_true, ite_false, ↓reduceIte, z10, eq_self, not_true_eq_false, not_false_eq_true, and_self, or_true, true_or, i_0 h, f_0_1100 h, f_0_1101 h, f_0_1102 h, f_0_1103 h, f_0_1104 h, f_0_1105 h, f_0_1106 h, f_0_1107 h, f_0_1108 h, f_0_1109 h, f_0_1110 h, f_0_1111 h, f_0_1112 h, f_0_1113 h, f_0_1114 h, f_0_1115 h, f_0_1116 h, f_0_1117 h, f_0_1118 h, f_0_1119 h, i0, p0, q, ov, Gt_24, Lt_24, Ne_24, x, aq, nI_1, w7]
