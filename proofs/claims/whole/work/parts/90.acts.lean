/-! the call acts -/
theorem o_acts {w : zH} (hI : Inv w) (hw : w.length + 100 < zX) : oK_acts w := by
  have h := hI.1
  have hl := h.len
  have p0 := i_5 h
  have p35 := i_35 h
  obtain ⟨n, hn, c1, c2, hT⟩ := hI.2.2.2.2.2.2.2.1
  obtain ⟨a, ha, a1, a2, hA⟩ := hI.2.2.2.2.2.1
  have hIF := hI.2.2.2.2.2.2.1
  have hB : ∃ t : Nat → Nat, zTp 6 t n w ∧ zTp 48 t n w := by
    refine ⟨fun i => (ga w 48 i).toNatClampNeg, ⟨hn, fun i hi => ?_⟩, ⟨hn, fun i hi => ?_⟩⟩
    all_goals
      obtain ⟨t1, t2, t3⟩ := hT i hi
      obtain ⟨j, hj, ej⟩ := nI_of2 (n := 255) (M := 255) (by decide) (Int32.not_lt.mpr t2) t3
      dsimp only
    · rw [t1, ej, nI_clamp (by omega)]; exact ⟨by omega, rfl⟩
    · rw [ej, nI_clamp (by omega)]; exact ⟨by omega, rfl⟩
  obtain ⟨t, T6, T48⟩ := hB
  obtain ⟨u1, f1, g1, e1⟩ := k_begin5 h T6 c1
  obtain ⟨u2, r, k1, k2, k3, k4, k5, k6, k7⟩ := k_acts_loop (24 - a) a 0 (pAdv t n S00) u1 (by omega) (by omega) g1 (by rw [f1.len]; omega)
  have K := (zGr.fr f1).trans k1
  have h2 := k4.1
  have cf := k4.2.2.1.2.2.2.2.1
  have cp := k4.2.2.1.2.2.2.2.2
  have hk := k4.2.2.2.2.2.2.1
  have F3 : zFr [] [(5, 901)] u2 (zpf u2 5 901 (.int 0)) := zFr.refl.pf rfl (fun _ => by decide +kernel)
  have h3 := F3.sh h2
  have rd : zrun none (121, 0, [.ref 0, zJ, zJ], [], w) = some (some (.int r), u2) := by
    have h1 := g1.1
    rw [nI_0] at k7
    simp (disch := first | exact Nat.le_of_ble_eq_true rfl | exact zct_i _ | exact zct_r _ | exact zct_J | exact zct_n | with_reducible assumption | (with_reducible show (zf _ _ _).isSome = true; exact Sh.some (by repeat first | with_reducible assumption | (with_reducible refine Sh.pf ?_ ?_; rotate_left 1; exact fun _ => by decide +kernel) | (with_reducible refine Sh.as ?_ ?_; rotate_left 1; exact fun _ => by decide +kernel) | (with_reducible refine Sh.asr ?_ ?_; rotate_left 1; exact fun _ => by decide +kernel) | with_reducible refine Sh.push ?_ | (with_reducible refine Sh.pfn ?_ ?_; rotate_left 1; omega) | (with_reducible refine Sh.asn ?_ ?_; rotate_left 1; omega)) (by decide) (by decide +kernel) (by decide +kernel)) | exact rfl | exact zb01 _ | decide | fail) only [e121_0, e121_1, e121_4, e121_5, e121_6, e121_9, e121_12, e121_13, zgd_true, zcl_ite, zX, Nat.reduceLT, Option.isSome_some, true_and, and_true, zo_some, zoi_some, zon_some, zcl_some, Option.toList_some, Option.toList_none, List.cons_append, List.nil_append, ite_true, ite_false, ↓reduceIte, z10, eq_self, not_true_eq_false, not_false_eq_true, and_self, or_true, true_or, i_0 h, f_0_1100 h, f_0_1101 h, f_0_1102 h, f_0_1103 h, f_0_1104 h, f_0_1105 h, f_0_1106 h, f_0_1107 h, f_0_1108 h, f_0_1109 h, f_0_1110 h, f_0_1111 h, f_0_1112 h, f_0_1113 h, f_0_1114 h, f_0_1115 h, f_0_1116 h, f_0_1117 h, f_0_1118 h, f_0_1119 h, p0, a1, e1, k7]
  refine zTwo_op ?_
  sorry
