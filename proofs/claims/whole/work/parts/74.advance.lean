/-! the tape: a token further -/
theorem zFr.mono {as as' : List Nat} {fs fs' : List (Nat × Nat)} {w w' : zH} (h : zFr as fs w w') (ha : (as.all fun b => as'.contains b) = true) (hf : (fs.all fun b => fs'.contains b) = true) : zFr as' fs' w w' := by
  obtain ⟨h1, h2, h3, h4, h5, h6, h7, h8⟩ := h
  have ka : ∀ b, as'.contains b = false → as.contains b = false := by
    intro b hb
    cases e : as.contains b with
    | false => rfl
    | true =>
      have := List.all_eq_true.mp ha b (by simpa using e)
      rw [hb] at this; cases this
  have kf : ∀ P : Nat × Nat → Bool, fs'.all P = true → fs.all P = true := by
    intro P hP
    rw [List.all_eq_true] at hP ⊢
    intro q hq
    exact hP q (by simpa using List.all_eq_true.mp hf q hq)
  exact ⟨h1, h2, h3, fun b x y => h4 b (ka b x) (kf _ y), fun b m x y z => h5 b m (ka b x) y (kf _ z), h6, h7, h8⟩
def tkS (t : Nat → Nat) (n p : Nat) : Nat := adv qB t (n - p) p
def tkX (t : Nat → Nat) (n p : Nat) : Nat := if n ≤ tkS t n p then tkS t n p else if qL (t (tkS t n p)) = true then adv qL t (n - tkS t n p) (tkS t n p) else if qF (t (tkS t n p)) = true then adv qF t (n - tkS t n p) (tkS t n p) else tkS t n p + 1
def tkK (t : Nat → Nat) (n p : Nat) : Nat := if n ≤ tkS t n p then 0 else if qL (t (tkS t n p)) = true then 1 else if qF (t (tkS t n p)) = true then if tkX t n p - tkS t n p ≤ 5 then 2 else 4 else if t (tkS t n p) = 59 then 3 else 4
theorem tkX_e (t : Nat → Nat) (n p : Nat) : tkX t n p = if n ≤ tkS t n p then tkS t n p else if qL (t (tkS t n p)) = true then adv qL t (n - tkS t n p) (tkS t n p) else if qF (t (tkS t n p)) = true then adv qF t (n - tkS t n p) (tkS t n p) else tkS t n p + 1 := rfl
theorem tkK_e (t : Nat → Nat) (n p : Nat) : tkK t n p = if n ≤ tkS t n p then 0 else if qL (t (tkS t n p)) = true then 1 else if qF (t (tkS t n p)) = true then if tkX t n p - tkS t n p ≤ 5 then 2 else 4 else if t (tkS t n p) = 59 then 3 else 4 := rfl
def km (k : Nat) : Nat := (k + 1) % 5
theorem tkS_le {t : Nat → Nat} {n p : Nat} (h : p ≤ n) : tkS t n p ≤ n := by
  have := adv_le qB t (n - p) p
  unfold tkS; omega
theorem tkX_le {t : Nat → Nat} {n p : Nat} (h : p ≤ n) : tkS t n p ≤ tkX t n p ∧ tkX t n p ≤ n := by
  have hs := tkS_le (t := t) h
  unfold tkX
  split
  · omega
  · split
    · have := adv_le qL t (n - tkS t n p) (tkS t n p); have := adv_ge qL t (n - tkS t n p) (tkS t n p); omega
    · split
      · have := adv_le qF t (n - tkS t n p) (tkS t n p); have := adv_ge qF t (n - tkS t n p) (tkS t n p); omega
      · omega
abbrev fK : List (Nat × Nat) := [(5, 902), (5, 903), (5, 904), (5, 905), (5, 906)]
abbrev fM : List (Nat × Nat) := [(35, 1219), (35, 1224), (35, 1225), (35, 1226), (35, 1227), (35, 1228), (35, 1229)]
theorem k_advance {t : Nat → Nat} {n p : Nat} {u : zH} (h : Sh u) (hT : zTp 6 t n u) (c : gi u 5 901 = nI n) (c4 : gi u 5 904 = nI p) (hp : p ≤ n) : ∃ u' : zH, zFr [] [(5, 902), (5, 903), (5, 904)] u u' ∧ gi u' 5 902 = nI (tkK t n p) ∧ gi u' 5 903 = nI (tkS t n p) ∧ gi u' 5 904 = nI (tkX t n p) ∧ zrun none (51, 0, [.ref 5], [], u) = some (none, u') := by
  have hn := hT.1
  have f1 : zFr [] [(5, 902), (5, 903), (5, 904)] u (zpf u 5 903 (.int (nI p))) := zFr.refl.pf rfl (fun _ => by decide +kernel)
  have h1 := f1.sh h
  obtain ⟨u2, f2, g2, e2⟩ := k_skip (n - p) p (zpf u 5 903 (.int (nI p))) (by omega) h1 (zTp_fr hT f1 rfl rfl) (by rw [f1.hgi rfl (by decide) rfl]; exact c) (gi_pf3 (by decide) (Sh.some h (by decide) (by decide +kernel) (by decide +kernel)))
  have F2 := f1.trans (f2.mono (as' := []) (fs' := [(5, 902), (5, 903), (5, 904)]) rfl rfl)
  have h2 := F2.sh h
  have T2 := zTp_fr hT F2 rfl rfl
  have c2 : gi u2 5 901 = nI n := by rw [F2.hgi rfl (by decide) rfl]; exact c
  have hs := tkS_le (t := t) hp
  have hx := tkX_e t n p
  rw [tkK_e t n p]
  rw [show adv qB t (n - p) p = tkS t n p from rfl] at g2
  generalize tkS t n p = s at *
  have F3 : zFr [] [(5, 902), (5, 903), (5, 904)] u (zpf u2 5 904 (.int (nI s))) := F2.pf rfl (fun _ => by decide +kernel)
  have h3 := F3.sh h
  have T3 := zTp_fr hT F3 rfl rfl
  have c3 : gi (zpf u2 5 904 (.int (nI s))) 5 901 = nI n := by rw [F3.hgi rfl (by decide) rfl]; exact c
  have d3 : gi (zpf u2 5 904 (.int (nI s))) 5 904 = nI s := gi_pf3 (by decide) (Sh.some h2 (by decide) (by decide +kernel) (by decide +kernel))
  have s3 : gi (zpf u2 5 904 (.int (nI s))) 5 903 = nI s := by rw [gi_pf2 (by decide) (by decide)]; exact g2
  by_cases b1 : n ≤ s
  · have q1 : ¬ nI s < nI n := nI_nlt b1 (by omega)
    rw [if_pos b1] at hx
    rw [if_pos b1, hx]
    refine ⟨zpf (zpf u2 5 904 (.int (nI s))) 5 902 (.int 0), F3.pf rfl (fun _ => by decide +kernel), gi_pf3 (by decide) (Sh.some h3 (by decide) (by decide +kernel) (by decide +kernel)), by rw [gi_pf2 (by decide) (by decide)]; exact s3, by rw [gi_pf2 (by decide) (by decide)]; exact d3, ?_⟩
    simp (disch := first | exact Nat.le_of_ble_eq_true rfl | exact zct_i _ | exact zct_r _ | exact zct_J | exact zct_n | with_reducible assumption | (with_reducible show (zf _ _ _).isSome = true; exact Sh.some (by repeat first | with_reducible assumption | (with_reducible refine Sh.pf ?_ ?_; rotate_left 1; exact fun _ => by decide +kernel) | (with_reducible refine Sh.as ?_ ?_; rotate_left 1; exact fun _ => by decide +kernel) | (with_reducible refine Sh.asr ?_ ?_; rotate_left 1; exact fun _ => by decide +kernel) | with_reducible refine Sh.push ?_ | (with_reducible refine Sh.pfn ?_ ?_; rotate_left 1; omega) | (with_reducible refine Sh.asn ?_ ?_; rotate_left 1; omega)) (by decide) (by decide +kernel) (by decide +kernel)) | exact rfl | exact zb01 _ | decide | fail) only [e51_0, e51_1, e51_2, e51_5, e51_58, e51_59, e51_60, e51_63, e51_66, e51_67, e51_70, e51_71, e51_74, e51_77, e51_78, e51_79, e51_82, e51_85, e51_86, e51_87, e51_90, e51_93, e51_96, e51_99, e51_100, e51_103, e51_106, e51_107, e51_108, e51_111, e51_114, e51_117, e51_120, e51_121, e51_124, e51_127, e51_128, e51_129, e51_130, e51_133, e51_136, e51_138, e51_141, e51_142, e51_145, e51_146, e51_149, e51_150, e51_151, e51_154, e51_155, e51_156, e51_159, zgd_true, zcl_ite, zX, Nat.reduceLT, Option.isSome_some, true_and, and_true, zo_some, zoi_some, zon_some, zcl_some, Option.toList_some, Option.toList_none, List.cons_append, List.nil_append, ite_true, ite_false, ↓reduceIte, z10, eq_self, not_true_eq_false, not_false_eq_true, and_self, or_true, true_or, i_5 h, f_5_900 h, f_5_901 h, f_5_902 h, f_5_903 h, f_5_904 h, f_5_905 h, f_5_906 h, c4, e2, i_5 h2, f_5_900 h2, f_5_901 h2, f_5_902 h2, f_5_903 h2, f_5_904 h2, f_5_905 h2, f_5_906 h2, c2, g2, zf_pf1, zf_pf2, zf_pf3, zf_as1, zsm_pf, zsm_as, zis_pf, zis_as1, zin_pf, zin_as, zai_pf1, zai_as1, zaa_pf1, zaa_as1, gi_pf1, gi_pf2, gi_pf3, gi_as1, ga_pf1, ga_as1, gr_pf1, gr_as1, zpf_len, zas_len, q1]
  have sn : s < n := by omega
  have q1 : nI s < nI n := nI_lt sn (by omega)
  have hc := (T3.2 s sn).1
  have bt := k_byteAt h3 T3 c3 sn
  have bl := k_isLetter hc (zpf u2 5 904 (.int (nI s)))
  have bf := k_isFigure hc (zpf u2 5 904 (.int (nI s)))
  rw [if_neg b1] at hx ⊢
  by_cases b2 : qL (t s) = true
  · rw [if_pos b2] at hx ⊢
    have F4 : zFr [] [(5, 902), (5, 903), (5, 904)] u (zpf (zpf u2 5 904 (.int (nI s))) 5 902 (.int 1)) := F3.pf rfl (fun _ => by decide +kernel)
    obtain ⟨u5, f5, g5, e5⟩ := k_scanName (t := t) (n := n) (n - s) s (zpf (zpf u2 5 904 (.int (nI s))) 5 902 (.int 1)) (by omega) (F4.sh h) (zTp_fr hT F4 rfl rfl) (by rw [F4.hgi rfl (by decide) rfl]; exact c) (by rw [gi_pf2 (by decide) (by decide)]; exact d3)
    rw [hx]
    refine ⟨u5, F4.trans (f5.mono rfl rfl), ?_, ?_, g5, ?_⟩
    · rw [f5.hgi rfl (by decide) rfl]
      exact gi_pf3 (by decide) (Sh.some h3 (by decide) (by decide +kernel) (by decide +kernel))
    · rw [f5.hgi rfl (by decide) rfl, gi_pf2 (by decide) (by decide)]; exact s3
    · simp (disch := first | exact Nat.le_of_ble_eq_true rfl | exact zct_i _ | exact zct_r _ | exact zct_J | exact zct_n | with_reducible assumption | (with_reducible show (zf _ _ _).isSome = true; exact Sh.some (by repeat first | with_reducible assumption | (with_reducible refine Sh.pf ?_ ?_; rotate_left 1; exact fun _ => by decide +kernel) | (with_reducible refine Sh.as ?_ ?_; rotate_left 1; exact fun _ => by decide +kernel) | (with_reducible refine Sh.asr ?_ ?_; rotate_left 1; exact fun _ => by decide +kernel) | with_reducible refine Sh.push ?_ | (with_reducible refine Sh.pfn ?_ ?_; rotate_left 1; omega) | (with_reducible refine Sh.asn ?_ ?_; rotate_left 1; omega)) (by decide) (by decide +kernel) (by decide +kernel)) | exact rfl | exact zb01 _ | decide | fail) only [e51_0, e51_1, e51_2, e51_5, e51_58, e51_59, e51_60, e51_63, e51_66, e51_67, e51_70, e51_71, e51_74, e51_77, e51_78, e51_79, e51_82, e51_85, e51_86, e51_87, e51_90, e51_93, e51_96, e51_99, e51_100, e51_103, e51_106, e51_107, e51_108, e51_111, e51_114, e51_117, e51_120, e51_121, e51_124, e51_127, e51_128, e51_129, e51_130, e51_133, e51_136, e51_138, e51_141, e51_142, e51_145, e51_146, e51_149, e51_150, e51_151, e51_154, e51_155, e51_156, e51_159, e52_0, e52_1, e52_2, zgd_true, zcl_ite, zX, Nat.reduceLT, Option.isSome_some, true_and, and_true, zo_some, zoi_some, zon_some, zcl_some, Option.toList_some, Option.toList_none, List.cons_append, List.nil_append, ite_true, ite_false, ↓reduceIte, z10, eq_self, not_true_eq_false, not_false_eq_true, and_self, or_true, true_or, i_5 h, f_5_900 h, f_5_901 h, f_5_902 h, f_5_903 h, f_5_904 h, f_5_905 h, f_5_906 h, c4, e2, i_5 h2, f_5_900 h2, f_5_901 h2, f_5_902 h2, f_5_903 h2, f_5_904 h2, f_5_905 h2, f_5_906 h2, c2, g2, zf_pf1, zf_pf2, zf_pf3, zf_as1, zsm_pf, zsm_as, zis_pf, zis_as1, zin_pf, zin_as, zai_pf1, zai_as1, zaa_pf1, zaa_as1, gi_pf1, gi_pf2, gi_pf3, gi_as1, ga_pf1, ga_as1, gr_pf1, gr_as1, zpf_len, zas_len, q1, bt, bl, b2, e5]
  rw [if_neg b2] at hx ⊢
  by_cases b3 : qF (t s) = true
  · rw [if_pos b3] at hx ⊢
    obtain ⟨u5, f5, g5, e5⟩ := k_scanNum (t := t) (n := n) (n - s) s (zpf u2 5 904 (.int (nI s))) (by omega) h3 T3 c3 d3
    have F5 : zFr [] [(5, 902), (5, 903), (5, 904)] u u5 := F3.trans (f5.mono rfl rfl)
    have h5 := F5.sh h
    have xl := adv_le qF t (n - s) s
    have xg := adv_ge qF t (n - s) s
    have s5 : gi u5 5 903 = nI s := by rw [f5.hgi rfl (by decide) rfl]; exact s3
    rw [← hx] at g5 xl xg
    have es : nI (tkX t n p) - nI s = nI (tkX t n p - s) := pk_sub xg
    by_cases b4 : tkX t n p - s ≤ 5
    · rw [if_pos b4]
      have q4 : ¬ (5 : Int32) < nI (tkX t n p - s) := (fun z => absurd (Int32.lt_iff_toInt_lt.mp z) (by rw [nI_toInt (by omega)]; show ¬ (5 : Int) < _; omega))-- (by decide)
      refine ⟨zpf u5 5 902 (.int 2), F5.pf rfl (fun _ => by decide +kernel), gi_pf3 (by decide) (Sh.some h5 (by decide) (by decide +kernel) (by decide +kernel)), by rw [gi_pf2 (by decide) (by decide)]; exact s5, by rw [gi_pf2 (by decide) (by decide)]; exact g5, ?_⟩
      simp (disch := first | exact Nat.le_of_ble_eq_true rfl | exact zct_i _ | exact zct_r _ | exact zct_J | exact zct_n | with_reducible assumption | (with_reducible show (zf _ _ _).isSome = true; exact Sh.some (by repeat first | with_reducible assumption | (with_reducible refine Sh.pf ?_ ?_; rotate_left 1; exact fun _ => by decide +kernel) | (with_reducible refine Sh.as ?_ ?_; rotate_left 1; exact fun _ => by decide +kernel) | (with_reducible refine Sh.asr ?_ ?_; rotate_left 1; exact fun _ => by decide +kernel) | with_reducible refine Sh.push ?_ | (with_reducible refine Sh.pfn ?_ ?_; rotate_left 1; omega) | (with_reducible refine Sh.asn ?_ ?_; rotate_left 1; omega)) (by decide) (by decide +kernel) (by decide +kernel)) | exact rfl | exact zb01 _ | decide | fail) only [e51_0, e51_1, e51_2, e51_5, e51_58, e51_59, e51_60, e51_63, e51_66, e51_67, e51_70, e51_71, e51_74, e51_77, e51_78, e51_79, e51_82, e51_85, e51_86, e51_87, e51_90, e51_93, e51_96, e51_99, e51_100, e51_103, e51_106, e51_107, e51_108, e51_111, e51_114, e51_117, e51_120, e51_121, e51_124, e51_127, e51_128, e51_129, e51_130, e51_133, e51_136, e51_138, e51_141, e51_142, e51_145, e51_146, e51_149, e51_150, e51_151, e51_154, e51_155, e51_156, e51_159, e53_38, e53_39, e53_40, e53_43, e53_44, e53_47, e53_48, e53_49, e53_52, e53_53, e53_56, e53_57, e53_60, zgd_true, zcl_ite, zX, Nat.reduceLT, Option.isSome_some, true_and, and_true, zo_some, zoi_some, zon_some, zcl_some, Option.toList_some, Option.toList_none, List.cons_append, List.nil_append, ite_true, ite_false, ↓reduceIte, z10, eq_self, not_true_eq_false, not_false_eq_true, and_self, or_true, true_or, i_5 h, f_5_900 h, f_5_901 h, f_5_902 h, f_5_903 h, f_5_904 h, f_5_905 h, f_5_906 h, c4, e2, i_5 h2, f_5_900 h2, f_5_901 h2, f_5_902 h2, f_5_903 h2, f_5_904 h2, f_5_905 h2, f_5_906 h2, i_5 h5, f_5_900 h5, f_5_901 h5, f_5_902 h5, f_5_903 h5, f_5_904 h5, f_5_905 h5, f_5_906 h5, c2, g2, zf_pf1, zf_pf2, zf_pf3, zf_as1, zsm_pf, zsm_as, zis_pf, zis_as1, zin_pf, zin_as, zai_pf1, zai_as1, zaa_pf1, zaa_as1, gi_pf1, gi_pf2, gi_pf3, gi_as1, ga_pf1, ga_as1, gr_pf1, gr_as1, zpf_len, zas_len, q1, bt, bl, bf, b2, b3, Bool.false_eq_true, e5, g5, s5, es, q4]
    · rw [if_neg b4]
      have q4 : (5 : Int32) < nI (tkX t n p - s) := nI_lt (a := 5) (by omega) (by omega)
      refine ⟨zpf u5 5 902 (.int 4), F5.pf rfl (fun _ => by decide +kernel), gi_pf3 (by decide) (Sh.some h5 (by decide) (by decide +kernel) (by decide +kernel)), by rw [gi_pf2 (by decide) (by decide)]; exact s5, by rw [gi_pf2 (by decide) (by decide)]; exact g5, ?_⟩
      simp (disch := first | exact Nat.le_of_ble_eq_true rfl | exact zct_i _ | exact zct_r _ | exact zct_J | exact zct_n | with_reducible assumption | (with_reducible show (zf _ _ _).isSome = true; exact Sh.some (by repeat first | with_reducible assumption | (with_reducible refine Sh.pf ?_ ?_; rotate_left 1; exact fun _ => by decide +kernel) | (with_reducible refine Sh.as ?_ ?_; rotate_left 1; exact fun _ => by decide +kernel) | (with_reducible refine Sh.asr ?_ ?_; rotate_left 1; exact fun _ => by decide +kernel) | with_reducible refine Sh.push ?_ | (with_reducible refine Sh.pfn ?_ ?_; rotate_left 1; omega) | (with_reducible refine Sh.asn ?_ ?_; rotate_left 1; omega)) (by decide) (by decide +kernel) (by decide +kernel)) | exact rfl | exact zb01 _ | decide | fail) only [e51_0, e51_1, e51_2, e51_5, e51_58, e51_59, e51_60, e51_63, e51_66, e51_67, e51_70, e51_71, e51_74, e51_77, e51_78, e51_79, e51_82, e51_85, e51_86, e51_87, e51_90, e51_93, e51_96, e51_99, e51_100, e51_103, e51_106, e51_107, e51_108, e51_111, e51_114, e51_117, e51_120, e51_121, e51_124, e51_127, e51_128, e51_129, e51_130, e51_133, e51_136, e51_138, e51_141, e51_142, e51_145, e51_146, e51_149, e51_150, e51_151, e51_154, e51_155, e51_156, e51_159, e53_38, e53_39, e53_40, e53_43, e53_44, e53_47, e53_48, e53_49, e53_52, e53_53, e53_56, e53_57, e53_60, zgd_true, zcl_ite, zX, Nat.reduceLT, Option.isSome_some, true_and, and_true, zo_some, zoi_some, zon_some, zcl_some, Option.toList_some, Option.toList_none, List.cons_append, List.nil_append, ite_true, ite_false, ↓reduceIte, z10, eq_self, not_true_eq_false, not_false_eq_true, and_self, or_true, true_or, i_5 h, f_5_900 h, f_5_901 h, f_5_902 h, f_5_903 h, f_5_904 h, f_5_905 h, f_5_906 h, c4, e2, i_5 h2, f_5_900 h2, f_5_901 h2, f_5_902 h2, f_5_903 h2, f_5_904 h2, f_5_905 h2, f_5_906 h2, i_5 h5, f_5_900 h5, f_5_901 h5, f_5_902 h5, f_5_903 h5, f_5_904 h5, f_5_905 h5, f_5_906 h5, c2, g2, zf_pf1, zf_pf2, zf_pf3, zf_as1, zsm_pf, zsm_as, zis_pf, zis_as1, zin_pf, zin_as, zai_pf1, zai_as1, zaa_pf1, zaa_as1, gi_pf1, gi_pf2, gi_pf3, gi_as1, ga_pf1, ga_as1, gr_pf1, gr_as1, zpf_len, zas_len, q1, bt, bl, bf, b2, b3, Bool.false_eq_true, e5, g5, s5, es, q4]
  rw [if_neg b3] at hx ⊢
  rw [hx]
  by_cases b4 : t s = 59
  · rw [if_pos b4]
    have F4 : zFr [] [(5, 902), (5, 903), (5, 904)] u (zpf (zpf u2 5 904 (.int (nI s))) 5 902 (.int 3)) := F3.pf rfl (fun _ => by decide +kernel)
    have h4 := F4.sh h
    refine ⟨zpf (zpf (zpf u2 5 904 (.int (nI s))) 5 902 (.int 3)) 5 904 (.int (nI (s + 1))), F4.pf rfl (fun _ => by decide +kernel), ?_, ?_, gi_pf3 (by decide) (Sh.some h4 (by decide) (by decide +kernel) (by decide +kernel)), ?_⟩
    · rw [gi_pf2 (by decide) (by decide)]
      exact gi_pf3 (by decide) (Sh.some h3 (by decide) (by decide +kernel) (by decide +kernel))
    · rw [gi_pf2 (by decide) (by decide), gi_pf2 (by decide) (by decide)]; exact s3
    · simp (disch := first | exact Nat.le_of_ble_eq_true rfl | exact zct_i _ | exact zct_r _ | exact zct_J | exact zct_n | with_reducible assumption | (with_reducible show (zf _ _ _).isSome = true; exact Sh.some (by repeat first | with_reducible assumption | (with_reducible refine Sh.pf ?_ ?_; rotate_left 1; exact fun _ => by decide +kernel) | (with_reducible refine Sh.as ?_ ?_; rotate_left 1; exact fun _ => by decide +kernel) | (with_reducible refine Sh.asr ?_ ?_; rotate_left 1; exact fun _ => by decide +kernel) | with_reducible refine Sh.push ?_ | (with_reducible refine Sh.pfn ?_ ?_; rotate_left 1; omega) | (with_reducible refine Sh.asn ?_ ?_; rotate_left 1; omega)) (by decide) (by decide +kernel) (by decide +kernel)) | exact rfl | exact zb01 _ | decide | fail) only [e51_0, e51_1, e51_2, e51_5, e51_58, e51_59, e51_60, e51_63, e51_66, e51_67, e51_70, e51_71, e51_74, e51_77, e51_78, e51_79, e51_82, e51_85, e51_86, e51_87, e51_90, e51_93, e51_96, e51_99, e51_100, e51_103, e51_106, e51_107, e51_108, e51_111, e51_114, e51_117, e51_120, e51_121, e51_124, e51_127, e51_128, e51_129, e51_130, e51_133, e51_136, e51_138, e51_141, e51_142, e51_145, e51_146, e51_149, e51_150, e51_151, e51_154, e51_155, e51_156, e51_159, zgd_true, zcl_ite, zX, Nat.reduceLT, Option.isSome_some, true_and, and_true, zo_some, zoi_some, zon_some, zcl_some, Option.toList_some, Option.toList_none, List.cons_append, List.nil_append, ite_true, ite_false, ↓reduceIte, z10, eq_self, not_true_eq_false, not_false_eq_true, and_self, or_true, true_or, i_5 h, f_5_900 h, f_5_901 h, f_5_902 h, f_5_903 h, f_5_904 h, f_5_905 h, f_5_906 h, c4, e2, i_5 h2, f_5_900 h2, f_5_901 h2, f_5_902 h2, f_5_903 h2, f_5_904 h2, f_5_905 h2, f_5_906 h2, c2, g2, zf_pf1, zf_pf2, zf_pf3, zf_as1, zsm_pf, zsm_as, zis_pf, zis_as1, zin_pf, zin_as, zai_pf1, zai_as1, zaa_pf1, zaa_as1, gi_pf1, gi_pf2, gi_pf3, gi_as1, ga_pf1, ga_as1, gr_pf1, gr_as1, zpf_len, zas_len, q1, bt, bl, bf, b2, b3, Bool.false_eq_true, b59 hc, eq_true b4, nI_1]
  · rw [if_neg b4]
    have F4 : zFr [] [(5, 902), (5, 903), (5, 904)] u (zpf (zpf u2 5 904 (.int (nI s))) 5 902 (.int 4)) := F3.pf rfl (fun _ => by decide +kernel)
    have h4 := F4.sh h
    refine ⟨zpf (zpf (zpf u2 5 904 (.int (nI s))) 5 902 (.int 4)) 5 904 (.int (nI (s + 1))), F4.pf rfl (fun _ => by decide +kernel), ?_, ?_, gi_pf3 (by decide) (Sh.some h4 (by decide) (by decide +kernel) (by decide +kernel)), ?_⟩
    · rw [gi_pf2 (by decide) (by decide)]
      exact gi_pf3 (by decide) (Sh.some h3 (by decide) (by decide +kernel) (by decide +kernel))
    · rw [gi_pf2 (by decide) (by decide), gi_pf2 (by decide) (by decide)]; exact s3
    · simp (disch := first | exact Nat.le_of_ble_eq_true rfl | exact zct_i _ | exact zct_r _ | exact zct_J | exact zct_n | with_reducible assumption | (with_reducible show (zf _ _ _).isSome = true; exact Sh.some (by repeat first | with_reducible assumption | (with_reducible refine Sh.pf ?_ ?_; rotate_left 1; exact fun _ => by decide +kernel) | (with_reducible refine Sh.as ?_ ?_; rotate_left 1; exact fun _ => by decide +kernel) | (with_reducible refine Sh.asr ?_ ?_; rotate_left 1; exact fun _ => by decide +kernel) | with_reducible refine Sh.push ?_ | (with_reducible refine Sh.pfn ?_ ?_; rotate_left 1; omega) | (with_reducible refine Sh.asn ?_ ?_; rotate_left 1; omega)) (by decide) (by decide +kernel) (by decide +kernel)) | exact rfl | exact zb01 _ | decide | fail) only [e51_0, e51_1, e51_2, e51_5, e51_58, e51_59, e51_60, e51_63, e51_66, e51_67, e51_70, e51_71, e51_74, e51_77, e51_78, e51_79, e51_82, e51_85, e51_86, e51_87, e51_90, e51_93, e51_96, e51_99, e51_100, e51_103, e51_106, e51_107, e51_108, e51_111, e51_114, e51_117, e51_120, e51_121, e51_124, e51_127, e51_128, e51_129, e51_130, e51_133, e51_136, e51_138, e51_141, e51_142, e51_145, e51_146, e51_149, e51_150, e51_151, e51_154, e51_155, e51_156, e51_159, zgd_true, zcl_ite, zX, Nat.reduceLT, Option.isSome_some, true_and, and_true, zo_some, zoi_some, zon_some, zcl_some, Option.toList_some, Option.toList_none, List.cons_append, List.nil_append, ite_true, ite_false, ↓reduceIte, z10, eq_self, not_true_eq_false, not_false_eq_true, and_self, or_true, true_or, i_5 h, f_5_900 h, f_5_901 h, f_5_902 h, f_5_903 h, f_5_904 h, f_5_905 h, f_5_906 h, c4, e2, i_5 h2, f_5_900 h2, f_5_901 h2, f_5_902 h2, f_5_903 h2, f_5_904 h2, f_5_905 h2, f_5_906 h2, c2, g2, zf_pf1, zf_pf2, zf_pf3, zf_as1, zsm_pf, zsm_as, zis_pf, zis_as1, zin_pf, zin_as, zai_pf1, zai_as1, zaa_pf1, zaa_as1, gi_pf1, gi_pf2, gi_pf3, gi_as1, ga_pf1, ga_as1, gr_pf1, gr_as1, zpf_len, zas_len, q1, bt, bl, bf, b2, b3, Bool.false_eq_true, b59 hc, eq_false b4, nI_1]
