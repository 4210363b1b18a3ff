/-! the reader of the program: its steps -/
theorem nI3 {f : Nat} (h : f ≤ 3) (h0 : f ≠ 0) : (nI f = 0) = False ∧ (nI f ≤ 0) = False := ⟨eq_false (nI_ne0 (by omega) (by omega)), eq_false (nI_nle (by omega) (by omega))⟩
/-- all that holds of the program's tape -/
def cO (t : Nat → Nat) (n : Nat) (S : zTk) (u : zH) : Prop := Sh u ∧ zTp 6 t n u ∧ tC n S u ∧ zOk t n S
theorem k_adv {t : Nat → Nat} {n : Nat} {S : zTk} {u : zH} (H : cO t n S u) : ∃ u' : zH, zFr [] fK u u' ∧ cO t n (pAdv t n S) u' ∧ zrun none (51, 0, [.ref 5], [], u) = some (none, u') := by
  obtain ⟨h, hT, ⟨c1, c2, c3, c4, c5, c6⟩, hk⟩ := H
  obtain ⟨u', f, g2, g3, g4, e⟩ := k_advance h hT c1 c4 hk.2.2.1
  refine ⟨u', f.mono rfl rfl, ⟨f.sh h, zTp_fr hT f rfl rfl, ⟨?_, g2, g3, g4, ?_, fun q => ?_⟩, zOk_adv hk⟩, e⟩
  · rw [f.hgi rfl (by decide) rfl]; exact c1
  · rw [f.hgi rfl (by decide) rfl]; exact c5
  · rw [f.hgi rfl (by decide) rfl]; exact c6 q
theorem k_refuse {t : Nat → Nat} {n c : Nat} {S : zTk} {u : zH} (H : cO t n S u) (hc : c ≤ 3) : ∃ u' : zH, zFr [] fK u u' ∧ cO t n (pRef S c) u' ∧ zrun none (54, 0, [.ref 5, .int (nI c)], [], u) = some (none, u') := by
  obtain ⟨h, hT, ⟨c1, c2, c3, c4, c5, c6⟩, hk⟩ := H
  have hk' := zOk_ref hk hc
  by_cases f0 : tsf S = 0
  · have f1 : zFr [] fK u (zpf u 5 905 (.int (nI c))) := zFr.refl.pf rfl (fun _ => by decide +kernel)
    have h1 := f1.sh h
    have f2 : zFr [] fK u (zpf (zpf u 5 905 (.int (nI c))) 5 906 (.int (nI (tss S)))) := f1.pf rfl (fun _ => by decide +kernel)
    have ep : pRef S c = (tsk S, tss S, tsx S, c, tss S) := by unfold pRef; rw [if_pos f0]
    rw [f0] at c5
    rw [ep] at hk' ⊢
    refine ⟨_, f2, ⟨f2.sh h, zTp_fr hT f2 rfl rfl, ⟨?_, ?_, ?_, ?_, ?_, fun _ => gi_pf3 (by decide) (Sh.some h1 (by decide) (by decide +kernel) (by decide +kernel))⟩, hk'⟩, ?_⟩
    · rw [gi_pf2 (by decide) (by decide), gi_pf2 (by decide) (by decide)]; exact c1
    · rw [gi_pf2 (by decide) (by decide), gi_pf2 (by decide) (by decide)]; exact c2
    · rw [gi_pf2 (by decide) (by decide), gi_pf2 (by decide) (by decide)]; exact c3
    · rw [gi_pf2 (by decide) (by decide), gi_pf2 (by decide) (by decide)]; exact c4
    · rw [gi_pf2 (by decide) (by decide)]
      exact gi_pf3 (by decide) (Sh.some h (by decide) (by decide +kernel) (by decide +kernel))
    · simp (disch := first | exact Nat.le_of_ble_eq_true rfl | exact zct_i _ | exact zct_r _ | exact zct_J | exact zct_n | with_reducible assumption | (with_reducible show (zf _ _ _).isSome = true; exact Sh.some (by repeat first | with_reducible assumption | (with_reducible refine Sh.pf ?_ ?_; rotate_left 1; exact fun _ => by decide +kernel) | (with_reducible refine Sh.as ?_ ?_; rotate_left 1; exact fun _ => by decide +kernel) | (with_reducible refine Sh.asr ?_ ?_; rotate_left 1; exact fun _ => by decide +kernel) | with_reducible refine Sh.push ?_ | (with_reducible refine Sh.pfn ?_ ?_; rotate_left 1; omega) | (with_reducible refine Sh.asn ?_ ?_; rotate_left 1; omega)) (by decide) (by decide +kernel) (by decide +kernel)) | exact rfl | exact zb01 _ | decide | fail) only [e54_0, e54_1, e54_4, e54_7, e54_8, e54_9, e54_12, e54_13, e54_14, e54_17, e54_20, zgd_true, zcl_ite, zX, Nat.reduceLT, Option.isSome_some, true_and, and_true, zo_some, zoi_some, zon_some, zcl_some, Option.toList_some, Option.toList_none, List.cons_append, List.nil_append, ite_true, ite_false, ↓reduceIte, z10, eq_self, not_true_eq_false, not_false_eq_true, and_self, or_true, true_or, i_5 h, f_5_900 h, f_5_901 h, f_5_902 h, f_5_903 h, f_5_904 h, f_5_905 h, f_5_906 h, zf_pf1, zf_pf2, zf_pf3, zf_as1, zsm_pf, zsm_as, zis_pf, zis_as1, zin_pf, zin_as, zai_pf1, zai_as1, zaa_pf1, zaa_as1, gi_pf1, gi_pf2, gi_pf3, gi_as1, ga_pf1, ga_as1, gr_pf1, gr_as1, zpf_len, zas_len, c3, c5, nI_0]
  · have ep : pRef S c = S := by unfold pRef; rw [if_neg f0]
    rw [ep]
    refine ⟨u, zFr.refl, ⟨h, hT, ⟨c1, c2, c3, c4, c5, c6⟩, hk⟩, ?_⟩
    simp (disch := first | exact Nat.le_of_ble_eq_true rfl | exact zct_i _ | exact zct_r _ | exact zct_J | exact zct_n | with_reducible assumption | (with_reducible show (zf _ _ _).isSome = true; exact Sh.some (by repeat first | with_reducible assumption | (with_reducible refine Sh.pf ?_ ?_; rotate_left 1; exact fun _ => by decide +kernel) | (with_reducible refine Sh.as ?_ ?_; rotate_left 1; exact fun _ => by decide +kernel) | (with_reducible refine Sh.asr ?_ ?_; rotate_left 1; exact fun _ => by decide +kernel) | with_reducible refine Sh.push ?_ | (with_reducible refine Sh.pfn ?_ ?_; rotate_left 1; omega) | (with_reducible refine Sh.asn ?_ ?_; rotate_left 1; omega)) (by decide) (by decide +kernel) (by decide +kernel)) | exact rfl | exact zb01 _ | decide | fail) only [e54_0, e54_1, e54_4, e54_7, e54_8, e54_9, e54_12, e54_13, e54_14, e54_17, e54_20, zgd_true, zcl_ite, zX, Nat.reduceLT, Option.isSome_some, true_and, and_true, zo_some, zoi_some, zon_some, zcl_some, Option.toList_some, Option.toList_none, List.cons_append, List.nil_append, ite_true, ite_false, ↓reduceIte, z10, eq_self, not_true_eq_false, not_false_eq_true, and_self, or_true, true_or, i_5 h, f_5_900 h, f_5_901 h, f_5_902 h, f_5_903 h, f_5_904 h, f_5_905 h, f_5_906 h, c5, (nI3 hk.2.2.2.1 f0).1]
theorem k_place {t : Nat → Nat} {n r : Nat} {W : List Nat} {S : zTk} {u : zH} (hW : zWd r W) (H : cO t n S u) : zrun none (55, 0, [.ref 5, .ref r, zJ, zJ, zJ], [], u) = some (some (.int (zen (plc W t S))), u) := by
  obtain ⟨h, hT, ⟨c1, c2, c3, c4, c5, c6⟩, hk⟩ := H
  have lo := k_pla_loop hW h hT c1 c3 c4 hk.2.1 hk.2.2.1 W.length 0 0 0 (by omega) (by omega)
  unfold plc
  by_cases k1 : tsk S = 1
  · rw [if_pos k1]
    rw [k1] at c2
    rw [nI_0] at lo
    simp (disch := first | exact Nat.le_of_ble_eq_true rfl | exact zct_i _ | exact zct_r _ | exact zct_J | exact zct_n | with_reducible assumption | (with_reducible show (zf _ _ _).isSome = true; exact Sh.some (by repeat first | with_reducible assumption | (with_reducible refine Sh.pf ?_ ?_; rotate_left 1; exact fun _ => by decide +kernel) | (with_reducible refine Sh.as ?_ ?_; rotate_left 1; exact fun _ => by decide +kernel) | (with_reducible refine Sh.asr ?_ ?_; rotate_left 1; exact fun _ => by decide +kernel) | with_reducible refine Sh.push ?_ | (with_reducible refine Sh.pfn ?_ ?_; rotate_left 1; omega) | (with_reducible refine Sh.asn ?_ ?_; rotate_left 1; omega)) (by decide) (by decide +kernel) (by decide +kernel)) | exact rfl | exact zb01 _ | decide | fail) only [e55_0, e55_1, e55_4, e55_5, e55_8, e55_10, e55_11, e55_12, e55_13, e55_14, e55_15, e55_16, zgd_true, zcl_ite, zX, Nat.reduceLT, Option.isSome_some, true_and, and_true, zo_some, zoi_some, zon_some, zcl_some, Option.toList_some, Option.toList_none, List.cons_append, List.nil_append, ite_true, ite_false, ↓reduceIte, z10, eq_self, not_true_eq_false, not_false_eq_true, and_self, or_true, true_or, i_5 h, f_5_900 h, f_5_901 h, f_5_902 h, f_5_903 h, f_5_904 h, f_5_905 h, f_5_906 h, c2, show (nI 1 = 1) = True from eq_true rfl, lo]
  · rw [if_neg k1]
    have q : (nI (tsk S) = 1) = False := eq_false (fun q => k1 ((nI_eq (b := 1) (by have := hk.1; omega) (by decide)).mp q))
    simp (disch := first | exact Nat.le_of_ble_eq_true rfl | exact zct_i _ | exact zct_r _ | exact zct_J | exact zct_n | with_reducible assumption | (with_reducible show (zf _ _ _).isSome = true; exact Sh.some (by repeat first | with_reducible assumption | (with_reducible refine Sh.pf ?_ ?_; rotate_left 1; exact fun _ => by decide +kernel) | (with_reducible refine Sh.as ?_ ?_; rotate_left 1; exact fun _ => by decide +kernel) | (with_reducible refine Sh.asr ?_ ?_; rotate_left 1; exact fun _ => by decide +kernel) | with_reducible refine Sh.push ?_ | (with_reducible refine Sh.pfn ?_ ?_; rotate_left 1; omega) | (with_reducible refine Sh.asn ?_ ?_; rotate_left 1; omega)) (by decide) (by decide +kernel) (by decide +kernel)) | exact rfl | exact zb01 _ | decide | fail) only [e55_0, e55_1, e55_4, e55_5, e55_8, e55_10, e55_11, e55_12, e55_13, e55_14, e55_15, e55_16, zgd_true, zcl_ite, zX, Nat.reduceLT, Option.isSome_some, true_and, and_true, zo_some, zoi_some, zon_some, zcl_some, Option.toList_some, Option.toList_none, List.cons_append, List.nil_append, ite_true, ite_false, ↓reduceIte, z10, eq_self, not_true_eq_false, not_false_eq_true, and_self, or_true, true_or, i_5 h, f_5_900 h, f_5_901 h, f_5_902 h, f_5_903 h, f_5_904 h, f_5_905 h, f_5_906 h, c2, q, zen]
def pTW (W : List Nat) (t : Nat → Nat) (n : Nat) (S : zTk) : zTk := if tsf S = 0 then (match plc W t S with | none => pRef S 1 | some _ => pAdv t n S) else S
def pTv (W : List Nat) (t : Nat → Nat) (S : zTk) : Option Nat := if tsf S = 0 then plc W t S else none
theorem pla_le (W T : List Nat) : ∀ m i c a v, pla W T m i c a = some v → v ≤ c + m := by
  intro m
  induction m with
  | zero =>
    intro i c a v h
    rw [pla] at h
    split at h
    · cases h; omega
    · cases h
  | succ m ih =>
    intro i c a v h
    rw [pla] at h
    split at h
    · split at h
      · cases h; omega
      · have := ih _ _ _ _ h; omega
    · have := ih _ _ _ _ h; omega
theorem plc_le {W : List Nat} {t : Nat → Nat} {S : zTk} {v : Nat} (h : plc W t S = some v) : v ≤ W.length := by
  unfold plc at h
  split at h
  · have := pla_le _ _ _ _ _ _ _ h; omega
  · cases h
theorem k_takeWord {t : Nat → Nat} {n r : Nat} {W : List Nat} {S : zTk} {u : zH} (hW : zWd r W) (H : cO t n S u) : ∃ u' : zH, zFr [] fK u u' ∧ cO t n (pTW W t n S) u' ∧ zrun none (58, 0, [.ref 5, .ref r, zJ], [], u) = some (some (.int (zen (pTv W t S))), u') := by
  have kp := k_place hW H
  have H' := H
  obtain ⟨h, hT, ⟨c1, c2, c3, c4, c5, c6⟩, hk⟩ := H
  have p5 := i_5 h
  unfold pTW pTv
  by_cases f0 : tsf S = 0
  · rw [if_pos f0, if_pos f0]
    rw [f0] at c5
    cases e : plc W t S with
    | none =>
      obtain ⟨u', f, g, ee⟩ := k_refuse (c := 1) H' (by decide)
      rw [e] at kp
      rw [zen] at kp
      refine ⟨u', f, g, ?_⟩
      simp (disch := first | exact Nat.le_of_ble_eq_true rfl | exact zct_i _ | exact zct_r _ | exact zct_J | exact zct_n | with_reducible assumption | (with_reducible show (zf _ _ _).isSome = true; exact Sh.some (by repeat first | with_reducible assumption | (with_reducible refine Sh.pf ?_ ?_; rotate_left 1; exact fun _ => by decide +kernel) | (with_reducible refine Sh.as ?_ ?_; rotate_left 1; exact fun _ => by decide +kernel) | (with_reducible refine Sh.asr ?_ ?_; rotate_left 1; exact fun _ => by decide +kernel) | with_reducible refine Sh.push ?_ | (with_reducible refine Sh.pfn ?_ ?_; rotate_left 1; omega) | (with_reducible refine Sh.asn ?_ ?_; rotate_left 1; omega)) (by decide) (by decide +kernel) (by decide +kernel)) | exact rfl | exact zb01 _ | decide | fail) only [e58_0, e58_1, e58_4, e58_7, e58_9, e58_10, e58_11, e58_11n, e58_12, e58_15, e58_16, e58_17, e58_20, e58_21, e58_22, e58_25, e58_28, e58_29, e58_32, e58_33, zgd_true, zcl_ite, zX, Nat.reduceLT, Option.isSome_some, true_and, and_true, zo_some, zoi_some, zon_some, zcl_some, Option.toList_some, Option.toList_none, List.cons_append, List.nil_append, ite_true, ite_false, ↓reduceIte, z10, eq_self, not_true_eq_false, not_false_eq_true, and_self, or_true, true_or, i_5 h, f_5_900 h, f_5_901 h, f_5_902 h, f_5_903 h, f_5_904 h, f_5_905 h, f_5_906 h, c5, nI_0, kp, zen, p5, show ((0 : Int32) ≤ -1000000) = False from eq_false (by decide), show ((-1000000 : Int32) < 0) = True from eq_true (by decide), show zrun none (54, 0, [.ref 5, .int 1], [], u) = _ from ee]
    | some v =>
      obtain ⟨u', f, g, ee⟩ := k_adv H'
      have hv := plc_le e
      have hl := hW.1
      rw [e] at kp
      rw [zen] at kp
      refine ⟨u', f, g, ?_⟩
      have q := nI_pos' (n := v) (by omega)
      have q' := nI_pos (n := v) (by omega)
      simp (disch := first | exact Nat.le_of_ble_eq_true rfl | exact zct_i _ | exact zct_r _ | exact zct_J | exact zct_n | with_reducible assumption | (with_reducible show (zf _ _ _).isSome = true; exact Sh.some (by repeat first | with_reducible assumption | (with_reducible refine Sh.pf ?_ ?_; rotate_left 1; exact fun _ => by decide +kernel) | (with_reducible refine Sh.as ?_ ?_; rotate_left 1; exact fun _ => by decide +kernel) | (with_reducible refine Sh.asr ?_ ?_; rotate_left 1; exact fun _ => by decide +kernel) | with_reducible refine Sh.push ?_ | (with_reducible refine Sh.pfn ?_ ?_; rotate_left 1; omega) | (with_reducible refine Sh.asn ?_ ?_; rotate_left 1; omega)) (by decide) (by decide +kernel) (by decide +kernel)) | exact rfl | exact zb01 _ | decide | fail) only [e58_0, e58_1, e58_4, e58_7, e58_9, e58_10, e58_11, e58_11n, e58_12, e58_15, e58_16, e58_17, e58_20, e58_21, e58_22, e58_25, e58_28, e58_29, e58_32, e58_33, zgd_true, zcl_ite, zX, Nat.reduceLT, Option.isSome_some, true_and, and_true, zo_some, zoi_some, zon_some, zcl_some, Option.toList_some, Option.toList_none, List.cons_append, List.nil_append, ite_true, ite_false, ↓reduceIte, z10, eq_self, not_true_eq_false, not_false_eq_true, and_self, or_true, true_or, i_5 h, f_5_900 h, f_5_901 h, f_5_902 h, f_5_903 h, f_5_904 h, f_5_905 h, f_5_906 h, c5, nI_0, kp, zen, p5, q, q', ee]
  · rw [if_neg f0, if_neg f0]
    refine ⟨u, zFr.refl, H', ?_⟩
    simp (disch := first | exact Nat.le_of_ble_eq_true rfl | exact zct_i _ | exact zct_r _ | exact zct_J | exact zct_n | with_reducible assumption | (with_reducible show (zf _ _ _).isSome = true; exact Sh.some (by repeat first | with_reducible assumption | (with_reducible refine Sh.pf ?_ ?_; rotate_left 1; exact fun _ => by decide +kernel) | (with_reducible refine Sh.as ?_ ?_; rotate_left 1; exact fun _ => by decide +kernel) | (with_reducible refine Sh.asr ?_ ?_; rotate_left 1; exact fun _ => by decide +kernel) | with_reducible refine Sh.push ?_ | (with_reducible refine Sh.pfn ?_ ?_; rotate_left 1; omega) | (with_reducible refine Sh.asn ?_ ?_; rotate_left 1; omega)) (by decide) (by decide +kernel) (by decide +kernel)) | exact rfl | exact zb01 _ | decide | fail) only [e58_0, e58_1, e58_4, e58_7, e58_9, e58_10, e58_11, e58_11n, e58_12, e58_15, e58_16, e58_17, e58_20, e58_21, e58_22, e58_25, e58_28, e58_29, e58_32, e58_33, zgd_true, zcl_ite, zX, Nat.reduceLT, Option.isSome_some, true_and, and_true, zo_some, zoi_some, zon_some, zcl_some, Option.toList_some, Option.toList_none, List.cons_append, List.nil_append, ite_true, ite_false, ↓reduceIte, z10, eq_self, not_true_eq_false, not_false_eq_true, and_self, or_true, true_or, i_5 h, f_5_900 h, f_5_901 h, f_5_902 h, f_5_903 h, f_5_904 h, f_5_905 h, f_5_906 h, c5, (nI3 hk.2.2.2.1 f0).1, zen]
theorem k_sees {t : Nat → Nat} {n r : Nat} {W : List Nat} {S : zTk} {u : zH} (hW : zWd r W) (H : cO t n S u) : zrun none (57, 0, [.ref 5, .ref r], [], u) = some (some (.int (if (pTv W t S).isSome = true then 1 else 0)), u) := by
  have kp := k_place hW H
  obtain ⟨h, hT, ⟨c1, c2, c3, c4, c5, c6⟩, hk⟩ := H
  have p5 := i_5 h
  unfold pTv
  by_cases f0 : tsf S = 0
  · rw [if_pos f0]
    rw [f0] at c5
    cases e : plc W t S with
    | none =>
      rw [e] at kp
      rw [zen] at kp
      simp (disch := first | exact Nat.le_of_ble_eq_true rfl | exact zct_i _ | exact zct_r _ | exact zct_J | exact zct_n | with_reducible assumption | (with_reducible show (zf _ _ _).isSome = true; exact Sh.some (by repeat first | with_reducible assumption | (with_reducible refine Sh.pf ?_ ?_; rotate_left 1; exact fun _ => by decide +kernel) | (with_reducible refine Sh.as ?_ ?_; rotate_left 1; exact fun _ => by decide +kernel) | (with_reducible refine Sh.asr ?_ ?_; rotate_left 1; exact fun _ => by decide +kernel) | with_reducible refine Sh.push ?_ | (with_reducible refine Sh.pfn ?_ ?_; rotate_left 1; omega) | (with_reducible refine Sh.asn ?_ ?_; rotate_left 1; omega)) (by decide) (by decide +kernel) (by decide +kernel)) | exact rfl | exact zb01 _ | decide | fail) only [e57_0, e57_1, e57_4, e57_7, e57_8, e57_8n, e57_9, e57_12, e57_15, e57_16, e57_19, e57_20, zgd_true, zcl_ite, zX, Nat.reduceLT, Option.isSome_some, true_and, and_true, zo_some, zoi_some, zon_some, zcl_some, Option.toList_some, Option.toList_none, List.cons_append, List.nil_append, ite_true, ite_false, ↓reduceIte, z10, eq_self, not_true_eq_false, not_false_eq_true, and_self, or_true, true_or, i_5 h, f_5_900 h, f_5_901 h, f_5_902 h, f_5_903 h, f_5_904 h, f_5_905 h, f_5_906 h, c5, nI_0, kp, p5, show ((0 : Int32) ≤ -1000000) = False from eq_false (by decide), show ((-1000000 : Int32) < 0) = True from eq_true (by decide), Option.isSome_none, Bool.false_eq_true]
    | some v =>
      have hv := plc_le e
      have hl := hW.1
      rw [e] at kp
      rw [zen] at kp
      have q := nI_pos' (n := v) (by omega)
      have q' := nI_pos (n := v) (by omega)
      simp (disch := first | exact Nat.le_of_ble_eq_true rfl | exact zct_i _ | exact zct_r _ | exact zct_J | exact zct_n | with_reducible assumption | (with_reducible show (zf _ _ _).isSome = true; exact Sh.some (by repeat first | with_reducible assumption | (with_reducible refine Sh.pf ?_ ?_; rotate_left 1; exact fun _ => by decide +kernel) | (with_reducible refine Sh.as ?_ ?_; rotate_left 1; exact fun _ => by decide +kernel) | (with_reducible refine Sh.asr ?_ ?_; rotate_left 1; exact fun _ => by decide +kernel) | with_reducible refine Sh.push ?_ | (with_reducible refine Sh.pfn ?_ ?_; rotate_left 1; omega) | (with_reducible refine Sh.asn ?_ ?_; rotate_left 1; omega)) (by decide) (by decide +kernel) (by decide +kernel)) | exact rfl | exact zb01 _ | decide | fail) only [e57_0, e57_1, e57_4, e57_7, e57_8, e57_8n, e57_9, e57_12, e57_15, e57_16, e57_19, e57_20, zgd_true, zcl_ite, zX, Nat.reduceLT, Option.isSome_some, true_and, and_true, zo_some, zoi_some, zon_some, zcl_some, Option.toList_some, Option.toList_none, List.cons_append, List.nil_append, ite_true, ite_false, ↓reduceIte, z10, eq_self, not_true_eq_false, not_false_eq_true, and_self, or_true, true_or, i_5 h, f_5_900 h, f_5_901 h, f_5_902 h, f_5_903 h, f_5_904 h, f_5_905 h, f_5_906 h, c5, nI_0, kp, p5, q, q']
  · rw [if_neg f0]
    simp (disch := first | exact Nat.le_of_ble_eq_true rfl | exact zct_i _ | exact zct_r _ | exact zct_J | exact zct_n | with_reducible assumption | (with_reducible show (zf _ _ _).isSome = true; exact Sh.some (by repeat first | with_reducible assumption | (with_reducible refine Sh.pf ?_ ?_; rotate_left 1; exact fun _ => by decide +kernel) | (with_reducible refine Sh.as ?_ ?_; rotate_left 1; exact fun _ => by decide +kernel) | (with_reducible refine Sh.asr ?_ ?_; rotate_left 1; exact fun _ => by decide +kernel) | with_reducible refine Sh.push ?_ | (with_reducible refine Sh.pfn ?_ ?_; rotate_left 1; omega) | (with_reducible refine Sh.asn ?_ ?_; rotate_left 1; omega)) (by decide) (by decide +kernel) (by decide +kernel)) | exact rfl | exact zb01 _ | decide | fail) only [e57_0, e57_1, e57_4, e57_7, e57_8, e57_8n, e57_9, e57_12, e57_15, e57_16, e57_19, e57_20, zgd_true, zcl_ite, zX, Nat.reduceLT, Option.isSome_some, true_and, and_true, zo_some, zoi_some, zon_some, zcl_some, Option.toList_some, Option.toList_none, List.cons_append, List.nil_append, ite_true, ite_false, ↓reduceIte, z10, eq_self, not_true_eq_false, not_false_eq_true, and_self, or_true, true_or, i_5 h, f_5_900 h, f_5_901 h, f_5_902 h, f_5_903 h, f_5_904 h, f_5_905 h, f_5_906 h, c5, (nI3 hk.2.2.2.1 f0).1, Option.isSome_none, Bool.false_eq_true]
def pTG (t : Nat → Nat) (n : Nat) (S : zTk) : zTk := if tsf S = 0 then (if tsk S = 3 then pAdv t n S else pRef S 1) else S
theorem k_takeSign {t : Nat → Nat} {n : Nat} {S : zTk} {u : zH} (H : cO t n S u) : ∃ u' : zH, zFr [] fK u u' ∧ cO t n (pTG t n S) u' ∧ zrun none (62, 0, [.ref 5], [], u) = some (none, u') := by
  have H' := H
  obtain ⟨h, hT, ⟨c1, c2, c3, c4, c5, c6⟩, hk⟩ := H
  have p5 := i_5 h
  unfold pTG
  by_cases f0 : tsf S = 0
  · rw [if_pos f0]
    rw [f0] at c5
    by_cases k3 : tsk S = 3
    · rw [if_pos k3]
      rw [k3] at c2
      obtain ⟨u', f, g, ee⟩ := k_adv H'
      refine ⟨u', f, g, ?_⟩
      simp (disch := first | exact Nat.le_of_ble_eq_true rfl | exact zct_i _ | exact zct_r _ | exact zct_J | exact zct_n | with_reducible assumption | (with_reducible show (zf _ _ _).isSome = true; exact Sh.some (by repeat first | with_reducible assumption | (with_reducible refine Sh.pf ?_ ?_; rotate_left 1; exact fun _ => by decide +kernel) | (with_reducible refine Sh.as ?_ ?_; rotate_left 1; exact fun _ => by decide +kernel) | (with_reducible refine Sh.asr ?_ ?_; rotate_left 1; exact fun _ => by decide +kernel) | with_reducible refine Sh.push ?_ | (with_reducible refine Sh.pfn ?_ ?_; rotate_left 1; omega) | (with_reducible refine Sh.asn ?_ ?_; rotate_left 1; omega)) (by decide) (by decide +kernel) (by decide +kernel)) | exact rfl | exact zb01 _ | decide | fail) only [e62_0, e62_1, e62_4, e62_7, e62_8, e62_9, e62_12, e62_13, e62_16, e62_17, e62_20, e62_23, e62_24, e62_25, e62_28, zgd_true, zcl_ite, zX, Nat.reduceLT, Option.isSome_some, true_and, and_true, zo_some, zoi_some, zon_some, zcl_some, Option.toList_some, Option.toList_none, List.cons_append, List.nil_append, ite_true, ite_false, ↓reduceIte, z10, eq_self, not_true_eq_false, not_false_eq_true, and_self, or_true, true_or, i_5 h, f_5_900 h, f_5_901 h, f_5_902 h, f_5_903 h, f_5_904 h, f_5_905 h, f_5_906 h, c5, c2, nI_0, p5, show (nI 3 = 3) = True from eq_true rfl, ee]
    · rw [if_neg k3]
      have q : (nI (tsk S) = 3) = False := eq_false (fun q => k3 ((nI_eq (b := 3) (by have := hk.1; omega) (by decide)).mp q))
      obtain ⟨u', f, g, ee⟩ := k_refuse (c := 1) H' (by decide)
      refine ⟨u', f, g, ?_⟩
      simp (disch := first | exact Nat.le_of_ble_eq_true rfl | exact zct_i _ | exact zct_r _ | exact zct_J | exact zct_n | with_reducible assumption | (with_reducible show (zf _ _ _).isSome = true; exact Sh.some (by repeat first | with_reducible assumption | (with_reducible refine Sh.pf ?_ ?_; rotate_left 1; exact fun _ => by decide +kernel) | (with_reducible refine Sh.as ?_ ?_; rotate_left 1; exact fun _ => by decide +kernel) | (with_reducible refine Sh.asr ?_ ?_; rotate_left 1; exact fun _ => by decide +kernel) | with_reducible refine Sh.push ?_ | (with_reducible refine Sh.pfn ?_ ?_; rotate_left 1; omega) | (with_reducible refine Sh.asn ?_ ?_; rotate_left 1; omega)) (by decide) (by decide +kernel) (by decide +kernel)) | exact rfl | exact zb01 _ | decide | fail) only [e62_0, e62_1, e62_4, e62_7, e62_8, e62_9, e62_12, e62_13, e62_16, e62_17, e62_20, e62_23, e62_24, e62_25, e62_28, zgd_true, zcl_ite, zX, Nat.reduceLT, Option.isSome_some, true_and, and_true, zo_some, zoi_some, zon_some, zcl_some, Option.toList_some, Option.toList_none, List.cons_append, List.nil_append, ite_true, ite_false, ↓reduceIte, z10, eq_self, not_true_eq_false, not_false_eq_true, and_self, or_true, true_or, i_5 h, f_5_900 h, f_5_901 h, f_5_902 h, f_5_903 h, f_5_904 h, f_5_905 h, f_5_906 h, c5, c2, nI_0, p5, q, show zrun none (54, 0, [.ref 5, .int 1], [], u) = _ from ee]
  · rw [if_neg f0]
    refine ⟨u, zFr.refl, H', ?_⟩
    simp (disch := first | exact Nat.le_of_ble_eq_true rfl | exact zct_i _ | exact zct_r _ | exact zct_J | exact zct_n | with_reducible assumption | (with_reducible show (zf _ _ _).isSome = true; exact Sh.some (by repeat first | with_reducible assumption | (with_reducible refine Sh.pf ?_ ?_; rotate_left 1; exact fun _ => by decide +kernel) | (with_reducible refine Sh.as ?_ ?_; rotate_left 1; exact fun _ => by decide +kernel) | (with_reducible refine Sh.asr ?_ ?_; rotate_left 1; exact fun _ => by decide +kernel) | with_reducible refine Sh.push ?_ | (with_reducible refine Sh.pfn ?_ ?_; rotate_left 1; omega) | (with_reducible refine Sh.asn ?_ ?_; rotate_left 1; omega)) (by decide) (by decide +kernel) (by decide +kernel)) | exact rfl | exact zb01 _ | decide | fail) only [e62_0, e62_1, e62_4, e62_7, e62_8, e62_9, e62_12, e62_13, e62_16, e62_17, e62_20, e62_23, e62_24, e62_25, e62_28, zgd_true, zcl_ite, zX, Nat.reduceLT, Option.isSome_some, true_and, and_true, zo_some, zoi_some, zon_some, zcl_some, Option.toList_some, Option.toList_none, List.cons_append, List.nil_append, ite_true, ite_false, ↓reduceIte, z10, eq_self, not_true_eq_false, not_false_eq_true, and_self, or_true, true_or, i_5 h, f_5_900 h, f_5_901 h, f_5_902 h, f_5_903 h, f_5_904 h, f_5_905 h, f_5_906 h, c5, (nI3 hk.2.2.2.1 f0).1]
