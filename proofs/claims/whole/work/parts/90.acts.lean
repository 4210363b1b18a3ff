/-! the call acts -/
theorem zSam_gr {u u' : zH} {ints : List (Nat × Nat)} {arrs : List Nat} (k : zGr u u') (h : Sh u) (h1 : (ints.all fun q => decide (q.1 < 65 ∧ q.1 ≠ 5 ∧ q.1 ≠ 7)) = true) (h2 : (arrs.all fun b => decide (b < 65 ∧ b ≠ 5 ∧ b ≠ 7)) = true) : zSam u u' ints arrs := by
  have hl := h.len
  refine ⟨fun q hq => ?_, fun b hb => ?_, fun b b1 b2 => k.2 b b2 (by omega) (by omega), k.1⟩
  · have := of_decide_eq_true (List.all_eq_true.mp h1 q hq)
    exact gi_eq (k.2 q.1 (by omega) this.2.1 this.2.2) _
  · have := of_decide_eq_true (List.all_eq_true.mp h2 b hb)
    exact k.2 b (by omega) this.2.1 this.2.2
def iaB (w : zH) (i : Nat) : Prop := (0 ≤ ga w 47 (6 * i) ∧ (ga w 47 (6 * i + 5) = 0 ∨ ga w 47 (6 * i + 5) = 1)) ∧ ∃ a : Nat, 65 ≤ a ∧ a < zX ∧ gr w 7 i = .ref a ∧ zis w a 0 ∧ zf w a 0 = some (.int (ga w 47 (6 * i))) ∧ zf w a 1 = some (.int (ga w 47 (6 * i + 1))) ∧ zf w a 2 = some (.int (ga w 47 (6 * i + 2))) ∧ zf w a 3 = some (.int (ga w 47 (6 * i + 3))) ∧ zf w a 4 = some (.int (ga w 47 (6 * i + 4))) ∧ zf w a 5 = some (.int (ga w 47 (6 * i + 5)))
theorem iaB_old {w w' : zH} {i : Nat} (hb : iaB w i) (o : ∀ j, j < 6 * (i + 1) → ga w' 47 j = ga w 47 j) (r : gr w' 7 i = gr w 7 i) (c : ∀ b, 65 ≤ b → b < w.length → w'[b]? = w[b]?) : iaB w' i := by
  obtain ⟨h1, b, b1, b2, b3, b4, b5, b6, b7, b8, b9, b10⟩ := hb
  have e := c b b1 (zis_lt b4 b2)
  unfold iaB
  rw [o _ (by omega), o (6 * i + 1) (by omega), o (6 * i + 2) (by omega), o (6 * i + 3) (by omega), o (6 * i + 4) (by omega), o (6 * i + 5) (by omega)]
  exact ⟨h1, b, b1, b2, r.trans b3, by rw [zis_eq e]; exact b4, (zf_eq e _).trans b5, (zf_eq e _).trans b6, (zf_eq e _).trans b7, (zf_eq e _).trans b8, (zf_eq e _).trans b9, (zf_eq e _).trans b10⟩
theorem f_TNle {a b : Nat} {t : Nat → Nat} {n : Nat} {S : zTk} (h : tsf (pTN a b t n S) = 0) : pVal t S ≤ b := by
  have f0 := f_TN h
  unfold pTN at h
  rw [if_pos f0] at h
  split at h
  · split at h
    · rename_i z; exact z.2
    · rw [pRef_f f0] at h; cases h
  · rw [pRef_f f0] at h; cases h
theorem vDay_ge {t : Nat → Nat} {n : Nat} {S : zTk} (h : tsf (rG t n S) = 0) : 0 ≤ vDay t n S := by
  have h1 := (f_D (f_E (f_G h))).2.2
  unfold rA at h1
  have h2 := f_TNle h1
  unfold vDay
  exact nI_pos' (by omega)
theorem vLeave_01 (t : Nat → Nat) (n : Nat) (S : zTk) : vLeave t n S = 0 ∨ vLeave t n S = 1 := by
  unfold vLeave
  split
  · exact Or.inr rfl
  · exact Or.inl rfl
theorem rL_it (t : Nat → Nat) (n : Nat) : ∀ d S, tsf (rL t n d S).1 = 0 → ∀ j, j < d - (rL t n d S).2 → tsf (rG t n (itS t n j S)) = 0 := by
  intro d
  induction d with
  | zero => intro S _ j hj; omega
  | succ d ih =>
    intro S
    by_cases o : ovr S
    · rw [rL_o o]
      intro _ j hj
      omega
    · rw [rL, if_neg o]
      intro h j hj
      cases j with
      | zero =>
        have nf := rL_nf t n d (rG t n S)
        rw [show itS t n 0 S = S from rfl]
        revert nf h
        generalize rG t n S = R
        intro h nf
        exact Classical.byContradiction (fun z => nf z h)
      | succ j =>
        have e := ih (rG t n S)
        rw [show itS t n (j + 1) S = itS t n j (rG t n S) from rfl]
        revert e h hj
        generalize rG t n S = R
        intro h hj e
        exact e h j (by omega)
theorem zf_cell {w : zH} {b : Nat} {vs : List Value} (hb : b < zX) (c : w[b]? = some (0, vs)) (n : Nat) (hn : n < 100) : zf w b n = vs[n]? := by
  unfold zf zr
  rw [if_pos hb, c]
  show (if 0 = n / 100 then vs[n % 100]? else none) = _
  rw [if_pos (by omega), Nat.mod_eq_of_lt hn]
theorem iaB_new {w : zH} {i b : Nat} {d g s k o l : Int32} (q : ga w 47 (6 * i) = d ∧ ga w 47 (6 * i + 1) = g ∧ ga w 47 (6 * i + 2) = s ∧ ga w 47 (6 * i + 3) = k ∧ ga w 47 (6 * i + 4) = o ∧ ga w 47 (6 * i + 5) = l) (hd : 0 ≤ d) (hl : l = 0 ∨ l = 1) (b1 : 65 ≤ b) (b2 : b < zX) (r : gr w 7 i = .ref b) (c : w[b]? = some (0, [.int d, .int g, .int s, .int k, .int o, .int l])) : iaB w i := by
  obtain ⟨q1, q2, q3, q4, q5, q6⟩ := q
  unfold iaB
  rw [q1, q2, q3, q4, q5, q6]
  exact ⟨⟨hd, hl⟩, b, b1, b2, r, ⟨_, by unfold zr; rw [if_pos b2, c]⟩, zf_cell b2 c 0 (by decide), zf_cell b2 c 1 (by decide), zf_cell b2 c 2 (by decide), zf_cell b2 c 3 (by decide), zf_cell b2 c 4 (by decide), zf_cell b2 c 5 (by decide)⟩
theorem o_acts {w : zH} (hI : Inv w) (hw : w.length + 100 < zX) : oK_acts w := by
  have h := hI.1
  have hl := h.len
  have p0 := i_5 h
  have p35 := i_35 h
  obtain ⟨n, hn, c1, c2, hT⟩ := hI.2.2.2.2.2.2.2.1
  obtain ⟨a, ha, a1, a2, hA⟩ := hI.2.2.2.2.2.1
  have hIF := hI.2.2.2.2.2.2.1
  have hB : ∃ t : Nat → Nat, zTp 6 t n w ∧ zTp 48 t n w := by
    refine ⟨fun i => (ga w 48 i).toNatClampNeg, ⟨hn, fun i hi => ?_⟩, ⟨hn, fun i hi => ?_⟩⟩
    all_goals
      obtain ⟨t1, t2, t3⟩ := hT i hi
      obtain ⟨j, hj, ej⟩ := nI_of2 (n := 255) (M := 255) (by decide) (Int32.not_lt.mpr t2) t3
      dsimp only
    · rw [t1, ej, nI_clamp (by omega)]; exact ⟨by omega, rfl⟩
    · rw [ej, nI_clamp (by omega)]; exact ⟨by omega, rfl⟩
  obtain ⟨t, T6, T48⟩ := hB
  obtain ⟨u1, f1, g1, e1⟩ := k_begin5 h T6 c1
  obtain ⟨u2, r, k1, k2, k3, k4, k5, k6, k7⟩ := k_acts_loop (24 - a) a 0 (pAdv t n S00) u1 (by omega) (by omega) g1 (by rw [f1.len]; omega)
  have K := (zGr.fr f1).trans k1
  have h2 := k4.1
  have cf := k4.2.2.1.2.2.2.2.1
  have cp := k4.2.2.1.2.2.2.2.2
  have hk := k4.2.2.2.2.2.2.1
  have F3 : zFr [] [(5, 901)] u2 (zpf u2 5 901 (.int 0)) := zFr.refl.pf rfl (fun _ => by decide +kernel)
  have h3 := F3.sh h2
  have rd : zrun none (121, 0, [.ref 0, zJ, zJ], [], w) = some (some (.int r), u2) := by
    have h1 := g1.1
    rw [nI_0] at k7
    simp (disch := first | exact Nat.le_of_ble_eq_true rfl | exact zct_i _ | exact zct_r _ | exact zct_J | exact zct_n | with_reducible assumption | (with_reducible show (zf _ _ _).isSome = true; exact Sh.some (by repeat first | with_reducible assumption | (with_reducible refine Sh.pf ?_ ?_; rotate_left 1; exact fun _ => by decide +kernel) | (with_reducible refine Sh.as ?_ ?_; rotate_left 1; exact fun _ => by decide +kernel) | (with_reducible refine Sh.asr ?_ ?_; rotate_left 1; exact fun _ => by decide +kernel) | with_reducible refine Sh.push ?_ | (with_reducible refine Sh.pfn ?_ ?_; rotate_left 1; omega) | (with_reducible refine Sh.asn ?_ ?_; rotate_left 1; omega)) (by decide) (by decide +kernel) (by decide +kernel)) | exact rfl | exact zb01 _ | decide | fail) only [e121_0, e121_1, e121_4, e121_5, e121_6, e121_9, e121_12, e121_13, zgd_true, zcl_ite, zX, Nat.reduceLT, Option.isSome_some, true_and, and_true, zo_some, zoi_some, zon_some, zcl_some, Option.toList_some, Option.toList_none, List.cons_append, List.nil_append, ite_true, ite_false, ↓reduceIte, z10, eq_self, not_true_eq_false, not_false_eq_true, and_self, or_true, true_or, i_0 h, f_0_1100 h, f_0_1101 h, f_0_1102 h, f_0_1103 h, f_0_1104 h, f_0_1105 h, f_0_1106 h, f_0_1107 h, f_0_1108 h, f_0_1109 h, f_0_1110 h, f_0_1111 h, f_0_1112 h, f_0_1113 h, f_0_1114 h, f_0_1115 h, f_0_1116 h, f_0_1117 h, f_0_1118 h, f_0_1119 h, p0, a1, e1, k7]
  have ML := fun (v : zH) (Hm : mO t n (pAdv t n S00) v) (cv : gi v 35 1219 = nI a) => m_acts_loop (24 - a) a (pAdv t n S00) v (by omega) Hm cv
  have le := rL_le t n (24 - a) (pAdv t n S00)
  have R9 := rL_it t n (24 - a) (pAdv t n S00)
  generalize (rL t n (24 - a) (pAdv t n S00)).1 = G at *
  generalize (rL t n (24 - a) (pAdv t n S00)).2 = E at *
  have T2 : zTp 48 t n u2 := ⟨T48.1, fun i hi => ⟨(T48.2 i hi).1, (ga_eq (K.2 48 (by omega) (by decide) (by decide)) i).trans (T48.2 i hi).2⟩⟩
  have d2 : gi u2 35 1221 = nI n := (gi_eq (K.2 35 (by omega) (by decide) (by decide)) _).trans c2
  have d3 : gi u2 35 1217 = nI a := (gi_eq (K.2 35 (by omega) (by decide) (by decide)) _).trans a2
  refine zTwo_op ?_
  by_cases f0 : tsf G = 0
  · obtain ⟨rr, kz⟩ := k6 f0
    rw [f0] at cf
    have F4 : zFr [] [(5, 901), (0, 1106)] u2 (zpf (zpf u2 5 901 (.int 0)) 0 1106 (.int (nI (24 - E)))) := (F3.mono rfl rfl).pf rfl (fun _ => by decide +kernel)
    have h4 := F4.sh h2
    obtain ⟨v1, v2, v3, v4, v5, v6⟩ := m_begin5 h4 (zTp_fr T2 F4 rfl rfl) (by rw [F4.hgi rfl (by decide) rfl]; exact d2) (by rw [F4.hgi rfl (by decide) rfl]; exact d3)
    obtain ⟨x1, x2, x3, x4, x5, x6⟩ := ML v1 v3 v4
    obtain ⟨y1, y2⟩ := x5 f0
    simp (disch := first | exact Nat.le_of_ble_eq_true rfl | exact zct_i _ | exact zct_r _ | exact zct_J | exact zct_n | with_reducible assumption | (with_reducible show (zf _ _ _).isSome = true; exact Sh.some (by repeat first | with_reducible assumption | (with_reducible refine Sh.pf ?_ ?_; rotate_left 1; exact fun _ => by decide +kernel) | (with_reducible refine Sh.as ?_ ?_; rotate_left 1; exact fun _ => by decide +kernel) | (with_reducible refine Sh.asr ?_ ?_; rotate_left 1; exact fun _ => by decide +kernel) | with_reducible refine Sh.push ?_ | (with_reducible refine Sh.pfn ?_ ?_; rotate_left 1; omega) | (with_reducible refine Sh.asn ?_ ?_; rotate_left 1; omega)) (by decide) (by decide +kernel) (by decide +kernel)) | exact rfl | exact zb01 _ | decide | fail) only [e75_0, e75_1, e75_4, e75_5, e75_6, e75_9, e75_12, e75_13, e75_14, e75_17, e75_18, e75_21, e75_22, e75_25, e75_26, e75_27, e75_30, e75_32, e75_33, e75_36, e75_39, e75_40, e75_41, e75_42, e75_43, e75_46, e75_47, e75_50, zgd_true, zcl_ite, zX, Nat.reduceLT, Option.isSome_some, true_and, and_true, zo_some, zoi_some, zon_some, zcl_some, Option.toList_some, Option.toList_none, List.cons_append, List.nil_append, ite_true, ite_false, ↓reduceIte, z10, eq_self, not_true_eq_false, not_false_eq_true, and_self, or_true, true_or, i_0 h, f_0_1100 h, f_0_1101 h, f_0_1102 h, f_0_1103 h, f_0_1104 h, f_0_1105 h, f_0_1106 h, f_0_1107 h, f_0_1108 h, f_0_1109 h, f_0_1110 h, f_0_1111 h, f_0_1112 h, f_0_1113 h, f_0_1114 h, f_0_1115 h, f_0_1116 h, f_0_1117 h, f_0_1118 h, f_0_1119 h, i_0 h2, f_0_1100 h2, f_0_1101 h2, f_0_1102 h2, f_0_1103 h2, f_0_1104 h2, f_0_1105 h2, f_0_1106 h2, f_0_1107 h2, f_0_1108 h2, f_0_1109 h2, f_0_1110 h2, f_0_1111 h2, f_0_1112 h2, f_0_1113 h2, f_0_1114 h2, f_0_1115 h2, f_0_1116 h2, f_0_1117 h2, f_0_1118 h2, f_0_1119 h2, i_5 h2, f_5_900 h2, f_5_901 h2, f_5_902 h2, f_5_903 h2, f_5_904 h2, f_5_905 h2, f_5_906 h2, i_0 h3, f_0_1100 h3, f_0_1101 h3, f_0_1102 h3, f_0_1103 h3, f_0_1104 h3, f_0_1105 h3, f_0_1106 h3, f_0_1107 h3, f_0_1108 h3, f_0_1109 h3, f_0_1110 h3, f_0_1111 h3, f_0_1112 h3, f_0_1113 h3, f_0_1114 h3, f_0_1115 h3, f_0_1116 h3, f_0_1117 h3, f_0_1118 h3, f_0_1119 h3, i_5 h3, f_5_900 h3, f_5_901 h3, f_5_902 h3, f_5_903 h3, f_5_904 h3, f_5_905 h3, f_5_906 h3, rd, cf, nI_0, rr, zf_pf1, zf_pf2, zf_pf3, zf_as1, zsm_pf, zsm_as, zis_pf, zis_as1, zin_pf, zin_as, zai_pf1, zai_as1, zaa_pf1, zaa_as1, gi_pf1, gi_pf2, gi_pf3, gi_as1, ga_pf1, ga_as1, gr_pf1, gr_as1, zpf_len, zas_len]
    have hx := x3.1
    have m6 := x3.2.2.1.2.2.2.2.2.1
    rw [f0] at m6
    refine zTwo_some (i_35 h4) ?_
    rw [v6, x6]
    have F5 : zFr [] [(35, 1217)] x1 (zpf x1 35 1217 (.int (nI (24 - E)))) := zFr.refl.pf rfl (fun _ => by decide +kernel)
    simp (disch := first | exact Nat.le_of_ble_eq_true rfl | exact zct_i _ | exact zct_r _ | exact zct_J | exact zct_n | with_reducible assumption | (with_reducible show (zf _ _ _).isSome = true; exact Sh.some (by repeat first | with_reducible assumption | (with_reducible refine Sh.pf ?_ ?_; rotate_left 1; exact fun _ => by decide +kernel) | (with_reducible refine Sh.as ?_ ?_; rotate_left 1; exact fun _ => by decide +kernel) | (with_reducible refine Sh.asr ?_ ?_; rotate_left 1; exact fun _ => by decide +kernel) | with_reducible refine Sh.push ?_ | (with_reducible refine Sh.pfn ?_ ?_; rotate_left 1; omega) | (with_reducible refine Sh.asn ?_ ?_; rotate_left 1; omega)) (by decide) (by decide +kernel) (by decide +kernel)) | exact rfl | exact zb01 _ | decide | fail) only [e179_62, e179_63, e179_66, e179_69, e179_70, e179_71, e179_74, e179_77, e179_80, e179_81, e179_84, e179_85, e179_86, e179_87, e179_88, e179_91, e179_94, e179_95, e179_98, zgd_true, zcl_ite, zX, Nat.reduceLT, Option.isSome_some, true_and, and_true, zo_some, zoi_some, zon_some, zcl_some, Option.toList_some, Option.toList_none, List.cons_append, List.nil_append, ite_true, ite_false, ↓reduceIte, z10, eq_self, not_true_eq_false, not_false_eq_true, and_self, or_true, true_or, i_35 hx, f_35_1200 hx, f_35_1201 hx, f_35_1202 hx, f_35_1203 hx, f_35_1204 hx, f_35_1205 hx, f_35_1206 hx, f_35_1207 hx, f_35_1208 hx, f_35_1209 hx, f_35_1210 hx, f_35_1211 hx, f_35_1212 hx, f_35_1213 hx, f_35_1214 hx, f_35_1215 hx, f_35_1216 hx, f_35_1217 hx, f_35_1218 hx, f_35_1219 hx, f_35_1220 hx, f_35_1221 hx, f_35_1222 hx, f_35_1223 hx, f_35_1224 hx, f_35_1225 hx, f_35_1226 hx, f_35_1227 hx, f_35_1228 hx, f_35_1229 hx, f_35_1230 hx, f_35_1231 hx, f_35_1232 hx, f_35_1233 hx, f_35_1234 hx, f_35_1235 hx, f_35_1236 hx, f_35_1237 hx, f_35_1238 hx, f_35_1239 hx, f_35_1240 hx, f_35_1241 hx, f_35_1242 hx, f_35_1243 hx, f_35_1244 hx, f_35_1245 hx, f_35_1246 hx, f_35_1247 hx, f_35_1248 hx, f_35_1249 hx, f_35_1250 hx, m6, nI_0, show ((0 : Int32) ≤ 0) = True from eq_true (by decide), y1, zf_pf1, zf_pf2, zf_pf3, zf_as1, zsm_pf, zsm_as, zis_pf, zis_as1, zin_pf, zin_as, zai_pf1, zai_as1, zaa_pf1, zaa_as1, gi_pf1, gi_pf2, gi_pf3, gi_as1, ga_pf1, ga_as1, gr_pf1, gr_as1, zpf_len, zas_len]
    refine zOne_some rfl ⟨F5.sh hx, IS_sam hI.2.1 (zSam_fr (zSam_fr (zSam_fr (zSam_fr (zSam_gr K h rfl rfl) F4 ⟨rfl, rfl⟩ rfl rfl) v2 ⟨rfl, rfl⟩ rfl rfl) x2 ⟨rfl, rfl⟩ rfl rfl) F5 ⟨rfl, rfl⟩ rfl rfl), IH_sam hI.2.2.1 (zSam_fr (zSam_fr (zSam_fr (zSam_fr (zSam_gr K h rfl rfl) F4 ⟨rfl, rfl⟩ rfl rfl) v2 ⟨rfl, rfl⟩ rfl rfl) x2 ⟨rfl, rfl⟩ rfl rfl) F5 ⟨rfl, rfl⟩ rfl rfl), IL_sam hI.2.2.2.1 (zSam_fr (zSam_fr (zSam_fr (zSam_fr (zSam_gr K h rfl rfl) F4 ⟨rfl, rfl⟩ rfl rfl) v2 ⟨rfl, rfl⟩ rfl rfl) x2 ⟨rfl, rfl⟩ rfl rfl) F5 ⟨rfl, rfl⟩ rfl rfl), IP_sam hI.2.2.2.2.1 (zSam_fr (zSam_fr (zSam_fr (zSam_fr (zSam_gr K h rfl rfl) F4 ⟨rfl, rfl⟩ rfl rfl) v2 ⟨rfl, rfl⟩ rfl rfl) x2 ⟨rfl, rfl⟩ rfl rfl) F5 ⟨rfl, rfl⟩ rfl rfl), ?_, IF_sam hI.2.2.2.2.2.2.1 (zSam_fr (zSam_fr (zSam_fr (zSam_fr (zSam_gr K h rfl rfl) F4 ⟨rfl, rfl⟩ rfl rfl) v2 ⟨rfl, rfl⟩ rfl rfl) x2 ⟨rfl, rfl⟩ rfl rfl) F5 ⟨rfl, rfl⟩ rfl rfl), ?_, IO_sam hI.2.2.2.2.2.2.2.2.1 (zSam_fr (zSam_fr (zSam_fr (zSam_fr (zSam_gr K h rfl rfl) F4 ⟨rfl, rfl⟩ rfl rfl) v2 ⟨rfl, rfl⟩ rfl rfl) x2 ⟨rfl, rfl⟩ rfl rfl) F5 ⟨rfl, rfl⟩ rfl rfl), IW_sam hI.2.2.2.2.2.2.2.2.2.1 (zSam_fr (zSam_fr (zSam_fr (zSam_fr (zSam_gr K h rfl rfl) F4 ⟨rfl, rfl⟩ rfl rfl) v2 ⟨rfl, rfl⟩ rfl rfl) x2 ⟨rfl, rfl⟩ rfl rfl) F5 ⟨rfl, rfl⟩ rfl rfl), IG_sam hI.2.2.2.2.2.2.2.2.2.2.1 (zSam_fr (zSam_fr (zSam_fr (zSam_fr (zSam_gr K h rfl rfl) F4 ⟨rfl, rfl⟩ rfl rfl) v2 ⟨rfl, rfl⟩ rfl rfl) x2 ⟨rfl, rfl⟩ rfl rfl) F5 ⟨rfl, rfl⟩ rfl rfl), ID_sam hI.2.2.2.2.2.2.2.2.2.2.2.1 (zSam_fr (zSam_fr (zSam_fr (zSam_fr (zSam_gr K h rfl rfl) F4 ⟨rfl, rfl⟩ rfl rfl) v2 ⟨rfl, rfl⟩ rfl rfl) x2 ⟨rfl, rfl⟩ rfl rfl) F5 ⟨rfl, rfl⟩ rfl rfl), IR_sam hI.2.2.2.2.2.2.2.2.2.2.2.2.1 (zSam_fr (zSam_fr (zSam_fr (zSam_fr (zSam_gr K h rfl rfl) F4 ⟨rfl, rfl⟩ rfl rfl) v2 ⟨rfl, rfl⟩ rfl rfl) x2 ⟨rfl, rfl⟩ rfl rfl) F5 ⟨rfl, rfl⟩ rfl rfl), IE_sam hI.2.2.2.2.2.2.2.2.2.2.2.2.2.1 (zSam_fr (zSam_fr (zSam_fr (zSam_fr (zSam_gr K h rfl rfl) F4 ⟨rfl, rfl⟩ rfl rfl) v2 ⟨rfl, rfl⟩ rfl rfl) x2 ⟨rfl, rfl⟩ rfl rfl) F5 ⟨rfl, rfl⟩ rfl rfl), IV_sam hI.2.2.2.2.2.2.2.2.2.2.2.2.2.2.1 (zSam_fr (zSam_fr (zSam_fr (zSam_fr (zSam_gr K h rfl rfl) F4 ⟨rfl, rfl⟩ rfl rfl) v2 ⟨rfl, rfl⟩ rfl rfl) x2 ⟨rfl, rfl⟩ rfl rfl) F5 ⟨rfl, rfl⟩ rfl rfl), IC_sam hI.2.2.2.2.2.2.2.2.2.2.2.2.2.2.2 (zSam_fr (zSam_fr (zSam_fr (zSam_fr (zSam_gr K h rfl rfl) F4 ⟨rfl, rfl⟩ rfl rfl) v2 ⟨rfl, rfl⟩ rfl rfl) x2 ⟨rfl, rfl⟩ rfl rfl) F5 ⟨rfl, rfl⟩ rfl rfl)⟩ ?_ ?_
    · have old : ∀ j, j < 6 * a → ga (zpf x1 35 1217 (.int (nI (24 - E)))) 47 j = ga w 47 j := by
        intro j hj
        rw [F5.hga rfl rfl, x4 j hj, v2.hga rfl rfl, F4.hga rfl rfl]
        exact ga_eq (K.2 47 (by omega) (by decide) (by decide)) j
      have oldr : ∀ i, i < a → gr (zpf x1 35 1217 (.int (nI (24 - E)))) 7 i = gr w 7 i := by
        intro i hi
        rw [F5.hgr rfl rfl, x2.hgr rfl rfl, v2.hgr rfl rfl, F4.hgr rfl rfl, k5 i hi, f1.hgr rfl rfl]
      refine ⟨24 - E, by omega, ?_, ?_, fun i hi => ?_⟩
      · rw [F5.hgi rfl (by decide) rfl, x2.hgi rfl (by decide) rfl, v2.hgi rfl (by decide) rfl]
        exact gi_pf3 (by decide) (Sh.some h3 (by decide) (by decide +kernel) (by decide +kernel))
      · exact gi_pf3 (by decide) (Sh.some hx (by decide) (by decide +kernel) (by decide +kernel))
      by_cases ia : i < a
      · refine iaB_old (hA i ia) (fun j hj => old j (by omega)) (oldr i ia) (fun b b1 b2 => ?_)
        exact (zSam_fr (zSam_fr (zSam_fr (zSam_fr (zSam_gr (ints := []) (arrs := []) K h rfl rfl) F4 ⟨rfl, rfl⟩ rfl rfl) v2 ⟨rfl, rfl⟩ rfl rfl) x2 ⟨rfl, rfl⟩ rfl rfl) F5 ⟨rfl, rfl⟩ rfl rfl).2.2.1 b b1 b2
      · obtain ⟨j, rfl⟩ : ∃ j, i = a + j := ⟨i - a, by omega⟩
        have hj : j < 24 - a - E := by omega
        obtain ⟨b, b1, b2, b3, b4⟩ := kz j hj
        obtain ⟨q1, q2, q3, q4, q5, q6⟩ := y2 j hj
        have bl : b < zX := by have := f1.len; omega
        exact iaB_new ⟨(F5.hga rfl rfl).trans q1, (F5.hga rfl rfl).trans q2, (F5.hga rfl rfl).trans q3, (F5.hga rfl rfl).trans q4, (F5.hga rfl rfl).trans q5, (F5.hga rfl rfl).trans q6⟩ (vDay_ge (R9 f0 j hj)) (vLeave_01 _ _ _) b1 bl ((F5.hgr rfl rfl).trans ((x2.hgr rfl rfl).trans ((v2.hgr rfl rfl).trans ((F4.hgr rfl rfl).trans b3)))) (((zSam_fr (zSam_fr (zSam_fr (zSam_fr (zSam_rfl (ints := []) (arrs := [])) F4 ⟨rfl, rfl⟩ rfl rfl) v2 ⟨rfl, rfl⟩ rfl rfl) x2 ⟨rfl, rfl⟩ rfl rfl) F5 ⟨rfl, rfl⟩ rfl rfl).2.2.1 b b1 b2).trans b4)
    · refine ⟨0, by decide, ?_, ?_, fun i hi => by omega⟩
      · rw [F5.hgi rfl (by decide) rfl, x2.hgi rfl (by decide) rfl, v2.hgi rfl (by decide) rfl, gi_pf1 (by decide)]
        exact gi_pf3 (by decide) (Sh.some h2 (by decide) (by decide +kernel) (by decide +kernel))
      · rw [F5.hgi rfl (by decide) rfl, x2.hgi rfl (by decide) rfl]
        exact v5
    · rw [F5.len, x2.len, v2.len, F4.len]
      have := f1.len
      omega
    · rw [F5.sz, x2.sz, v2.sz, F4.sz]
      have := f1.sz
      omega
  · have n0 := (nI3 hk f0)
    have cpl := cp f0
    have F4 : zFr [] [(5, 901), (0, 1107)] u2 (zpf (zpf u2 5 901 (.int 0)) 0 1107 (.int (nI (tsf G)))) := (F3.mono rfl rfl).pf rfl (fun _ => by decide +kernel)
    have h4 := F4.sh h2
    obtain ⟨v1, v2, v3, v4, v5, v6⟩ := m_begin5 h4 (zTp_fr T2 F4 rfl rfl) (by rw [F4.hgi rfl (by decide) rfl]; exact d2) (by rw [F4.hgi rfl (by decide) rfl]; exact d3)
    obtain ⟨x1, x2, x3, x4, x5, x6⟩ := ML v1 v3 v4
    simp (disch := first | exact Nat.le_of_ble_eq_true rfl | exact zct_i _ | exact zct_r _ | exact zct_J | exact zct_n | with_reducible assumption | (with_reducible show (zf _ _ _).isSome = true; exact Sh.some (by repeat first | with_reducible assumption | (with_reducible refine Sh.pf ?_ ?_; rotate_left 1; exact fun _ => by decide +kernel) | (with_reducible refine Sh.as ?_ ?_; rotate_left 1; exact fun _ => by decide +kernel) | (with_reducible refine Sh.asr ?_ ?_; rotate_left 1; exact fun _ => by decide +kernel) | with_reducible refine Sh.push ?_ | (with_reducible refine Sh.pfn ?_ ?_; rotate_left 1; omega) | (with_reducible refine Sh.asn ?_ ?_; rotate_left 1; omega)) (by decide) (by decide +kernel) (by decide +kernel)) | exact rfl | exact zb01 _ | decide | fail) only [e75_0, e75_1, e75_4, e75_5, e75_6, e75_9, e75_12, e75_13, e75_14, e75_17, e75_18, e75_21, e75_22, e75_25, e75_26, e75_27, e75_30, e75_32, e75_33, e75_36, e75_39, e75_40, e75_41, e75_42, e75_43, e75_46, e75_47, e75_50, zgd_true, zcl_ite, zX, Nat.reduceLT, Option.isSome_some, true_and, and_true, zo_some, zoi_some, zon_some, zcl_some, Option.toList_some, Option.toList_none, List.cons_append, List.nil_append, ite_true, ite_false, ↓reduceIte, z10, eq_self, not_true_eq_false, not_false_eq_true, and_self, or_true, true_or, i_0 h, f_0_1100 h, f_0_1101 h, f_0_1102 h, f_0_1103 h, f_0_1104 h, f_0_1105 h, f_0_1106 h, f_0_1107 h, f_0_1108 h, f_0_1109 h, f_0_1110 h, f_0_1111 h, f_0_1112 h, f_0_1113 h, f_0_1114 h, f_0_1115 h, f_0_1116 h, f_0_1117 h, f_0_1118 h, f_0_1119 h, i_0 h2, f_0_1100 h2, f_0_1101 h2, f_0_1102 h2, f_0_1103 h2, f_0_1104 h2, f_0_1105 h2, f_0_1106 h2, f_0_1107 h2, f_0_1108 h2, f_0_1109 h2, f_0_1110 h2, f_0_1111 h2, f_0_1112 h2, f_0_1113 h2, f_0_1114 h2, f_0_1115 h2, f_0_1116 h2, f_0_1117 h2, f_0_1118 h2, f_0_1119 h2, i_5 h2, f_5_900 h2, f_5_901 h2, f_5_902 h2, f_5_903 h2, f_5_904 h2, f_5_905 h2, f_5_906 h2, i_0 h3, f_0_1100 h3, f_0_1101 h3, f_0_1102 h3, f_0_1103 h3, f_0_1104 h3, f_0_1105 h3, f_0_1106 h3, f_0_1107 h3, f_0_1108 h3, f_0_1109 h3, f_0_1110 h3, f_0_1111 h3, f_0_1112 h3, f_0_1113 h3, f_0_1114 h3, f_0_1115 h3, f_0_1116 h3, f_0_1117 h3, f_0_1118 h3, f_0_1119 h3, i_5 h3, f_5_900 h3, f_5_901 h3, f_5_902 h3, f_5_903 h3, f_5_904 h3, f_5_905 h3, f_5_906 h3, rd, cf, n0.1, zf_pf1, zf_pf2, zf_pf3, zf_as1, zsm_pf, zsm_as, zis_pf, zis_as1, zin_pf, zin_as, zai_pf1, zai_as1, zaa_pf1, zaa_as1, gi_pf1, gi_pf2, gi_pf3, gi_as1, ga_pf1, ga_as1, gr_pf1, gr_as1, zpf_len, zas_len, cpl]
    have hx := x3.1
    have m6 := x3.2.2.1.2.2.2.2.2.1
    have m7 := x3.2.2.1.2.2.2.2.2.2 f0
    refine zTwo_some (i_35 h4) ?_
    rw [v6, x6]
    have F5 : zFr [] [(35, 1222)] x1 (zpf x1 35 1222 (.int (nI (tsf G)))) := zFr.refl.pf rfl (fun _ => by decide +kernel)
    simp (disch := first | exact Nat.le_of_ble_eq_true rfl | exact zct_i _ | exact zct_r _ | exact zct_J | exact zct_n | with_reducible assumption | (with_reducible show (zf _ _ _).isSome = true; exact Sh.some (by repeat first | with_reducible assumption | (with_reducible refine Sh.pf ?_ ?_; rotate_left 1; exact fun _ => by decide +kernel) | (with_reducible refine Sh.as ?_ ?_; rotate_left 1; exact fun _ => by decide +kernel) | (with_reducible refine Sh.asr ?_ ?_; rotate_left 1; exact fun _ => by decide +kernel) | with_reducible refine Sh.push ?_ | (with_reducible refine Sh.pfn ?_ ?_; rotate_left 1; omega) | (with_reducible refine Sh.asn ?_ ?_; rotate_left 1; omega)) (by decide) (by decide +kernel) (by decide +kernel)) | exact rfl | exact zb01 _ | decide | fail) only [e179_62, e179_63, e179_66, e179_69, e179_70, e179_71, e179_74, e179_77, e179_80, e179_81, e179_84, e179_85, e179_86, e179_87, e179_88, e179_91, e179_94, e179_95, e179_98, zgd_true, zcl_ite, zX, Nat.reduceLT, Option.isSome_some, true_and, and_true, zo_some, zoi_some, zon_some, zcl_some, Option.toList_some, Option.toList_none, List.cons_append, List.nil_append, ite_true, ite_false, ↓reduceIte, z10, eq_self, not_true_eq_false, not_false_eq_true, and_self, or_true, true_or, i_35 hx, f_35_1200 hx, f_35_1201 hx, f_35_1202 hx, f_35_1203 hx, f_35_1204 hx, f_35_1205 hx, f_35_1206 hx, f_35_1207 hx, f_35_1208 hx, f_35_1209 hx, f_35_1210 hx, f_35_1211 hx, f_35_1212 hx, f_35_1213 hx, f_35_1214 hx, f_35_1215 hx, f_35_1216 hx, f_35_1217 hx, f_35_1218 hx, f_35_1219 hx, f_35_1220 hx, f_35_1221 hx, f_35_1222 hx, f_35_1223 hx, f_35_1224 hx, f_35_1225 hx, f_35_1226 hx, f_35_1227 hx, f_35_1228 hx, f_35_1229 hx, f_35_1230 hx, f_35_1231 hx, f_35_1232 hx, f_35_1233 hx, f_35_1234 hx, f_35_1235 hx, f_35_1236 hx, f_35_1237 hx, f_35_1238 hx, f_35_1239 hx, f_35_1240 hx, f_35_1241 hx, f_35_1242 hx, f_35_1243 hx, f_35_1244 hx, f_35_1245 hx, f_35_1246 hx, f_35_1247 hx, f_35_1248 hx, f_35_1249 hx, f_35_1250 hx, m6, n0.2, zf_pf1, zf_pf2, zf_pf3, zf_as1, zsm_pf, zsm_as, zis_pf, zis_as1, zin_pf, zin_as, zai_pf1, zai_as1, zaa_pf1, zaa_as1, gi_pf1, gi_pf2, gi_pf3, gi_as1, ga_pf1, ga_as1, gr_pf1, gr_as1, zpf_len, zas_len, m7]
    refine zOne_some rfl ⟨F5.sh hx, IS_sam hI.2.1 (zSam_fr (zSam_fr (zSam_fr (zSam_fr (zSam_gr K h rfl rfl) F4 ⟨rfl, rfl⟩ rfl rfl) v2 ⟨rfl, rfl⟩ rfl rfl) x2 ⟨rfl, rfl⟩ rfl rfl) F5 ⟨rfl, rfl⟩ rfl rfl), IH_sam hI.2.2.1 (zSam_fr (zSam_fr (zSam_fr (zSam_fr (zSam_gr K h rfl rfl) F4 ⟨rfl, rfl⟩ rfl rfl) v2 ⟨rfl, rfl⟩ rfl rfl) x2 ⟨rfl, rfl⟩ rfl rfl) F5 ⟨rfl, rfl⟩ rfl rfl), IL_sam hI.2.2.2.1 (zSam_fr (zSam_fr (zSam_fr (zSam_fr (zSam_gr K h rfl rfl) F4 ⟨rfl, rfl⟩ rfl rfl) v2 ⟨rfl, rfl⟩ rfl rfl) x2 ⟨rfl, rfl⟩ rfl rfl) F5 ⟨rfl, rfl⟩ rfl rfl), IP_sam hI.2.2.2.2.1 (zSam_fr (zSam_fr (zSam_fr (zSam_fr (zSam_gr K h rfl rfl) F4 ⟨rfl, rfl⟩ rfl rfl) v2 ⟨rfl, rfl⟩ rfl rfl) x2 ⟨rfl, rfl⟩ rfl rfl) F5 ⟨rfl, rfl⟩ rfl rfl), ?_, ?_, ?_, IO_sam hI.2.2.2.2.2.2.2.2.1 (zSam_fr (zSam_fr (zSam_fr (zSam_fr (zSam_gr K h rfl rfl) F4 ⟨rfl, rfl⟩ rfl rfl) v2 ⟨rfl, rfl⟩ rfl rfl) x2 ⟨rfl, rfl⟩ rfl rfl) F5 ⟨rfl, rfl⟩ rfl rfl), IW_sam hI.2.2.2.2.2.2.2.2.2.1 (zSam_fr (zSam_fr (zSam_fr (zSam_fr (zSam_gr K h rfl rfl) F4 ⟨rfl, rfl⟩ rfl rfl) v2 ⟨rfl, rfl⟩ rfl rfl) x2 ⟨rfl, rfl⟩ rfl rfl) F5 ⟨rfl, rfl⟩ rfl rfl), IG_sam hI.2.2.2.2.2.2.2.2.2.2.1 (zSam_fr (zSam_fr (zSam_fr (zSam_fr (zSam_gr K h rfl rfl) F4 ⟨rfl, rfl⟩ rfl rfl) v2 ⟨rfl, rfl⟩ rfl rfl) x2 ⟨rfl, rfl⟩ rfl rfl) F5 ⟨rfl, rfl⟩ rfl rfl), ID_sam hI.2.2.2.2.2.2.2.2.2.2.2.1 (zSam_fr (zSam_fr (zSam_fr (zSam_fr (zSam_gr K h rfl rfl) F4 ⟨rfl, rfl⟩ rfl rfl) v2 ⟨rfl, rfl⟩ rfl rfl) x2 ⟨rfl, rfl⟩ rfl rfl) F5 ⟨rfl, rfl⟩ rfl rfl), IR_sam hI.2.2.2.2.2.2.2.2.2.2.2.2.1 (zSam_fr (zSam_fr (zSam_fr (zSam_fr (zSam_gr K h rfl rfl) F4 ⟨rfl, rfl⟩ rfl rfl) v2 ⟨rfl, rfl⟩ rfl rfl) x2 ⟨rfl, rfl⟩ rfl rfl) F5 ⟨rfl, rfl⟩ rfl rfl), IE_sam hI.2.2.2.2.2.2.2.2.2.2.2.2.2.1 (zSam_fr (zSam_fr (zSam_fr (zSam_fr (zSam_gr K h rfl rfl) F4 ⟨rfl, rfl⟩ rfl rfl) v2 ⟨rfl, rfl⟩ rfl rfl) x2 ⟨rfl, rfl⟩ rfl rfl) F5 ⟨rfl, rfl⟩ rfl rfl), IV_sam hI.2.2.2.2.2.2.2.2.2.2.2.2.2.2.1 (zSam_fr (zSam_fr (zSam_fr (zSam_fr (zSam_gr K h rfl rfl) F4 ⟨rfl, rfl⟩ rfl rfl) v2 ⟨rfl, rfl⟩ rfl rfl) x2 ⟨rfl, rfl⟩ rfl rfl) F5 ⟨rfl, rfl⟩ rfl rfl), IC_sam hI.2.2.2.2.2.2.2.2.2.2.2.2.2.2.2 (zSam_fr (zSam_fr (zSam_fr (zSam_fr (zSam_gr K h rfl rfl) F4 ⟨rfl, rfl⟩ rfl rfl) v2 ⟨rfl, rfl⟩ rfl rfl) x2 ⟨rfl, rfl⟩ rfl rfl) F5 ⟨rfl, rfl⟩ rfl rfl)⟩ ?_ ?_
    · have old : ∀ j, j < 6 * a → ga (zpf x1 35 1222 (.int (nI (tsf G)))) 47 j = ga w 47 j := by
        intro j hj
        rw [F5.hga rfl rfl, x4 j hj, v2.hga rfl rfl, F4.hga rfl rfl]
        exact ga_eq (K.2 47 (by omega) (by decide) (by decide)) j
      have oldr : ∀ i, i < a → gr (zpf x1 35 1222 (.int (nI (tsf G)))) 7 i = gr w 7 i := by
        intro i hi
        rw [F5.hgr rfl rfl, x2.hgr rfl rfl, v2.hgr rfl rfl, F4.hgr rfl rfl, k5 i hi, f1.hgr rfl rfl]
      refine ⟨a, ha, ?_, ?_, fun i hi => iaB_old (hA i hi) (fun j hj => old j (by omega)) (oldr i hi) (fun b b1 b2 => ?_)⟩
      · rw [F5.hgi rfl (by decide) rfl, x2.hgi rfl (by decide) rfl, v2.hgi rfl (by decide) rfl, F4.hgi rfl (by decide) rfl]
        exact (gi_eq (K.2 0 (by omega) (by decide) (by decide)) _).trans a1
      · rw [F5.hgi rfl (by decide) rfl, x2.hgi rfl (by decide) rfl, v2.hgi rfl (by decide) rfl, F4.hgi rfl (by decide) rfl]
        exact d3
      · exact (zSam_fr (zSam_fr (zSam_fr (zSam_fr (zSam_gr (ints := []) (arrs := []) K h rfl rfl) F4 ⟨rfl, rfl⟩ rfl rfl) v2 ⟨rfl, rfl⟩ rfl rfl) x2 ⟨rfl, rfl⟩ rfl rfl) F5 ⟨rfl, rfl⟩ rfl rfl).2.2.1 b b1 b2
    · unfold IF
      rw [gi_pf3 (by decide) (Sh.some hx (by decide) (by decide +kernel) (by decide +kernel)), F5.hgi rfl (by decide) rfl, x2.hgi rfl (by decide) rfl, v2.hgi rfl (by decide) rfl]
      exact gi_pf3 (by decide) (Sh.some h3 (by decide) (by decide +kernel) (by decide +kernel))
    · refine ⟨0, by decide, ?_, ?_, fun i hi => by omega⟩
      · rw [F5.hgi rfl (by decide) rfl, x2.hgi rfl (by decide) rfl, v2.hgi rfl (by decide) rfl, gi_pf1 (by decide)]
        exact gi_pf3 (by decide) (Sh.some h2 (by decide) (by decide +kernel) (by decide +kernel))
      · rw [F5.hgi rfl (by decide) rfl, x2.hgi rfl (by decide) rfl]
        exact v5
    · rw [F5.len, x2.len, v2.len, F4.len]
      have := f1.len
      omega
    · rw [F5.sz, x2.sz, v2.sz, F4.sz]
      have := f1.sz
      omega
