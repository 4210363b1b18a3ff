/-! one act: the model, together -/
theorem i_TW {W : List Nat} {t : Nat → Nat} {n : Nat} {S : zTk} (h : tsf S ≠ 0) : pTW W t n S = S := by unfold pTW; rw [if_neg h]
theorem i_TN {a b : Nat} {t : Nat → Nat} {n : Nat} {S : zTk} (h : tsf S ≠ 0) : pTN a b t n S = S := by unfold pTN; rw [if_neg h]
theorem i_TG {t : Nat → Nat} {n : Nat} {S : zTk} (h : tsf S ≠ 0) : pTG t n S = S := by unfold pTG; rw [if_neg h]
theorem i_Tv {W : List Nat} {t : Nat → Nat} {S : zTk} (h : tsf S ≠ 0) : pTv W t S = none := by unfold pTv; rw [if_neg h]
theorem rG_id {t : Nat → Nat} {n : Nat} {S : zTk} (h : tsf (pTW sAct t n S) ≠ 0) : rG t n S = pTW sAct t n S := by
  unfold rG rF rE rD rC rB rA
  generalize pTW sAct t n S = G at *
  rw [i_TN h, i_TW h, i_TN h, i_TW h, i_TW h, i_Tv h, if_neg (by decide), i_TW h, i_TG h]
theorem m_readAct {t : Nat → Nat} {n a : Nat} {S : zTk} {u : zH} (H : mO t n S u) (hf : tsf S = 0) (ha : a < 24) (ca : gi u 35 1219 = nI a) : ∃ u' : zH, zFr [47] fM u u' ∧ mO t n (rG t n S) u' ∧ (∀ j, j < 6 * a → ga u' 47 j = ga u 47 j) ∧ (tsf (rG t n S) = 0 → gi u' 35 1219 = nI (a + 1) ∧ ga u' 47 (6 * a) = vDay t n S ∧ ga u' 47 (6 * a + 1) = vGrade t n S ∧ ga u' 47 (6 * a + 2) = vSort t n S ∧ ga u' 47 (6 * a + 3) = vWork t n S ∧ ga u' 47 (6 * a + 4) = vOlder t n S ∧ ga u' 47 (6 * a + 5) = vLeave t n S) ∧ zrun none (178, 0, [.ref 35, zJ], [], u) = some (none, u') := by
  obtain ⟨u1, f1, g1, a1, x1, y1⟩ := m_act1 H hf ha ca
  by_cases q : tsf (pTW sAct t n S) = 0
  rotate_left
  · rw [rG_id q]
    refine ⟨u1, f1.mono rfl rfl, g1, fun j _ => a1 j, fun z => absurd z q, x1 q⟩
  obtain ⟨u2, f2, g2, a2, b2, e2⟩ := m_act2 g1 ha
  rw [show pTN 0 99999 t n (pTW sAct t n S) = rA t n S from rfl] at g2 b2
  obtain ⟨u3, f3, g3, a3, b3, e3⟩ := m_act3 g2 ha
  rw [show pTN 1 3 t n (pTW sGrade t n (rA t n S)) = rB t n S from rfl] at g3 b3
  obtain ⟨u4, f4, g4, a4, b4, e4⟩ := m_act4 g3 ha
  rw [show pTW sSort t n (rB t n S) = rC t n S from rfl] at g4
  obtain ⟨u5, f5, g5, a5, b5, e5⟩ := m_act5 g4 ha
  rw [show pTW sWork t n (rC t n S) = rD t n S from rfl] at g5
  obtain ⟨u6, f6, g6, a6, b6, e6⟩ := m_act6 g5 ha
  rw [show (if (pTv sOlder t (rD t n S)).isSome = true then pTN 0 999 t n (pTW sOlder t n (rD t n S)) else rD t n S) = rE t n S from rfl] at g6 b6
  rw [show (if (pTv sOlder t (rD t n S)).isSome = true then nI (pVal t (pTW sOlder t n (rD t n S))) else 0) = vOlder t n S from rfl] at b6
  obtain ⟨u7, f7, g7, a7, b7, e7⟩ := m_act7 g6 ha
  rw [show pTW sEnd t n (rE t n S) = rF t n S from rfl] at g7
  rw [show (if pTv sEnd t (rE t n S) = some 0 then (1 : Int32) else 0) = vLeave t n S from rfl] at b7
  have F := f1.trans (f2.trans (f3.trans (f4.trans (f5.trans (f6.trans f7)))))
  have c7 : gi u7 35 1219 = nI a := by rw [F.hgi rfl (by decide) rfl]; exact ca
  obtain ⟨u8, f8, g8, c8, e8⟩ := m_act8 (v := .int (nI (6 * a))) g7 c7
  rw [show pTG t n (rF t n S) = rG t n S from rfl] at g8
  have k8 : ∀ j, ga u8 47 j = ga u7 47 j := fun j => f8.hga rfl rfl
  refine ⟨u8, (F.mono rfl rfl).trans (f8.mono rfl rfl), g8, fun j hj => ?_, fun z => ?_, ?_⟩
  · rw [k8, a7 j (by omega), a6 j (by omega), a5 j (by omega), a4 j (by omega), a3 j (by omega), a2 j (by omega), a1]
  · have zE := f_G z
    have zD := f_E zE
    have zz := f_D zD
    refine ⟨c8, ?_, ?_, ?_, ?_, ?_, ?_⟩
    · rw [k8, a7 _ (by omega), a6 _ (by omega), a5 _ (by omega), a4 _ (by omega), a3 _ (by omega)]
      exact b2 zz.2.2
    · rw [k8, a7 _ (by omega), a6 _ (by omega), a5 _ (by omega), a4 _ (by omega)]
      exact b3 zz.2.1
    · rw [k8, a7 _ (by omega), a6 _ (by omega), a5 _ (by omega)]
      exact b4 zz.2.1
    · rw [k8, a7 _ (by omega), a6 _ (by omega)]
      exact b5 zz.1
    · rw [k8, a7 _ (by omega)]
      exact b6 zE
    · rw [k8]
      exact b7 zE
  · rw [y1 q, e2, e3, e4, e5, e6, e7, e8]
theorem m_full {t : Nat → Nat} {n : Nat} {S : zTk} {u : zH} (H : mO t n S u) (hf : tsf S = 0) (ca : gi u 35 1219 = nI 24) : ∃ u' : zH, zFr [47] fM u u' ∧ mO t n (pRef S (if (pTv sAct t S).isSome = true then 3 else 1)) u' ∧ (∀ j, ga u' 47 j = ga u 47 j) ∧ zrun none (178, 0, [.ref 35, zJ], [], u) = some (none, u') := by
  have z := m_is (C := sAct) (c := 6382452) H.2.2.2 (by decide) (by decide) (by decide) (by decide +kernel)
  have mw := m_word H
  have h := H.1
  have p0 := i_35 h
  have eo : (pTv sAct t S).isSome = isW sAct t S := by unfold pTv; rw [if_pos hf, is_act]
  rw [eo]
  by_cases b : isW sAct t S = true
  · rw [if_pos b]
    obtain ⟨u1, f1, g1, e1⟩ := m_bad (c := 3) H (by decide)
    have q : tsf (pRef S 3) ≠ 0 := by rw [pRef_f hf]; decide
    have mw1 := m_word g1
    have z1 := m_is (C := sAct) (c := 6382452) g1.2.2.2 (by decide) (by decide) (by decide) (by decide +kernel)
    have eb : isW sAct t (pRef S 3) = true := by
      rw [show pRef S 3 = (tsk S, tss S, tsx S, 3, tss S) by unfold pRef; rw [if_pos hf]]
      exact b
    obtain ⟨u2, f2, g2, e2⟩ := m_need g1 true
    rw [if_pos rfl] at e2
    rw [show pNd true t n (pRef S 3) = pRef S 3 by unfold pNd; rw [if_neg q]] at g2
    have h1 := g1.1
    have h2 := g2.1
    have p1 := i_35 h1
    have c6 := g2.2.2.1.2.2.2.2.2.1
    rw [pRef_f hf] at c6
    refine ⟨u2, (f1.mono rfl rfl).trans (f2.mono rfl rfl), g2, fun j => (f2.hga rfl rfl).trans (f1.hga rfl rfl), ?_⟩
    simp (disch := first | exact Nat.le_of_ble_eq_true rfl | exact zct_i _ | exact zct_r _ | exact zct_J | exact zct_n | with_reducible assumption | (with_reducible show (zf _ _ _).isSome = true; exact Sh.some (by repeat first | with_reducible assumption | (with_reducible refine Sh.pf ?_ ?_; rotate_left 1; exact fun _ => by decide +kernel) | (with_reducible refine Sh.as ?_ ?_; rotate_left 1; exact fun _ => by decide +kernel) | (with_reducible refine Sh.asr ?_ ?_; rotate_left 1; exact fun _ => by decide +kernel) | with_reducible refine Sh.push ?_ | (with_reducible refine Sh.pfn ?_ ?_; rotate_left 1; omega) | (with_reducible refine Sh.asn ?_ ?_; rotate_left 1; omega)) (by decide) (by decide +kernel) (by decide +kernel)) | exact rfl | exact zb01 _ | decide | fail) only [e178_0, e178_1, e178_4, e178_7, e178_8, e178_11, e178_12, e178_15, e178_17, e178_20, e178_21, e178_22, e178_25, e178_26, e178_27, e178_30, e178_33, e178_34, e178_37, e178_38, e178_41, e178_42, e178_45, e178_46, e178_49, e178_52, e178_53, e178_55, e178_56, e178_59, e178_60, zgd_true, zcl_ite, zX, Nat.reduceLT, Option.isSome_some, true_and, and_true, zo_some, zoi_some, zon_some, zcl_some, Option.toList_some, Option.toList_none, List.cons_append, List.nil_append, ite_true, ite_false, ↓reduceIte, z10, eq_self, not_true_eq_false, not_false_eq_true, and_self, or_true, true_or, i_35 h, f_35_1200 h, f_35_1201 h, f_35_1202 h, f_35_1203 h, f_35_1204 h, f_35_1205 h, f_35_1206 h, f_35_1207 h, f_35_1208 h, f_35_1209 h, f_35_1210 h, f_35_1211 h, f_35_1212 h, f_35_1213 h, f_35_1214 h, f_35_1215 h, f_35_1216 h, f_35_1217 h, f_35_1218 h, f_35_1219 h, f_35_1220 h, f_35_1221 h, f_35_1222 h, f_35_1223 h, f_35_1224 h, f_35_1225 h, f_35_1226 h, f_35_1227 h, f_35_1228 h, f_35_1229 h, f_35_1230 h, f_35_1231 h, f_35_1232 h, f_35_1233 h, f_35_1234 h, f_35_1235 h, f_35_1236 h, f_35_1237 h, f_35_1238 h, f_35_1239 h, f_35_1240 h, f_35_1241 h, f_35_1242 h, f_35_1243 h, f_35_1244 h, f_35_1245 h, f_35_1246 h, f_35_1247 h, f_35_1248 h, f_35_1249 h, f_35_1250 h, i_35 h1, f_35_1200 h1, f_35_1201 h1, f_35_1202 h1, f_35_1203 h1, f_35_1204 h1, f_35_1205 h1, f_35_1206 h1, f_35_1207 h1, f_35_1208 h1, f_35_1209 h1, f_35_1210 h1, f_35_1211 h1, f_35_1212 h1, f_35_1213 h1, f_35_1214 h1, f_35_1215 h1, f_35_1216 h1, f_35_1217 h1, f_35_1218 h1, f_35_1219 h1, f_35_1220 h1, f_35_1221 h1, f_35_1222 h1, f_35_1223 h1, f_35_1224 h1, f_35_1225 h1, f_35_1226 h1, f_35_1227 h1, f_35_1228 h1, f_35_1229 h1, f_35_1230 h1, f_35_1231 h1, f_35_1232 h1, f_35_1233 h1, f_35_1234 h1, f_35_1235 h1, f_35_1236 h1, f_35_1237 h1, f_35_1238 h1, f_35_1239 h1, f_35_1240 h1, f_35_1241 h1, f_35_1242 h1, f_35_1243 h1, f_35_1244 h1, f_35_1245 h1, f_35_1246 h1, f_35_1247 h1, f_35_1248 h1, f_35_1249 h1, f_35_1250 h1, i_35 h2, f_35_1200 h2, f_35_1201 h2, f_35_1202 h2, f_35_1203 h2, f_35_1204 h2, f_35_1205 h2, f_35_1206 h2, f_35_1207 h2, f_35_1208 h2, f_35_1209 h2, f_35_1210 h2, f_35_1211 h2, f_35_1212 h2, f_35_1213 h2, f_35_1214 h2, f_35_1215 h2, f_35_1216 h2, f_35_1217 h2, f_35_1218 h2, f_35_1219 h2, f_35_1220 h2, f_35_1221 h2, f_35_1222 h2, f_35_1223 h2, f_35_1224 h2, f_35_1225 h2, f_35_1226 h2, f_35_1227 h2, f_35_1228 h2, f_35_1229 h2, f_35_1230 h2, f_35_1231 h2, f_35_1232 h2, f_35_1233 h2, f_35_1234 h2, f_35_1235 h2, f_35_1236 h2, f_35_1237 h2, f_35_1238 h2, f_35_1239 h2, f_35_1240 h2, f_35_1241 h2, f_35_1242 h2, f_35_1243 h2, f_35_1244 h2, f_35_1245 h2, f_35_1246 h2, f_35_1247 h2, f_35_1248 h2, f_35_1249 h2, f_35_1250 h2, p0, p1, mw, z, eq_true b, ca, show (nI 24 = 24) = True from eq_true rfl, show zrun none (172, 0, [.ref 35, .int 3], [], u) = _ from e1, mw1, z1, eq_true eb, e2, c6, show (nI 3 ≤ 0) = False from eq_false (by decide)]
  · rw [if_neg b]
    obtain ⟨u2, f2, g2, e2⟩ := m_need H false
    rw [if_neg (by decide)] at e2
    rw [show pNd false t n S = pRef S 1 by unfold pNd; rw [if_pos hf, if_neg (by decide)]] at g2
    have h2 := g2.1
    have c6 := g2.2.2.1.2.2.2.2.2.1
    rw [pRef_f hf] at c6
    refine ⟨u2, f2.mono rfl rfl, g2, fun j => f2.hga rfl rfl, ?_⟩
    simp (disch := first | exact Nat.le_of_ble_eq_true rfl | exact zct_i _ | exact zct_r _ | exact zct_J | exact zct_n | with_reducible assumption | (with_reducible show (zf _ _ _).isSome = true; exact Sh.some (by repeat first | with_reducible assumption | (with_reducible refine Sh.pf ?_ ?_; rotate_left 1; exact fun _ => by decide +kernel) | (with_reducible refine Sh.as ?_ ?_; rotate_left 1; exact fun _ => by decide +kernel) | (with_reducible refine Sh.asr ?_ ?_; rotate_left 1; exact fun _ => by decide +kernel) | with_reducible refine Sh.push ?_ | (with_reducible refine Sh.pfn ?_ ?_; rotate_left 1; omega) | (with_reducible refine Sh.asn ?_ ?_; rotate_left 1; omega)) (by decide) (by decide +kernel) (by decide +kernel)) | exact rfl | exact zb01 _ | decide | fail) only [e178_0, e178_1, e178_4, e178_7, e178_8, e178_11, e178_12, e178_15, e178_17, e178_20, e178_21, e178_22, e178_25, e178_26, e178_27, e178_30, e178_33, e178_34, e178_37, e178_38, e178_41, e178_42, e178_45, e178_46, e178_49, e178_52, e178_53, e178_55, e178_56, e178_59, e178_60, zgd_true, zcl_ite, zX, Nat.reduceLT, Option.isSome_some, true_and, and_true, zo_some, zoi_some, zon_some, zcl_some, Option.toList_some, Option.toList_none, List.cons_append, List.nil_append, ite_true, ite_false, ↓reduceIte, z10, eq_self, not_true_eq_false, not_false_eq_true, and_self, or_true, true_or, i_35 h, f_35_1200 h, f_35_1201 h, f_35_1202 h, f_35_1203 h, f_35_1204 h, f_35_1205 h, f_35_1206 h, f_35_1207 h, f_35_1208 h, f_35_1209 h, f_35_1210 h, f_35_1211 h, f_35_1212 h, f_35_1213 h, f_35_1214 h, f_35_1215 h, f_35_1216 h, f_35_1217 h, f_35_1218 h, f_35_1219 h, f_35_1220 h, f_35_1221 h, f_35_1222 h, f_35_1223 h, f_35_1224 h, f_35_1225 h, f_35_1226 h, f_35_1227 h, f_35_1228 h, f_35_1229 h, f_35_1230 h, f_35_1231 h, f_35_1232 h, f_35_1233 h, f_35_1234 h, f_35_1235 h, f_35_1236 h, f_35_1237 h, f_35_1238 h, f_35_1239 h, f_35_1240 h, f_35_1241 h, f_35_1242 h, f_35_1243 h, f_35_1244 h, f_35_1245 h, f_35_1246 h, f_35_1247 h, f_35_1248 h, f_35_1249 h, f_35_1250 h, i_35 h2, f_35_1200 h2, f_35_1201 h2, f_35_1202 h2, f_35_1203 h2, f_35_1204 h2, f_35_1205 h2, f_35_1206 h2, f_35_1207 h2, f_35_1208 h2, f_35_1209 h2, f_35_1210 h2, f_35_1211 h2, f_35_1212 h2, f_35_1213 h2, f_35_1214 h2, f_35_1215 h2, f_35_1216 h2, f_35_1217 h2, f_35_1218 h2, f_35_1219 h2, f_35_1220 h2, f_35_1221 h2, f_35_1222 h2, f_35_1223 h2, f_35_1224 h2, f_35_1225 h2, f_35_1226 h2, f_35_1227 h2, f_35_1228 h2, f_35_1229 h2, f_35_1230 h2, f_35_1231 h2, f_35_1232 h2, f_35_1233 h2, f_35_1234 h2, f_35_1235 h2, f_35_1236 h2, f_35_1237 h2, f_35_1238 h2, f_35_1239 h2, f_35_1240 h2, f_35_1241 h2, f_35_1242 h2, f_35_1243 h2, f_35_1244 h2, f_35_1245 h2, f_35_1246 h2, f_35_1247 h2, f_35_1248 h2, f_35_1249 h2, f_35_1250 h2, p0, mw, z, eq_false b, e2, c6, show (nI 1 ≤ 0) = False from eq_false (by decide)]
