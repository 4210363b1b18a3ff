/-! all acts: the model's loop -/
def mAt (t : Nat → Nat) (n : Nat) (u : zH) (i : Nat) (S : zTk) : Prop := ga u 47 (6 * i) = vDay t n S ∧ ga u 47 (6 * i + 1) = vGrade t n S ∧ ga u 47 (6 * i + 2) = vSort t n S ∧ ga u 47 (6 * i + 3) = vWork t n S ∧ ga u 47 (6 * i + 4) = vOlder t n S ∧ ga u 47 (6 * i + 5) = vLeave t n S
theorem rL_1 {t : Nat → Nat} {n d : Nat} {S : zTk} (ho : ovr S) : (rL t n d S).1 = S := by rw [rL_o ho]
theorem m_acts_over {t : Nat → Nat} {n : Nat} {S : zTk} {u : zH} (H : mO t n S u) (ho : ovr S) : zrun none (179, 40, [.ref 35], [], u) = zrun none (179, 62, [.ref 35], [], u) := by
  obtain ⟨h, hT, ⟨c1, c2, c3, c4, c5, c6, c7⟩, hk⟩ := H
  rw [e179_40]
  by_cases f0 : tsf S = 0
  · have k0 : tsk S = 0 := ho.elim (fun z => absurd f0 z) id
    rw [f0] at c6
    rw [k0] at c3
    simp (disch := first | exact Nat.le_of_ble_eq_true rfl | exact zct_i _ | exact zct_r _ | exact zct_J | exact zct_n | with_reducible assumption | (with_reducible show (zf _ _ _).isSome = true; exact Sh.some (by repeat first | with_reducible assumption | (with_reducible refine Sh.pf ?_ ?_; rotate_left 1; exact fun _ => by decide +kernel) | (with_reducible refine Sh.as ?_ ?_; rotate_left 1; exact fun _ => by decide +kernel) | (with_reducible refine Sh.asr ?_ ?_; rotate_left 1; exact fun _ => by decide +kernel) | with_reducible refine Sh.push ?_ | (with_reducible refine Sh.pfn ?_ ?_; rotate_left 1; omega) | (with_reducible refine Sh.asn ?_ ?_; rotate_left 1; omega)) (by decide) (by decide +kernel) (by decide +kernel)) | exact rfl | exact zb01 _ | decide | fail) only [e179_41, e179_44, e179_47, e179_48, e179_51, e179_52, e179_55, e179_56, e179_59, zgd_true, zcl_ite, zX, Nat.reduceLT, Option.isSome_some, true_and, and_true, zo_some, zoi_some, zon_some, zcl_some, Option.toList_some, Option.toList_none, List.cons_append, List.nil_append, ite_true, ite_false, ↓reduceIte, z10, eq_self, not_true_eq_false, not_false_eq_true, and_self, or_true, true_or, i_35 h, f_35_1200 h, f_35_1201 h, f_35_1202 h, f_35_1203 h, f_35_1204 h, f_35_1205 h, f_35_1206 h, f_35_1207 h, f_35_1208 h, f_35_1209 h, f_35_1210 h, f_35_1211 h, f_35_1212 h, f_35_1213 h, f_35_1214 h, f_35_1215 h, f_35_1216 h, f_35_1217 h, f_35_1218 h, f_35_1219 h, f_35_1220 h, f_35_1221 h, f_35_1222 h, f_35_1223 h, f_35_1224 h, f_35_1225 h, f_35_1226 h, f_35_1227 h, f_35_1228 h, f_35_1229 h, f_35_1230 h, f_35_1231 h, f_35_1232 h, f_35_1233 h, f_35_1234 h, f_35_1235 h, f_35_1236 h, f_35_1237 h, f_35_1238 h, f_35_1239 h, f_35_1240 h, f_35_1241 h, f_35_1242 h, f_35_1243 h, f_35_1244 h, f_35_1245 h, f_35_1246 h, f_35_1247 h, f_35_1248 h, f_35_1249 h, f_35_1250 h, c6, c3, nI_0, show (nI (km 0) = 1) = True from eq_true rfl]
  · simp (disch := first | exact Nat.le_of_ble_eq_true rfl | exact zct_i _ | exact zct_r _ | exact zct_J | exact zct_n | with_reducible assumption | (with_reducible show (zf _ _ _).isSome = true; exact Sh.some (by repeat first | with_reducible assumption | (with_reducible refine Sh.pf ?_ ?_; rotate_left 1; exact fun _ => by decide +kernel) | (with_reducible refine Sh.as ?_ ?_; rotate_left 1; exact fun _ => by decide +kernel) | (with_reducible refine Sh.asr ?_ ?_; rotate_left 1; exact fun _ => by decide +kernel) | with_reducible refine Sh.push ?_ | (with_reducible refine Sh.pfn ?_ ?_; rotate_left 1; omega) | (with_reducible refine Sh.asn ?_ ?_; rotate_left 1; omega)) (by decide) (by decide +kernel) (by decide +kernel)) | exact rfl | exact zb01 _ | decide | fail) only [e179_41, e179_44, e179_47, e179_48, e179_51, e179_52, e179_55, e179_56, e179_59, zgd_true, zcl_ite, zX, Nat.reduceLT, Option.isSome_some, true_and, and_true, zo_some, zoi_some, zon_some, zcl_some, Option.toList_some, Option.toList_none, List.cons_append, List.nil_append, ite_true, ite_false, ↓reduceIte, z10, eq_self, not_true_eq_false, not_false_eq_true, and_self, or_true, true_or, i_35 h, f_35_1200 h, f_35_1201 h, f_35_1202 h, f_35_1203 h, f_35_1204 h, f_35_1205 h, f_35_1206 h, f_35_1207 h, f_35_1208 h, f_35_1209 h, f_35_1210 h, f_35_1211 h, f_35_1212 h, f_35_1213 h, f_35_1214 h, f_35_1215 h, f_35_1216 h, f_35_1217 h, f_35_1218 h, f_35_1219 h, f_35_1220 h, f_35_1221 h, f_35_1222 h, f_35_1223 h, f_35_1224 h, f_35_1225 h, f_35_1226 h, f_35_1227 h, f_35_1228 h, f_35_1229 h, f_35_1230 h, f_35_1231 h, f_35_1232 h, f_35_1233 h, f_35_1234 h, f_35_1235 h, f_35_1236 h, f_35_1237 h, f_35_1238 h, f_35_1239 h, f_35_1240 h, f_35_1241 h, f_35_1242 h, f_35_1243 h, f_35_1244 h, f_35_1245 h, f_35_1246 h, f_35_1247 h, f_35_1248 h, f_35_1249 h, f_35_1250 h, c6, (nI3 hk.2.2.2.1 f0).1]
theorem m_acts_go {t : Nat → Nat} {n : Nat} {S : zTk} {u u' : zH} (H : mO t n S u) (ho : ¬ ovr S) (e : zrun none (178, 0, [.ref 35, zJ], [], u) = some (none, u')) : zrun none (179, 40, [.ref 35], [], u) = zrun none (179, 40, [.ref 35], [], u') := by
  obtain ⟨h, hT, ⟨c1, c2, c3, c4, c5, c6, c7⟩, hk⟩ := H
  have p0 := i_35 h
  have f0 : tsf S = 0 := Classical.byContradiction (fun z => ho (Or.inl z))
  have k0 : ¬ tsk S = 0 := fun z => ho (Or.inr z)
  rw [f0] at c6
  have q : (nI (km (tsk S)) = 1) = False := eq_false (fun z => k0 (Eq.mp (km_eq (j := 0) hk.1 (by decide)) z))
  have l : zrun none (179, 40, [.ref 35], [], u) = _ := e179_40 _ _ _
  refine l.trans ?_
  simp (disch := first | exact Nat.le_of_ble_eq_true rfl | exact zct_i _ | exact zct_r _ | exact zct_J | exact zct_n | with_reducible assumption | (with_reducible show (zf _ _ _).isSome = true; exact Sh.some (by repeat first | with_reducible assumption | (with_reducible refine Sh.pf ?_ ?_; rotate_left 1; exact fun _ => by decide +kernel) | (with_reducible refine Sh.as ?_ ?_; rotate_left 1; exact fun _ => by decide +kernel) | (with_reducible refine Sh.asr ?_ ?_; rotate_left 1; exact fun _ => by decide +kernel) | with_reducible refine Sh.push ?_ | (with_reducible refine Sh.pfn ?_ ?_; rotate_left 1; omega) | (with_reducible refine Sh.asn ?_ ?_; rotate_left 1; omega)) (by decide) (by decide +kernel) (by decide +kernel)) | exact rfl | exact zb01 _ | decide | fail) only [e179_41, e179_44, e179_47, e179_48, e179_51, e179_52, e179_55, e179_56, e179_59, zgd_true, zcl_ite, zX, Nat.reduceLT, Option.isSome_some, true_and, and_true, zo_some, zoi_some, zon_some, zcl_some, Option.toList_some, Option.toList_none, List.cons_append, List.nil_append, ite_true, ite_false, ↓reduceIte, z10, eq_self, not_true_eq_false, not_false_eq_true, and_self, or_true, true_or, i_35 h, f_35_1200 h, f_35_1201 h, f_35_1202 h, f_35_1203 h, f_35_1204 h, f_35_1205 h, f_35_1206 h, f_35_1207 h, f_35_1208 h, f_35_1209 h, f_35_1210 h, f_35_1211 h, f_35_1212 h, f_35_1213 h, f_35_1214 h, f_35_1215 h, f_35_1216 h, f_35_1217 h, f_35_1218 h, f_35_1219 h, f_35_1220 h, f_35_1221 h, f_35_1222 h, f_35_1223 h, f_35_1224 h, f_35_1225 h, f_35_1226 h, f_35_1227 h, f_35_1228 h, f_35_1229 h, f_35_1230 h, f_35_1231 h, f_35_1232 h, f_35_1233 h, f_35_1234 h, f_35_1235 h, f_35_1236 h, f_35_1237 h, f_35_1238 h, f_35_1239 h, f_35_1240 h, f_35_1241 h, f_35_1242 h, f_35_1243 h, f_35_1244 h, f_35_1245 h, f_35_1246 h, f_35_1247 h, f_35_1248 h, f_35_1249 h, f_35_1250 h, c6, c3, nI_0, q, p0, e]
theorem m_acts_loop {t : Nat → Nat} {n : Nat} : ∀ (d a : Nat) (S : zTk) (u : zH), a + d = 24 → mO t n S u → gi u 35 1219 = nI a → ∃ u' : zH, zFr [47] fM u u' ∧ mO t n (rL t n d S).1 u' ∧ (∀ j, j < 6 * a → ga u' 47 j = ga u 47 j) ∧ (tsf (rL t n d S).1 = 0 → gi u' 35 1219 = nI (24 - (rL t n d S).2) ∧ ∀ j, j < d - (rL t n d S).2 → mAt t n u' (a + j) (itS t n j S)) ∧ zrun none (179, 40, [.ref 35], [], u) = zrun none (179, 62, [.ref 35], [], u') := by
  intro d
  induction d with
  | zero =>
    intro a S u ha H ca
    obtain rfl : a = 24 := by omega
    by_cases o : ovr S
    · rw [rL_o o]
      exact ⟨u, zFr.refl, H, fun _ _ => rfl, fun _ => ⟨ca, fun j hj => by omega⟩, m_acts_over H o⟩
    · rw [rL, if_neg o]
      have f0 : tsf S = 0 := Classical.byContradiction (fun z => o (Or.inl z))
      obtain ⟨u1, f1, g1, a1, e1⟩ := m_full H f0 ca
      have z1 : tsf (pRef S (if (pTv sAct t S).isSome = true then 3 else 1)) ≠ 0 := by
        rw [pRef_f f0]
        split <;> decide
      exact ⟨u1, f1, g1, fun j _ => a1 j, fun z => absurd z z1, (m_acts_go H o e1).trans (m_acts_over g1 (Or.inl z1))⟩
  | succ d ih =>
    intro a S u ha H ca
    by_cases o : ovr S
    · rw [rL_o o]
      exact ⟨u, zFr.refl, H, fun _ _ => rfl, fun _ => ⟨by rw [ca]; show nI a = nI (24 - (d + 1)); rw [show 24 - (d + 1) = a by omega], fun j hj => by omega⟩, m_acts_over H o⟩
    rw [rL, if_neg o]
    have f0 : tsf S = 0 := Classical.byContradiction (fun z => o (Or.inl z))
    obtain ⟨u1, f1, g1, a1, b1, e1⟩ := m_readAct H f0 (show a < 24 by omega) ca
    by_cases z : tsf (rG t n S) = 0
    · obtain ⟨u2, f2, g2, a2, b2, e2⟩ := ih (a + 1) (rG t n S) u1 (by omega) g1 (b1 z).1
      refine ⟨u2, f1.trans f2, g2, fun j hj => ?_, fun y => ⟨(b2 y).1, fun j hj => ?_⟩, (m_acts_go H o e1).trans e2⟩
      · rw [a2 j (by omega), a1 j hj]
      · cases j with
        | zero =>
          obtain ⟨-, v1, v2, v3, v4, v5, v6⟩ := b1 z
          refine ⟨?_, ?_, ?_, ?_, ?_, ?_⟩
          all_goals rw [Nat.add_zero, a2 _ (by omega)]
          · exact v1
          · exact v2
          · exact v3
          · exact v4
          · exact v5
          · exact v6
        | succ j =>
          have := (b2 y).2 j (by omega)
          rw [show a + 1 + j = a + (j + 1) by omega] at this
          exact this
    · have nf := rL_nf t n d (rG t n S) z
      have ho : ovr (rG t n S) := Or.inl z
      refine ⟨u1, f1, ?_, a1, fun y => absurd y nf, (m_acts_go H o e1).trans (m_acts_over g1 ho)⟩
      rw [rL_1 ho]
      exact g1
