/-! THE CALLS' STATEMENTS, AND THE LAW OUT OF THEM (gen_47.py writes this) -/
/-- both answer alike, the invariant stays, few cells are new -/
def zOp (w : zH) (cx cm : zH → zC) : Prop := ∃ (r : Int32) (w1 w2 : zH), zrun none (cx w) = some (some (.int r), w1) ∧ zrun none (cm w1) = some (some (.int r), w2) ∧ zis w1 35 12 ∧ Inv w2 ∧ w2.length ≤ w.length + 30 ∧ zsz w2 ≤ zsz w + 300
def oK_sheet (w : zH) : Prop := ∀ (x0 : Int32) (x1 : Int32) (x2 : Int32), zOp w (fun w => (65, 0, [.ref 0, .int x0, .int x1, .int x2, zJ], [], w)) (fun w => (150, 0, [.ref 35, .int x0, .int x1, .int x2, zJ], [], w))
def oK_set (w : zH) : Prop := ∀ (x0 : Int32) (x1 : Int32) (x2 : Int32), zOp w (fun w => (66, 0, [.ref 0, .int x0, .int x1, .int x2, zJ], [], w)) (fun w => (151, 0, [.ref 35, .int x0, .int x1, .int x2], [], w))
def oK_copy (w : zH) : Prop := ∀ (x0 : Int32) (x1 : Int32) (x2 : Int32) (x3 : Int32) (x4 : Int32), zOp w (fun w => (67, 0, [.ref 0, .int x0, .int x1, .int x2, .int x3, .int x4, zJ, zJ], [], w)) (fun w => (152, 0, [.ref 35, .int x0, .int x1, .int x2, .int x3, .int x4, zJ, zJ, zJ], [], w))
def oK_drop (w : zH) : Prop := ∀ (x0 : Int32), zOp w (fun w => (68, 0, [.ref 0, .int x0, zJ], [], w)) (fun w => (153, 0, [.ref 35, .int x0], [], w))
def oK_house (w : zH) : Prop := zOp w (fun w => (69, 0, [.ref 0], [], w)) (fun w => (157, 0, [.ref 35], [], w))
def oK_list (w : zH) : Prop := ∀ (x0 : Int32) (x1 : Int32) (x2 : Int32) (x3 : Int32), zOp w (fun w => (70, 0, [.ref 0, .int x0, .int x1, .int x2, .int x3], [], w)) (fun w => (158, 0, [.ref 35, .int x0, .int x1, .int x2, .int x3], [], w))
def oK_grade (w : zH) : Prop := ∀ (x0 : Int32) (x1 : Int32) (x2 : Int32), zOp w (fun w => (71, 0, [.ref 0, .int x0, .int x1, .int x2], [], w)) (fun w => (160, 0, [.ref 35, .int x0, .int x1, .int x2], [], w))
def oK_part (w : zH) : Prop := ∀ (x0 : Int32) (x1 : Int32) (x2 : Int32) (x3 : Int32), zOp w (fun w => (72, 0, [.ref 0, .int x0, .int x1, .int x2, .int x3], [], w)) (fun w => (161, 0, [.ref 35, .int x0, .int x1, .int x2, .int x3], [], w))
def oK_told (w : zH) : Prop := ∀ (x0 : Int32) (x1 : Int32), zOp w (fun w => (73, 0, [.ref 0, .int x0, .int x1, zJ], [], w)) (fun w => (165, 0, [.ref 35, .int x0, .int x1], [], w))
def oK_feed (w : zH) : Prop := ∀ (x0 : Int64) (x1 : Int32), zOp w (fun w => (74, 0, [.ref 0, .long x0, zJ, .int x1], [], w)) (fun w => (167, 0, [.ref 35, .long x0, zJ, .int x1, zJ], [], w))
def oK_acts (w : zH) : Prop := zOp w (fun w => (75, 0, [.ref 0, zJ, zJ], [], w)) (fun w => (179, 0, [.ref 35], [], w))
def oK_fault (w : zH) : Prop := zOp w (fun w => (76, 0, [.ref 0], [], w)) (fun w => (180, 0, [.ref 35], [], w))
def oK_needs (w : zH) : Prop := ∀ (x0 : Int32) (x1 : Int32) (x2 : Int32) (x3 : Int32), zOp w (fun w => (77, 0, [.ref 0, .int x0, .int x1, .int x2, .int x3, zJ], [], w)) (fun w => (184, 0, [.ref 35, .int x0, .int x1, .int x2, .int x3], [], w))
def oK_leave (w : zH) : Prop := ∀ (x0 : Int32) (x1 : Int32) (x2 : Int32) (x3 : Int32) (x4 : Int32), zOp w (fun w => (78, 0, [.ref 0, .int x0, .int x1, .int x2, .int x3, .int x4], [], w)) (fun w => (185, 0, [.ref 35, .int x0, .int x1, .int x2, .int x3, .int x4, zJ], [], w))
def oK_prove (w : zH) : Prop := ∀ (x0 : Int32) (x1 : Int32) (x2 : Int32), zOp w (fun w => (79, 0, [.ref 0, .int x0, .int x1, .int x2, zJ], [], w)) (fun w => (187, 0, [.ref 35, .int x0, .int x1, .int x2], [], w))
def oK_ahead (w : zH) : Prop := ∀ (x0 : Int32) (x1 : Int32), zOp w (fun w => (80, 0, [.ref 0, .int x0, .int x1], [], w)) (fun w => (188, 0, [.ref 35, .int x0, .int x1], [], w))
def oK_conditions (w : zH) : Prop := ∀ (x0 : Int32) (x1 : Int32), zOp w (fun w => (81, 0, [.ref 0, .int x0, .int x1, zJ], [], w)) (fun w => (192, 0, [.ref 35, .int x0, .int x1, zJ, zJ], [], w))
def oK_row (w : zH) : Prop := ∀ (x0 : Int32) (x1 : Int32), zOp w (fun w => (82, 0, [.ref 0, .int x0, .int x1, zJ], [], w)) (fun w => (193, 0, [.ref 35, .int x0, .int x1, zJ, zJ, zJ], [], w))
def oK_work (w : zH) : Prop := ∀ (x0 : Int32) (x1 : Int32) (x2 : Int32), zOp w (fun w => (83, 0, [.ref 0, .int x0, .int x1, .int x2], [], w)) (fun w => (194, 0, [.ref 35, .int x0, .int x1, .int x2], [], w))
def oK_judged (w : zH) : Prop := ∀ (x0 : Int32) (x1 : Int32), zOp w (fun w => (84, 0, [.ref 0, .int x0, .int x1, zJ, zJ], [], w)) (fun w => (197, 0, [.ref 35, .int x0, .int x1, zJ, zJ], [], w))
def oK_grant (w : zH) : Prop := ∀ (x0 : Int32) (x1 : Int32), zOp w (fun w => (85, 0, [.ref 0, .int x0, .int x1], [], w)) (fun w => (199, 0, [.ref 35, .int x0, .int x1], [], w))
def oK_fund (w : zH) : Prop := ∀ (x0 : Int32) (x1 : Int32) (x2 : Int32) (x3 : Int32) (x4 : Int32), zOp w (fun w => (86, 0, [.ref 0, .int x0, .int x1, .int x2, .int x3, .int x4, zJ, zJ], [], w)) (fun w => (201, 0, [.ref 35, .int x0, .int x1, .int x2, .int x3, .int x4, zJ, zJ, zJ, zJ, zJ], [], w))
def oK_use (w : zH) : Prop := ∀ (x0 : Int32) (x1 : Int32) (x2 : Int32) (x3 : Int32) (x4 : Int32) (x5 : Int32) (x6 : Int32), zOp w (fun w => (87, 0, [.ref 0, .int x0, .int x1, .int x2, .int x3, .int x4, .int x5, .int x6, zJ, zJ, zJ], [], w)) (fun w => (202, 0, [.ref 35, .int x0, .int x1, .int x2, .int x3, .int x4, .int x5, .int x6, zJ, zJ, zJ, zJ, zJ], [], w))
def oK_enter (w : zH) : Prop := ∀ (x0 : Int32) (x1 : Int32) (x2 : Int32), zOp w (fun w => (88, 0, [.ref 0, .int x0, .int x1, .int x2], [], w)) (fun w => (204, 0, [.ref 35, .int x0, .int x1, .int x2], [], w))
def oK_weight (w : zH) : Prop := ∀ (x0 : Int32) (x1 : Int32), zOp w (fun w => (89, 0, [.ref 0, .int x0, .int x1], [], w)) (fun w => (205, 0, [.ref 35, .int x0, .int x1, zJ], [], w))
def oK_like (w : zH) : Prop := ∀ (x0 : Int32) (x1 : Int32) (x2 : Int32) (x3 : Int32), zOp w (fun w => (90, 0, [.ref 0, .int x0, .int x1, .int x2, .int x3, zJ, zJ], [], w)) (fun w => (209, 0, [.ref 35, .int x0, .int x1, .int x2, .int x3, zJ], [], w))
def oK_binds (w : zH) : Prop := ∀ (x0 : Int32) (x1 : Int32), zOp w (fun w => (91, 0, [.ref 0, .int x0, .int x1], [], w)) (fun w => (210, 0, [.ref 35, .int x0, .int x1, zJ, zJ, zJ], [], w))
def oK_sight (w : zH) : Prop := ∀ (x0 : Int32) (x1 : Int32) (x2 : Int32) (x3 : Int32) (x4 : Int32), zOp w (fun w => (92, 0, [.ref 0, .int x0, .int x1, .int x2, .int x3, .int x4, zJ, zJ], [], w)) (fun w => (213, 0, [.ref 35, .int x0, .int x1, .int x2, .int x3, .int x4, zJ, zJ, zJ, zJ, zJ, zJ, zJ, zJ, zJ], [], w))
def oK_day (w : zH) : Prop := ∀ (x0 : Int32), zOp w (fun w => (93, 0, [.ref 0, .int x0, zJ], [], w)) (fun w => (214, 0, [.ref 35, .int x0, zJ], [], w))
def oK_kind (w : zH) : Prop := ∀ (x0 : Int32), zOp w (fun w => (94, 0, [.ref 0, .int x0, zJ], [], w)) (fun w => (216, 0, [.ref 35, .int x0], [], w))
def oK_as (w : zH) : Prop := ∀ (x0 : Int32) (x1 : Int32), zOp w (fun w => (95, 0, [.ref 0, .int x0, .int x1, zJ], [], w)) (fun w => (217, 0, [.ref 35, .int x0, .int x1], [], w))
def oK_ask (w : zH) : Prop := ∀ (x0 : Int32) (x1 : Int32), zOp w (fun w => (96, 0, [.ref 0, .int x0, .int x1, zJ], [], w)) (fun w => (221, 0, [.ref 35, .int x0, .int x1, zJ], [], w))
def oK_trace (w : zH) : Prop := ∀ (x0 : Int32), zOp w (fun w => (97, 0, [.ref 0, .int x0], [], w)) (fun w => (222, 0, [.ref 35, .int x0], [], w))
def oK_count (w : zH) : Prop := ∀ (x0 : Int32), zOp w (fun w => (98, 0, [.ref 0, .int x0], [], w)) (fun w => (223, 0, [.ref 35, .int x0, zJ, zJ], [], w))
def oK_status (w : zH) : Prop := zOp w (fun w => (99, 0, [.ref 0], [], w)) (fun w => (224, 0, [.ref 35], [], w))
/-- every call of every world that holds the invariant -/
def zOps : Prop := ∀ w : zH, Inv w → w.length + 100 < zX → oK_sheet w ∧ oK_set w ∧ oK_copy w ∧ oK_drop w ∧ oK_house w ∧ oK_list w ∧ oK_grade w ∧ oK_part w ∧ oK_told w ∧ oK_feed w ∧ oK_acts w ∧ oK_fault w ∧ oK_needs w ∧ oK_leave w ∧ oK_prove w ∧ oK_ahead w ∧ oK_conditions w ∧ oK_row w ∧ oK_work w ∧ oK_judged w ∧ oK_grant w ∧ oK_fund w ∧ oK_use w ∧ oK_enter w ∧ oK_weight w ∧ oK_like w ∧ oK_binds w ∧ oK_sight w ∧ oK_day w ∧ oK_kind w ∧ oK_as w ∧ oK_ask w ∧ oK_trace w ∧ oK_count w ∧ oK_status w
theorem zcnd {n k : Nat} (hn : n ≤ 4096) (hk : k ≤ 8000) : Int32.ofNat n - 8 < nI k ↔ n < k + 8 := by
  rw [Int32.lt_iff_toInt_lt]
  show (nI n - nI 8).toInt < (nI k).toInt ↔ _
  rw [pk_sub_toInt (by omega) (by omega), nI_toInt (by omega)]
  omega
theorem zsx_get {xs : List Int32} (hx : xs.length ≤ 4096) {j : Nat} (hj : j < xs.length) : zsx (xs.map .int) (nI j) = some (xs.getD j 0) := by
  unfold zsx
  rw [if_neg (nI_pos (by omega)), nI_clamp (by omega), List.getElem?_map, List.getD_eq_getElem?_getD, List.getElem?_eq_getElem hj]
  rfl
theorem zlaw_head {xs : List Int32} (hx : xs.length ≤ 4096) {k : Nat} {w : zH} (hk : 8 * k + 8 ≤ xs.length) : zrun (some (xs.map .int)) (242, 18, [.ref 1000006, .ref 0, .ref 35, .int (nI (8 * k))], [], w) = zrun (some (xs.map .int)) (242, 33, [.ref 1000006, .ref 0, .ref 35, .int (nI (8 * k))], [.int (xs.getD (8 * k) 0 &&& 63)], w) := by
  have hl0 : (xs.map Value.int).length = xs.length := List.length_map _
  have q0 : ¬ Int32.ofNat xs.length - 8 < nI (8 * k) := fun q => absurd ((zcnd hx (by omega)).mp q) (by omega)
  have s0 := zsx_get hx (j := 8 * k) (by omega)
  simp (disch := first | exact Nat.le_of_ble_eq_true rfl | exact zct_i _ | exact zct_r _ | exact zct_J | exact zct_n | exact rfl | rfl | exact zb01 _ | assumption | decide | (simp only [zsm_pf, zsm_as]; exact Sh.some (by assumption) (by decide) (by decide +kernel) (by decide +kernel))) only [e242_18, e242_19, e242_19n, e242_20, e242_21, e242_23, e242_24, e242_27, e242_27n, e242_28, e242_29, e242_30, e242_32, hl0, q0, s0, zgd_true, zcl_ite, zX, Nat.reduceLT, Option.isSome_some, true_and, and_true, zo_some, zoi_some, zon_some, zcl_some, Option.toList_some, Option.toList_none, List.cons_append, List.nil_append, ite_true, ite_false, reduceIte]
set_option maxHeartbeats 8000000 in
set_option maxRecDepth 100000 in
/-- one turn of the law's loop -/
theorem zlaw_turn (H : zOps) {xs : List Int32} (hx : xs.length ≤ 4096) {k : Nat} {w : zH} (hk : 8 * k + 8 ≤ xs.length) (hI : Inv w) (hw : w.length + 100 < zX) (f : zH → Option zR) (hf : ∀ w2, zrun (some (xs.map .int)) (242, 18, [.ref 1000006, .ref 0, .ref 35, .int (nI (8 * (k + 1)))], [], w2) = f w2) : ∃ w2 : zH, zrun (some (xs.map .int)) (242, 18, [.ref 1000006, .ref 0, .ref 35, .int (nI (8 * k))], [], w) = f w2 ∧ Inv w2 ∧ w2.length ≤ w.length + 30 ∧ zsz w2 ≤ zsz w + 300 := by
  have hl0 : (xs.map Value.int).length = xs.length := List.length_map _
  have q0 : ¬ Int32.ofNat xs.length - 8 < nI (8 * k) := fun q => absurd ((zcnd hx (by omega)).mp q) (by omega)
  have s0 := zsx_get hx (j := 8 * k) (by omega)
  have i0 : zis w 0 11 := i_0 hI.1
  have t8 : nI (8 * k) + 8 = nI (8 * (k + 1)) := by
    rw [show 8 * (k + 1) = 8 * k + 8 by omega]
    exact nI_add (8 * k) 8
  have t1 : nI (8 * k) + 1 = nI (8 * k + 1) := nI_add (8 * k) 1
  have s1 := zsx_get hx (j := 8 * k + 1) (by omega)
  have t2 : nI (8 * k) + 2 = nI (8 * k + 2) := nI_add (8 * k) 2
  have s2 := zsx_get hx (j := 8 * k + 2) (by omega)
  have t3 : nI (8 * k) + 3 = nI (8 * k + 3) := nI_add (8 * k) 3
  have s3 := zsx_get hx (j := 8 * k + 3) (by omega)
  have t4 : nI (8 * k) + 4 = nI (8 * k + 4) := nI_add (8 * k) 4
  have s4 := zsx_get hx (j := 8 * k + 4) (by omega)
  have t5 : nI (8 * k) + 5 = nI (8 * k + 5) := nI_add (8 * k) 5
  have s5 := zsx_get hx (j := 8 * k + 5) (by omega)
  have t6 : nI (8 * k) + 6 = nI (8 * k + 6) := nI_add (8 * k) 6
  have s6 := zsx_get hx (j := 8 * k + 6) (by omega)
  have t7 : nI (8 * k) + 7 = nI (8 * k + 7) := nI_add (8 * k) 7
  have s7 := zsx_get hx (j := 8 * k + 7) (by omega)
  obtain ⟨o0, o1, o2, o3, o4, o5, o6, o7, o8, o9, o10, o11, o12, o13, o14, o15, o16, o17, o18, o19, o20, o21, o22, o23, o24, o25, o26, o27, o28, o29, o30, o31, o32, o33, o34⟩ := H w hI hw
  rw [zlaw_head hx hk, e242_33]
  by_cases c0 : xs.getD (8 * k) 0 &&& 63 = 0
  · obtain ⟨r, w1, w2, h1, h2, h3, h4, h5, h6⟩ := o0 (xs.getD (8 * k + 1) 0) (xs.getD (8 * k + 2) 0) (xs.getD (8 * k + 3) 0)
    have h1 := zrun_more (xs := some (xs.map .int)) h1
    have h2 := zrun_more (xs := some (xs.map .int)) h2
    refine ⟨w2, ?_, h4, h5, h6⟩
    rw [if_pos c0]
    simp (disch := first | exact Nat.le_of_ble_eq_true rfl | exact zct_i _ | exact zct_r _ | exact zct_J | exact zct_n | exact rfl | rfl | exact zb01 _ | assumption | decide | (simp only [zsm_pf, zsm_as]; exact Sh.some (by assumption) (by decide) (by decide +kernel) (by decide +kernel))) only [e242_188, e242_188n, e242_189, e242_189n, e242_190, e242_191, e242_192, e242_193, e242_194, e242_194n, e242_195, e242_196, e242_197, e242_198, e242_199, e242_199n, e242_200, e242_201, e242_202, e242_203, e242_204, e242_207, e242_207n, e242_208, e242_208n, e242_209, e242_210, e242_211, e242_212, e242_213, e242_213n, e242_214, e242_215, e242_216, e242_217, e242_218, e242_218n, e242_219, e242_220, e242_221, e242_222, e242_223, e242_226, e242_229, e242_230, e242_1557, e242_1560, t1, s1, t2, s2, t3, s3, h1, h2, t8, hf, zgd_true, zcl_ite, zX, Nat.reduceLT, Option.isSome_some, true_and, and_true, zo_some, zoi_some, zon_some, zcl_some, Option.toList_some, Option.toList_none, List.cons_append, List.nil_append, ite_true, ite_false, reduceIte]
  rw [if_neg c0]
  by_cases c1 : xs.getD (8 * k) 0 &&& 63 = 1
  · obtain ⟨r, w1, w2, h1, h2, h3, h4, h5, h6⟩ := o1 (xs.getD (8 * k + 1) 0) (xs.getD (8 * k + 2) 0) (xs.getD (8 * k + 3) 0)
    have h1 := zrun_more (xs := some (xs.map .int)) h1
    have h2 := zrun_more (xs := some (xs.map .int)) h2
    refine ⟨w2, ?_, h4, h5, h6⟩
    rw [if_pos c1]
    simp (disch := first | exact Nat.le_of_ble_eq_true rfl | exact zct_i _ | exact zct_r _ | exact zct_J | exact zct_n | exact rfl | rfl | exact zb01 _ | assumption | decide | (simp only [zsm_pf, zsm_as]; exact Sh.some (by assumption) (by decide) (by decide +kernel) (by decide +kernel))) only [e242_231, e242_231n, e242_232, e242_232n, e242_233, e242_234, e242_235, e242_236, e242_237, e242_237n, e242_238, e242_239, e242_240, e242_241, e242_242, e242_242n, e242_243, e242_244, e242_245, e242_246, e242_247, e242_250, e242_250n, e242_251, e242_251n, e242_252, e242_253, e242_254, e242_255, e242_256, e242_256n, e242_257, e242_258, e242_259, e242_260, e242_261, e242_261n, e242_262, e242_263, e242_264, e242_265, e242_266, e242_269, e242_272, e242_273, e242_1557, e242_1560, t1, s1, t2, s2, t3, s3, h1, h2, t8, hf, zgd_true, zcl_ite, zX, Nat.reduceLT, Option.isSome_some, true_and, and_true, zo_some, zoi_some, zon_some, zcl_some, Option.toList_some, Option.toList_none, List.cons_append, List.nil_append, ite_true, ite_false, reduceIte]
  rw [if_neg c1]
  by_cases c2 : xs.getD (8 * k) 0 &&& 63 = 2
  · obtain ⟨r, w1, w2, h1, h2, h3, h4, h5, h6⟩ := o2 (xs.getD (8 * k + 1) 0) (xs.getD (8 * k + 2) 0) (xs.getD (8 * k + 3) 0) (xs.getD (8 * k + 4) 0) (xs.getD (8 * k + 5) 0)
    have h1 := zrun_more (xs := some (xs.map .int)) h1
    have h2 := zrun_more (xs := some (xs.map .int)) h2
    refine ⟨w2, ?_, h4, h5, h6⟩
    rw [if_pos c2]
    simp (disch := first | exact Nat.le_of_ble_eq_true rfl | exact zct_i _ | exact zct_r _ | exact zct_J | exact zct_n | exact rfl | rfl | exact zb01 _ | assumption | decide | (simp only [zsm_pf, zsm_as]; exact Sh.some (by assumption) (by decide) (by decide +kernel) (by decide +kernel))) only [e242_274, e242_274n, e242_275, e242_275n, e242_276, e242_277, e242_278, e242_279, e242_280, e242_280n, e242_281, e242_282, e242_283, e242_284, e242_285, e242_285n, e242_286, e242_287, e242_288, e242_289, e242_290, e242_290n, e242_291, e242_292, e242_293, e242_294, e242_295, e242_295n, e242_296, e242_297, e242_298, e242_299, e242_300, e242_303, e242_303n, e242_304, e242_304n, e242_305, e242_306, e242_307, e242_308, e242_309, e242_309n, e242_310, e242_311, e242_312, e242_313, e242_314, e242_314n, e242_315, e242_316, e242_317, e242_318, e242_319, e242_319n, e242_320, e242_321, e242_322, e242_323, e242_324, e242_324n, e242_325, e242_326, e242_327, e242_328, e242_329, e242_332, e242_335, e242_336, e242_1557, e242_1560, t1, s1, t2, s2, t3, s3, t4, s4, t5, s5, h1, h2, t8, hf, zgd_true, zcl_ite, zX, Nat.reduceLT, Option.isSome_some, true_and, and_true, zo_some, zoi_some, zon_some, zcl_some, Option.toList_some, Option.toList_none, List.cons_append, List.nil_append, ite_true, ite_false, reduceIte]
  rw [if_neg c2]
  by_cases c3 : xs.getD (8 * k) 0 &&& 63 = 3
  · obtain ⟨r, w1, w2, h1, h2, h3, h4, h5, h6⟩ := o3 (xs.getD (8 * k + 1) 0)
    have h1 := zrun_more (xs := some (xs.map .int)) h1
    have h2 := zrun_more (xs := some (xs.map .int)) h2
    refine ⟨w2, ?_, h4, h5, h6⟩
    rw [if_pos c3]
    simp (disch := first | exact Nat.le_of_ble_eq_true rfl | exact zct_i _ | exact zct_r _ | exact zct_J | exact zct_n | exact rfl | rfl | exact zb01 _ | assumption | decide | (simp only [zsm_pf, zsm_as]; exact Sh.some (by assumption) (by decide) (by decide +kernel) (by decide +kernel))) only [e242_337, e242_337n, e242_338, e242_338n, e242_339, e242_340, e242_341, e242_342, e242_343, e242_346, e242_346n, e242_347, e242_347n, e242_348, e242_349, e242_350, e242_351, e242_352, e242_355, e242_358, e242_359, e242_1557, e242_1560, t1, s1, h1, h2, t8, hf, zgd_true, zcl_ite, zX, Nat.reduceLT, Option.isSome_some, true_and, and_true, zo_some, zoi_some, zon_some, zcl_some, Option.toList_some, Option.toList_none, List.cons_append, List.nil_append, ite_true, ite_false, reduceIte]
  rw [if_neg c3]
  by_cases c4 : xs.getD (8 * k) 0 &&& 63 = 4
  · obtain ⟨r, w1, w2, h1, h2, h3, h4, h5, h6⟩ := o4 
    have h1 := zrun_more (xs := some (xs.map .int)) h1
    have h2 := zrun_more (xs := some (xs.map .int)) h2
    refine ⟨w2, ?_, h4, h5, h6⟩
    rw [if_pos c4]
    simp (disch := first | exact Nat.le_of_ble_eq_true rfl | exact zct_i _ | exact zct_r _ | exact zct_J | exact zct_n | exact rfl | rfl | exact zb01 _ | assumption | decide | (simp only [zsm_pf, zsm_as]; exact Sh.some (by assumption) (by decide) (by decide +kernel) (by decide +kernel))) only [e242_360, e242_360n, e242_361, e242_364, e242_364n, e242_365, e242_368, e242_371, e242_372, e242_1557, e242_1560, h1, h2, t8, hf, zgd_true, zcl_ite, zX, Nat.reduceLT, Option.isSome_some, true_and, and_true, zo_some, zoi_some, zon_some, zcl_some, Option.toList_some, Option.toList_none, List.cons_append, List.nil_append, ite_true, ite_false, reduceIte]
  rw [if_neg c4]
  by_cases c5 : xs.getD (8 * k) 0 &&& 63 = 5
  · obtain ⟨r, w1, w2, h1, h2, h3, h4, h5, h6⟩ := o5 (xs.getD (8 * k + 1) 0) (xs.getD (8 * k + 2) 0) (xs.getD (8 * k + 3) 0) (xs.getD (8 * k + 4) 0)
    have h1 := zrun_more (xs := some (xs.map .int)) h1
    have h2 := zrun_more (xs := some (xs.map .int)) h2
    refine ⟨w2, ?_, h4, h5, h6⟩
    rw [if_pos c5]
    simp (disch := first | exact Nat.le_of_ble_eq_true rfl | exact zct_i _ | exact zct_r _ | exact zct_J | exact zct_n | exact rfl | rfl | exact zb01 _ | assumption | decide | (simp only [zsm_pf, zsm_as]; exact Sh.some (by assumption) (by decide) (by decide +kernel) (by decide +kernel))) only [e242_373, e242_373n, e242_374, e242_374n, e242_375, e242_376, e242_377, e242_378, e242_379, e242_379n, e242_380, e242_381, e242_382, e242_383, e242_384, e242_384n, e242_385, e242_386, e242_387, e242_388, e242_389, e242_389n, e242_390, e242_391, e242_392, e242_393, e242_394, e242_397, e242_397n, e242_398, e242_398n, e242_399, e242_400, e242_401, e242_402, e242_403, e242_403n, e242_404, e242_405, e242_406, e242_407, e242_408, e242_408n, e242_409, e242_410, e242_411, e242_412, e242_413, e242_413n, e242_414, e242_415, e242_416, e242_417, e242_418, e242_421, e242_424, e242_425, e242_1557, e242_1560, t1, s1, t2, s2, t3, s3, t4, s4, h1, h2, t8, hf, zgd_true, zcl_ite, zX, Nat.reduceLT, Option.isSome_some, true_and, and_true, zo_some, zoi_some, zon_some, zcl_some, Option.toList_some, Option.toList_none, List.cons_append, List.nil_append, ite_true, ite_false, reduceIte]
  rw [if_neg c5]
  by_cases c6 : xs.getD (8 * k) 0 &&& 63 = 6
  · obtain ⟨r, w1, w2, h1, h2, h3, h4, h5, h6⟩ := o6 (xs.getD (8 * k + 1) 0) (xs.getD (8 * k + 2) 0) (xs.getD (8 * k + 3) 0)
    have h1 := zrun_more (xs := some (xs.map .int)) h1
    have h2 := zrun_more (xs := some (xs.map .int)) h2
    refine ⟨w2, ?_, h4, h5, h6⟩
    rw [if_pos c6]
    simp (disch := first | exact Nat.le_of_ble_eq_true rfl | exact zct_i _ | exact zct_r _ | exact zct_J | exact zct_n | exact rfl | rfl | exact zb01 _ | assumption | decide | (simp only [zsm_pf, zsm_as]; exact Sh.some (by assumption) (by decide) (by decide +kernel) (by decide +kernel))) only [e242_426, e242_426n, e242_427, e242_427n, e242_428, e242_429, e242_430, e242_431, e242_432, e242_432n, e242_433, e242_434, e242_435, e242_436, e242_437, e242_437n, e242_438, e242_439, e242_440, e242_441, e242_442, e242_445, e242_445n, e242_446, e242_446n, e242_447, e242_448, e242_449, e242_450, e242_451, e242_451n, e242_452, e242_453, e242_454, e242_455, e242_456, e242_456n, e242_457, e242_458, e242_459, e242_460, e242_461, e242_464, e242_467, e242_468, e242_1557, e242_1560, t1, s1, t2, s2, t3, s3, h1, h2, t8, hf, zgd_true, zcl_ite, zX, Nat.reduceLT, Option.isSome_some, true_and, and_true, zo_some, zoi_some, zon_some, zcl_some, Option.toList_some, Option.toList_none, List.cons_append, List.nil_append, ite_true, ite_false, reduceIte]
  rw [if_neg c6]
  by_cases c7 : xs.getD (8 * k) 0 &&& 63 = 7
  · obtain ⟨r, w1, w2, h1, h2, h3, h4, h5, h6⟩ := o7 (xs.getD (8 * k + 1) 0) (xs.getD (8 * k + 2) 0) (xs.getD (8 * k + 3) 0) (xs.getD (8 * k + 4) 0)
    have h1 := zrun_more (xs := some (xs.map .int)) h1
    have h2 := zrun_more (xs := some (xs.map .int)) h2
    refine ⟨w2, ?_, h4, h5, h6⟩
    rw [if_pos c7]
    simp (disch := first | exact Nat.le_of_ble_eq_true rfl | exact zct_i _ | exact zct_r _ | exact zct_J | exact zct_n | exact rfl | rfl | exact zb01 _ | assumption | decide | (simp only [zsm_pf, zsm_as]; exact Sh.some (by assumption) (by decide) (by decide +kernel) (by decide +kernel))) only [e242_469, e242_469n, e242_470, e242_470n, e242_471, e242_472, e242_473, e242_474, e242_475, e242_475n, e242_476, e242_477, e242_478, e242_479, e242_480, e242_480n, e242_481, e242_482, e242_483, e242_484, e242_485, e242_485n, e242_486, e242_487, e242_488, e242_489, e242_490, e242_493, e242_493n, e242_494, e242_494n, e242_495, e242_496, e242_497, e242_498, e242_499, e242_499n, e242_500, e242_501, e242_502, e242_503, e242_504, e242_504n, e242_505, e242_506, e242_507, e242_508, e242_509, e242_509n, e242_510, e242_511, e242_512, e242_513, e242_514, e242_517, e242_520, e242_521, e242_1557, e242_1560, t1, s1, t2, s2, t3, s3, t4, s4, h1, h2, t8, hf, zgd_true, zcl_ite, zX, Nat.reduceLT, Option.isSome_some, true_and, and_true, zo_some, zoi_some, zon_some, zcl_some, Option.toList_some, Option.toList_none, List.cons_append, List.nil_append, ite_true, ite_false, reduceIte]
  rw [if_neg c7]
  by_cases c8 : xs.getD (8 * k) 0 &&& 63 = 8
  · obtain ⟨r, w1, w2, h1, h2, h3, h4, h5, h6⟩ := o8 (xs.getD (8 * k + 1) 0) (xs.getD (8 * k + 2) 0)
    have h1 := zrun_more (xs := some (xs.map .int)) h1
    have h2 := zrun_more (xs := some (xs.map .int)) h2
    refine ⟨w2, ?_, h4, h5, h6⟩
    rw [if_pos c8]
    simp (disch := first | exact Nat.le_of_ble_eq_true rfl | exact zct_i _ | exact zct_r _ | exact zct_J | exact zct_n | exact rfl | rfl | exact zb01 _ | assumption | decide | (simp only [zsm_pf, zsm_as]; exact Sh.some (by assumption) (by decide) (by decide +kernel) (by decide +kernel))) only [e242_522, e242_522n, e242_523, e242_523n, e242_524, e242_525, e242_526, e242_527, e242_528, e242_528n, e242_529, e242_530, e242_531, e242_532, e242_533, e242_536, e242_536n, e242_537, e242_537n, e242_538, e242_539, e242_540, e242_541, e242_542, e242_542n, e242_543, e242_544, e242_545, e242_546, e242_547, e242_550, e242_553, e242_554, e242_1557, e242_1560, t1, s1, t2, s2, h1, h2, t8, hf, zgd_true, zcl_ite, zX, Nat.reduceLT, Option.isSome_some, true_and, and_true, zo_some, zoi_some, zon_some, zcl_some, Option.toList_some, Option.toList_none, List.cons_append, List.nil_append, ite_true, ite_false, reduceIte]
  rw [if_neg c8]
  by_cases c9 : xs.getD (8 * k) 0 &&& 63 = 9
  · obtain ⟨r, w1, w2, h1, h2, h3, h4, h5, h6⟩ := o9 ((xs.getD (8 * k + 1) 0).toInt64 <<< ((32 : Int32).toInt64 &&& 63) ||| (xs.getD (8 * k + 2) 0).toInt64 &&& 4294967295) (xs.getD (8 * k + 3) 0)
    have h1 := zrun_more (xs := some (xs.map .int)) h1
    have h2 := zrun_more (xs := some (xs.map .int)) h2
    refine ⟨w2, ?_, h4, h5, h6⟩
    rw [if_pos c9]
    simp (disch := first | exact Nat.le_of_ble_eq_true rfl | exact zct_i _ | exact zct_r _ | exact zct_J | exact zct_n | exact rfl | rfl | exact zb01 _ | assumption | decide | (simp only [zsm_pf, zsm_as]; exact Sh.some (by assumption) (by decide) (by decide +kernel) (by decide +kernel))) only [e242_555, e242_555n, e242_556, e242_556n, e242_557, e242_558, e242_559, e242_560, e242_561, e242_562, e242_564, e242_565, e242_565n, e242_566, e242_567, e242_568, e242_569, e242_570, e242_571, e242_574, e242_575, e242_576, e242_576n, e242_577, e242_578, e242_579, e242_580, e242_581, e242_584, e242_584n, e242_585, e242_585n, e242_586, e242_587, e242_588, e242_589, e242_590, e242_591, e242_593, e242_594, e242_594n, e242_595, e242_596, e242_597, e242_598, e242_599, e242_600, e242_603, e242_604, e242_605, e242_605n, e242_606, e242_607, e242_608, e242_609, e242_610, e242_613, e242_616, e242_617, e242_1557, e242_1560, t1, s1, t2, s2, t3, s3, h1, h2, t8, hf, zgd_true, zcl_ite, zX, Nat.reduceLT, Option.isSome_some, true_and, and_true, zo_some, zoi_some, zon_some, zcl_some, Option.toList_some, Option.toList_none, List.cons_append, List.nil_append, ite_true, ite_false, reduceIte]
  rw [if_neg c9]
  by_cases c10 : xs.getD (8 * k) 0 &&& 63 = 10
  · obtain ⟨r, w1, w2, h1, h2, h3, h4, h5, h6⟩ := o10 
    have h1 := zrun_more (xs := some (xs.map .int)) h1
    have h2 := zrun_more (xs := some (xs.map .int)) h2
    refine ⟨w2, ?_, h4, h5, h6⟩
    rw [if_pos c10]
    simp (disch := first | exact Nat.le_of_ble_eq_true rfl | exact zct_i _ | exact zct_r _ | exact zct_J | exact zct_n | exact rfl | rfl | exact zb01 _ | assumption | decide | (simp only [zsm_pf, zsm_as]; exact Sh.some (by assumption) (by decide) (by decide +kernel) (by decide +kernel))) only [e242_618, e242_618n, e242_619, e242_622, e242_622n, e242_623, e242_626, e242_629, e242_630, e242_1557, e242_1560, h1, h2, t8, hf, zgd_true, zcl_ite, zX, Nat.reduceLT, Option.isSome_some, true_and, and_true, zo_some, zoi_some, zon_some, zcl_some, Option.toList_some, Option.toList_none, List.cons_append, List.nil_append, ite_true, ite_false, reduceIte]
  rw [if_neg c10]
  by_cases c11 : xs.getD (8 * k) 0 &&& 63 = 11
  · obtain ⟨r, w1, w2, h1, h2, h3, h4, h5, h6⟩ := o11 
    have h1 := zrun_more (xs := some (xs.map .int)) h1
    have h2 := zrun_more (xs := some (xs.map .int)) h2
    refine ⟨w2, ?_, h4, h5, h6⟩
    rw [if_pos c11]
    simp (disch := first | exact Nat.le_of_ble_eq_true rfl | exact zct_i _ | exact zct_r _ | exact zct_J | exact zct_n | exact rfl | rfl | exact zb01 _ | assumption | decide | (simp only [zsm_pf, zsm_as]; exact Sh.some (by assumption) (by decide) (by decide +kernel) (by decide +kernel))) only [e242_631, e242_631n, e242_632, e242_635, e242_635n, e242_636, e242_639, e242_642, e242_643, e242_1557, e242_1560, h1, h2, t8, hf, zgd_true, zcl_ite, zX, Nat.reduceLT, Option.isSome_some, true_and, and_true, zo_some, zoi_some, zon_some, zcl_some, Option.toList_some, Option.toList_none, List.cons_append, List.nil_append, ite_true, ite_false, reduceIte]
  rw [if_neg c11]
  by_cases c12 : xs.getD (8 * k) 0 &&& 63 = 12
  · obtain ⟨r, w1, w2, h1, h2, h3, h4, h5, h6⟩ := o12 (xs.getD (8 * k + 1) 0) (xs.getD (8 * k + 2) 0) (xs.getD (8 * k + 3) 0) (xs.getD (8 * k + 4) 0)
    have h1 := zrun_more (xs := some (xs.map .int)) h1
    have h2 := zrun_more (xs := some (xs.map .int)) h2
    refine ⟨w2, ?_, h4, h5, h6⟩
    rw [if_pos c12]
    simp (disch := first | exact Nat.le_of_ble_eq_true rfl | exact zct_i _ | exact zct_r _ | exact zct_J | exact zct_n | exact rfl | rfl | exact zb01 _ | assumption | decide | (simp only [zsm_pf, zsm_as]; exact Sh.some (by assumption) (by decide) (by decide +kernel) (by decide +kernel))) only [e242_644, e242_644n, e242_645, e242_645n, e242_646, e242_647, e242_648, e242_649, e242_650, e242_650n, e242_651, e242_652, e242_653, e242_654, e242_655, e242_655n, e242_656, e242_657, e242_658, e242_659, e242_660, e242_660n, e242_661, e242_662, e242_663, e242_664, e242_665, e242_668, e242_668n, e242_669, e242_669n, e242_670, e242_671, e242_672, e242_673, e242_674, e242_674n, e242_675, e242_676, e242_677, e242_678, e242_679, e242_679n, e242_680, e242_681, e242_682, e242_683, e242_684, e242_684n, e242_685, e242_686, e242_687, e242_688, e242_689, e242_692, e242_695, e242_696, e242_1557, e242_1560, t1, s1, t2, s2, t3, s3, t4, s4, h1, h2, t8, hf, zgd_true, zcl_ite, zX, Nat.reduceLT, Option.isSome_some, true_and, and_true, zo_some, zoi_some, zon_some, zcl_some, Option.toList_some, Option.toList_none, List.cons_append, List.nil_append, ite_true, ite_false, reduceIte]
  rw [if_neg c12]
  by_cases c13 : xs.getD (8 * k) 0 &&& 63 = 13
  · obtain ⟨r, w1, w2, h1, h2, h3, h4, h5, h6⟩ := o13 (xs.getD (8 * k + 1) 0) (xs.getD (8 * k + 2) 0) (xs.getD (8 * k + 3) 0) (xs.getD (8 * k + 4) 0) (xs.getD (8 * k + 5) 0)
    have h1 := zrun_more (xs := some (xs.map .int)) h1
    have h2 := zrun_more (xs := some (xs.map .int)) h2
    refine ⟨w2, ?_, h4, h5, h6⟩
    rw [if_pos c13]
    simp (disch := first | exact Nat.le_of_ble_eq_true rfl | exact zct_i _ | exact zct_r _ | exact zct_J | exact zct_n | exact rfl | rfl | exact zb01 _ | assumption | decide | (simp only [zsm_pf, zsm_as]; exact Sh.some (by assumption) (by decide) (by decide +kernel) (by decide +kernel))) only [e242_697, e242_697n, e242_698, e242_698n, e242_699, e242_700, e242_701, e242_702, e242_703, e242_703n, e242_704, e242_705, e242_706, e242_707, e242_708, e242_708n, e242_709, e242_710, e242_711, e242_712, e242_713, e242_713n, e242_714, e242_715, e242_716, e242_717, e242_718, e242_718n, e242_719, e242_720, e242_721, e242_722, e242_723, e242_726, e242_726n, e242_727, e242_727n, e242_728, e242_729, e242_730, e242_731, e242_732, e242_732n, e242_733, e242_734, e242_735, e242_736, e242_737, e242_737n, e242_738, e242_739, e242_740, e242_741, e242_742, e242_742n, e242_743, e242_744, e242_745, e242_746, e242_747, e242_747n, e242_748, e242_749, e242_750, e242_751, e242_752, e242_755, e242_758, e242_759, e242_1557, e242_1560, t1, s1, t2, s2, t3, s3, t4, s4, t5, s5, h1, h2, t8, hf, zgd_true, zcl_ite, zX, Nat.reduceLT, Option.isSome_some, true_and, and_true, zo_some, zoi_some, zon_some, zcl_some, Option.toList_some, Option.toList_none, List.cons_append, List.nil_append, ite_true, ite_false, reduceIte]
  rw [if_neg c13]
  by_cases c14 : xs.getD (8 * k) 0 &&& 63 = 14
  · obtain ⟨r, w1, w2, h1, h2, h3, h4, h5, h6⟩ := o14 (xs.getD (8 * k + 1) 0) (xs.getD (8 * k + 2) 0) (xs.getD (8 * k + 3) 0)
    have h1 := zrun_more (xs := some (xs.map .int)) h1
    have h2 := zrun_more (xs := some (xs.map .int)) h2
    refine ⟨w2, ?_, h4, h5, h6⟩
    rw [if_pos c14]
    simp (disch := first | exact Nat.le_of_ble_eq_true rfl | exact zct_i _ | exact zct_r _ | exact zct_J | exact zct_n | exact rfl | rfl | exact zb01 _ | assumption | decide | (simp only [zsm_pf, zsm_as]; exact Sh.some (by assumption) (by decide) (by decide +kernel) (by decide +kernel))) only [e242_760, e242_760n, e242_761, e242_761n, e242_762, e242_763, e242_764, e242_765, e242_766, e242_766n, e242_767, e242_768, e242_769, e242_770, e242_771, e242_771n, e242_772, e242_773, e242_774, e242_775, e242_776, e242_779, e242_779n, e242_780, e242_780n, e242_781, e242_782, e242_783, e242_784, e242_785, e242_785n, e242_786, e242_787, e242_788, e242_789, e242_790, e242_790n, e242_791, e242_792, e242_793, e242_794, e242_795, e242_798, e242_801, e242_802, e242_1557, e242_1560, t1, s1, t2, s2, t3, s3, h1, h2, t8, hf, zgd_true, zcl_ite, zX, Nat.reduceLT, Option.isSome_some, true_and, and_true, zo_some, zoi_some, zon_some, zcl_some, Option.toList_some, Option.toList_none, List.cons_append, List.nil_append, ite_true, ite_false, reduceIte]
  rw [if_neg c14]
  by_cases c15 : xs.getD (8 * k) 0 &&& 63 = 15
  · obtain ⟨r, w1, w2, h1, h2, h3, h4, h5, h6⟩ := o15 (xs.getD (8 * k + 1) 0) (xs.getD (8 * k + 2) 0)
    have h1 := zrun_more (xs := some (xs.map .int)) h1
    have h2 := zrun_more (xs := some (xs.map .int)) h2
    refine ⟨w2, ?_, h4, h5, h6⟩
    rw [if_pos c15]
    simp (disch := first | exact Nat.le_of_ble_eq_true rfl | exact zct_i _ | exact zct_r _ | exact zct_J | exact zct_n | exact rfl | rfl | exact zb01 _ | assumption | decide | (simp only [zsm_pf, zsm_as]; exact Sh.some (by assumption) (by decide) (by decide +kernel) (by decide +kernel))) only [e242_803, e242_803n, e242_804, e242_804n, e242_805, e242_806, e242_807, e242_808, e242_809, e242_809n, e242_810, e242_811, e242_812, e242_813, e242_814, e242_817, e242_817n, e242_818, e242_818n, e242_819, e242_820, e242_821, e242_822, e242_823, e242_823n, e242_824, e242_825, e242_826, e242_827, e242_828, e242_831, e242_834, e242_835, e242_1557, e242_1560, t1, s1, t2, s2, h1, h2, t8, hf, zgd_true, zcl_ite, zX, Nat.reduceLT, Option.isSome_some, true_and, and_true, zo_some, zoi_some, zon_some, zcl_some, Option.toList_some, Option.toList_none, List.cons_append, List.nil_append, ite_true, ite_false, reduceIte]
  rw [if_neg c15]
  by_cases c16 : xs.getD (8 * k) 0 &&& 63 = 16
  · obtain ⟨r, w1, w2, h1, h2, h3, h4, h5, h6⟩ := o16 (xs.getD (8 * k + 1) 0) (xs.getD (8 * k + 2) 0)
    have h1 := zrun_more (xs := some (xs.map .int)) h1
    have h2 := zrun_more (xs := some (xs.map .int)) h2
    refine ⟨w2, ?_, h4, h5, h6⟩
    rw [if_pos c16]
    simp (disch := first | exact Nat.le_of_ble_eq_true rfl | exact zct_i _ | exact zct_r _ | exact zct_J | exact zct_n | exact rfl | rfl | exact zb01 _ | assumption | decide | (simp only [zsm_pf, zsm_as]; exact Sh.some (by assumption) (by decide) (by decide +kernel) (by decide +kernel))) only [e242_836, e242_836n, e242_837, e242_837n, e242_838, e242_839, e242_840, e242_841, e242_842, e242_842n, e242_843, e242_844, e242_845, e242_846, e242_847, e242_850, e242_850n, e242_851, e242_851n, e242_852, e242_853, e242_854, e242_855, e242_856, e242_856n, e242_857, e242_858, e242_859, e242_860, e242_861, e242_864, e242_867, e242_868, e242_1557, e242_1560, t1, s1, t2, s2, h1, h2, t8, hf, zgd_true, zcl_ite, zX, Nat.reduceLT, Option.isSome_some, true_and, and_true, zo_some, zoi_some, zon_some, zcl_some, Option.toList_some, Option.toList_none, List.cons_append, List.nil_append, ite_true, ite_false, reduceIte]
  rw [if_neg c16]
  by_cases c17 : xs.getD (8 * k) 0 &&& 63 = 17
  · obtain ⟨r, w1, w2, h1, h2, h3, h4, h5, h6⟩ := o17 (xs.getD (8 * k + 1) 0) (xs.getD (8 * k + 2) 0)
    have h1 := zrun_more (xs := some (xs.map .int)) h1
    have h2 := zrun_more (xs := some (xs.map .int)) h2
    refine ⟨w2, ?_, h4, h5, h6⟩
    rw [if_pos c17]
    simp (disch := first | exact Nat.le_of_ble_eq_true rfl | exact zct_i _ | exact zct_r _ | exact zct_J | exact zct_n | exact rfl | rfl | exact zb01 _ | assumption | decide | (simp only [zsm_pf, zsm_as]; exact Sh.some (by assumption) (by decide) (by decide +kernel) (by decide +kernel))) only [e242_869, e242_869n, e242_870, e242_870n, e242_871, e242_872, e242_873, e242_874, e242_875, e242_875n, e242_876, e242_877, e242_878, e242_879, e242_880, e242_883, e242_883n, e242_884, e242_884n, e242_885, e242_886, e242_887, e242_888, e242_889, e242_889n, e242_890, e242_891, e242_892, e242_893, e242_894, e242_897, e242_900, e242_901, e242_1557, e242_1560, t1, s1, t2, s2, h1, h2, t8, hf, zgd_true, zcl_ite, zX, Nat.reduceLT, Option.isSome_some, true_and, and_true, zo_some, zoi_some, zon_some, zcl_some, Option.toList_some, Option.toList_none, List.cons_append, List.nil_append, ite_true, ite_false, reduceIte]
  rw [if_neg c17]
  by_cases c18 : xs.getD (8 * k) 0 &&& 63 = 18
  · obtain ⟨r, w1, w2, h1, h2, h3, h4, h5, h6⟩ := o18 (xs.getD (8 * k + 1) 0) (xs.getD (8 * k + 2) 0) (xs.getD (8 * k + 3) 0)
    have h1 := zrun_more (xs := some (xs.map .int)) h1
    have h2 := zrun_more (xs := some (xs.map .int)) h2
    refine ⟨w2, ?_, h4, h5, h6⟩
    rw [if_pos c18]
    simp (disch := first | exact Nat.le_of_ble_eq_true rfl | exact zct_i _ | exact zct_r _ | exact zct_J | exact zct_n | exact rfl | rfl | exact zb01 _ | assumption | decide | (simp only [zsm_pf, zsm_as]; exact Sh.some (by assumption) (by decide) (by decide +kernel) (by decide +kernel))) only [e242_902, e242_902n, e242_903, e242_903n, e242_904, e242_905, e242_906, e242_907, e242_908, e242_908n, e242_909, e242_910, e242_911, e242_912, e242_913, e242_913n, e242_914, e242_915, e242_916, e242_917, e242_918, e242_921, e242_921n, e242_922, e242_922n, e242_923, e242_924, e242_925, e242_926, e242_927, e242_927n, e242_928, e242_929, e242_930, e242_931, e242_932, e242_932n, e242_933, e242_934, e242_935, e242_936, e242_937, e242_940, e242_943, e242_944, e242_1557, e242_1560, t1, s1, t2, s2, t3, s3, h1, h2, t8, hf, zgd_true, zcl_ite, zX, Nat.reduceLT, Option.isSome_some, true_and, and_true, zo_some, zoi_some, zon_some, zcl_some, Option.toList_some, Option.toList_none, List.cons_append, List.nil_append, ite_true, ite_false, reduceIte]
  rw [if_neg c18]
  by_cases c19 : xs.getD (8 * k) 0 &&& 63 = 19
  · obtain ⟨r, w1, w2, h1, h2, h3, h4, h5, h6⟩ := o19 (xs.getD (8 * k + 1) 0) (xs.getD (8 * k + 2) 0)
    have h1 := zrun_more (xs := some (xs.map .int)) h1
    have h2 := zrun_more (xs := some (xs.map .int)) h2
    refine ⟨w2, ?_, h4, h5, h6⟩
    rw [if_pos c19]
    simp (disch := first | exact Nat.le_of_ble_eq_true rfl | exact zct_i _ | exact zct_r _ | exact zct_J | exact zct_n | exact rfl | rfl | exact zb01 _ | assumption | decide | (simp only [zsm_pf, zsm_as]; exact Sh.some (by assumption) (by decide) (by decide +kernel) (by decide +kernel))) only [e242_945, e242_945n, e242_946, e242_946n, e242_947, e242_948, e242_949, e242_950, e242_951, e242_951n, e242_952, e242_953, e242_954, e242_955, e242_956, e242_959, e242_959n, e242_960, e242_960n, e242_961, e242_962, e242_963, e242_964, e242_965, e242_965n, e242_966, e242_967, e242_968, e242_969, e242_970, e242_973, e242_976, e242_977, e242_1557, e242_1560, t1, s1, t2, s2, h1, h2, t8, hf, zgd_true, zcl_ite, zX, Nat.reduceLT, Option.isSome_some, true_and, and_true, zo_some, zoi_some, zon_some, zcl_some, Option.toList_some, Option.toList_none, List.cons_append, List.nil_append, ite_true, ite_false, reduceIte]
  rw [if_neg c19]
  by_cases c20 : xs.getD (8 * k) 0 &&& 63 = 20
  · obtain ⟨r, w1, w2, h1, h2, h3, h4, h5, h6⟩ := o20 (xs.getD (8 * k + 1) 0) (xs.getD (8 * k + 2) 0)
    have h1 := zrun_more (xs := some (xs.map .int)) h1
    have h2 := zrun_more (xs := some (xs.map .int)) h2
    refine ⟨w2, ?_, h4, h5, h6⟩
    rw [if_pos c20]
    simp (disch := first | exact Nat.le_of_ble_eq_true rfl | exact zct_i _ | exact zct_r _ | exact zct_J | exact zct_n | exact rfl | rfl | exact zb01 _ | assumption | decide | (simp only [zsm_pf, zsm_as]; exact Sh.some (by assumption) (by decide) (by decide +kernel) (by decide +kernel))) only [e242_978, e242_978n, e242_979, e242_979n, e242_980, e242_981, e242_982, e242_983, e242_984, e242_984n, e242_985, e242_986, e242_987, e242_988, e242_989, e242_992, e242_992n, e242_993, e242_993n, e242_994, e242_995, e242_996, e242_997, e242_998, e242_998n, e242_999, e242_1000, e242_1001, e242_1002, e242_1003, e242_1006, e242_1009, e242_1010, e242_1557, e242_1560, t1, s1, t2, s2, h1, h2, t8, hf, zgd_true, zcl_ite, zX, Nat.reduceLT, Option.isSome_some, true_and, and_true, zo_some, zoi_some, zon_some, zcl_some, Option.toList_some, Option.toList_none, List.cons_append, List.nil_append, ite_true, ite_false, reduceIte]
  rw [if_neg c20]
  by_cases c21 : xs.getD (8 * k) 0 &&& 63 = 21
  · obtain ⟨r, w1, w2, h1, h2, h3, h4, h5, h6⟩ := o21 (xs.getD (8 * k + 1) 0) (xs.getD (8 * k + 2) 0) (xs.getD (8 * k + 3) 0) (xs.getD (8 * k + 4) 0) (xs.getD (8 * k + 5) 0)
    have h1 := zrun_more (xs := some (xs.map .int)) h1
    have h2 := zrun_more (xs := some (xs.map .int)) h2
    refine ⟨w2, ?_, h4, h5, h6⟩
    rw [if_pos c21]
    simp (disch := first | exact Nat.le_of_ble_eq_true rfl | exact zct_i _ | exact zct_r _ | exact zct_J | exact zct_n | exact rfl | rfl | exact zb01 _ | assumption | decide | (simp only [zsm_pf, zsm_as]; exact Sh.some (by assumption) (by decide) (by decide +kernel) (by decide +kernel))) only [e242_1011, e242_1011n, e242_1012, e242_1012n, e242_1013, e242_1014, e242_1015, e242_1016, e242_1017, e242_1017n, e242_1018, e242_1019, e242_1020, e242_1021, e242_1022, e242_1022n, e242_1023, e242_1024, e242_1025, e242_1026, e242_1027, e242_1027n, e242_1028, e242_1029, e242_1030, e242_1031, e242_1032, e242_1032n, e242_1033, e242_1034, e242_1035, e242_1036, e242_1037, e242_1040, e242_1040n, e242_1041, e242_1041n, e242_1042, e242_1043, e242_1044, e242_1045, e242_1046, e242_1046n, e242_1047, e242_1048, e242_1049, e242_1050, e242_1051, e242_1051n, e242_1052, e242_1053, e242_1054, e242_1055, e242_1056, e242_1056n, e242_1057, e242_1058, e242_1059, e242_1060, e242_1061, e242_1061n, e242_1062, e242_1063, e242_1064, e242_1065, e242_1066, e242_1069, e242_1072, e242_1073, e242_1557, e242_1560, t1, s1, t2, s2, t3, s3, t4, s4, t5, s5, h1, h2, t8, hf, zgd_true, zcl_ite, zX, Nat.reduceLT, Option.isSome_some, true_and, and_true, zo_some, zoi_some, zon_some, zcl_some, Option.toList_some, Option.toList_none, List.cons_append, List.nil_append, ite_true, ite_false, reduceIte]
  rw [if_neg c21]
  by_cases c22 : xs.getD (8 * k) 0 &&& 63 = 22
  · obtain ⟨r, w1, w2, h1, h2, h3, h4, h5, h6⟩ := o22 (xs.getD (8 * k + 1) 0) (xs.getD (8 * k + 2) 0) (xs.getD (8 * k + 3) 0) (xs.getD (8 * k + 4) 0) (xs.getD (8 * k + 5) 0) (xs.getD (8 * k + 6) 0) (xs.getD (8 * k + 7) 0)
    have h1 := zrun_more (xs := some (xs.map .int)) h1
    have h2 := zrun_more (xs := some (xs.map .int)) h2
    refine ⟨w2, ?_, h4, h5, h6⟩
    rw [if_pos c22]
    simp (disch := first | exact Nat.le_of_ble_eq_true rfl | exact zct_i _ | exact zct_r _ | exact zct_J | exact zct_n | exact rfl | rfl | exact zb01 _ | assumption | decide | (simp only [zsm_pf, zsm_as]; exact Sh.some (by assumption) (by decide) (by decide +kernel) (by decide +kernel))) only [e242_1074, e242_1074n, e242_1075, e242_1075n, e242_1076, e242_1077, e242_1078, e242_1079, e242_1080, e242_1080n, e242_1081, e242_1082, e242_1083, e242_1084, e242_1085, e242_1085n, e242_1086, e242_1087, e242_1088, e242_1089, e242_1090, e242_1090n, e242_1091, e242_1092, e242_1093, e242_1094, e242_1095, e242_1095n, e242_1096, e242_1097, e242_1098, e242_1099, e242_1100, e242_1100n, e242_1101, e242_1102, e242_1104, e242_1105, e242_1106, e242_1106n, e242_1107, e242_1108, e242_1110, e242_1111, e242_1112, e242_1115, e242_1115n, e242_1116, e242_1116n, e242_1117, e242_1118, e242_1119, e242_1120, e242_1121, e242_1121n, e242_1122, e242_1123, e242_1124, e242_1125, e242_1126, e242_1126n, e242_1127, e242_1128, e242_1129, e242_1130, e242_1131, e242_1131n, e242_1132, e242_1133, e242_1134, e242_1135, e242_1136, e242_1136n, e242_1137, e242_1138, e242_1139, e242_1140, e242_1141, e242_1141n, e242_1142, e242_1143, e242_1145, e242_1146, e242_1147, e242_1147n, e242_1148, e242_1149, e242_1151, e242_1152, e242_1153, e242_1156, e242_1159, e242_1160, e242_1557, e242_1560, t1, s1, t2, s2, t3, s3, t4, s4, t5, s5, t6, s6, t7, s7, h1, h2, t8, hf, zgd_true, zcl_ite, zX, Nat.reduceLT, Option.isSome_some, true_and, and_true, zo_some, zoi_some, zon_some, zcl_some, Option.toList_some, Option.toList_none, List.cons_append, List.nil_append, ite_true, ite_false, reduceIte]
  rw [if_neg c22]
  by_cases c23 : xs.getD (8 * k) 0 &&& 63 = 23
  · obtain ⟨r, w1, w2, h1, h2, h3, h4, h5, h6⟩ := o23 (xs.getD (8 * k + 1) 0) (xs.getD (8 * k + 2) 0) (xs.getD (8 * k + 3) 0)
    have h1 := zrun_more (xs := some (xs.map .int)) h1
    have h2 := zrun_more (xs := some (xs.map .int)) h2
    refine ⟨w2, ?_, h4, h5, h6⟩
    rw [if_pos c23]
    simp (disch := first | exact Nat.le_of_ble_eq_true rfl | exact zct_i _ | exact zct_r _ | exact zct_J | exact zct_n | exact rfl | rfl | exact zb01 _ | assumption | decide | (simp only [zsm_pf, zsm_as]; exact Sh.some (by assumption) (by decide) (by decide +kernel) (by decide +kernel))) only [e242_1161, e242_1161n, e242_1162, e242_1162n, e242_1163, e242_1164, e242_1165, e242_1166, e242_1167, e242_1167n, e242_1168, e242_1169, e242_1170, e242_1171, e242_1172, e242_1172n, e242_1173, e242_1174, e242_1175, e242_1176, e242_1177, e242_1180, e242_1180n, e242_1181, e242_1181n, e242_1182, e242_1183, e242_1184, e242_1185, e242_1186, e242_1186n, e242_1187, e242_1188, e242_1189, e242_1190, e242_1191, e242_1191n, e242_1192, e242_1193, e242_1194, e242_1195, e242_1196, e242_1199, e242_1202, e242_1203, e242_1557, e242_1560, t1, s1, t2, s2, t3, s3, h1, h2, t8, hf, zgd_true, zcl_ite, zX, Nat.reduceLT, Option.isSome_some, true_and, and_true, zo_some, zoi_some, zon_some, zcl_some, Option.toList_some, Option.toList_none, List.cons_append, List.nil_append, ite_true, ite_false, reduceIte]
  rw [if_neg c23]
  by_cases c24 : xs.getD (8 * k) 0 &&& 63 = 24
  · obtain ⟨r, w1, w2, h1, h2, h3, h4, h5, h6⟩ := o24 (xs.getD (8 * k + 1) 0) (xs.getD (8 * k + 2) 0)
    have h1 := zrun_more (xs := some (xs.map .int)) h1
    have h2 := zrun_more (xs := some (xs.map .int)) h2
    refine ⟨w2, ?_, h4, h5, h6⟩
    rw [if_pos c24]
    simp (disch := first | exact Nat.le_of_ble_eq_true rfl | exact zct_i _ | exact zct_r _ | exact zct_J | exact zct_n | exact rfl | rfl | exact zb01 _ | assumption | decide | (simp only [zsm_pf, zsm_as]; exact Sh.some (by assumption) (by decide) (by decide +kernel) (by decide +kernel))) only [e242_1204, e242_1204n, e242_1205, e242_1205n, e242_1206, e242_1207, e242_1208, e242_1209, e242_1210, e242_1210n, e242_1211, e242_1212, e242_1213, e242_1214, e242_1215, e242_1218, e242_1218n, e242_1219, e242_1219n, e242_1220, e242_1221, e242_1222, e242_1223, e242_1224, e242_1224n, e242_1225, e242_1226, e242_1227, e242_1228, e242_1229, e242_1232, e242_1235, e242_1236, e242_1557, e242_1560, t1, s1, t2, s2, h1, h2, t8, hf, zgd_true, zcl_ite, zX, Nat.reduceLT, Option.isSome_some, true_and, and_true, zo_some, zoi_some, zon_some, zcl_some, Option.toList_some, Option.toList_none, List.cons_append, List.nil_append, ite_true, ite_false, reduceIte]
  rw [if_neg c24]
  by_cases c25 : xs.getD (8 * k) 0 &&& 63 = 25
  · obtain ⟨r, w1, w2, h1, h2, h3, h4, h5, h6⟩ := o25 (xs.getD (8 * k + 1) 0) (xs.getD (8 * k + 2) 0) (xs.getD (8 * k + 3) 0) (xs.getD (8 * k + 4) 0)
    have h1 := zrun_more (xs := some (xs.map .int)) h1
    have h2 := zrun_more (xs := some (xs.map .int)) h2
    refine ⟨w2, ?_, h4, h5, h6⟩
    rw [if_pos c25]
    simp (disch := first | exact Nat.le_of_ble_eq_true rfl | exact zct_i _ | exact zct_r _ | exact zct_J | exact zct_n | exact rfl | rfl | exact zb01 _ | assumption | decide | (simp only [zsm_pf, zsm_as]; exact Sh.some (by assumption) (by decide) (by decide +kernel) (by decide +kernel))) only [e242_1237, e242_1237n, e242_1238, e242_1238n, e242_1239, e242_1240, e242_1241, e242_1242, e242_1243, e242_1243n, e242_1244, e242_1245, e242_1246, e242_1247, e242_1248, e242_1248n, e242_1249, e242_1250, e242_1251, e242_1252, e242_1253, e242_1253n, e242_1254, e242_1255, e242_1256, e242_1257, e242_1258, e242_1261, e242_1261n, e242_1262, e242_1262n, e242_1263, e242_1264, e242_1265, e242_1266, e242_1267, e242_1267n, e242_1268, e242_1269, e242_1270, e242_1271, e242_1272, e242_1272n, e242_1273, e242_1274, e242_1275, e242_1276, e242_1277, e242_1277n, e242_1278, e242_1279, e242_1280, e242_1281, e242_1282, e242_1285, e242_1288, e242_1289, e242_1557, e242_1560, t1, s1, t2, s2, t3, s3, t4, s4, h1, h2, t8, hf, zgd_true, zcl_ite, zX, Nat.reduceLT, Option.isSome_some, true_and, and_true, zo_some, zoi_some, zon_some, zcl_some, Option.toList_some, Option.toList_none, List.cons_append, List.nil_append, ite_true, ite_false, reduceIte]
  rw [if_neg c25]
  by_cases c26 : xs.getD (8 * k) 0 &&& 63 = 26
  · obtain ⟨r, w1, w2, h1, h2, h3, h4, h5, h6⟩ := o26 (xs.getD (8 * k + 1) 0) (xs.getD (8 * k + 2) 0)
    have h1 := zrun_more (xs := some (xs.map .int)) h1
    have h2 := zrun_more (xs := some (xs.map .int)) h2
    refine ⟨w2, ?_, h4, h5, h6⟩
    rw [if_pos c26]
    simp (disch := first | exact Nat.le_of_ble_eq_true rfl | exact zct_i _ | exact zct_r _ | exact zct_J | exact zct_n | exact rfl | rfl | exact zb01 _ | assumption | decide | (simp only [zsm_pf, zsm_as]; exact Sh.some (by assumption) (by decide) (by decide +kernel) (by decide +kernel))) only [e242_1290, e242_1290n, e242_1291, e242_1291n, e242_1292, e242_1293, e242_1294, e242_1295, e242_1296, e242_1296n, e242_1297, e242_1298, e242_1299, e242_1300, e242_1301, e242_1304, e242_1304n, e242_1305, e242_1305n, e242_1306, e242_1307, e242_1308, e242_1309, e242_1310, e242_1310n, e242_1311, e242_1312, e242_1313, e242_1314, e242_1315, e242_1318, e242_1321, e242_1322, e242_1557, e242_1560, t1, s1, t2, s2, h1, h2, t8, hf, zgd_true, zcl_ite, zX, Nat.reduceLT, Option.isSome_some, true_and, and_true, zo_some, zoi_some, zon_some, zcl_some, Option.toList_some, Option.toList_none, List.cons_append, List.nil_append, ite_true, ite_false, reduceIte]
  rw [if_neg c26]
  by_cases c27 : xs.getD (8 * k) 0 &&& 63 = 27
  · obtain ⟨r, w1, w2, h1, h2, h3, h4, h5, h6⟩ := o27 (xs.getD (8 * k + 1) 0) (xs.getD (8 * k + 2) 0) (xs.getD (8 * k + 3) 0) (xs.getD (8 * k + 4) 0) (xs.getD (8 * k + 5) 0)
    have h1 := zrun_more (xs := some (xs.map .int)) h1
    have h2 := zrun_more (xs := some (xs.map .int)) h2
    refine ⟨w2, ?_, h4, h5, h6⟩
    rw [if_pos c27]
    simp (disch := first | exact Nat.le_of_ble_eq_true rfl | exact zct_i _ | exact zct_r _ | exact zct_J | exact zct_n | exact rfl | rfl | exact zb01 _ | assumption | decide | (simp only [zsm_pf, zsm_as]; exact Sh.some (by assumption) (by decide) (by decide +kernel) (by decide +kernel))) only [e242_1323, e242_1323n, e242_1324, e242_1324n, e242_1325, e242_1326, e242_1327, e242_1328, e242_1329, e242_1329n, e242_1330, e242_1331, e242_1332, e242_1333, e242_1334, e242_1334n, e242_1335, e242_1336, e242_1337, e242_1338, e242_1339, e242_1339n, e242_1340, e242_1341, e242_1342, e242_1343, e242_1344, e242_1344n, e242_1345, e242_1346, e242_1347, e242_1348, e242_1349, e242_1352, e242_1352n, e242_1353, e242_1353n, e242_1354, e242_1355, e242_1356, e242_1357, e242_1358, e242_1358n, e242_1359, e242_1360, e242_1361, e242_1362, e242_1363, e242_1363n, e242_1364, e242_1365, e242_1366, e242_1367, e242_1368, e242_1368n, e242_1369, e242_1370, e242_1371, e242_1372, e242_1373, e242_1373n, e242_1374, e242_1375, e242_1376, e242_1377, e242_1378, e242_1381, e242_1384, e242_1385, e242_1557, e242_1560, t1, s1, t2, s2, t3, s3, t4, s4, t5, s5, h1, h2, t8, hf, zgd_true, zcl_ite, zX, Nat.reduceLT, Option.isSome_some, true_and, and_true, zo_some, zoi_some, zon_some, zcl_some, Option.toList_some, Option.toList_none, List.cons_append, List.nil_append, ite_true, ite_false, reduceIte]
  rw [if_neg c27]
  by_cases c28 : xs.getD (8 * k) 0 &&& 63 = 28
  · obtain ⟨r, w1, w2, h1, h2, h3, h4, h5, h6⟩ := o28 (xs.getD (8 * k + 1) 0)
    have h1 := zrun_more (xs := some (xs.map .int)) h1
    have h2 := zrun_more (xs := some (xs.map .int)) h2
    refine ⟨w2, ?_, h4, h5, h6⟩
    rw [if_pos c28]
    simp (disch := first | exact Nat.le_of_ble_eq_true rfl | exact zct_i _ | exact zct_r _ | exact zct_J | exact zct_n | exact rfl | rfl | exact zb01 _ | assumption | decide | (simp only [zsm_pf, zsm_as]; exact Sh.some (by assumption) (by decide) (by decide +kernel) (by decide +kernel))) only [e242_1386, e242_1386n, e242_1387, e242_1387n, e242_1388, e242_1389, e242_1390, e242_1391, e242_1392, e242_1395, e242_1395n, e242_1396, e242_1396n, e242_1397, e242_1398, e242_1399, e242_1400, e242_1401, e242_1404, e242_1407, e242_1408, e242_1557, e242_1560, t1, s1, h1, h2, t8, hf, zgd_true, zcl_ite, zX, Nat.reduceLT, Option.isSome_some, true_and, and_true, zo_some, zoi_some, zon_some, zcl_some, Option.toList_some, Option.toList_none, List.cons_append, List.nil_append, ite_true, ite_false, reduceIte]
  rw [if_neg c28]
  by_cases c29 : xs.getD (8 * k) 0 &&& 63 = 29
  · obtain ⟨r, w1, w2, h1, h2, h3, h4, h5, h6⟩ := o29 (xs.getD (8 * k + 1) 0)
    have h1 := zrun_more (xs := some (xs.map .int)) h1
    have h2 := zrun_more (xs := some (xs.map .int)) h2
    refine ⟨w2, ?_, h4, h5, h6⟩
    rw [if_pos c29]
    simp (disch := first | exact Nat.le_of_ble_eq_true rfl | exact zct_i _ | exact zct_r _ | exact zct_J | exact zct_n | exact rfl | rfl | exact zb01 _ | assumption | decide | (simp only [zsm_pf, zsm_as]; exact Sh.some (by assumption) (by decide) (by decide +kernel) (by decide +kernel))) only [e242_1409, e242_1409n, e242_1410, e242_1410n, e242_1411, e242_1412, e242_1413, e242_1414, e242_1415, e242_1418, e242_1418n, e242_1419, e242_1419n, e242_1420, e242_1421, e242_1422, e242_1423, e242_1424, e242_1427, e242_1430, e242_1431, e242_1557, e242_1560, t1, s1, h1, h2, t8, hf, zgd_true, zcl_ite, zX, Nat.reduceLT, Option.isSome_some, true_and, and_true, zo_some, zoi_some, zon_some, zcl_some, Option.toList_some, Option.toList_none, List.cons_append, List.nil_append, ite_true, ite_false, reduceIte]
  rw [if_neg c29]
  by_cases c30 : xs.getD (8 * k) 0 &&& 63 = 30
  · obtain ⟨r, w1, w2, h1, h2, h3, h4, h5, h6⟩ := o30 (xs.getD (8 * k + 1) 0) (xs.getD (8 * k + 2) 0)
    have h1 := zrun_more (xs := some (xs.map .int)) h1
    have h2 := zrun_more (xs := some (xs.map .int)) h2
    refine ⟨w2, ?_, h4, h5, h6⟩
    rw [if_pos c30]
    simp (disch := first | exact Nat.le_of_ble_eq_true rfl | exact zct_i _ | exact zct_r _ | exact zct_J | exact zct_n | exact rfl | rfl | exact zb01 _ | assumption | decide | (simp only [zsm_pf, zsm_as]; exact Sh.some (by assumption) (by decide) (by decide +kernel) (by decide +kernel))) only [e242_1432, e242_1432n, e242_1433, e242_1433n, e242_1434, e242_1435, e242_1436, e242_1437, e242_1438, e242_1438n, e242_1439, e242_1440, e242_1441, e242_1442, e242_1443, e242_1446, e242_1446n, e242_1447, e242_1447n, e242_1448, e242_1449, e242_1450, e242_1451, e242_1452, e242_1452n, e242_1453, e242_1454, e242_1455, e242_1456, e242_1457, e242_1460, e242_1463, e242_1464, e242_1557, e242_1560, t1, s1, t2, s2, h1, h2, t8, hf, zgd_true, zcl_ite, zX, Nat.reduceLT, Option.isSome_some, true_and, and_true, zo_some, zoi_some, zon_some, zcl_some, Option.toList_some, Option.toList_none, List.cons_append, List.nil_append, ite_true, ite_false, reduceIte]
  rw [if_neg c30]
  by_cases c31 : xs.getD (8 * k) 0 &&& 63 = 31
  · obtain ⟨r, w1, w2, h1, h2, h3, h4, h5, h6⟩ := o31 (xs.getD (8 * k + 1) 0) (xs.getD (8 * k + 2) 0)
    have h1 := zrun_more (xs := some (xs.map .int)) h1
    have h2 := zrun_more (xs := some (xs.map .int)) h2
    refine ⟨w2, ?_, h4, h5, h6⟩
    rw [if_pos c31]
    simp (disch := first | exact Nat.le_of_ble_eq_true rfl | exact zct_i _ | exact zct_r _ | exact zct_J | exact zct_n | exact rfl | rfl | exact zb01 _ | assumption | decide | (simp only [zsm_pf, zsm_as]; exact Sh.some (by assumption) (by decide) (by decide +kernel) (by decide +kernel))) only [e242_1465, e242_1465n, e242_1466, e242_1466n, e242_1467, e242_1468, e242_1469, e242_1470, e242_1471, e242_1471n, e242_1472, e242_1473, e242_1474, e242_1475, e242_1476, e242_1479, e242_1479n, e242_1480, e242_1480n, e242_1481, e242_1482, e242_1483, e242_1484, e242_1485, e242_1485n, e242_1486, e242_1487, e242_1488, e242_1489, e242_1490, e242_1493, e242_1496, e242_1497, e242_1557, e242_1560, t1, s1, t2, s2, h1, h2, t8, hf, zgd_true, zcl_ite, zX, Nat.reduceLT, Option.isSome_some, true_and, and_true, zo_some, zoi_some, zon_some, zcl_some, Option.toList_some, Option.toList_none, List.cons_append, List.nil_append, ite_true, ite_false, reduceIte]
  rw [if_neg c31]
  by_cases c32 : xs.getD (8 * k) 0 &&& 63 = 32
  · obtain ⟨r, w1, w2, h1, h2, h3, h4, h5, h6⟩ := o32 (xs.getD (8 * k + 1) 0)
    have h1 := zrun_more (xs := some (xs.map .int)) h1
    have h2 := zrun_more (xs := some (xs.map .int)) h2
    refine ⟨w2, ?_, h4, h5, h6⟩
    rw [if_pos c32]
    simp (disch := first | exact Nat.le_of_ble_eq_true rfl | exact zct_i _ | exact zct_r _ | exact zct_J | exact zct_n | exact rfl | rfl | exact zb01 _ | assumption | decide | (simp only [zsm_pf, zsm_as]; exact Sh.some (by assumption) (by decide) (by decide +kernel) (by decide +kernel))) only [e242_1498, e242_1498n, e242_1499, e242_1499n, e242_1500, e242_1501, e242_1502, e242_1503, e242_1504, e242_1507, e242_1507n, e242_1508, e242_1508n, e242_1509, e242_1510, e242_1511, e242_1512, e242_1513, e242_1516, e242_1519, e242_1520, e242_1557, e242_1560, t1, s1, h1, h2, t8, hf, zgd_true, zcl_ite, zX, Nat.reduceLT, Option.isSome_some, true_and, and_true, zo_some, zoi_some, zon_some, zcl_some, Option.toList_some, Option.toList_none, List.cons_append, List.nil_append, ite_true, ite_false, reduceIte]
  rw [if_neg c32]
  by_cases c33 : xs.getD (8 * k) 0 &&& 63 = 33
  · obtain ⟨r, w1, w2, h1, h2, h3, h4, h5, h6⟩ := o33 (xs.getD (8 * k + 1) 0)
    have h1 := zrun_more (xs := some (xs.map .int)) h1
    have h2 := zrun_more (xs := some (xs.map .int)) h2
    refine ⟨w2, ?_, h4, h5, h6⟩
    rw [if_pos c33]
    simp (disch := first | exact Nat.le_of_ble_eq_true rfl | exact zct_i _ | exact zct_r _ | exact zct_J | exact zct_n | exact rfl | rfl | exact zb01 _ | assumption | decide | (simp only [zsm_pf, zsm_as]; exact Sh.some (by assumption) (by decide) (by decide +kernel) (by decide +kernel))) only [e242_1521, e242_1521n, e242_1522, e242_1522n, e242_1523, e242_1524, e242_1525, e242_1526, e242_1527, e242_1530, e242_1530n, e242_1531, e242_1531n, e242_1532, e242_1533, e242_1534, e242_1535, e242_1536, e242_1539, e242_1542, e242_1543, e242_1557, e242_1560, t1, s1, h1, h2, t8, hf, zgd_true, zcl_ite, zX, Nat.reduceLT, Option.isSome_some, true_and, and_true, zo_some, zoi_some, zon_some, zcl_some, Option.toList_some, Option.toList_none, List.cons_append, List.nil_append, ite_true, ite_false, reduceIte]
  rw [if_neg c33]
  by_cases c34 : xs.getD (8 * k) 0 &&& 63 = 34
  · obtain ⟨r, w1, w2, h1, h2, h3, h4, h5, h6⟩ := o34 
    have h1 := zrun_more (xs := some (xs.map .int)) h1
    have h2 := zrun_more (xs := some (xs.map .int)) h2
    refine ⟨w2, ?_, h4, h5, h6⟩
    rw [if_pos c34]
    simp (disch := first | exact Nat.le_of_ble_eq_true rfl | exact zct_i _ | exact zct_r _ | exact zct_J | exact zct_n | exact rfl | rfl | exact zb01 _ | assumption | decide | (simp only [zsm_pf, zsm_as]; exact Sh.some (by assumption) (by decide) (by decide +kernel) (by decide +kernel))) only [e242_1544, e242_1544n, e242_1545, e242_1548, e242_1548n, e242_1549, e242_1552, e242_1555, e242_1556, e242_1557, e242_1560, h1, h2, t8, hf, zgd_true, zcl_ite, zX, Nat.reduceLT, Option.isSome_some, true_and, and_true, zo_some, zoi_some, zon_some, zcl_some, Option.toList_some, Option.toList_none, List.cons_append, List.nil_append, ite_true, ite_false, reduceIte]
  rw [if_neg c34]
  refine ⟨w, ?_, hI, by omega, by omega⟩
  simp (disch := first | exact Nat.le_of_ble_eq_true rfl | exact zct_i _ | exact zct_r _ | exact zct_J | exact zct_n | exact rfl | rfl | exact zb01 _ | assumption | decide | (simp only [zsm_pf, zsm_as]; exact Sh.some (by assumption) (by decide) (by decide +kernel) (by decide +kernel))) only [e242_1557, e242_1560, t8, hf, zgd_true, zcl_ite, zX, Nat.reduceLT, Option.isSome_some, true_and, and_true, zo_some, zoi_some, zon_some, zcl_some, Option.toList_some, Option.toList_none, List.cons_append, List.nil_append, ite_true, ite_false, reduceIte]
set_option maxRecDepth 100000 in
theorem zlaw_loop (H : zOps) {xs : List Int32} (hx : xs.length ≤ 4096) : ∀ (m k : Nat) (w : zH), xs.length < 8 * k + 8 * m → 8 * k ≤ 4096 → Inv w → w.length ≤ 65 + 30 * k → zsz w ≤ 5000 + 300 * k → ∃ wf : zH, zrun (some (xs.map .int)) (242, 18, [.ref 1000006, .ref 0, .ref 35, .int (nI (8 * k))], [], w) = some (some (.int 1), wf) ∧ wf.length ≤ 600000 ∧ zsz wf ≤ 7302250 := by
  intro m
  induction m with
  | zero =>
    intro k w h1 h2 hI h3 h4
    have hl0 : (xs.map Value.int).length = xs.length := List.length_map _
    have q0 : Int32.ofNat xs.length - 8 < nI (8 * k) := (zcnd hx (by omega)).mpr (by omega)
    exact ⟨w, by simp (disch := first | exact Nat.le_of_ble_eq_true rfl | exact zct_i _ | exact zct_r _ | exact zct_J | exact zct_n | exact rfl | rfl | exact zb01 _ | assumption | decide | (simp only [zsm_pf, zsm_as]; exact Sh.some (by assumption) (by decide) (by decide +kernel) (by decide +kernel))) only [e242_18, e242_19, e242_19n, e242_20, e242_21, e242_23, e242_24, e242_1563, e242_1564, hl0, q0, zgd_true, zcl_ite, zX, Nat.reduceLT, Option.isSome_some, true_and, and_true, zo_some, zoi_some, zon_some, zcl_some, Option.toList_some, Option.toList_none, List.cons_append, List.nil_append, ite_true, ite_false, reduceIte], by omega, by omega⟩
  | succ m ih =>
    intro k w h1 h2 hI h3 h4
    by_cases hn : xs.length < 8 * k + 8
    · have hl0 : (xs.map Value.int).length = xs.length := List.length_map _
      have q0 : Int32.ofNat xs.length - 8 < nI (8 * k) := (zcnd hx (by omega)).mpr (by omega)
      exact ⟨w, by simp (disch := first | exact Nat.le_of_ble_eq_true rfl | exact zct_i _ | exact zct_r _ | exact zct_J | exact zct_n | exact rfl | rfl | exact zb01 _ | assumption | decide | (simp only [zsm_pf, zsm_as]; exact Sh.some (by assumption) (by decide) (by decide +kernel) (by decide +kernel))) only [e242_18, e242_19, e242_19n, e242_20, e242_21, e242_23, e242_24, e242_1563, e242_1564, hl0, q0, zgd_true, zcl_ite, zX, Nat.reduceLT, Option.isSome_some, true_and, and_true, zo_some, zoi_some, zon_some, zcl_some, Option.toList_some, Option.toList_none, List.cons_append, List.nil_append, ite_true, ite_false, reduceIte], by omega, by omega⟩
    · have hX : w.length + 100 < zX := by unfold zX; omega
      obtain ⟨w2, g1, g2, g3, g4⟩ := zlaw_turn H hx (k := k) (w := w) (by omega) hI hX (fun w2 => zrun (some (xs.map .int)) (242, 18, [.ref 1000006, .ref 0, .ref 35, .int (nI (8 * (k + 1)))], [], w2)) (fun _ => rfl)
      rw [g1]
      exact ih (k + 1) w2 (by omega) (by omega) g2 (by omega) (by omega)
/-- THE PURE STATEMENT out of the calls -/
theorem zpure_of (H : zOps) : zPure := by
  intro xs hx
  have r1 := zrun_more (xs := some (xs.map .int)) (zrun_of zW1_run)
  have r2 := zrun_more (xs := some (xs.map .int)) (zrun_of zW0_run)
  have hlen1 : zW1.length = 35 := by decide +kernel
  obtain ⟨wf, h1, h2, h3⟩ := zlaw_loop H hx (xs.length + 1) 0 zW0 (by omega) (by omega) zW0_inv (by rw [zW0_len.1]; omega) zW0_len.2
  refine ⟨wf, ?_, h2, h3⟩
  rw [← h1]
  have e1 : zrun (some (xs.map .int)) (242, 0, [.ref (zX + 6), zJ, zJ, zJ], [], []) = zrun (some (xs.map .int)) (242, 7, [.ref (zX + 6), zJ, zJ, zJ], [.ref 0], zW1) := by
    rw [e242_0, zgd_pos (p := ([] : zH).length + 1 < zX) (Nat.le_of_ble_eq_true rfl), List.nil_append]
    show zrun _ (242, 3, _, [.ref 0], [(11, znew 11)]) = _
    rw [e242_3r, e242_4 _ _ _ _ _ (Nat.le_of_ble_eq_true rfl) ⟨_, rfl⟩, r1]
    rfl
  have e2 : zrun (some (xs.map .int)) (242, 8, [.ref (zX + 6), .ref 0, zJ, zJ], [], zW1) = zrun (some (xs.map .int)) (242, 15, [.ref (zX + 6), .ref 0, zJ, zJ], [.ref 35], zW0) := by
    rw [e242_8, hlen1, zgd_pos (p := 35 + 1 < zX) (Nat.le_of_ble_eq_true rfl)]
    show zrun _ (242, 11, _, [.ref 35], zW1 ++ [(12, znew 12)]) = _
    rw [e242_11r, e242_12 _ _ _ _ _ (Nat.le_of_ble_eq_true rfl) ⟨_, by rw [← hlen1]; exact List.getElem?_concat_length⟩, show ([.ref 35, zJ] : List Value) = zloc (zM.getD 148 (0, 0, 0)).2.2 [.ref 35] from rfl, r2]
    rfl
  rw [e1, e242_7 _ _ _ _ _ _ _ _ rfl, e2, e242_15 _ _ _ _ _ _ _ _ rfl, e242_16, e242_17 _ _ _ _ _ _ _ _ rfl]
  rfl

