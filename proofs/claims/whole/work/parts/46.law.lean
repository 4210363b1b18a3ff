/-! the equations of the law's instructions (gen_46.py writes this) -/
noncomputable def zresx (xs : Option (List Value)) (a : zA) : Option zR := match a with
  | none => none
  | some (.inl r) => some r
  | some (.inr (.inl c')) => zrun xs c'
  | some (.inr (.inr (c1, y, pc, ls, st))) => match zrun xs c1 with
    | none => none
    | some r => zrun xs (y, pc, ls, r.1.toList ++ st, r.2)
theorem zEs {l : List Value} {y pc : Nat} {i : Instr} (hi : zP y pc = some i) (ls st : List Value) (w : zH) : zrun (some l) (y, pc, ls, st, w) = zresx (some l) (zI (some l) y pc ls st w i) := by
  rw [zrun_eq, zact, hi]
  rfl
/-- an int of the script -/
def zsx (l : List Value) (j : Int32) : Option Int32 := if j < 0 then none else match l[j.toNatClampNeg]? with
  | some (.int x) => some x
  | _ => none
theorem zqs_iald {l : List Value} {y pc : Nat} {ls st : List Value} {w : zH} {j : Int32} : zresx (some l) (zI (some l) y pc ls (.int j :: .ref 1000006 :: st) w .iaload) = zoi (zsx l j) (fun x => zrun (some l) (y, pc + 1, ls, .int x :: st, w)) := by
  have hr : zr (some l) w 1000006 = some (100, l) := rfl
  simp only [zI]
  unfold zald zsx
  dsimp only
  rw [hr]
  dsimp only
  by_cases h0 : j < 0
  · rw [if_neg (fun q => q.2 h0), if_pos h0]
    rfl
  · rw [if_pos ⟨rfl, h0⟩, if_neg h0]
    cases l[j.toNatClampNeg]? with
    | none => rfl
    | some v => cases v <;> rfl
theorem zqs_call {l : List Value} {y pc n pc2 : Nat} {ls vs rest ls1 : List Value} {w : zH} (hr : zcat rest ≤ 8) (hl : (zsl vs).length ≤ (zM.getD n (0, 0, 0)).2.2) (e : zloc (zM.getD n (0, 0, 0)).2.2 vs = ls1) (e2 : pc + 3 = pc2) : zresx (some l) (zcall n vs rest y pc ls w) = zcl (zrun (some l) (n, 0, ls1, [], w)) (fun r => zrun (some l) (y, pc2, ls, r.1.toList ++ rest, r.2)) := by
  subst e; subst e2
  unfold zcall
  rw [if_pos ⟨hr, hl⟩]
  show (match zrun (some l) _ with
    | none => none
    | some r => zrun (some l) _) = _
  cases zrun (some l) (n, 0, zloc (zM.getD n (0, 0, 0)).2.2 vs, [], w) <;> rfl
theorem zqs_if_eq {l : List Value} {y pc n t : Nat} {ls st : List Value} {w : zH} {a : Int32} {o : Int} (hn : pc + 3 = n) (ht : zj pc o = some t) : zresx (some l) (zI (some l) y pc ls (.int a :: st) w (.ifCond .eq o)) = if a = 0 then zrun (some l) (y, t, ls, st, w) else zrun (some l) (y, n, ls, st, w) := by
  subst hn
  simp only [zI]
  by_cases h : a = 0
  · rw [if_pos h]
    have hc : zcmp .eq a 0 = true := by simp [zcmp, h]
    rw [hc]
    simp [zjmp, ht, zgo, zresx]
  · rw [if_neg h]
    have hc : zcmp .eq a 0 = false := by simp [zcmp, h]
    rw [hc]
    simp [zjmp, ht, zgo, zresx]
theorem zqs_if_ne {l : List Value} {y pc n t : Nat} {ls st : List Value} {w : zH} {a : Int32} {o : Int} (hn : pc + 3 = n) (ht : zj pc o = some t) : zresx (some l) (zI (some l) y pc ls (.int a :: st) w (.ifCond .ne o)) = if a = 0 then zrun (some l) (y, n, ls, st, w) else zrun (some l) (y, t, ls, st, w) := by
  subst hn
  simp only [zI]
  by_cases h : a = 0
  · rw [if_pos h]
    have hc : zcmp .ne a 0 = false := by simp [zcmp, h]
    rw [hc]
    simp [zjmp, ht, zgo, zresx]
  · rw [if_neg h]
    have hc : zcmp .ne a 0 = true := by simp [zcmp, h]
    rw [hc]
    simp [zjmp, ht, zgo, zresx]
theorem zqs_if_lt {l : List Value} {y pc n t : Nat} {ls st : List Value} {w : zH} {a : Int32} {o : Int} (hn : pc + 3 = n) (ht : zj pc o = some t) : zresx (some l) (zI (some l) y pc ls (.int a :: st) w (.ifCond .lt o)) = if a < 0 then zrun (some l) (y, t, ls, st, w) else zrun (some l) (y, n, ls, st, w) := by
  subst hn
  simp only [zI]
  by_cases h : a < 0
  · rw [if_pos h]
    have hc : zcmp .lt a 0 = true := by simp [zcmp, h]
    rw [hc]
    simp [zjmp, ht, zgo, zresx]
  · rw [if_neg h]
    have hc : zcmp .lt a 0 = false := by simp [zcmp, h]
    rw [hc]
    simp [zjmp, ht, zgo, zresx]
theorem zqs_if_ge {l : List Value} {y pc n t : Nat} {ls st : List Value} {w : zH} {a : Int32} {o : Int} (hn : pc + 3 = n) (ht : zj pc o = some t) : zresx (some l) (zI (some l) y pc ls (.int a :: st) w (.ifCond .ge o)) = if 0 ≤ a then zrun (some l) (y, t, ls, st, w) else zrun (some l) (y, n, ls, st, w) := by
  subst hn
  simp only [zI]
  by_cases h : 0 ≤ a
  · rw [if_pos h]
    have hc : zcmp .ge a 0 = true := by simp [zcmp, h]
    rw [hc]
    simp [zjmp, ht, zgo, zresx]
  · rw [if_neg h]
    have hc : zcmp .ge a 0 = false := by simp [zcmp, h]
    rw [hc]
    simp [zjmp, ht, zgo, zresx]
theorem zqs_if_gt {l : List Value} {y pc n t : Nat} {ls st : List Value} {w : zH} {a : Int32} {o : Int} (hn : pc + 3 = n) (ht : zj pc o = some t) : zresx (some l) (zI (some l) y pc ls (.int a :: st) w (.ifCond .gt o)) = if 0 < a then zrun (some l) (y, t, ls, st, w) else zrun (some l) (y, n, ls, st, w) := by
  subst hn
  simp only [zI]
  by_cases h : 0 < a
  · rw [if_pos h]
    have hc : zcmp .gt a 0 = true := by simp [zcmp, h]
    rw [hc]
    simp [zjmp, ht, zgo, zresx]
  · rw [if_neg h]
    have hc : zcmp .gt a 0 = false := by simp [zcmp, h]
    rw [hc]
    simp [zjmp, ht, zgo, zresx]
theorem zqs_if_le {l : List Value} {y pc n t : Nat} {ls st : List Value} {w : zH} {a : Int32} {o : Int} (hn : pc + 3 = n) (ht : zj pc o = some t) : zresx (some l) (zI (some l) y pc ls (.int a :: st) w (.ifCond .le o)) = if a ≤ 0 then zrun (some l) (y, t, ls, st, w) else zrun (some l) (y, n, ls, st, w) := by
  subst hn
  simp only [zI]
  by_cases h : a ≤ 0
  · rw [if_pos h]
    have hc : zcmp .le a 0 = true := by simp [zcmp, h]
    rw [hc]
    simp [zjmp, ht, zgo, zresx]
  · rw [if_neg h]
    have hc : zcmp .le a 0 = false := by simp [zcmp, h]
    rw [hc]
    simp [zjmp, ht, zgo, zresx]
theorem zqs_ic_eq {l : List Value} {y pc n t : Nat} {ls st : List Value} {w : zH} {a b : Int32} {o : Int} (hn : pc + 3 = n) (ht : zj pc o = some t) : zresx (some l) (zI (some l) y pc ls (.int b :: .int a :: st) w (.if_icmp .eq o)) = if a = b then zrun (some l) (y, t, ls, st, w) else zrun (some l) (y, n, ls, st, w) := by
  subst hn
  simp only [zI]
  by_cases h : a = b
  · rw [if_pos h]
    have hc : zcmp .eq a b = true := by simp [zcmp, h]
    rw [hc]
    simp [zjmp, ht, zgo, zresx]
  · rw [if_neg h]
    have hc : zcmp .eq a b = false := by simp [zcmp, h]
    rw [hc]
    simp [zjmp, ht, zgo, zresx]
theorem zqs_ic_ne {l : List Value} {y pc n t : Nat} {ls st : List Value} {w : zH} {a b : Int32} {o : Int} (hn : pc + 3 = n) (ht : zj pc o = some t) : zresx (some l) (zI (some l) y pc ls (.int b :: .int a :: st) w (.if_icmp .ne o)) = if a = b then zrun (some l) (y, n, ls, st, w) else zrun (some l) (y, t, ls, st, w) := by
  subst hn
  simp only [zI]
  by_cases h : a = b
  · rw [if_pos h]
    have hc : zcmp .ne a b = false := by simp [zcmp, h]
    rw [hc]
    simp [zjmp, ht, zgo, zresx]
  · rw [if_neg h]
    have hc : zcmp .ne a b = true := by simp [zcmp, h]
    rw [hc]
    simp [zjmp, ht, zgo, zresx]
theorem zqs_ic_lt {l : List Value} {y pc n t : Nat} {ls st : List Value} {w : zH} {a b : Int32} {o : Int} (hn : pc + 3 = n) (ht : zj pc o = some t) : zresx (some l) (zI (some l) y pc ls (.int b :: .int a :: st) w (.if_icmp .lt o)) = if a < b then zrun (some l) (y, t, ls, st, w) else zrun (some l) (y, n, ls, st, w) := by
  subst hn
  simp only [zI]
  by_cases h : a < b
  · rw [if_pos h]
    have hc : zcmp .lt a b = true := by simp [zcmp, h]
    rw [hc]
    simp [zjmp, ht, zgo, zresx]
  · rw [if_neg h]
    have hc : zcmp .lt a b = false := by simp [zcmp, h]
    rw [hc]
    simp [zjmp, ht, zgo, zresx]
theorem zqs_ic_ge {l : List Value} {y pc n t : Nat} {ls st : List Value} {w : zH} {a b : Int32} {o : Int} (hn : pc + 3 = n) (ht : zj pc o = some t) : zresx (some l) (zI (some l) y pc ls (.int b :: .int a :: st) w (.if_icmp .ge o)) = if b ≤ a then zrun (some l) (y, t, ls, st, w) else zrun (some l) (y, n, ls, st, w) := by
  subst hn
  simp only [zI]
  by_cases h : b ≤ a
  · rw [if_pos h]
    have hc : zcmp .ge a b = true := by simp [zcmp, h]
    rw [hc]
    simp [zjmp, ht, zgo, zresx]
  · rw [if_neg h]
    have hc : zcmp .ge a b = false := by simp [zcmp, h]
    rw [hc]
    simp [zjmp, ht, zgo, zresx]
theorem zqs_ic_gt {l : List Value} {y pc n t : Nat} {ls st : List Value} {w : zH} {a b : Int32} {o : Int} (hn : pc + 3 = n) (ht : zj pc o = some t) : zresx (some l) (zI (some l) y pc ls (.int b :: .int a :: st) w (.if_icmp .gt o)) = if b < a then zrun (some l) (y, t, ls, st, w) else zrun (some l) (y, n, ls, st, w) := by
  subst hn
  simp only [zI]
  by_cases h : b < a
  · rw [if_pos h]
    have hc : zcmp .gt a b = true := by simp [zcmp, h]
    rw [hc]
    simp [zjmp, ht, zgo, zresx]
  · rw [if_neg h]
    have hc : zcmp .gt a b = false := by simp [zcmp, h]
    rw [hc]
    simp [zjmp, ht, zgo, zresx]
theorem zqs_ic_le {l : List Value} {y pc n t : Nat} {ls st : List Value} {w : zH} {a b : Int32} {o : Int} (hn : pc + 3 = n) (ht : zj pc o = some t) : zresx (some l) (zI (some l) y pc ls (.int b :: .int a :: st) w (.if_icmp .le o)) = if a ≤ b then zrun (some l) (y, t, ls, st, w) else zrun (some l) (y, n, ls, st, w) := by
  subst hn
  simp only [zI]
  by_cases h : a ≤ b
  · rw [if_pos h]
    have hc : zcmp .le a b = true := by simp [zcmp, h]
    rw [hc]
    simp [zjmp, ht, zgo, zresx]
  · rw [if_neg h]
    have hc : zcmp .le a b = false := by simp [zcmp, h]
    rw [hc]
    simp [zjmp, ht, zgo, zresx]
theorem e242_0 (l : List Value) (ls st : List Value) (w : zH) : zrun (some l) (242, 0, ls, st, w) = zgd (w.length + 1 < zX) (zrun (some l) (242, 3, ls, (.ref w.length :: st), w ++ [(11, [.null, .null, .null, .int 0, .null, .null, .int 0, .int 0, .null, .int 0, .null, .null, .int 0, .null, .null, .null, .int 0, .null, .int 0, .int 0])])) := by
  refine (zEs (i := .new 11) (by decide +kernel) _ _ _).trans ?_
  simp only [zI]
  rw [if_pos (by decide)]
  unfold znw
  by_cases h : w.length + 1 < zX
  · rw [if_pos h, zgd_pos h]
    rfl
  · rw [if_neg h, zgd_neg h]
    rfl
theorem e242_3 (l : List Value) (ls : List Value) (x : Int32) (st : List Value) (w : zH) : zrun (some l) (242, 3, ls, (.int x :: st), w) = zrun (some l) (242, 4, ls, (.int x :: .int x :: st), w) := (zEs (i := .dup) (by decide +kernel) _ _ _).trans rfl
theorem e242_3r (l : List Value) (ls : List Value) (x : Nat) (st : List Value) (w : zH) : zrun (some l) (242, 3, ls, (.ref x :: st), w) = zrun (some l) (242, 4, ls, (.ref x :: .ref x :: st), w) := (zEs (i := .dup) (by decide +kernel) _ _ _).trans rfl
theorem e242_4 (l : List Value) (ls : List Value) (a : Nat) (st : List Value) (w : zH) (hr : zcat st ≤ 8) (hc : zis w a 11) : zrun (some l) (242, 4, ls, (.ref a :: st), w) = zcl (zrun (some l) (64, 0, [.ref a, zJ], [], w)) (fun r => zrun (some l) (242, 7, ls, r.1.toList ++ st, r.2)) := by
  refine (zEs (i := .invokespecial 64) (by decide +kernel) _ _ _).trans ?_
  show zresx (some l) (zinv (some l) 64 242 4 ls (.ref a :: st) w) = _
  unfold zinv
  show zresx (some l) (if zrc (some l) 64 w (.ref a) = true then zcall 64 [.ref a] st 242 4 ls w else none) = _
  rw [if_pos (zrc_more (zrc_is hc (by decide +kernel)))]
  exact zqs_call hr (Nat.le_of_ble_eq_true rfl) rfl rfl
theorem e242_7 (l : List Value) (v0 v1 v2 v3 : Value) (x : Nat) (st : List Value) (w : zH) (h : v0.category = 1) : zrun (some l) (242, 7, [v0, v1, v2, v3], (.ref x :: st), w) = zrun (some l) (242, 8, [v0, .ref x, v2, v3], st, w) := by
  refine (zEs (i := .astore_n 1) (by decide +kernel) _ _ _).trans ?_
  have hz : zfree [v0, v1, v2, v3] 1 = true := by show decide (v0.category = 1) = true; exact decide_eq_true h
  show zresx (some l) (zst zref 1 1 242 7 [v0, v1, v2, v3] (.ref x :: st) w) = _
  unfold zst
  dsimp only
  rw [if_pos ⟨rfl, Nat.le_of_ble_eq_true rfl, hz⟩]
  rfl
theorem e242_7n (l : List Value) (v0 v1 v2 v3 : Value) (st : List Value) (w : zH) (h : v0.category = 1) : zrun (some l) (242, 7, [v0, v1, v2, v3], (.null :: st), w) = zrun (some l) (242, 8, [v0, .null, v2, v3], st, w) := by
  refine (zEs (i := .astore_n 1) (by decide +kernel) _ _ _).trans ?_
  have hz : zfree [v0, v1, v2, v3] 1 = true := by show decide (v0.category = 1) = true; exact decide_eq_true h
  show zresx (some l) (zst zref 1 1 242 7 [v0, v1, v2, v3] (.null :: st) w) = _
  unfold zst
  dsimp only
  rw [if_pos ⟨rfl, Nat.le_of_ble_eq_true rfl, hz⟩]
  rfl
theorem e242_8 (l : List Value) (ls st : List Value) (w : zH) : zrun (some l) (242, 8, ls, st, w) = zgd (w.length + 1 < zX) (zrun (some l) (242, 11, ls, (.ref w.length :: st), w ++ [(12, [.int 0, .int 0, .null, .null, .null, .int 0, .int 0, .null, .null, .null, .null, .int 0, .null, .null, .null, .null, .int 0, .int 0, .null, .int 0, .null, .int 0, .int 0, .int 0, .int 0, .int 0, .int 0, .int 0, .int 0, .int 0, .int 0, .null, .null, .null, .null, .null, .null, .int 0, .null, .null, .int 0, .null, .null, .null, .int 0, .null, .null, .null, .null, .null, .int 0])])) := by
  refine (zEs (i := .new 12) (by decide +kernel) _ _ _).trans ?_
  simp only [zI]
  rw [if_pos (by decide)]
  unfold znw
  by_cases h : w.length + 1 < zX
  · rw [if_pos h, zgd_pos h]
    rfl
  · rw [if_neg h, zgd_neg h]
    rfl
theorem e242_11 (l : List Value) (ls : List Value) (x : Int32) (st : List Value) (w : zH) : zrun (some l) (242, 11, ls, (.int x :: st), w) = zrun (some l) (242, 12, ls, (.int x :: .int x :: st), w) := (zEs (i := .dup) (by decide +kernel) _ _ _).trans rfl
theorem e242_11r (l : List Value) (ls : List Value) (x : Nat) (st : List Value) (w : zH) : zrun (some l) (242, 11, ls, (.ref x :: st), w) = zrun (some l) (242, 12, ls, (.ref x :: .ref x :: st), w) := (zEs (i := .dup) (by decide +kernel) _ _ _).trans rfl
theorem e242_12 (l : List Value) (ls : List Value) (a : Nat) (st : List Value) (w : zH) (hr : zcat st ≤ 8) (hc : zis w a 12) : zrun (some l) (242, 12, ls, (.ref a :: st), w) = zcl (zrun (some l) (148, 0, [.ref a, zJ], [], w)) (fun r => zrun (some l) (242, 15, ls, r.1.toList ++ st, r.2)) := by
  refine (zEs (i := .invokespecial 148) (by decide +kernel) _ _ _).trans ?_
  show zresx (some l) (zinv (some l) 148 242 12 ls (.ref a :: st) w) = _
  unfold zinv
  show zresx (some l) (if zrc (some l) 148 w (.ref a) = true then zcall 148 [.ref a] st 242 12 ls w else none) = _
  rw [if_pos (zrc_more (zrc_is hc (by decide +kernel)))]
  exact zqs_call hr (Nat.le_of_ble_eq_true rfl) rfl rfl
theorem e242_15 (l : List Value) (v0 v1 v2 v3 : Value) (x : Nat) (st : List Value) (w : zH) (h : v1.category = 1) : zrun (some l) (242, 15, [v0, v1, v2, v3], (.ref x :: st), w) = zrun (some l) (242, 16, [v0, v1, .ref x, v3], st, w) := by
  refine (zEs (i := .astore_n 2) (by decide +kernel) _ _ _).trans ?_
  have hz : zfree [v0, v1, v2, v3] 2 = true := by show decide (v1.category = 1) = true; exact decide_eq_true h
  show zresx (some l) (zst zref 2 1 242 15 [v0, v1, v2, v3] (.ref x :: st) w) = _
  unfold zst
  dsimp only
  rw [if_pos ⟨rfl, Nat.le_of_ble_eq_true rfl, hz⟩]
  rfl
theorem e242_15n (l : List Value) (v0 v1 v2 v3 : Value) (st : List Value) (w : zH) (h : v1.category = 1) : zrun (some l) (242, 15, [v0, v1, v2, v3], (.null :: st), w) = zrun (some l) (242, 16, [v0, v1, .null, v3], st, w) := by
  refine (zEs (i := .astore_n 2) (by decide +kernel) _ _ _).trans ?_
  have hz : zfree [v0, v1, v2, v3] 2 = true := by show decide (v1.category = 1) = true; exact decide_eq_true h
  show zresx (some l) (zst zref 2 1 242 15 [v0, v1, v2, v3] (.null :: st) w) = _
  unfold zst
  dsimp only
  rw [if_pos ⟨rfl, Nat.le_of_ble_eq_true rfl, hz⟩]
  rfl
theorem e242_16 (l : List Value) (ls st : List Value) (w : zH) : zrun (some l) (242, 16, ls, st, w) = zrun (some l) (242, 17, ls, (.int 0 :: st), w) := (zEs (i := .iconst 0) (by decide +kernel) _ _ _).trans rfl
theorem e242_17 (l : List Value) (v0 v1 v2 v3 : Value) (x : Int32) (st : List Value) (w : zH) (h : v2.category = 1) : zrun (some l) (242, 17, [v0, v1, v2, v3], (.int x :: st), w) = zrun (some l) (242, 18, [v0, v1, v2, .int x], st, w) := by
  refine (zEs (i := .istore_n 3) (by decide +kernel) _ _ _).trans ?_
  have hz : zfree [v0, v1, v2, v3] 3 = true := by show decide (v2.category = 1) = true; exact decide_eq_true h
  show zresx (some l) (zst zint 3 1 242 17 [v0, v1, v2, v3] (.int x :: st) w) = _
  unfold zst
  dsimp only
  rw [if_pos ⟨rfl, Nat.le_of_ble_eq_true rfl, hz⟩]
  rfl
theorem e242_18 (l : List Value) (v0 v1 v2 : Value) (x : Int32) (st : List Value) (w : zH) : zrun (some l) (242, 18, [v0, v1, v2, .int x], st, w) = zrun (some l) (242, 19, [v0, v1, v2, .int x], (.int x :: st), w) := (zEs (i := .iload_n 3) (by decide +kernel) _ _ _).trans rfl
theorem e242_19 (l : List Value) (v1 v2 v3 : Value) (x : Nat) (st : List Value) (w : zH) : zrun (some l) (242, 19, [.ref x, v1, v2, v3], st, w) = zrun (some l) (242, 20, [.ref x, v1, v2, v3], (.ref x :: st), w) := (zEs (i := .aload_n 0) (by decide +kernel) _ _ _).trans rfl
theorem e242_19n (l : List Value) (v1 v2 v3 : Value) (st : List Value) (w : zH) : zrun (some l) (242, 19, [.null, v1, v2, v3], st, w) = zrun (some l) (242, 20, [.null, v1, v2, v3], (.null :: st), w) := (zEs (i := .aload_n 0) (by decide +kernel) _ _ _).trans rfl
theorem e242_20 (l : List Value) (ls : List Value) (st : List Value) (w : zH) : zrun (some l) (242, 20, ls, (.ref 1000006 :: st), w) = zrun (some l) (242, 21, ls, (.int (Int32.ofNat l.length) :: st), w) := (zEs (i := .arraylength) (by decide +kernel) _ _ _).trans rfl
theorem e242_21 (l : List Value) (ls st : List Value) (w : zH) : zrun (some l) (242, 21, ls, st, w) = zrun (some l) (242, 23, ls, (.int 8 :: st), w) := (zEs (i := .bipush 8) (by decide +kernel) _ _ _).trans rfl
theorem e242_23 (l : List Value) (ls : List Value) (a b : Int32) (st : List Value) (w : zH) : zrun (some l) (242, 23, ls, (.int b :: .int a :: st), w) = zrun (some l) (242, 24, ls, (.int (a - b) :: st), w) := (zEs (i := .isub) (by decide +kernel) _ _ _).trans rfl
theorem e242_24 (l : List Value) (ls : List Value) (a b : Int32) (st : List Value) (w : zH) : zrun (some l) (242, 24, ls, (.int b :: .int a :: st), w) = if b < a then zrun (some l) (242, 1563, ls, st, w) else zrun (some l) (242, 27, ls, st, w) := (zEs (i := .if_icmp .gt 1539) (by decide +kernel) _ _ _).trans (zqs_ic_gt rfl rfl)
theorem e242_27 (l : List Value) (v1 v2 v3 : Value) (x : Nat) (st : List Value) (w : zH) : zrun (some l) (242, 27, [.ref x, v1, v2, v3], st, w) = zrun (some l) (242, 28, [.ref x, v1, v2, v3], (.ref x :: st), w) := (zEs (i := .aload_n 0) (by decide +kernel) _ _ _).trans rfl
theorem e242_27n (l : List Value) (v1 v2 v3 : Value) (st : List Value) (w : zH) : zrun (some l) (242, 27, [.null, v1, v2, v3], st, w) = zrun (some l) (242, 28, [.null, v1, v2, v3], (.null :: st), w) := (zEs (i := .aload_n 0) (by decide +kernel) _ _ _).trans rfl
theorem e242_28 (l : List Value) (v0 v1 v2 : Value) (x : Int32) (st : List Value) (w : zH) : zrun (some l) (242, 28, [v0, v1, v2, .int x], st, w) = zrun (some l) (242, 29, [v0, v1, v2, .int x], (.int x :: st), w) := (zEs (i := .iload_n 3) (by decide +kernel) _ _ _).trans rfl
theorem e242_29 (l : List Value) (ls : List Value) (j : Int32) (st : List Value) (w : zH) : zrun (some l) (242, 29, ls, (.int j :: .ref 1000006 :: st), w) = zoi (zsx l j) (fun x => zrun (some l) (242, 30, ls, (.int x :: st), w)) := (zEs (i := .iaload) (by decide +kernel) _ _ _).trans zqs_iald
theorem e242_30 (l : List Value) (ls st : List Value) (w : zH) : zrun (some l) (242, 30, ls, st, w) = zrun (some l) (242, 32, ls, (.int 63 :: st), w) := (zEs (i := .bipush 63) (by decide +kernel) _ _ _).trans rfl
theorem e242_32 (l : List Value) (ls : List Value) (a b : Int32) (st : List Value) (w : zH) : zrun (some l) (242, 32, ls, (.int b :: .int a :: st), w) = zrun (some l) (242, 33, ls, (.int (a &&& b) :: st), w) := (zEs (i := .iand) (by decide +kernel) _ _ _).trans rfl
theorem e242_33 (l : List Value) (ls : List Value) (a : Int32) (st : List Value) (w : zH) : zrun (some l) (242, 33, ls, (.int a :: st), w) = if a = 0 then zrun (some l) (242, 188, ls, st, w) else if a = 1 then zrun (some l) (242, 231, ls, st, w) else if a = 2 then zrun (some l) (242, 274, ls, st, w) else if a = 3 then zrun (some l) (242, 337, ls, st, w) else if a = 4 then zrun (some l) (242, 360, ls, st, w) else if a = 5 then zrun (some l) (242, 373, ls, st, w) else if a = 6 then zrun (some l) (242, 426, ls, st, w) else if a = 7 then zrun (some l) (242, 469, ls, st, w) else if a = 8 then zrun (some l) (242, 522, ls, st, w) else if a = 9 then zrun (some l) (242, 555, ls, st, w) else if a = 10 then zrun (some l) (242, 618, ls, st, w) else if a = 11 then zrun (some l) (242, 631, ls, st, w) else if a = 12 then zrun (some l) (242, 644, ls, st, w) else if a = 13 then zrun (some l) (242, 697, ls, st, w) else if a = 14 then zrun (some l) (242, 760, ls, st, w) else if a = 15 then zrun (some l) (242, 803, ls, st, w) else if a = 16 then zrun (some l) (242, 836, ls, st, w) else if a = 17 then zrun (some l) (242, 869, ls, st, w) else if a = 18 then zrun (some l) (242, 902, ls, st, w) else if a = 19 then zrun (some l) (242, 945, ls, st, w) else if a = 20 then zrun (some l) (242, 978, ls, st, w) else if a = 21 then zrun (some l) (242, 1011, ls, st, w) else if a = 22 then zrun (some l) (242, 1074, ls, st, w) else if a = 23 then zrun (some l) (242, 1161, ls, st, w) else if a = 24 then zrun (some l) (242, 1204, ls, st, w) else if a = 25 then zrun (some l) (242, 1237, ls, st, w) else if a = 26 then zrun (some l) (242, 1290, ls, st, w) else if a = 27 then zrun (some l) (242, 1323, ls, st, w) else if a = 28 then zrun (some l) (242, 1386, ls, st, w) else if a = 29 then zrun (some l) (242, 1409, ls, st, w) else if a = 30 then zrun (some l) (242, 1432, ls, st, w) else if a = 31 then zrun (some l) (242, 1465, ls, st, w) else if a = 32 then zrun (some l) (242, 1498, ls, st, w) else if a = 33 then zrun (some l) (242, 1521, ls, st, w) else if a = 34 then zrun (some l) (242, 1544, ls, st, w) else zrun (some l) (242, 1557, ls, st, w) := by
  refine (zEs (i := .tableswitch 1524 0 34 #[155, 198, 241, 304, 327, 340, 393, 436, 489, 522, 585, 598, 611, 664, 727, 770, 803, 836, 869, 912, 945, 978, 1041, 1128, 1171, 1204, 1257, 1290, 1353, 1376, 1399, 1432, 1465, 1488, 1511]) (by decide +kernel) _ _ _).trans ?_
  by_cases h1000 : a = 0
  · subst h1000
    rfl
  rw [if_neg h1000]
  by_cases h1001 : a = 1
  · subst h1001
    rfl
  rw [if_neg h1001]
  by_cases h1002 : a = 2
  · subst h1002
    rfl
  rw [if_neg h1002]
  by_cases h1003 : a = 3
  · subst h1003
    rfl
  rw [if_neg h1003]
  by_cases h1004 : a = 4
  · subst h1004
    rfl
  rw [if_neg h1004]
  by_cases h1005 : a = 5
  · subst h1005
    rfl
  rw [if_neg h1005]
  by_cases h1006 : a = 6
  · subst h1006
    rfl
  rw [if_neg h1006]
  by_cases h1007 : a = 7
  · subst h1007
    rfl
  rw [if_neg h1007]
  by_cases h1008 : a = 8
  · subst h1008
    rfl
  rw [if_neg h1008]
  by_cases h1009 : a = 9
  · subst h1009
    rfl
  rw [if_neg h1009]
  by_cases h1010 : a = 10
  · subst h1010
    rfl
  rw [if_neg h1010]
  by_cases h1011 : a = 11
  · subst h1011
    rfl
  rw [if_neg h1011]
  by_cases h1012 : a = 12
  · subst h1012
    rfl
  rw [if_neg h1012]
  by_cases h1013 : a = 13
  · subst h1013
    rfl
  rw [if_neg h1013]
  by_cases h1014 : a = 14
  · subst h1014
    rfl
  rw [if_neg h1014]
  by_cases h1015 : a = 15
  · subst h1015
    rfl
  rw [if_neg h1015]
  by_cases h1016 : a = 16
  · subst h1016
    rfl
  rw [if_neg h1016]
  by_cases h1017 : a = 17
  · subst h1017
    rfl
  rw [if_neg h1017]
  by_cases h1018 : a = 18
  · subst h1018
    rfl
  rw [if_neg h1018]
  by_cases h1019 : a = 19
  · subst h1019
    rfl
  rw [if_neg h1019]
  by_cases h1020 : a = 20
  · subst h1020
    rfl
  rw [if_neg h1020]
  by_cases h1021 : a = 21
  · subst h1021
    rfl
  rw [if_neg h1021]
  by_cases h1022 : a = 22
  · subst h1022
    rfl
  rw [if_neg h1022]
  by_cases h1023 : a = 23
  · subst h1023
    rfl
  rw [if_neg h1023]
  by_cases h1024 : a = 24
  · subst h1024
    rfl
  rw [if_neg h1024]
  by_cases h1025 : a = 25
  · subst h1025
    rfl
  rw [if_neg h1025]
  by_cases h1026 : a = 26
  · subst h1026
    rfl
  rw [if_neg h1026]
  by_cases h1027 : a = 27
  · subst h1027
    rfl
  rw [if_neg h1027]
  by_cases h1028 : a = 28
  · subst h1028
    rfl
  rw [if_neg h1028]
  by_cases h1029 : a = 29
  · subst h1029
    rfl
  rw [if_neg h1029]
  by_cases h1030 : a = 30
  · subst h1030
    rfl
  rw [if_neg h1030]
  by_cases h1031 : a = 31
  · subst h1031
    rfl
  rw [if_neg h1031]
  by_cases h1032 : a = 32
  · subst h1032
    rfl
  rw [if_neg h1032]
  by_cases h1033 : a = 33
  · subst h1033
    rfl
  rw [if_neg h1033]
  by_cases h1034 : a = 34
  · subst h1034
    rfl
  rw [if_neg h1034]
  have hr : a.toInt < 0 ∨ 34 < a.toInt := by
    by_cases q1 : a.toInt < 0
    · exact Or.inl q1
    by_cases q2 : 34 < a.toInt
    · exact Or.inr q2
    exfalso
    have k1000 := zne32 h1000
    have k1001 := zne32 h1001
    have k1002 := zne32 h1002
    have k1003 := zne32 h1003
    have k1004 := zne32 h1004
    have k1005 := zne32 h1005
    have k1006 := zne32 h1006
    have k1007 := zne32 h1007
    have k1008 := zne32 h1008
    have k1009 := zne32 h1009
    have k1010 := zne32 h1010
    have k1011 := zne32 h1011
    have k1012 := zne32 h1012
    have k1013 := zne32 h1013
    have k1014 := zne32 h1014
    have k1015 := zne32 h1015
    have k1016 := zne32 h1016
    have k1017 := zne32 h1017
    have k1018 := zne32 h1018
    have k1019 := zne32 h1019
    have k1020 := zne32 h1020
    have k1021 := zne32 h1021
    have k1022 := zne32 h1022
    have k1023 := zne32 h1023
    have k1024 := zne32 h1024
    have k1025 := zne32 h1025
    have k1026 := zne32 h1026
    have k1027 := zne32 h1027
    have k1028 := zne32 h1028
    have k1029 := zne32 h1029
    have k1030 := zne32 h1030
    have k1031 := zne32 h1031
    have k1032 := zne32 h1032
    have k1033 := zne32 h1033
    have k1034 := zne32 h1034
    have j1000 : ((0 : Int32)).toInt = 0 := by decide
    rw [j1000] at k1000
    have j1001 : ((1 : Int32)).toInt = 1 := by decide
    rw [j1001] at k1001
    have j1002 : ((2 : Int32)).toInt = 2 := by decide
    rw [j1002] at k1002
    have j1003 : ((3 : Int32)).toInt = 3 := by decide
    rw [j1003] at k1003
    have j1004 : ((4 : Int32)).toInt = 4 := by decide
    rw [j1004] at k1004
    have j1005 : ((5 : Int32)).toInt = 5 := by decide
    rw [j1005] at k1005
    have j1006 : ((6 : Int32)).toInt = 6 := by decide
    rw [j1006] at k1006
    have j1007 : ((7 : Int32)).toInt = 7 := by decide
    rw [j1007] at k1007
    have j1008 : ((8 : Int32)).toInt = 8 := by decide
    rw [j1008] at k1008
    have j1009 : ((9 : Int32)).toInt = 9 := by decide
    rw [j1009] at k1009
    have j1010 : ((10 : Int32)).toInt = 10 := by decide
    rw [j1010] at k1010
    have j1011 : ((11 : Int32)).toInt = 11 := by decide
    rw [j1011] at k1011
    have j1012 : ((12 : Int32)).toInt = 12 := by decide
    rw [j1012] at k1012
    have j1013 : ((13 : Int32)).toInt = 13 := by decide
    rw [j1013] at k1013
    have j1014 : ((14 : Int32)).toInt = 14 := by decide
    rw [j1014] at k1014
    have j1015 : ((15 : Int32)).toInt = 15 := by decide
    rw [j1015] at k1015
    have j1016 : ((16 : Int32)).toInt = 16 := by decide
    rw [j1016] at k1016
    have j1017 : ((17 : Int32)).toInt = 17 := by decide
    rw [j1017] at k1017
    have j1018 : ((18 : Int32)).toInt = 18 := by decide
    rw [j1018] at k1018
    have j1019 : ((19 : Int32)).toInt = 19 := by decide
    rw [j1019] at k1019
    have j1020 : ((20 : Int32)).toInt = 20 := by decide
    rw [j1020] at k1020
    have j1021 : ((21 : Int32)).toInt = 21 := by decide
    rw [j1021] at k1021
    have j1022 : ((22 : Int32)).toInt = 22 := by decide
    rw [j1022] at k1022
    have j1023 : ((23 : Int32)).toInt = 23 := by decide
    rw [j1023] at k1023
    have j1024 : ((24 : Int32)).toInt = 24 := by decide
    rw [j1024] at k1024
    have j1025 : ((25 : Int32)).toInt = 25 := by decide
    rw [j1025] at k1025
    have j1026 : ((26 : Int32)).toInt = 26 := by decide
    rw [j1026] at k1026
    have j1027 : ((27 : Int32)).toInt = 27 := by decide
    rw [j1027] at k1027
    have j1028 : ((28 : Int32)).toInt = 28 := by decide
    rw [j1028] at k1028
    have j1029 : ((29 : Int32)).toInt = 29 := by decide
    rw [j1029] at k1029
    have j1030 : ((30 : Int32)).toInt = 30 := by decide
    rw [j1030] at k1030
    have j1031 : ((31 : Int32)).toInt = 31 := by decide
    rw [j1031] at k1031
    have j1032 : ((32 : Int32)).toInt = 32 := by decide
    rw [j1032] at k1032
    have j1033 : ((33 : Int32)).toInt = 33 := by decide
    rw [j1033] at k1033
    have j1034 : ((34 : Int32)).toInt = 34 := by decide
    rw [j1034] at k1034
    omega
  simp only [zI, if_pos hr]
  rfl
theorem e242_188 (l : List Value) (v0 v2 v3 : Value) (x : Nat) (st : List Value) (w : zH) : zrun (some l) (242, 188, [v0, .ref x, v2, v3], st, w) = zrun (some l) (242, 189, [v0, .ref x, v2, v3], (.ref x :: st), w) := (zEs (i := .aload_n 1) (by decide +kernel) _ _ _).trans rfl
theorem e242_188n (l : List Value) (v0 v2 v3 : Value) (st : List Value) (w : zH) : zrun (some l) (242, 188, [v0, .null, v2, v3], st, w) = zrun (some l) (242, 189, [v0, .null, v2, v3], (.null :: st), w) := (zEs (i := .aload_n 1) (by decide +kernel) _ _ _).trans rfl
theorem e242_189 (l : List Value) (v1 v2 v3 : Value) (x : Nat) (st : List Value) (w : zH) : zrun (some l) (242, 189, [.ref x, v1, v2, v3], st, w) = zrun (some l) (242, 190, [.ref x, v1, v2, v3], (.ref x :: st), w) := (zEs (i := .aload_n 0) (by decide +kernel) _ _ _).trans rfl
theorem e242_189n (l : List Value) (v1 v2 v3 : Value) (st : List Value) (w : zH) : zrun (some l) (242, 189, [.null, v1, v2, v3], st, w) = zrun (some l) (242, 190, [.null, v1, v2, v3], (.null :: st), w) := (zEs (i := .aload_n 0) (by decide +kernel) _ _ _).trans rfl
theorem e242_190 (l : List Value) (v0 v1 v2 : Value) (x : Int32) (st : List Value) (w : zH) : zrun (some l) (242, 190, [v0, v1, v2, .int x], st, w) = zrun (some l) (242, 191, [v0, v1, v2, .int x], (.int x :: st), w) := (zEs (i := .iload_n 3) (by decide +kernel) _ _ _).trans rfl
theorem e242_191 (l : List Value) (ls st : List Value) (w : zH) : zrun (some l) (242, 191, ls, st, w) = zrun (some l) (242, 192, ls, (.int 1 :: st), w) := (zEs (i := .iconst 1) (by decide +kernel) _ _ _).trans rfl
theorem e242_192 (l : List Value) (ls : List Value) (a b : Int32) (st : List Value) (w : zH) : zrun (some l) (242, 192, ls, (.int b :: .int a :: st), w) = zrun (some l) (242, 193, ls, (.int (a + b) :: st), w) := (zEs (i := .iadd) (by decide +kernel) _ _ _).trans rfl
theorem e242_193 (l : List Value) (ls : List Value) (j : Int32) (st : List Value) (w : zH) : zrun (some l) (242, 193, ls, (.int j :: .ref 1000006 :: st), w) = zoi (zsx l j) (fun x => zrun (some l) (242, 194, ls, (.int x :: st), w)) := (zEs (i := .iaload) (by decide +kernel) _ _ _).trans zqs_iald
theorem e242_194 (l : List Value) (v1 v2 v3 : Value) (x : Nat) (st : List Value) (w : zH) : zrun (some l) (242, 194, [.ref x, v1, v2, v3], st, w) = zrun (some l) (242, 195, [.ref x, v1, v2, v3], (.ref x :: st), w) := (zEs (i := .aload_n 0) (by decide +kernel) _ _ _).trans rfl
theorem e242_194n (l : List Value) (v1 v2 v3 : Value) (st : List Value) (w : zH) : zrun (some l) (242, 194, [.null, v1, v2, v3], st, w) = zrun (some l) (242, 195, [.null, v1, v2, v3], (.null :: st), w) := (zEs (i := .aload_n 0) (by decide +kernel) _ _ _).trans rfl
theorem e242_195 (l : List Value) (v0 v1 v2 : Value) (x : Int32) (st : List Value) (w : zH) : zrun (some l) (242, 195, [v0, v1, v2, .int x], st, w) = zrun (some l) (242, 196, [v0, v1, v2, .int x], (.int x :: st), w) := (zEs (i := .iload_n 3) (by decide +kernel) _ _ _).trans rfl
theorem e242_196 (l : List Value) (ls st : List Value) (w : zH) : zrun (some l) (242, 196, ls, st, w) = zrun (some l) (242, 197, ls, (.int 2 :: st), w) := (zEs (i := .iconst 2) (by decide +kernel) _ _ _).trans rfl
theorem e242_197 (l : List Value) (ls : List Value) (a b : Int32) (st : List Value) (w : zH) : zrun (some l) (242, 197, ls, (.int b :: .int a :: st), w) = zrun (some l) (242, 198, ls, (.int (a + b) :: st), w) := (zEs (i := .iadd) (by decide +kernel) _ _ _).trans rfl
theorem e242_198 (l : List Value) (ls : List Value) (j : Int32) (st : List Value) (w : zH) : zrun (some l) (242, 198, ls, (.int j :: .ref 1000006 :: st), w) = zoi (zsx l j) (fun x => zrun (some l) (242, 199, ls, (.int x :: st), w)) := (zEs (i := .iaload) (by decide +kernel) _ _ _).trans zqs_iald
theorem e242_199 (l : List Value) (v1 v2 v3 : Value) (x : Nat) (st : List Value) (w : zH) : zrun (some l) (242, 199, [.ref x, v1, v2, v3], st, w) = zrun (some l) (242, 200, [.ref x, v1, v2, v3], (.ref x :: st), w) := (zEs (i := .aload_n 0) (by decide +kernel) _ _ _).trans rfl
theorem e242_199n (l : List Value) (v1 v2 v3 : Value) (st : List Value) (w : zH) : zrun (some l) (242, 199, [.null, v1, v2, v3], st, w) = zrun (some l) (242, 200, [.null, v1, v2, v3], (.null :: st), w) := (zEs (i := .aload_n 0) (by decide +kernel) _ _ _).trans rfl
theorem e242_200 (l : List Value) (v0 v1 v2 : Value) (x : Int32) (st : List Value) (w : zH) : zrun (some l) (242, 200, [v0, v1, v2, .int x], st, w) = zrun (some l) (242, 201, [v0, v1, v2, .int x], (.int x :: st), w) := (zEs (i := .iload_n 3) (by decide +kernel) _ _ _).trans rfl
theorem e242_201 (l : List Value) (ls st : List Value) (w : zH) : zrun (some l) (242, 201, ls, st, w) = zrun (some l) (242, 202, ls, (.int 3 :: st), w) := (zEs (i := .iconst 3) (by decide +kernel) _ _ _).trans rfl
theorem e242_202 (l : List Value) (ls : List Value) (a b : Int32) (st : List Value) (w : zH) : zrun (some l) (242, 202, ls, (.int b :: .int a :: st), w) = zrun (some l) (242, 203, ls, (.int (a + b) :: st), w) := (zEs (i := .iadd) (by decide +kernel) _ _ _).trans rfl
theorem e242_203 (l : List Value) (ls : List Value) (j : Int32) (st : List Value) (w : zH) : zrun (some l) (242, 203, ls, (.int j :: .ref 1000006 :: st), w) = zoi (zsx l j) (fun x => zrun (some l) (242, 204, ls, (.int x :: st), w)) := (zEs (i := .iaload) (by decide +kernel) _ _ _).trans zqs_iald
theorem e242_204 (l : List Value) (ls : List Value) (a : Nat) (x0 : Int32) (x1 : Int32) (x2 : Int32) (st : List Value) (w : zH) (hr : zcat st ≤ 8) (hc : zis w a 11) : zrun (some l) (242, 204, ls, (.int x2 :: .int x1 :: .int x0 :: .ref a :: st), w) = zcl (zrun (some l) (65, 0, [.ref a, .int x0, .int x1, .int x2, zJ], [], w)) (fun r => zrun (some l) (242, 207, ls, r.1.toList ++ st, r.2)) := by
  refine (zEs (i := .invokevirtual 65) (by decide +kernel) _ _ _).trans ?_
  show zresx (some l) (zinv (some l) 65 242 204 ls (.int x2 :: .int x1 :: .int x0 :: .ref a :: st) w) = _
  unfold zinv
  show zresx (some l) (if zrc (some l) 65 w (.ref a) = true then zcall 65 [.ref a, .int x0, .int x1, .int x2] st 242 204 ls w else none) = _
  rw [if_pos (zrc_more (zrc_is hc (by decide +kernel)))]
  exact zqs_call hr (Nat.le_of_ble_eq_true rfl) rfl rfl
theorem e242_207 (l : List Value) (v0 v1 v3 : Value) (x : Nat) (st : List Value) (w : zH) : zrun (some l) (242, 207, [v0, v1, .ref x, v3], st, w) = zrun (some l) (242, 208, [v0, v1, .ref x, v3], (.ref x :: st), w) := (zEs (i := .aload_n 2) (by decide +kernel) _ _ _).trans rfl
theorem e242_207n (l : List Value) (v0 v1 v3 : Value) (st : List Value) (w : zH) : zrun (some l) (242, 207, [v0, v1, .null, v3], st, w) = zrun (some l) (242, 208, [v0, v1, .null, v3], (.null :: st), w) := (zEs (i := .aload_n 2) (by decide +kernel) _ _ _).trans rfl
theorem e242_208 (l : List Value) (v1 v2 v3 : Value) (x : Nat) (st : List Value) (w : zH) : zrun (some l) (242, 208, [.ref x, v1, v2, v3], st, w) = zrun (some l) (242, 209, [.ref x, v1, v2, v3], (.ref x :: st), w) := (zEs (i := .aload_n 0) (by decide +kernel) _ _ _).trans rfl
theorem e242_208n (l : List Value) (v1 v2 v3 : Value) (st : List Value) (w : zH) : zrun (some l) (242, 208, [.null, v1, v2, v3], st, w) = zrun (some l) (242, 209, [.null, v1, v2, v3], (.null :: st), w) := (zEs (i := .aload_n 0) (by decide +kernel) _ _ _).trans rfl
theorem e242_209 (l : List Value) (v0 v1 v2 : Value) (x : Int32) (st : List Value) (w : zH) : zrun (some l) (242, 209, [v0, v1, v2, .int x], st, w) = zrun (some l) (242, 210, [v0, v1, v2, .int x], (.int x :: st), w) := (zEs (i := .iload_n 3) (by decide +kernel) _ _ _).trans rfl
theorem e242_210 (l : List Value) (ls st : List Value) (w : zH) : zrun (some l) (242, 210, ls, st, w) = zrun (some l) (242, 211, ls, (.int 1 :: st), w) := (zEs (i := .iconst 1) (by decide +kernel) _ _ _).trans rfl
theorem e242_211 (l : List Value) (ls : List Value) (a b : Int32) (st : List Value) (w : zH) : zrun (some l) (242, 211, ls, (.int b :: .int a :: st), w) = zrun (some l) (242, 212, ls, (.int (a + b) :: st), w) := (zEs (i := .iadd) (by decide +kernel) _ _ _).trans rfl
theorem e242_212 (l : List Value) (ls : List Value) (j : Int32) (st : List Value) (w : zH) : zrun (some l) (242, 212, ls, (.int j :: .ref 1000006 :: st), w) = zoi (zsx l j) (fun x => zrun (some l) (242, 213, ls, (.int x :: st), w)) := (zEs (i := .iaload) (by decide +kernel) _ _ _).trans zqs_iald
theorem e242_213 (l : List Value) (v1 v2 v3 : Value) (x : Nat) (st : List Value) (w : zH) : zrun (some l) (242, 213, [.ref x, v1, v2, v3], st, w) = zrun (some l) (242, 214, [.ref x, v1, v2, v3], (.ref x :: st), w) := (zEs (i := .aload_n 0) (by decide +kernel) _ _ _).trans rfl
theorem e242_213n (l : List Value) (v1 v2 v3 : Value) (st : List Value) (w : zH) : zrun (some l) (242, 213, [.null, v1, v2, v3], st, w) = zrun (some l) (242, 214, [.null, v1, v2, v3], (.null :: st), w) := (zEs (i := .aload_n 0) (by decide +kernel) _ _ _).trans rfl
theorem e242_214 (l : List Value) (v0 v1 v2 : Value) (x : Int32) (st : List Value) (w : zH) : zrun (some l) (242, 214, [v0, v1, v2, .int x], st, w) = zrun (some l) (242, 215, [v0, v1, v2, .int x], (.int x :: st), w) := (zEs (i := .iload_n 3) (by decide +kernel) _ _ _).trans rfl
theorem e242_215 (l : List Value) (ls st : List Value) (w : zH) : zrun (some l) (242, 215, ls, st, w) = zrun (some l) (242, 216, ls, (.int 2 :: st), w) := (zEs (i := .iconst 2) (by decide +kernel) _ _ _).trans rfl
theorem e242_216 (l : List Value) (ls : List Value) (a b : Int32) (st : List Value) (w : zH) : zrun (some l) (242, 216, ls, (.int b :: .int a :: st), w) = zrun (some l) (242, 217, ls, (.int (a + b) :: st), w) := (zEs (i := .iadd) (by decide +kernel) _ _ _).trans rfl
theorem e242_217 (l : List Value) (ls : List Value) (j : Int32) (st : List Value) (w : zH) : zrun (some l) (242, 217, ls, (.int j :: .ref 1000006 :: st), w) = zoi (zsx l j) (fun x => zrun (some l) (242, 218, ls, (.int x :: st), w)) := (zEs (i := .iaload) (by decide +kernel) _ _ _).trans zqs_iald
theorem e242_218 (l : List Value) (v1 v2 v3 : Value) (x : Nat) (st : List Value) (w : zH) : zrun (some l) (242, 218, [.ref x, v1, v2, v3], st, w) = zrun (some l) (242, 219, [.ref x, v1, v2, v3], (.ref x :: st), w) := (zEs (i := .aload_n 0) (by decide +kernel) _ _ _).trans rfl
theorem e242_218n (l : List Value) (v1 v2 v3 : Value) (st : List Value) (w : zH) : zrun (some l) (242, 218, [.null, v1, v2, v3], st, w) = zrun (some l) (242, 219, [.null, v1, v2, v3], (.null :: st), w) := (zEs (i := .aload_n 0) (by decide +kernel) _ _ _).trans rfl
theorem e242_219 (l : List Value) (v0 v1 v2 : Value) (x : Int32) (st : List Value) (w : zH) : zrun (some l) (242, 219, [v0, v1, v2, .int x], st, w) = zrun (some l) (242, 220, [v0, v1, v2, .int x], (.int x :: st), w) := (zEs (i := .iload_n 3) (by decide +kernel) _ _ _).trans rfl
theorem e242_220 (l : List Value) (ls st : List Value) (w : zH) : zrun (some l) (242, 220, ls, st, w) = zrun (some l) (242, 221, ls, (.int 3 :: st), w) := (zEs (i := .iconst 3) (by decide +kernel) _ _ _).trans rfl
theorem e242_221 (l : List Value) (ls : List Value) (a b : Int32) (st : List Value) (w : zH) : zrun (some l) (242, 221, ls, (.int b :: .int a :: st), w) = zrun (some l) (242, 222, ls, (.int (a + b) :: st), w) := (zEs (i := .iadd) (by decide +kernel) _ _ _).trans rfl
theorem e242_222 (l : List Value) (ls : List Value) (j : Int32) (st : List Value) (w : zH) : zrun (some l) (242, 222, ls, (.int j :: .ref 1000006 :: st), w) = zoi (zsx l j) (fun x => zrun (some l) (242, 223, ls, (.int x :: st), w)) := (zEs (i := .iaload) (by decide +kernel) _ _ _).trans zqs_iald
theorem e242_223 (l : List Value) (ls : List Value) (a : Nat) (x0 : Int32) (x1 : Int32) (x2 : Int32) (st : List Value) (w : zH) (hr : zcat st ≤ 8) (hc : zis w a 12) : zrun (some l) (242, 223, ls, (.int x2 :: .int x1 :: .int x0 :: .ref a :: st), w) = zcl (zrun (some l) (150, 0, [.ref a, .int x0, .int x1, .int x2, zJ], [], w)) (fun r => zrun (some l) (242, 226, ls, r.1.toList ++ st, r.2)) := by
  refine (zEs (i := .invokevirtual 150) (by decide +kernel) _ _ _).trans ?_
  show zresx (some l) (zinv (some l) 150 242 223 ls (.int x2 :: .int x1 :: .int x0 :: .ref a :: st) w) = _
  unfold zinv
  show zresx (some l) (if zrc (some l) 150 w (.ref a) = true then zcall 150 [.ref a, .int x0, .int x1, .int x2] st 242 223 ls w else none) = _
  rw [if_pos (zrc_more (zrc_is hc (by decide +kernel)))]
  exact zqs_call hr (Nat.le_of_ble_eq_true rfl) rfl rfl
theorem e242_226 (l : List Value) (ls : List Value) (a b : Int32) (st : List Value) (w : zH) : zrun (some l) (242, 226, ls, (.int b :: .int a :: st), w) = if a = b then zrun (some l) (242, 1557, ls, st, w) else zrun (some l) (242, 229, ls, st, w) := (zEs (i := .if_icmp .eq 1331) (by decide +kernel) _ _ _).trans (zqs_ic_eq rfl rfl)
theorem e242_229 (l : List Value) (ls st : List Value) (w : zH) : zrun (some l) (242, 229, ls, st, w) = zrun (some l) (242, 230, ls, (.int 0 :: st), w) := (zEs (i := .iconst 0) (by decide +kernel) _ _ _).trans rfl
theorem e242_230 (l : List Value) (ls : List Value) (x : Int32) (w : zH) (h : narrow .boolean (.int x) = .int x) : zrun (some l) (242, 230, ls, [.int x], w) = some (some (.int x), w) := by
  refine (zEs (i := .ireturn) (by decide +kernel) _ _ _).trans ?_
  show zresx (some l) (if narrow .boolean (.int x) = .int x then _ else none) = _
  rw [if_pos h]
  rfl
theorem e242_231 (l : List Value) (v0 v2 v3 : Value) (x : Nat) (st : List Value) (w : zH) : zrun (some l) (242, 231, [v0, .ref x, v2, v3], st, w) = zrun (some l) (242, 232, [v0, .ref x, v2, v3], (.ref x :: st), w) := (zEs (i := .aload_n 1) (by decide +kernel) _ _ _).trans rfl
theorem e242_231n (l : List Value) (v0 v2 v3 : Value) (st : List Value) (w : zH) : zrun (some l) (242, 231, [v0, .null, v2, v3], st, w) = zrun (some l) (242, 232, [v0, .null, v2, v3], (.null :: st), w) := (zEs (i := .aload_n 1) (by decide +kernel) _ _ _).trans rfl
theorem e242_232 (l : List Value) (v1 v2 v3 : Value) (x : Nat) (st : List Value) (w : zH) : zrun (some l) (242, 232, [.ref x, v1, v2, v3], st, w) = zrun (some l) (242, 233, [.ref x, v1, v2, v3], (.ref x :: st), w) := (zEs (i := .aload_n 0) (by decide +kernel) _ _ _).trans rfl
theorem e242_232n (l : List Value) (v1 v2 v3 : Value) (st : List Value) (w : zH) : zrun (some l) (242, 232, [.null, v1, v2, v3], st, w) = zrun (some l) (242, 233, [.null, v1, v2, v3], (.null :: st), w) := (zEs (i := .aload_n 0) (by decide +kernel) _ _ _).trans rfl
theorem e242_233 (l : List Value) (v0 v1 v2 : Value) (x : Int32) (st : List Value) (w : zH) : zrun (some l) (242, 233, [v0, v1, v2, .int x], st, w) = zrun (some l) (242, 234, [v0, v1, v2, .int x], (.int x :: st), w) := (zEs (i := .iload_n 3) (by decide +kernel) _ _ _).trans rfl
theorem e242_234 (l : List Value) (ls st : List Value) (w : zH) : zrun (some l) (242, 234, ls, st, w) = zrun (some l) (242, 235, ls, (.int 1 :: st), w) := (zEs (i := .iconst 1) (by decide +kernel) _ _ _).trans rfl
theorem e242_235 (l : List Value) (ls : List Value) (a b : Int32) (st : List Value) (w : zH) : zrun (some l) (242, 235, ls, (.int b :: .int a :: st), w) = zrun (some l) (242, 236, ls, (.int (a + b) :: st), w) := (zEs (i := .iadd) (by decide +kernel) _ _ _).trans rfl
theorem e242_236 (l : List Value) (ls : List Value) (j : Int32) (st : List Value) (w : zH) : zrun (some l) (242, 236, ls, (.int j :: .ref 1000006 :: st), w) = zoi (zsx l j) (fun x => zrun (some l) (242, 237, ls, (.int x :: st), w)) := (zEs (i := .iaload) (by decide +kernel) _ _ _).trans zqs_iald
theorem e242_237 (l : List Value) (v1 v2 v3 : Value) (x : Nat) (st : List Value) (w : zH) : zrun (some l) (242, 237, [.ref x, v1, v2, v3], st, w) = zrun (some l) (242, 238, [.ref x, v1, v2, v3], (.ref x :: st), w) := (zEs (i := .aload_n 0) (by decide +kernel) _ _ _).trans rfl
theorem e242_237n (l : List Value) (v1 v2 v3 : Value) (st : List Value) (w : zH) : zrun (some l) (242, 237, [.null, v1, v2, v3], st, w) = zrun (some l) (242, 238, [.null, v1, v2, v3], (.null :: st), w) := (zEs (i := .aload_n 0) (by decide +kernel) _ _ _).trans rfl
theorem e242_238 (l : List Value) (v0 v1 v2 : Value) (x : Int32) (st : List Value) (w : zH) : zrun (some l) (242, 238, [v0, v1, v2, .int x], st, w) = zrun (some l) (242, 239, [v0, v1, v2, .int x], (.int x :: st), w) := (zEs (i := .iload_n 3) (by decide +kernel) _ _ _).trans rfl
theorem e242_239 (l : List Value) (ls st : List Value) (w : zH) : zrun (some l) (242, 239, ls, st, w) = zrun (some l) (242, 240, ls, (.int 2 :: st), w) := (zEs (i := .iconst 2) (by decide +kernel) _ _ _).trans rfl
theorem e242_240 (l : List Value) (ls : List Value) (a b : Int32) (st : List Value) (w : zH) : zrun (some l) (242, 240, ls, (.int b :: .int a :: st), w) = zrun (some l) (242, 241, ls, (.int (a + b) :: st), w) := (zEs (i := .iadd) (by decide +kernel) _ _ _).trans rfl
theorem e242_241 (l : List Value) (ls : List Value) (j : Int32) (st : List Value) (w : zH) : zrun (some l) (242, 241, ls, (.int j :: .ref 1000006 :: st), w) = zoi (zsx l j) (fun x => zrun (some l) (242, 242, ls, (.int x :: st), w)) := (zEs (i := .iaload) (by decide +kernel) _ _ _).trans zqs_iald
theorem e242_242 (l : List Value) (v1 v2 v3 : Value) (x : Nat) (st : List Value) (w : zH) : zrun (some l) (242, 242, [.ref x, v1, v2, v3], st, w) = zrun (some l) (242, 243, [.ref x, v1, v2, v3], (.ref x :: st), w) := (zEs (i := .aload_n 0) (by decide +kernel) _ _ _).trans rfl
theorem e242_242n (l : List Value) (v1 v2 v3 : Value) (st : List Value) (w : zH) : zrun (some l) (242, 242, [.null, v1, v2, v3], st, w) = zrun (some l) (242, 243, [.null, v1, v2, v3], (.null :: st), w) := (zEs (i := .aload_n 0) (by decide +kernel) _ _ _).trans rfl
theorem e242_243 (l : List Value) (v0 v1 v2 : Value) (x : Int32) (st : List Value) (w : zH) : zrun (some l) (242, 243, [v0, v1, v2, .int x], st, w) = zrun (some l) (242, 244, [v0, v1, v2, .int x], (.int x :: st), w) := (zEs (i := .iload_n 3) (by decide +kernel) _ _ _).trans rfl
theorem e242_244 (l : List Value) (ls st : List Value) (w : zH) : zrun (some l) (242, 244, ls, st, w) = zrun (some l) (242, 245, ls, (.int 3 :: st), w) := (zEs (i := .iconst 3) (by decide +kernel) _ _ _).trans rfl
theorem e242_245 (l : List Value) (ls : List Value) (a b : Int32) (st : List Value) (w : zH) : zrun (some l) (242, 245, ls, (.int b :: .int a :: st), w) = zrun (some l) (242, 246, ls, (.int (a + b) :: st), w) := (zEs (i := .iadd) (by decide +kernel) _ _ _).trans rfl
theorem e242_246 (l : List Value) (ls : List Value) (j : Int32) (st : List Value) (w : zH) : zrun (some l) (242, 246, ls, (.int j :: .ref 1000006 :: st), w) = zoi (zsx l j) (fun x => zrun (some l) (242, 247, ls, (.int x :: st), w)) := (zEs (i := .iaload) (by decide +kernel) _ _ _).trans zqs_iald
theorem e242_247 (l : List Value) (ls : List Value) (a : Nat) (x0 : Int32) (x1 : Int32) (x2 : Int32) (st : List Value) (w : zH) (hr : zcat st ≤ 8) (hc : zis w a 11) : zrun (some l) (242, 247, ls, (.int x2 :: .int x1 :: .int x0 :: .ref a :: st), w) = zcl (zrun (some l) (66, 0, [.ref a, .int x0, .int x1, .int x2, zJ], [], w)) (fun r => zrun (some l) (242, 250, ls, r.1.toList ++ st, r.2)) := by
  refine (zEs (i := .invokevirtual 66) (by decide +kernel) _ _ _).trans ?_
  show zresx (some l) (zinv (some l) 66 242 247 ls (.int x2 :: .int x1 :: .int x0 :: .ref a :: st) w) = _
  unfold zinv
  show zresx (some l) (if zrc (some l) 66 w (.ref a) = true then zcall 66 [.ref a, .int x0, .int x1, .int x2] st 242 247 ls w else none) = _
  rw [if_pos (zrc_more (zrc_is hc (by decide +kernel)))]
  exact zqs_call hr (Nat.le_of_ble_eq_true rfl) rfl rfl
theorem e242_250 (l : List Value) (v0 v1 v3 : Value) (x : Nat) (st : List Value) (w : zH) : zrun (some l) (242, 250, [v0, v1, .ref x, v3], st, w) = zrun (some l) (242, 251, [v0, v1, .ref x, v3], (.ref x :: st), w) := (zEs (i := .aload_n 2) (by decide +kernel) _ _ _).trans rfl
theorem e242_250n (l : List Value) (v0 v1 v3 : Value) (st : List Value) (w : zH) : zrun (some l) (242, 250, [v0, v1, .null, v3], st, w) = zrun (some l) (242, 251, [v0, v1, .null, v3], (.null :: st), w) := (zEs (i := .aload_n 2) (by decide +kernel) _ _ _).trans rfl
theorem e242_251 (l : List Value) (v1 v2 v3 : Value) (x : Nat) (st : List Value) (w : zH) : zrun (some l) (242, 251, [.ref x, v1, v2, v3], st, w) = zrun (some l) (242, 252, [.ref x, v1, v2, v3], (.ref x :: st), w) := (zEs (i := .aload_n 0) (by decide +kernel) _ _ _).trans rfl
theorem e242_251n (l : List Value) (v1 v2 v3 : Value) (st : List Value) (w : zH) : zrun (some l) (242, 251, [.null, v1, v2, v3], st, w) = zrun (some l) (242, 252, [.null, v1, v2, v3], (.null :: st), w) := (zEs (i := .aload_n 0) (by decide +kernel) _ _ _).trans rfl
theorem e242_252 (l : List Value) (v0 v1 v2 : Value) (x : Int32) (st : List Value) (w : zH) : zrun (some l) (242, 252, [v0, v1, v2, .int x], st, w) = zrun (some l) (242, 253, [v0, v1, v2, .int x], (.int x :: st), w) := (zEs (i := .iload_n 3) (by decide +kernel) _ _ _).trans rfl
theorem e242_253 (l : List Value) (ls st : List Value) (w : zH) : zrun (some l) (242, 253, ls, st, w) = zrun (some l) (242, 254, ls, (.int 1 :: st), w) := (zEs (i := .iconst 1) (by decide +kernel) _ _ _).trans rfl
theorem e242_254 (l : List Value) (ls : List Value) (a b : Int32) (st : List Value) (w : zH) : zrun (some l) (242, 254, ls, (.int b :: .int a :: st), w) = zrun (some l) (242, 255, ls, (.int (a + b) :: st), w) := (zEs (i := .iadd) (by decide +kernel) _ _ _).trans rfl
theorem e242_255 (l : List Value) (ls : List Value) (j : Int32) (st : List Value) (w : zH) : zrun (some l) (242, 255, ls, (.int j :: .ref 1000006 :: st), w) = zoi (zsx l j) (fun x => zrun (some l) (242, 256, ls, (.int x :: st), w)) := (zEs (i := .iaload) (by decide +kernel) _ _ _).trans zqs_iald
theorem e242_256 (l : List Value) (v1 v2 v3 : Value) (x : Nat) (st : List Value) (w : zH) : zrun (some l) (242, 256, [.ref x, v1, v2, v3], st, w) = zrun (some l) (242, 257, [.ref x, v1, v2, v3], (.ref x :: st), w) := (zEs (i := .aload_n 0) (by decide +kernel) _ _ _).trans rfl
theorem e242_256n (l : List Value) (v1 v2 v3 : Value) (st : List Value) (w : zH) : zrun (some l) (242, 256, [.null, v1, v2, v3], st, w) = zrun (some l) (242, 257, [.null, v1, v2, v3], (.null :: st), w) := (zEs (i := .aload_n 0) (by decide +kernel) _ _ _).trans rfl
theorem e242_257 (l : List Value) (v0 v1 v2 : Value) (x : Int32) (st : List Value) (w : zH) : zrun (some l) (242, 257, [v0, v1, v2, .int x], st, w) = zrun (some l) (242, 258, [v0, v1, v2, .int x], (.int x :: st), w) := (zEs (i := .iload_n 3) (by decide +kernel) _ _ _).trans rfl
theorem e242_258 (l : List Value) (ls st : List Value) (w : zH) : zrun (some l) (242, 258, ls, st, w) = zrun (some l) (242, 259, ls, (.int 2 :: st), w) := (zEs (i := .iconst 2) (by decide +kernel) _ _ _).trans rfl
theorem e242_259 (l : List Value) (ls : List Value) (a b : Int32) (st : List Value) (w : zH) : zrun (some l) (242, 259, ls, (.int b :: .int a :: st), w) = zrun (some l) (242, 260, ls, (.int (a + b) :: st), w) := (zEs (i := .iadd) (by decide +kernel) _ _ _).trans rfl
theorem e242_260 (l : List Value) (ls : List Value) (j : Int32) (st : List Value) (w : zH) : zrun (some l) (242, 260, ls, (.int j :: .ref 1000006 :: st), w) = zoi (zsx l j) (fun x => zrun (some l) (242, 261, ls, (.int x :: st), w)) := (zEs (i := .iaload) (by decide +kernel) _ _ _).trans zqs_iald
theorem e242_261 (l : List Value) (v1 v2 v3 : Value) (x : Nat) (st : List Value) (w : zH) : zrun (some l) (242, 261, [.ref x, v1, v2, v3], st, w) = zrun (some l) (242, 262, [.ref x, v1, v2, v3], (.ref x :: st), w) := (zEs (i := .aload_n 0) (by decide +kernel) _ _ _).trans rfl
theorem e242_261n (l : List Value) (v1 v2 v3 : Value) (st : List Value) (w : zH) : zrun (some l) (242, 261, [.null, v1, v2, v3], st, w) = zrun (some l) (242, 262, [.null, v1, v2, v3], (.null :: st), w) := (zEs (i := .aload_n 0) (by decide +kernel) _ _ _).trans rfl
theorem e242_262 (l : List Value) (v0 v1 v2 : Value) (x : Int32) (st : List Value) (w : zH) : zrun (some l) (242, 262, [v0, v1, v2, .int x], st, w) = zrun (some l) (242, 263, [v0, v1, v2, .int x], (.int x :: st), w) := (zEs (i := .iload_n 3) (by decide +kernel) _ _ _).trans rfl
theorem e242_263 (l : List Value) (ls st : List Value) (w : zH) : zrun (some l) (242, 263, ls, st, w) = zrun (some l) (242, 264, ls, (.int 3 :: st), w) := (zEs (i := .iconst 3) (by decide +kernel) _ _ _).trans rfl
theorem e242_264 (l : List Value) (ls : List Value) (a b : Int32) (st : List Value) (w : zH) : zrun (some l) (242, 264, ls, (.int b :: .int a :: st), w) = zrun (some l) (242, 265, ls, (.int (a + b) :: st), w) := (zEs (i := .iadd) (by decide +kernel) _ _ _).trans rfl
theorem e242_265 (l : List Value) (ls : List Value) (j : Int32) (st : List Value) (w : zH) : zrun (some l) (242, 265, ls, (.int j :: .ref 1000006 :: st), w) = zoi (zsx l j) (fun x => zrun (some l) (242, 266, ls, (.int x :: st), w)) := (zEs (i := .iaload) (by decide +kernel) _ _ _).trans zqs_iald
theorem e242_266 (l : List Value) (ls : List Value) (a : Nat) (x0 : Int32) (x1 : Int32) (x2 : Int32) (st : List Value) (w : zH) (hr : zcat st ≤ 8) (hc : zis w a 12) : zrun (some l) (242, 266, ls, (.int x2 :: .int x1 :: .int x0 :: .ref a :: st), w) = zcl (zrun (some l) (151, 0, [.ref a, .int x0, .int x1, .int x2], [], w)) (fun r => zrun (some l) (242, 269, ls, r.1.toList ++ st, r.2)) := by
  refine (zEs (i := .invokevirtual 151) (by decide +kernel) _ _ _).trans ?_
  show zresx (some l) (zinv (some l) 151 242 266 ls (.int x2 :: .int x1 :: .int x0 :: .ref a :: st) w) = _
  unfold zinv
  show zresx (some l) (if zrc (some l) 151 w (.ref a) = true then zcall 151 [.ref a, .int x0, .int x1, .int x2] st 242 266 ls w else none) = _
  rw [if_pos (zrc_more (zrc_is hc (by decide +kernel)))]
  exact zqs_call hr (Nat.le_of_ble_eq_true rfl) rfl rfl
theorem e242_269 (l : List Value) (ls : List Value) (a b : Int32) (st : List Value) (w : zH) : zrun (some l) (242, 269, ls, (.int b :: .int a :: st), w) = if a = b then zrun (some l) (242, 1557, ls, st, w) else zrun (some l) (242, 272, ls, st, w) := (zEs (i := .if_icmp .eq 1288) (by decide +kernel) _ _ _).trans (zqs_ic_eq rfl rfl)
theorem e242_272 (l : List Value) (ls st : List Value) (w : zH) : zrun (some l) (242, 272, ls, st, w) = zrun (some l) (242, 273, ls, (.int 0 :: st), w) := (zEs (i := .iconst 0) (by decide +kernel) _ _ _).trans rfl
theorem e242_273 (l : List Value) (ls : List Value) (x : Int32) (w : zH) (h : narrow .boolean (.int x) = .int x) : zrun (some l) (242, 273, ls, [.int x], w) = some (some (.int x), w) := by
  refine (zEs (i := .ireturn) (by decide +kernel) _ _ _).trans ?_
  show zresx (some l) (if narrow .boolean (.int x) = .int x then _ else none) = _
  rw [if_pos h]
  rfl
theorem e242_274 (l : List Value) (v0 v2 v3 : Value) (x : Nat) (st : List Value) (w : zH) : zrun (some l) (242, 274, [v0, .ref x, v2, v3], st, w) = zrun (some l) (242, 275, [v0, .ref x, v2, v3], (.ref x :: st), w) := (zEs (i := .aload_n 1) (by decide +kernel) _ _ _).trans rfl
theorem e242_274n (l : List Value) (v0 v2 v3 : Value) (st : List Value) (w : zH) : zrun (some l) (242, 274, [v0, .null, v2, v3], st, w) = zrun (some l) (242, 275, [v0, .null, v2, v3], (.null :: st), w) := (zEs (i := .aload_n 1) (by decide +kernel) _ _ _).trans rfl
theorem e242_275 (l : List Value) (v1 v2 v3 : Value) (x : Nat) (st : List Value) (w : zH) : zrun (some l) (242, 275, [.ref x, v1, v2, v3], st, w) = zrun (some l) (242, 276, [.ref x, v1, v2, v3], (.ref x :: st), w) := (zEs (i := .aload_n 0) (by decide +kernel) _ _ _).trans rfl
theorem e242_275n (l : List Value) (v1 v2 v3 : Value) (st : List Value) (w : zH) : zrun (some l) (242, 275, [.null, v1, v2, v3], st, w) = zrun (some l) (242, 276, [.null, v1, v2, v3], (.null :: st), w) := (zEs (i := .aload_n 0) (by decide +kernel) _ _ _).trans rfl
theorem e242_276 (l : List Value) (v0 v1 v2 : Value) (x : Int32) (st : List Value) (w : zH) : zrun (some l) (242, 276, [v0, v1, v2, .int x], st, w) = zrun (some l) (242, 277, [v0, v1, v2, .int x], (.int x :: st), w) := (zEs (i := .iload_n 3) (by decide +kernel) _ _ _).trans rfl
theorem e242_277 (l : List Value) (ls st : List Value) (w : zH) : zrun (some l) (242, 277, ls, st, w) = zrun (some l) (242, 278, ls, (.int 1 :: st), w) := (zEs (i := .iconst 1) (by decide +kernel) _ _ _).trans rfl
theorem e242_278 (l : List Value) (ls : List Value) (a b : Int32) (st : List Value) (w : zH) : zrun (some l) (242, 278, ls, (.int b :: .int a :: st), w) = zrun (some l) (242, 279, ls, (.int (a + b) :: st), w) := (zEs (i := .iadd) (by decide +kernel) _ _ _).trans rfl
theorem e242_279 (l : List Value) (ls : List Value) (j : Int32) (st : List Value) (w : zH) : zrun (some l) (242, 279, ls, (.int j :: .ref 1000006 :: st), w) = zoi (zsx l j) (fun x => zrun (some l) (242, 280, ls, (.int x :: st), w)) := (zEs (i := .iaload) (by decide +kernel) _ _ _).trans zqs_iald
theorem e242_280 (l : List Value) (v1 v2 v3 : Value) (x : Nat) (st : List Value) (w : zH) : zrun (some l) (242, 280, [.ref x, v1, v2, v3], st, w) = zrun (some l) (242, 281, [.ref x, v1, v2, v3], (.ref x :: st), w) := (zEs (i := .aload_n 0) (by decide +kernel) _ _ _).trans rfl
theorem e242_280n (l : List Value) (v1 v2 v3 : Value) (st : List Value) (w : zH) : zrun (some l) (242, 280, [.null, v1, v2, v3], st, w) = zrun (some l) (242, 281, [.null, v1, v2, v3], (.null :: st), w) := (zEs (i := .aload_n 0) (by decide +kernel) _ _ _).trans rfl
theorem e242_281 (l : List Value) (v0 v1 v2 : Value) (x : Int32) (st : List Value) (w : zH) : zrun (some l) (242, 281, [v0, v1, v2, .int x], st, w) = zrun (some l) (242, 282, [v0, v1, v2, .int x], (.int x :: st), w) := (zEs (i := .iload_n 3) (by decide +kernel) _ _ _).trans rfl
theorem e242_282 (l : List Value) (ls st : List Value) (w : zH) : zrun (some l) (242, 282, ls, st, w) = zrun (some l) (242, 283, ls, (.int 2 :: st), w) := (zEs (i := .iconst 2) (by decide +kernel) _ _ _).trans rfl
theorem e242_283 (l : List Value) (ls : List Value) (a b : Int32) (st : List Value) (w : zH) : zrun (some l) (242, 283, ls, (.int b :: .int a :: st), w) = zrun (some l) (242, 284, ls, (.int (a + b) :: st), w) := (zEs (i := .iadd) (by decide +kernel) _ _ _).trans rfl
theorem e242_284 (l : List Value) (ls : List Value) (j : Int32) (st : List Value) (w : zH) : zrun (some l) (242, 284, ls, (.int j :: .ref 1000006 :: st), w) = zoi (zsx l j) (fun x => zrun (some l) (242, 285, ls, (.int x :: st), w)) := (zEs (i := .iaload) (by decide +kernel) _ _ _).trans zqs_iald
theorem e242_285 (l : List Value) (v1 v2 v3 : Value) (x : Nat) (st : List Value) (w : zH) : zrun (some l) (242, 285, [.ref x, v1, v2, v3], st, w) = zrun (some l) (242, 286, [.ref x, v1, v2, v3], (.ref x :: st), w) := (zEs (i := .aload_n 0) (by decide +kernel) _ _ _).trans rfl
theorem e242_285n (l : List Value) (v1 v2 v3 : Value) (st : List Value) (w : zH) : zrun (some l) (242, 285, [.null, v1, v2, v3], st, w) = zrun (some l) (242, 286, [.null, v1, v2, v3], (.null :: st), w) := (zEs (i := .aload_n 0) (by decide +kernel) _ _ _).trans rfl
theorem e242_286 (l : List Value) (v0 v1 v2 : Value) (x : Int32) (st : List Value) (w : zH) : zrun (some l) (242, 286, [v0, v1, v2, .int x], st, w) = zrun (some l) (242, 287, [v0, v1, v2, .int x], (.int x :: st), w) := (zEs (i := .iload_n 3) (by decide +kernel) _ _ _).trans rfl
theorem e242_287 (l : List Value) (ls st : List Value) (w : zH) : zrun (some l) (242, 287, ls, st, w) = zrun (some l) (242, 288, ls, (.int 3 :: st), w) := (zEs (i := .iconst 3) (by decide +kernel) _ _ _).trans rfl
theorem e242_288 (l : List Value) (ls : List Value) (a b : Int32) (st : List Value) (w : zH) : zrun (some l) (242, 288, ls, (.int b :: .int a :: st), w) = zrun (some l) (242, 289, ls, (.int (a + b) :: st), w) := (zEs (i := .iadd) (by decide +kernel) _ _ _).trans rfl
theorem e242_289 (l : List Value) (ls : List Value) (j : Int32) (st : List Value) (w : zH) : zrun (some l) (242, 289, ls, (.int j :: .ref 1000006 :: st), w) = zoi (zsx l j) (fun x => zrun (some l) (242, 290, ls, (.int x :: st), w)) := (zEs (i := .iaload) (by decide +kernel) _ _ _).trans zqs_iald
theorem e242_290 (l : List Value) (v1 v2 v3 : Value) (x : Nat) (st : List Value) (w : zH) : zrun (some l) (242, 290, [.ref x, v1, v2, v3], st, w) = zrun (some l) (242, 291, [.ref x, v1, v2, v3], (.ref x :: st), w) := (zEs (i := .aload_n 0) (by decide +kernel) _ _ _).trans rfl
theorem e242_290n (l : List Value) (v1 v2 v3 : Value) (st : List Value) (w : zH) : zrun (some l) (242, 290, [.null, v1, v2, v3], st, w) = zrun (some l) (242, 291, [.null, v1, v2, v3], (.null :: st), w) := (zEs (i := .aload_n 0) (by decide +kernel) _ _ _).trans rfl
theorem e242_291 (l : List Value) (v0 v1 v2 : Value) (x : Int32) (st : List Value) (w : zH) : zrun (some l) (242, 291, [v0, v1, v2, .int x], st, w) = zrun (some l) (242, 292, [v0, v1, v2, .int x], (.int x :: st), w) := (zEs (i := .iload_n 3) (by decide +kernel) _ _ _).trans rfl
theorem e242_292 (l : List Value) (ls st : List Value) (w : zH) : zrun (some l) (242, 292, ls, st, w) = zrun (some l) (242, 293, ls, (.int 4 :: st), w) := (zEs (i := .iconst 4) (by decide +kernel) _ _ _).trans rfl
theorem e242_293 (l : List Value) (ls : List Value) (a b : Int32) (st : List Value) (w : zH) : zrun (some l) (242, 293, ls, (.int b :: .int a :: st), w) = zrun (some l) (242, 294, ls, (.int (a + b) :: st), w) := (zEs (i := .iadd) (by decide +kernel) _ _ _).trans rfl
theorem e242_294 (l : List Value) (ls : List Value) (j : Int32) (st : List Value) (w : zH) : zrun (some l) (242, 294, ls, (.int j :: .ref 1000006 :: st), w) = zoi (zsx l j) (fun x => zrun (some l) (242, 295, ls, (.int x :: st), w)) := (zEs (i := .iaload) (by decide +kernel) _ _ _).trans zqs_iald
theorem e242_295 (l : List Value) (v1 v2 v3 : Value) (x : Nat) (st : List Value) (w : zH) : zrun (some l) (242, 295, [.ref x, v1, v2, v3], st, w) = zrun (some l) (242, 296, [.ref x, v1, v2, v3], (.ref x :: st), w) := (zEs (i := .aload_n 0) (by decide +kernel) _ _ _).trans rfl
theorem e242_295n (l : List Value) (v1 v2 v3 : Value) (st : List Value) (w : zH) : zrun (some l) (242, 295, [.null, v1, v2, v3], st, w) = zrun (some l) (242, 296, [.null, v1, v2, v3], (.null :: st), w) := (zEs (i := .aload_n 0) (by decide +kernel) _ _ _).trans rfl
theorem e242_296 (l : List Value) (v0 v1 v2 : Value) (x : Int32) (st : List Value) (w : zH) : zrun (some l) (242, 296, [v0, v1, v2, .int x], st, w) = zrun (some l) (242, 297, [v0, v1, v2, .int x], (.int x :: st), w) := (zEs (i := .iload_n 3) (by decide +kernel) _ _ _).trans rfl
theorem e242_297 (l : List Value) (ls st : List Value) (w : zH) : zrun (some l) (242, 297, ls, st, w) = zrun (some l) (242, 298, ls, (.int 5 :: st), w) := (zEs (i := .iconst 5) (by decide +kernel) _ _ _).trans rfl
theorem e242_298 (l : List Value) (ls : List Value) (a b : Int32) (st : List Value) (w : zH) : zrun (some l) (242, 298, ls, (.int b :: .int a :: st), w) = zrun (some l) (242, 299, ls, (.int (a + b) :: st), w) := (zEs (i := .iadd) (by decide +kernel) _ _ _).trans rfl
theorem e242_299 (l : List Value) (ls : List Value) (j : Int32) (st : List Value) (w : zH) : zrun (some l) (242, 299, ls, (.int j :: .ref 1000006 :: st), w) = zoi (zsx l j) (fun x => zrun (some l) (242, 300, ls, (.int x :: st), w)) := (zEs (i := .iaload) (by decide +kernel) _ _ _).trans zqs_iald
theorem e242_300 (l : List Value) (ls : List Value) (a : Nat) (x0 : Int32) (x1 : Int32) (x2 : Int32) (x3 : Int32) (x4 : Int32) (st : List Value) (w : zH) (hr : zcat st ≤ 8) (hc : zis w a 11) : zrun (some l) (242, 300, ls, (.int x4 :: .int x3 :: .int x2 :: .int x1 :: .int x0 :: .ref a :: st), w) = zcl (zrun (some l) (67, 0, [.ref a, .int x0, .int x1, .int x2, .int x3, .int x4, zJ, zJ], [], w)) (fun r => zrun (some l) (242, 303, ls, r.1.toList ++ st, r.2)) := by
  refine (zEs (i := .invokevirtual 67) (by decide +kernel) _ _ _).trans ?_
  show zresx (some l) (zinv (some l) 67 242 300 ls (.int x4 :: .int x3 :: .int x2 :: .int x1 :: .int x0 :: .ref a :: st) w) = _
  unfold zinv
  show zresx (some l) (if zrc (some l) 67 w (.ref a) = true then zcall 67 [.ref a, .int x0, .int x1, .int x2, .int x3, .int x4] st 242 300 ls w else none) = _
  rw [if_pos (zrc_more (zrc_is hc (by decide +kernel)))]
  exact zqs_call hr (Nat.le_of_ble_eq_true rfl) rfl rfl
theorem e242_303 (l : List Value) (v0 v1 v3 : Value) (x : Nat) (st : List Value) (w : zH) : zrun (some l) (242, 303, [v0, v1, .ref x, v3], st, w) = zrun (some l) (242, 304, [v0, v1, .ref x, v3], (.ref x :: st), w) := (zEs (i := .aload_n 2) (by decide +kernel) _ _ _).trans rfl
theorem e242_303n (l : List Value) (v0 v1 v3 : Value) (st : List Value) (w : zH) : zrun (some l) (242, 303, [v0, v1, .null, v3], st, w) = zrun (some l) (242, 304, [v0, v1, .null, v3], (.null :: st), w) := (zEs (i := .aload_n 2) (by decide +kernel) _ _ _).trans rfl
theorem e242_304 (l : List Value) (v1 v2 v3 : Value) (x : Nat) (st : List Value) (w : zH) : zrun (some l) (242, 304, [.ref x, v1, v2, v3], st, w) = zrun (some l) (242, 305, [.ref x, v1, v2, v3], (.ref x :: st), w) := (zEs (i := .aload_n 0) (by decide +kernel) _ _ _).trans rfl
theorem e242_304n (l : List Value) (v1 v2 v3 : Value) (st : List Value) (w : zH) : zrun (some l) (242, 304, [.null, v1, v2, v3], st, w) = zrun (some l) (242, 305, [.null, v1, v2, v3], (.null :: st), w) := (zEs (i := .aload_n 0) (by decide +kernel) _ _ _).trans rfl
theorem e242_305 (l : List Value) (v0 v1 v2 : Value) (x : Int32) (st : List Value) (w : zH) : zrun (some l) (242, 305, [v0, v1, v2, .int x], st, w) = zrun (some l) (242, 306, [v0, v1, v2, .int x], (.int x :: st), w) := (zEs (i := .iload_n 3) (by decide +kernel) _ _ _).trans rfl
theorem e242_306 (l : List Value) (ls st : List Value) (w : zH) : zrun (some l) (242, 306, ls, st, w) = zrun (some l) (242, 307, ls, (.int 1 :: st), w) := (zEs (i := .iconst 1) (by decide +kernel) _ _ _).trans rfl
theorem e242_307 (l : List Value) (ls : List Value) (a b : Int32) (st : List Value) (w : zH) : zrun (some l) (242, 307, ls, (.int b :: .int a :: st), w) = zrun (some l) (242, 308, ls, (.int (a + b) :: st), w) := (zEs (i := .iadd) (by decide +kernel) _ _ _).trans rfl
theorem e242_308 (l : List Value) (ls : List Value) (j : Int32) (st : List Value) (w : zH) : zrun (some l) (242, 308, ls, (.int j :: .ref 1000006 :: st), w) = zoi (zsx l j) (fun x => zrun (some l) (242, 309, ls, (.int x :: st), w)) := (zEs (i := .iaload) (by decide +kernel) _ _ _).trans zqs_iald
theorem e242_309 (l : List Value) (v1 v2 v3 : Value) (x : Nat) (st : List Value) (w : zH) : zrun (some l) (242, 309, [.ref x, v1, v2, v3], st, w) = zrun (some l) (242, 310, [.ref x, v1, v2, v3], (.ref x :: st), w) := (zEs (i := .aload_n 0) (by decide +kernel) _ _ _).trans rfl
theorem e242_309n (l : List Value) (v1 v2 v3 : Value) (st : List Value) (w : zH) : zrun (some l) (242, 309, [.null, v1, v2, v3], st, w) = zrun (some l) (242, 310, [.null, v1, v2, v3], (.null :: st), w) := (zEs (i := .aload_n 0) (by decide +kernel) _ _ _).trans rfl
theorem e242_310 (l : List Value) (v0 v1 v2 : Value) (x : Int32) (st : List Value) (w : zH) : zrun (some l) (242, 310, [v0, v1, v2, .int x], st, w) = zrun (some l) (242, 311, [v0, v1, v2, .int x], (.int x :: st), w) := (zEs (i := .iload_n 3) (by decide +kernel) _ _ _).trans rfl
theorem e242_311 (l : List Value) (ls st : List Value) (w : zH) : zrun (some l) (242, 311, ls, st, w) = zrun (some l) (242, 312, ls, (.int 2 :: st), w) := (zEs (i := .iconst 2) (by decide +kernel) _ _ _).trans rfl
theorem e242_312 (l : List Value) (ls : List Value) (a b : Int32) (st : List Value) (w : zH) : zrun (some l) (242, 312, ls, (.int b :: .int a :: st), w) = zrun (some l) (242, 313, ls, (.int (a + b) :: st), w) := (zEs (i := .iadd) (by decide +kernel) _ _ _).trans rfl
theorem e242_313 (l : List Value) (ls : List Value) (j : Int32) (st : List Value) (w : zH) : zrun (some l) (242, 313, ls, (.int j :: .ref 1000006 :: st), w) = zoi (zsx l j) (fun x => zrun (some l) (242, 314, ls, (.int x :: st), w)) := (zEs (i := .iaload) (by decide +kernel) _ _ _).trans zqs_iald
theorem e242_314 (l : List Value) (v1 v2 v3 : Value) (x : Nat) (st : List Value) (w : zH) : zrun (some l) (242, 314, [.ref x, v1, v2, v3], st, w) = zrun (some l) (242, 315, [.ref x, v1, v2, v3], (.ref x :: st), w) := (zEs (i := .aload_n 0) (by decide +kernel) _ _ _).trans rfl
theorem e242_314n (l : List Value) (v1 v2 v3 : Value) (st : List Value) (w : zH) : zrun (some l) (242, 314, [.null, v1, v2, v3], st, w) = zrun (some l) (242, 315, [.null, v1, v2, v3], (.null :: st), w) := (zEs (i := .aload_n 0) (by decide +kernel) _ _ _).trans rfl
theorem e242_315 (l : List Value) (v0 v1 v2 : Value) (x : Int32) (st : List Value) (w : zH) : zrun (some l) (242, 315, [v0, v1, v2, .int x], st, w) = zrun (some l) (242, 316, [v0, v1, v2, .int x], (.int x :: st), w) := (zEs (i := .iload_n 3) (by decide +kernel) _ _ _).trans rfl
theorem e242_316 (l : List Value) (ls st : List Value) (w : zH) : zrun (some l) (242, 316, ls, st, w) = zrun (some l) (242, 317, ls, (.int 3 :: st), w) := (zEs (i := .iconst 3) (by decide +kernel) _ _ _).trans rfl
theorem e242_317 (l : List Value) (ls : List Value) (a b : Int32) (st : List Value) (w : zH) : zrun (some l) (242, 317, ls, (.int b :: .int a :: st), w) = zrun (some l) (242, 318, ls, (.int (a + b) :: st), w) := (zEs (i := .iadd) (by decide +kernel) _ _ _).trans rfl
theorem e242_318 (l : List Value) (ls : List Value) (j : Int32) (st : List Value) (w : zH) : zrun (some l) (242, 318, ls, (.int j :: .ref 1000006 :: st), w) = zoi (zsx l j) (fun x => zrun (some l) (242, 319, ls, (.int x :: st), w)) := (zEs (i := .iaload) (by decide +kernel) _ _ _).trans zqs_iald
theorem e242_319 (l : List Value) (v1 v2 v3 : Value) (x : Nat) (st : List Value) (w : zH) : zrun (some l) (242, 319, [.ref x, v1, v2, v3], st, w) = zrun (some l) (242, 320, [.ref x, v1, v2, v3], (.ref x :: st), w) := (zEs (i := .aload_n 0) (by decide +kernel) _ _ _).trans rfl
theorem e242_319n (l : List Value) (v1 v2 v3 : Value) (st : List Value) (w : zH) : zrun (some l) (242, 319, [.null, v1, v2, v3], st, w) = zrun (some l) (242, 320, [.null, v1, v2, v3], (.null :: st), w) := (zEs (i := .aload_n 0) (by decide +kernel) _ _ _).trans rfl
theorem e242_320 (l : List Value) (v0 v1 v2 : Value) (x : Int32) (st : List Value) (w : zH) : zrun (some l) (242, 320, [v0, v1, v2, .int x], st, w) = zrun (some l) (242, 321, [v0, v1, v2, .int x], (.int x :: st), w) := (zEs (i := .iload_n 3) (by decide +kernel) _ _ _).trans rfl
theorem e242_321 (l : List Value) (ls st : List Value) (w : zH) : zrun (some l) (242, 321, ls, st, w) = zrun (some l) (242, 322, ls, (.int 4 :: st), w) := (zEs (i := .iconst 4) (by decide +kernel) _ _ _).trans rfl
theorem e242_322 (l : List Value) (ls : List Value) (a b : Int32) (st : List Value) (w : zH) : zrun (some l) (242, 322, ls, (.int b :: .int a :: st), w) = zrun (some l) (242, 323, ls, (.int (a + b) :: st), w) := (zEs (i := .iadd) (by decide +kernel) _ _ _).trans rfl
theorem e242_323 (l : List Value) (ls : List Value) (j : Int32) (st : List Value) (w : zH) : zrun (some l) (242, 323, ls, (.int j :: .ref 1000006 :: st), w) = zoi (zsx l j) (fun x => zrun (some l) (242, 324, ls, (.int x :: st), w)) := (zEs (i := .iaload) (by decide +kernel) _ _ _).trans zqs_iald
theorem e242_324 (l : List Value) (v1 v2 v3 : Value) (x : Nat) (st : List Value) (w : zH) : zrun (some l) (242, 324, [.ref x, v1, v2, v3], st, w) = zrun (some l) (242, 325, [.ref x, v1, v2, v3], (.ref x :: st), w) := (zEs (i := .aload_n 0) (by decide +kernel) _ _ _).trans rfl
theorem e242_324n (l : List Value) (v1 v2 v3 : Value) (st : List Value) (w : zH) : zrun (some l) (242, 324, [.null, v1, v2, v3], st, w) = zrun (some l) (242, 325, [.null, v1, v2, v3], (.null :: st), w) := (zEs (i := .aload_n 0) (by decide +kernel) _ _ _).trans rfl
theorem e242_325 (l : List Value) (v0 v1 v2 : Value) (x : Int32) (st : List Value) (w : zH) : zrun (some l) (242, 325, [v0, v1, v2, .int x], st, w) = zrun (some l) (242, 326, [v0, v1, v2, .int x], (.int x :: st), w) := (zEs (i := .iload_n 3) (by decide +kernel) _ _ _).trans rfl
theorem e242_326 (l : List Value) (ls st : List Value) (w : zH) : zrun (some l) (242, 326, ls, st, w) = zrun (some l) (242, 327, ls, (.int 5 :: st), w) := (zEs (i := .iconst 5) (by decide +kernel) _ _ _).trans rfl
theorem e242_327 (l : List Value) (ls : List Value) (a b : Int32) (st : List Value) (w : zH) : zrun (some l) (242, 327, ls, (.int b :: .int a :: st), w) = zrun (some l) (242, 328, ls, (.int (a + b) :: st), w) := (zEs (i := .iadd) (by decide +kernel) _ _ _).trans rfl
theorem e242_328 (l : List Value) (ls : List Value) (j : Int32) (st : List Value) (w : zH) : zrun (some l) (242, 328, ls, (.int j :: .ref 1000006 :: st), w) = zoi (zsx l j) (fun x => zrun (some l) (242, 329, ls, (.int x :: st), w)) := (zEs (i := .iaload) (by decide +kernel) _ _ _).trans zqs_iald
theorem e242_329 (l : List Value) (ls : List Value) (a : Nat) (x0 : Int32) (x1 : Int32) (x2 : Int32) (x3 : Int32) (x4 : Int32) (st : List Value) (w : zH) (hr : zcat st ≤ 8) (hc : zis w a 12) : zrun (some l) (242, 329, ls, (.int x4 :: .int x3 :: .int x2 :: .int x1 :: .int x0 :: .ref a :: st), w) = zcl (zrun (some l) (152, 0, [.ref a, .int x0, .int x1, .int x2, .int x3, .int x4, zJ, zJ, zJ], [], w)) (fun r => zrun (some l) (242, 332, ls, r.1.toList ++ st, r.2)) := by
  refine (zEs (i := .invokevirtual 152) (by decide +kernel) _ _ _).trans ?_
  show zresx (some l) (zinv (some l) 152 242 329 ls (.int x4 :: .int x3 :: .int x2 :: .int x1 :: .int x0 :: .ref a :: st) w) = _
  unfold zinv
  show zresx (some l) (if zrc (some l) 152 w (.ref a) = true then zcall 152 [.ref a, .int x0, .int x1, .int x2, .int x3, .int x4] st 242 329 ls w else none) = _
  rw [if_pos (zrc_more (zrc_is hc (by decide +kernel)))]
  exact zqs_call hr (Nat.le_of_ble_eq_true rfl) rfl rfl
theorem e242_332 (l : List Value) (ls : List Value) (a b : Int32) (st : List Value) (w : zH) : zrun (some l) (242, 332, ls, (.int b :: .int a :: st), w) = if a = b then zrun (some l) (242, 1557, ls, st, w) else zrun (some l) (242, 335, ls, st, w) := (zEs (i := .if_icmp .eq 1225) (by decide +kernel) _ _ _).trans (zqs_ic_eq rfl rfl)
theorem e242_335 (l : List Value) (ls st : List Value) (w : zH) : zrun (some l) (242, 335, ls, st, w) = zrun (some l) (242, 336, ls, (.int 0 :: st), w) := (zEs (i := .iconst 0) (by decide +kernel) _ _ _).trans rfl
theorem e242_336 (l : List Value) (ls : List Value) (x : Int32) (w : zH) (h : narrow .boolean (.int x) = .int x) : zrun (some l) (242, 336, ls, [.int x], w) = some (some (.int x), w) := by
  refine (zEs (i := .ireturn) (by decide +kernel) _ _ _).trans ?_
  show zresx (some l) (if narrow .boolean (.int x) = .int x then _ else none) = _
  rw [if_pos h]
  rfl
theorem e242_337 (l : List Value) (v0 v2 v3 : Value) (x : Nat) (st : List Value) (w : zH) : zrun (some l) (242, 337, [v0, .ref x, v2, v3], st, w) = zrun (some l) (242, 338, [v0, .ref x, v2, v3], (.ref x :: st), w) := (zEs (i := .aload_n 1) (by decide +kernel) _ _ _).trans rfl
theorem e242_337n (l : List Value) (v0 v2 v3 : Value) (st : List Value) (w : zH) : zrun (some l) (242, 337, [v0, .null, v2, v3], st, w) = zrun (some l) (242, 338, [v0, .null, v2, v3], (.null :: st), w) := (zEs (i := .aload_n 1) (by decide +kernel) _ _ _).trans rfl
theorem e242_338 (l : List Value) (v1 v2 v3 : Value) (x : Nat) (st : List Value) (w : zH) : zrun (some l) (242, 338, [.ref x, v1, v2, v3], st, w) = zrun (some l) (242, 339, [.ref x, v1, v2, v3], (.ref x :: st), w) := (zEs (i := .aload_n 0) (by decide +kernel) _ _ _).trans rfl
theorem e242_338n (l : List Value) (v1 v2 v3 : Value) (st : List Value) (w : zH) : zrun (some l) (242, 338, [.null, v1, v2, v3], st, w) = zrun (some l) (242, 339, [.null, v1, v2, v3], (.null :: st), w) := (zEs (i := .aload_n 0) (by decide +kernel) _ _ _).trans rfl
theorem e242_339 (l : List Value) (v0 v1 v2 : Value) (x : Int32) (st : List Value) (w : zH) : zrun (some l) (242, 339, [v0, v1, v2, .int x], st, w) = zrun (some l) (242, 340, [v0, v1, v2, .int x], (.int x :: st), w) := (zEs (i := .iload_n 3) (by decide +kernel) _ _ _).trans rfl
theorem e242_340 (l : List Value) (ls st : List Value) (w : zH) : zrun (some l) (242, 340, ls, st, w) = zrun (some l) (242, 341, ls, (.int 1 :: st), w) := (zEs (i := .iconst 1) (by decide +kernel) _ _ _).trans rfl
theorem e242_341 (l : List Value) (ls : List Value) (a b : Int32) (st : List Value) (w : zH) : zrun (some l) (242, 341, ls, (.int b :: .int a :: st), w) = zrun (some l) (242, 342, ls, (.int (a + b) :: st), w) := (zEs (i := .iadd) (by decide +kernel) _ _ _).trans rfl
theorem e242_342 (l : List Value) (ls : List Value) (j : Int32) (st : List Value) (w : zH) : zrun (some l) (242, 342, ls, (.int j :: .ref 1000006 :: st), w) = zoi (zsx l j) (fun x => zrun (some l) (242, 343, ls, (.int x :: st), w)) := (zEs (i := .iaload) (by decide +kernel) _ _ _).trans zqs_iald
theorem e242_343 (l : List Value) (ls : List Value) (a : Nat) (x0 : Int32) (st : List Value) (w : zH) (hr : zcat st ≤ 8) (hc : zis w a 11) : zrun (some l) (242, 343, ls, (.int x0 :: .ref a :: st), w) = zcl (zrun (some l) (68, 0, [.ref a, .int x0, zJ], [], w)) (fun r => zrun (some l) (242, 346, ls, r.1.toList ++ st, r.2)) := by
  refine (zEs (i := .invokevirtual 68) (by decide +kernel) _ _ _).trans ?_
  show zresx (some l) (zinv (some l) 68 242 343 ls (.int x0 :: .ref a :: st) w) = _
  unfold zinv
  show zresx (some l) (if zrc (some l) 68 w (.ref a) = true then zcall 68 [.ref a, .int x0] st 242 343 ls w else none) = _
  rw [if_pos (zrc_more (zrc_is hc (by decide +kernel)))]
  exact zqs_call hr (Nat.le_of_ble_eq_true rfl) rfl rfl
theorem e242_346 (l : List Value) (v0 v1 v3 : Value) (x : Nat) (st : List Value) (w : zH) : zrun (some l) (242, 346, [v0, v1, .ref x, v3], st, w) = zrun (some l) (242, 347, [v0, v1, .ref x, v3], (.ref x :: st), w) := (zEs (i := .aload_n 2) (by decide +kernel) _ _ _).trans rfl
theorem e242_346n (l : List Value) (v0 v1 v3 : Value) (st : List Value) (w : zH) : zrun (some l) (242, 346, [v0, v1, .null, v3], st, w) = zrun (some l) (242, 347, [v0, v1, .null, v3], (.null :: st), w) := (zEs (i := .aload_n 2) (by decide +kernel) _ _ _).trans rfl
theorem e242_347 (l : List Value) (v1 v2 v3 : Value) (x : Nat) (st : List Value) (w : zH) : zrun (some l) (242, 347, [.ref x, v1, v2, v3], st, w) = zrun (some l) (242, 348, [.ref x, v1, v2, v3], (.ref x :: st), w) := (zEs (i := .aload_n 0) (by decide +kernel) _ _ _).trans rfl
theorem e242_347n (l : List Value) (v1 v2 v3 : Value) (st : List Value) (w : zH) : zrun (some l) (242, 347, [.null, v1, v2, v3], st, w) = zrun (some l) (242, 348, [.null, v1, v2, v3], (.null :: st), w) := (zEs (i := .aload_n 0) (by decide +kernel) _ _ _).trans rfl
theorem e242_348 (l : List Value) (v0 v1 v2 : Value) (x : Int32) (st : List Value) (w : zH) : zrun (some l) (242, 348, [v0, v1, v2, .int x], st, w) = zrun (some l) (242, 349, [v0, v1, v2, .int x], (.int x :: st), w) := (zEs (i := .iload_n 3) (by decide +kernel) _ _ _).trans rfl
theorem e242_349 (l : List Value) (ls st : List Value) (w : zH) : zrun (some l) (242, 349, ls, st, w) = zrun (some l) (242, 350, ls, (.int 1 :: st), w) := (zEs (i := .iconst 1) (by decide +kernel) _ _ _).trans rfl
theorem e242_350 (l : List Value) (ls : List Value) (a b : Int32) (st : List Value) (w : zH) : zrun (some l) (242, 350, ls, (.int b :: .int a :: st), w) = zrun (some l) (242, 351, ls, (.int (a + b) :: st), w) := (zEs (i := .iadd) (by decide +kernel) _ _ _).trans rfl
theorem e242_351 (l : List Value) (ls : List Value) (j : Int32) (st : List Value) (w : zH) : zrun (some l) (242, 351, ls, (.int j :: .ref 1000006 :: st), w) = zoi (zsx l j) (fun x => zrun (some l) (242, 352, ls, (.int x :: st), w)) := (zEs (i := .iaload) (by decide +kernel) _ _ _).trans zqs_iald
theorem e242_352 (l : List Value) (ls : List Value) (a : Nat) (x0 : Int32) (st : List Value) (w : zH) (hr : zcat st ≤ 8) (hc : zis w a 12) : zrun (some l) (242, 352, ls, (.int x0 :: .ref a :: st), w) = zcl (zrun (some l) (153, 0, [.ref a, .int x0], [], w)) (fun r => zrun (some l) (242, 355, ls, r.1.toList ++ st, r.2)) := by
  refine (zEs (i := .invokevirtual 153) (by decide +kernel) _ _ _).trans ?_
  show zresx (some l) (zinv (some l) 153 242 352 ls (.int x0 :: .ref a :: st) w) = _
  unfold zinv
  show zresx (some l) (if zrc (some l) 153 w (.ref a) = true then zcall 153 [.ref a, .int x0] st 242 352 ls w else none) = _
  rw [if_pos (zrc_more (zrc_is hc (by decide +kernel)))]
  exact zqs_call hr (Nat.le_of_ble_eq_true rfl) rfl rfl
theorem e242_355 (l : List Value) (ls : List Value) (a b : Int32) (st : List Value) (w : zH) : zrun (some l) (242, 355, ls, (.int b :: .int a :: st), w) = if a = b then zrun (some l) (242, 1557, ls, st, w) else zrun (some l) (242, 358, ls, st, w) := (zEs (i := .if_icmp .eq 1202) (by decide +kernel) _ _ _).trans (zqs_ic_eq rfl rfl)
theorem e242_358 (l : List Value) (ls st : List Value) (w : zH) : zrun (some l) (242, 358, ls, st, w) = zrun (some l) (242, 359, ls, (.int 0 :: st), w) := (zEs (i := .iconst 0) (by decide +kernel) _ _ _).trans rfl
theorem e242_359 (l : List Value) (ls : List Value) (x : Int32) (w : zH) (h : narrow .boolean (.int x) = .int x) : zrun (some l) (242, 359, ls, [.int x], w) = some (some (.int x), w) := by
  refine (zEs (i := .ireturn) (by decide +kernel) _ _ _).trans ?_
  show zresx (some l) (if narrow .boolean (.int x) = .int x then _ else none) = _
  rw [if_pos h]
  rfl
theorem e242_360 (l : List Value) (v0 v2 v3 : Value) (x : Nat) (st : List Value) (w : zH) : zrun (some l) (242, 360, [v0, .ref x, v2, v3], st, w) = zrun (some l) (242, 361, [v0, .ref x, v2, v3], (.ref x :: st), w) := (zEs (i := .aload_n 1) (by decide +kernel) _ _ _).trans rfl
theorem e242_360n (l : List Value) (v0 v2 v3 : Value) (st : List Value) (w : zH) : zrun (some l) (242, 360, [v0, .null, v2, v3], st, w) = zrun (some l) (242, 361, [v0, .null, v2, v3], (.null :: st), w) := (zEs (i := .aload_n 1) (by decide +kernel) _ _ _).trans rfl
theorem e242_361 (l : List Value) (ls : List Value) (a : Nat) (st : List Value) (w : zH) (hr : zcat st ≤ 8) (hc : zis w a 11) : zrun (some l) (242, 361, ls, (.ref a :: st), w) = zcl (zrun (some l) (69, 0, [.ref a], [], w)) (fun r => zrun (some l) (242, 364, ls, r.1.toList ++ st, r.2)) := by
  refine (zEs (i := .invokevirtual 69) (by decide +kernel) _ _ _).trans ?_
  show zresx (some l) (zinv (some l) 69 242 361 ls (.ref a :: st) w) = _
  unfold zinv
  show zresx (some l) (if zrc (some l) 69 w (.ref a) = true then zcall 69 [.ref a] st 242 361 ls w else none) = _
  rw [if_pos (zrc_more (zrc_is hc (by decide +kernel)))]
  exact zqs_call hr (Nat.le_of_ble_eq_true rfl) rfl rfl
theorem e242_364 (l : List Value) (v0 v1 v3 : Value) (x : Nat) (st : List Value) (w : zH) : zrun (some l) (242, 364, [v0, v1, .ref x, v3], st, w) = zrun (some l) (242, 365, [v0, v1, .ref x, v3], (.ref x :: st), w) := (zEs (i := .aload_n 2) (by decide +kernel) _ _ _).trans rfl
theorem e242_364n (l : List Value) (v0 v1 v3 : Value) (st : List Value) (w : zH) : zrun (some l) (242, 364, [v0, v1, .null, v3], st, w) = zrun (some l) (242, 365, [v0, v1, .null, v3], (.null :: st), w) := (zEs (i := .aload_n 2) (by decide +kernel) _ _ _).trans rfl
theorem e242_365 (l : List Value) (ls : List Value) (a : Nat) (st : List Value) (w : zH) (hr : zcat st ≤ 8) (hc : zis w a 12) : zrun (some l) (242, 365, ls, (.ref a :: st), w) = zcl (zrun (some l) (157, 0, [.ref a], [], w)) (fun r => zrun (some l) (242, 368, ls, r.1.toList ++ st, r.2)) := by
  refine (zEs (i := .invokevirtual 157) (by decide +kernel) _ _ _).trans ?_
  show zresx (some l) (zinv (some l) 157 242 365 ls (.ref a :: st) w) = _
  unfold zinv
  show zresx (some l) (if zrc (some l) 157 w (.ref a) = true then zcall 157 [.ref a] st 242 365 ls w else none) = _
  rw [if_pos (zrc_more (zrc_is hc (by decide +kernel)))]
  exact zqs_call hr (Nat.le_of_ble_eq_true rfl) rfl rfl
theorem e242_368 (l : List Value) (ls : List Value) (a b : Int32) (st : List Value) (w : zH) : zrun (some l) (242, 368, ls, (.int b :: .int a :: st), w) = if a = b then zrun (some l) (242, 1557, ls, st, w) else zrun (some l) (242, 371, ls, st, w) := (zEs (i := .if_icmp .eq 1189) (by decide +kernel) _ _ _).trans (zqs_ic_eq rfl rfl)
theorem e242_371 (l : List Value) (ls st : List Value) (w : zH) : zrun (some l) (242, 371, ls, st, w) = zrun (some l) (242, 372, ls, (.int 0 :: st), w) := (zEs (i := .iconst 0) (by decide +kernel) _ _ _).trans rfl
theorem e242_372 (l : List Value) (ls : List Value) (x : Int32) (w : zH) (h : narrow .boolean (.int x) = .int x) : zrun (some l) (242, 372, ls, [.int x], w) = some (some (.int x), w) := by
  refine (zEs (i := .ireturn) (by decide +kernel) _ _ _).trans ?_
  show zresx (some l) (if narrow .boolean (.int x) = .int x then _ else none) = _
  rw [if_pos h]
  rfl
theorem e242_373 (l : List Value) (v0 v2 v3 : Value) (x : Nat) (st : List Value) (w : zH) : zrun (some l) (242, 373, [v0, .ref x, v2, v3], st, w) = zrun (some l) (242, 374, [v0, .ref x, v2, v3], (.ref x :: st), w) := (zEs (i := .aload_n 1) (by decide +kernel) _ _ _).trans rfl
theorem e242_373n (l : List Value) (v0 v2 v3 : Value) (st : List Value) (w : zH) : zrun (some l) (242, 373, [v0, .null, v2, v3], st, w) = zrun (some l) (242, 374, [v0, .null, v2, v3], (.null :: st), w) := (zEs (i := .aload_n 1) (by decide +kernel) _ _ _).trans rfl
theorem e242_374 (l : List Value) (v1 v2 v3 : Value) (x : Nat) (st : List Value) (w : zH) : zrun (some l) (242, 374, [.ref x, v1, v2, v3], st, w) = zrun (some l) (242, 375, [.ref x, v1, v2, v3], (.ref x :: st), w) := (zEs (i := .aload_n 0) (by decide +kernel) _ _ _).trans rfl
theorem e242_374n (l : List Value) (v1 v2 v3 : Value) (st : List Value) (w : zH) : zrun (some l) (242, 374, [.null, v1, v2, v3], st, w) = zrun (some l) (242, 375, [.null, v1, v2, v3], (.null :: st), w) := (zEs (i := .aload_n 0) (by decide +kernel) _ _ _).trans rfl
theorem e242_375 (l : List Value) (v0 v1 v2 : Value) (x : Int32) (st : List Value) (w : zH) : zrun (some l) (242, 375, [v0, v1, v2, .int x], st, w) = zrun (some l) (242, 376, [v0, v1, v2, .int x], (.int x :: st), w) := (zEs (i := .iload_n 3) (by decide +kernel) _ _ _).trans rfl
theorem e242_376 (l : List Value) (ls st : List Value) (w : zH) : zrun (some l) (242, 376, ls, st, w) = zrun (some l) (242, 377, ls, (.int 1 :: st), w) := (zEs (i := .iconst 1) (by decide +kernel) _ _ _).trans rfl
theorem e242_377 (l : List Value) (ls : List Value) (a b : Int32) (st : List Value) (w : zH) : zrun (some l) (242, 377, ls, (.int b :: .int a :: st), w) = zrun (some l) (242, 378, ls, (.int (a + b) :: st), w) := (zEs (i := .iadd) (by decide +kernel) _ _ _).trans rfl
theorem e242_378 (l : List Value) (ls : List Value) (j : Int32) (st : List Value) (w : zH) : zrun (some l) (242, 378, ls, (.int j :: .ref 1000006 :: st), w) = zoi (zsx l j) (fun x => zrun (some l) (242, 379, ls, (.int x :: st), w)) := (zEs (i := .iaload) (by decide +kernel) _ _ _).trans zqs_iald
theorem e242_379 (l : List Value) (v1 v2 v3 : Value) (x : Nat) (st : List Value) (w : zH) : zrun (some l) (242, 379, [.ref x, v1, v2, v3], st, w) = zrun (some l) (242, 380, [.ref x, v1, v2, v3], (.ref x :: st), w) := (zEs (i := .aload_n 0) (by decide +kernel) _ _ _).trans rfl
theorem e242_379n (l : List Value) (v1 v2 v3 : Value) (st : List Value) (w : zH) : zrun (some l) (242, 379, [.null, v1, v2, v3], st, w) = zrun (some l) (242, 380, [.null, v1, v2, v3], (.null :: st), w) := (zEs (i := .aload_n 0) (by decide +kernel) _ _ _).trans rfl
theorem e242_380 (l : List Value) (v0 v1 v2 : Value) (x : Int32) (st : List Value) (w : zH) : zrun (some l) (242, 380, [v0, v1, v2, .int x], st, w) = zrun (some l) (242, 381, [v0, v1, v2, .int x], (.int x :: st), w) := (zEs (i := .iload_n 3) (by decide +kernel) _ _ _).trans rfl
theorem e242_381 (l : List Value) (ls st : List Value) (w : zH) : zrun (some l) (242, 381, ls, st, w) = zrun (some l) (242, 382, ls, (.int 2 :: st), w) := (zEs (i := .iconst 2) (by decide +kernel) _ _ _).trans rfl
theorem e242_382 (l : List Value) (ls : List Value) (a b : Int32) (st : List Value) (w : zH) : zrun (some l) (242, 382, ls, (.int b :: .int a :: st), w) = zrun (some l) (242, 383, ls, (.int (a + b) :: st), w) := (zEs (i := .iadd) (by decide +kernel) _ _ _).trans rfl
theorem e242_383 (l : List Value) (ls : List Value) (j : Int32) (st : List Value) (w : zH) : zrun (some l) (242, 383, ls, (.int j :: .ref 1000006 :: st), w) = zoi (zsx l j) (fun x => zrun (some l) (242, 384, ls, (.int x :: st), w)) := (zEs (i := .iaload) (by decide +kernel) _ _ _).trans zqs_iald
theorem e242_384 (l : List Value) (v1 v2 v3 : Value) (x : Nat) (st : List Value) (w : zH) : zrun (some l) (242, 384, [.ref x, v1, v2, v3], st, w) = zrun (some l) (242, 385, [.ref x, v1, v2, v3], (.ref x :: st), w) := (zEs (i := .aload_n 0) (by decide +kernel) _ _ _).trans rfl
theorem e242_384n (l : List Value) (v1 v2 v3 : Value) (st : List Value) (w : zH) : zrun (some l) (242, 384, [.null, v1, v2, v3], st, w) = zrun (some l) (242, 385, [.null, v1, v2, v3], (.null :: st), w) := (zEs (i := .aload_n 0) (by decide +kernel) _ _ _).trans rfl
theorem e242_385 (l : List Value) (v0 v1 v2 : Value) (x : Int32) (st : List Value) (w : zH) : zrun (some l) (242, 385, [v0, v1, v2, .int x], st, w) = zrun (some l) (242, 386, [v0, v1, v2, .int x], (.int x :: st), w) := (zEs (i := .iload_n 3) (by decide +kernel) _ _ _).trans rfl
theorem e242_386 (l : List Value) (ls st : List Value) (w : zH) : zrun (some l) (242, 386, ls, st, w) = zrun (some l) (242, 387, ls, (.int 3 :: st), w) := (zEs (i := .iconst 3) (by decide +kernel) _ _ _).trans rfl
theorem e242_387 (l : List Value) (ls : List Value) (a b : Int32) (st : List Value) (w : zH) : zrun (some l) (242, 387, ls, (.int b :: .int a :: st), w) = zrun (some l) (242, 388, ls, (.int (a + b) :: st), w) := (zEs (i := .iadd) (by decide +kernel) _ _ _).trans rfl
theorem e242_388 (l : List Value) (ls : List Value) (j : Int32) (st : List Value) (w : zH) : zrun (some l) (242, 388, ls, (.int j :: .ref 1000006 :: st), w) = zoi (zsx l j) (fun x => zrun (some l) (242, 389, ls, (.int x :: st), w)) := (zEs (i := .iaload) (by decide +kernel) _ _ _).trans zqs_iald
theorem e242_389 (l : List Value) (v1 v2 v3 : Value) (x : Nat) (st : List Value) (w : zH) : zrun (some l) (242, 389, [.ref x, v1, v2, v3], st, w) = zrun (some l) (242, 390, [.ref x, v1, v2, v3], (.ref x :: st), w) := (zEs (i := .aload_n 0) (by decide +kernel) _ _ _).trans rfl
theorem e242_389n (l : List Value) (v1 v2 v3 : Value) (st : List Value) (w : zH) : zrun (some l) (242, 389, [.null, v1, v2, v3], st, w) = zrun (some l) (242, 390, [.null, v1, v2, v3], (.null :: st), w) := (zEs (i := .aload_n 0) (by decide +kernel) _ _ _).trans rfl
theorem e242_390 (l : List Value) (v0 v1 v2 : Value) (x : Int32) (st : List Value) (w : zH) : zrun (some l) (242, 390, [v0, v1, v2, .int x], st, w) = zrun (some l) (242, 391, [v0, v1, v2, .int x], (.int x :: st), w) := (zEs (i := .iload_n 3) (by decide +kernel) _ _ _).trans rfl
theorem e242_391 (l : List Value) (ls st : List Value) (w : zH) : zrun (some l) (242, 391, ls, st, w) = zrun (some l) (242, 392, ls, (.int 4 :: st), w) := (zEs (i := .iconst 4) (by decide +kernel) _ _ _).trans rfl
theorem e242_392 (l : List Value) (ls : List Value) (a b : Int32) (st : List Value) (w : zH) : zrun (some l) (242, 392, ls, (.int b :: .int a :: st), w) = zrun (some l) (242, 393, ls, (.int (a + b) :: st), w) := (zEs (i := .iadd) (by decide +kernel) _ _ _).trans rfl
theorem e242_393 (l : List Value) (ls : List Value) (j : Int32) (st : List Value) (w : zH) : zrun (some l) (242, 393, ls, (.int j :: .ref 1000006 :: st), w) = zoi (zsx l j) (fun x => zrun (some l) (242, 394, ls, (.int x :: st), w)) := (zEs (i := .iaload) (by decide +kernel) _ _ _).trans zqs_iald
theorem e242_394 (l : List Value) (ls : List Value) (a : Nat) (x0 : Int32) (x1 : Int32) (x2 : Int32) (x3 : Int32) (st : List Value) (w : zH) (hr : zcat st ≤ 8) (hc : zis w a 11) : zrun (some l) (242, 394, ls, (.int x3 :: .int x2 :: .int x1 :: .int x0 :: .ref a :: st), w) = zcl (zrun (some l) (70, 0, [.ref a, .int x0, .int x1, .int x2, .int x3], [], w)) (fun r => zrun (some l) (242, 397, ls, r.1.toList ++ st, r.2)) := by
  refine (zEs (i := .invokevirtual 70) (by decide +kernel) _ _ _).trans ?_
  show zresx (some l) (zinv (some l) 70 242 394 ls (.int x3 :: .int x2 :: .int x1 :: .int x0 :: .ref a :: st) w) = _
  unfold zinv
  show zresx (some l) (if zrc (some l) 70 w (.ref a) = true then zcall 70 [.ref a, .int x0, .int x1, .int x2, .int x3] st 242 394 ls w else none) = _
  rw [if_pos (zrc_more (zrc_is hc (by decide +kernel)))]
  exact zqs_call hr (Nat.le_of_ble_eq_true rfl) rfl rfl
theorem e242_397 (l : List Value) (v0 v1 v3 : Value) (x : Nat) (st : List Value) (w : zH) : zrun (some l) (242, 397, [v0, v1, .ref x, v3], st, w) = zrun (some l) (242, 398, [v0, v1, .ref x, v3], (.ref x :: st), w) := (zEs (i := .aload_n 2) (by decide +kernel) _ _ _).trans rfl
theorem e242_397n (l : List Value) (v0 v1 v3 : Value) (st : List Value) (w : zH) : zrun (some l) (242, 397, [v0, v1, .null, v3], st, w) = zrun (some l) (242, 398, [v0, v1, .null, v3], (.null :: st), w) := (zEs (i := .aload_n 2) (by decide +kernel) _ _ _).trans rfl
theorem e242_398 (l : List Value) (v1 v2 v3 : Value) (x : Nat) (st : List Value) (w : zH) : zrun (some l) (242, 398, [.ref x, v1, v2, v3], st, w) = zrun (some l) (242, 399, [.ref x, v1, v2, v3], (.ref x :: st), w) := (zEs (i := .aload_n 0) (by decide +kernel) _ _ _).trans rfl
theorem e242_398n (l : List Value) (v1 v2 v3 : Value) (st : List Value) (w : zH) : zrun (some l) (242, 398, [.null, v1, v2, v3], st, w) = zrun (some l) (242, 399, [.null, v1, v2, v3], (.null :: st), w) := (zEs (i := .aload_n 0) (by decide +kernel) _ _ _).trans rfl
theorem e242_399 (l : List Value) (v0 v1 v2 : Value) (x : Int32) (st : List Value) (w : zH) : zrun (some l) (242, 399, [v0, v1, v2, .int x], st, w) = zrun (some l) (242, 400, [v0, v1, v2, .int x], (.int x :: st), w) := (zEs (i := .iload_n 3) (by decide +kernel) _ _ _).trans rfl
theorem e242_400 (l : List Value) (ls st : List Value) (w : zH) : zrun (some l) (242, 400, ls, st, w) = zrun (some l) (242, 401, ls, (.int 1 :: st), w) := (zEs (i := .iconst 1) (by decide +kernel) _ _ _).trans rfl
theorem e242_401 (l : List Value) (ls : List Value) (a b : Int32) (st : List Value) (w : zH) : zrun (some l) (242, 401, ls, (.int b :: .int a :: st), w) = zrun (some l) (242, 402, ls, (.int (a + b) :: st), w) := (zEs (i := .iadd) (by decide +kernel) _ _ _).trans rfl
theorem e242_402 (l : List Value) (ls : List Value) (j : Int32) (st : List Value) (w : zH) : zrun (some l) (242, 402, ls, (.int j :: .ref 1000006 :: st), w) = zoi (zsx l j) (fun x => zrun (some l) (242, 403, ls, (.int x :: st), w)) := (zEs (i := .iaload) (by decide +kernel) _ _ _).trans zqs_iald
theorem e242_403 (l : List Value) (v1 v2 v3 : Value) (x : Nat) (st : List Value) (w : zH) : zrun (some l) (242, 403, [.ref x, v1, v2, v3], st, w) = zrun (some l) (242, 404, [.ref x, v1, v2, v3], (.ref x :: st), w) := (zEs (i := .aload_n 0) (by decide +kernel) _ _ _).trans rfl
theorem e242_403n (l : List Value) (v1 v2 v3 : Value) (st : List Value) (w : zH) : zrun (some l) (242, 403, [.null, v1, v2, v3], st, w) = zrun (some l) (242, 404, [.null, v1, v2, v3], (.null :: st), w) := (zEs (i := .aload_n 0) (by decide +kernel) _ _ _).trans rfl
theorem e242_404 (l : List Value) (v0 v1 v2 : Value) (x : Int32) (st : List Value) (w : zH) : zrun (some l) (242, 404, [v0, v1, v2, .int x], st, w) = zrun (some l) (242, 405, [v0, v1, v2, .int x], (.int x :: st), w) := (zEs (i := .iload_n 3) (by decide +kernel) _ _ _).trans rfl
theorem e242_405 (l : List Value) (ls st : List Value) (w : zH) : zrun (some l) (242, 405, ls, st, w) = zrun (some l) (242, 406, ls, (.int 2 :: st), w) := (zEs (i := .iconst 2) (by decide +kernel) _ _ _).trans rfl
theorem e242_406 (l : List Value) (ls : List Value) (a b : Int32) (st : List Value) (w : zH) : zrun (some l) (242, 406, ls, (.int b :: .int a :: st), w) = zrun (some l) (242, 407, ls, (.int (a + b) :: st), w) := (zEs (i := .iadd) (by decide +kernel) _ _ _).trans rfl
theorem e242_407 (l : List Value) (ls : List Value) (j : Int32) (st : List Value) (w : zH) : zrun (some l) (242, 407, ls, (.int j :: .ref 1000006 :: st), w) = zoi (zsx l j) (fun x => zrun (some l) (242, 408, ls, (.int x :: st), w)) := (zEs (i := .iaload) (by decide +kernel) _ _ _).trans zqs_iald
theorem e242_408 (l : List Value) (v1 v2 v3 : Value) (x : Nat) (st : List Value) (w : zH) : zrun (some l) (242, 408, [.ref x, v1, v2, v3], st, w) = zrun (some l) (242, 409, [.ref x, v1, v2, v3], (.ref x :: st), w) := (zEs (i := .aload_n 0) (by decide +kernel) _ _ _).trans rfl
theorem e242_408n (l : List Value) (v1 v2 v3 : Value) (st : List Value) (w : zH) : zrun (some l) (242, 408, [.null, v1, v2, v3], st, w) = zrun (some l) (242, 409, [.null, v1, v2, v3], (.null :: st), w) := (zEs (i := .aload_n 0) (by decide +kernel) _ _ _).trans rfl
theorem e242_409 (l : List Value) (v0 v1 v2 : Value) (x : Int32) (st : List Value) (w : zH) : zrun (some l) (242, 409, [v0, v1, v2, .int x], st, w) = zrun (some l) (242, 410, [v0, v1, v2, .int x], (.int x :: st), w) := (zEs (i := .iload_n 3) (by decide +kernel) _ _ _).trans rfl
theorem e242_410 (l : List Value) (ls st : List Value) (w : zH) : zrun (some l) (242, 410, ls, st, w) = zrun (some l) (242, 411, ls, (.int 3 :: st), w) := (zEs (i := .iconst 3) (by decide +kernel) _ _ _).trans rfl
theorem e242_411 (l : List Value) (ls : List Value) (a b : Int32) (st : List Value) (w : zH) : zrun (some l) (242, 411, ls, (.int b :: .int a :: st), w) = zrun (some l) (242, 412, ls, (.int (a + b) :: st), w) := (zEs (i := .iadd) (by decide +kernel) _ _ _).trans rfl
theorem e242_412 (l : List Value) (ls : List Value) (j : Int32) (st : List Value) (w : zH) : zrun (some l) (242, 412, ls, (.int j :: .ref 1000006 :: st), w) = zoi (zsx l j) (fun x => zrun (some l) (242, 413, ls, (.int x :: st), w)) := (zEs (i := .iaload) (by decide +kernel) _ _ _).trans zqs_iald
theorem e242_413 (l : List Value) (v1 v2 v3 : Value) (x : Nat) (st : List Value) (w : zH) : zrun (some l) (242, 413, [.ref x, v1, v2, v3], st, w) = zrun (some l) (242, 414, [.ref x, v1, v2, v3], (.ref x :: st), w) := (zEs (i := .aload_n 0) (by decide +kernel) _ _ _).trans rfl
theorem e242_413n (l : List Value) (v1 v2 v3 : Value) (st : List Value) (w : zH) : zrun (some l) (242, 413, [.null, v1, v2, v3], st, w) = zrun (some l) (242, 414, [.null, v1, v2, v3], (.null :: st), w) := (zEs (i := .aload_n 0) (by decide +kernel) _ _ _).trans rfl
theorem e242_414 (l : List Value) (v0 v1 v2 : Value) (x : Int32) (st : List Value) (w : zH) : zrun (some l) (242, 414, [v0, v1, v2, .int x], st, w) = zrun (some l) (242, 415, [v0, v1, v2, .int x], (.int x :: st), w) := (zEs (i := .iload_n 3) (by decide +kernel) _ _ _).trans rfl
theorem e242_415 (l : List Value) (ls st : List Value) (w : zH) : zrun (some l) (242, 415, ls, st, w) = zrun (some l) (242, 416, ls, (.int 4 :: st), w) := (zEs (i := .iconst 4) (by decide +kernel) _ _ _).trans rfl
theorem e242_416 (l : List Value) (ls : List Value) (a b : Int32) (st : List Value) (w : zH) : zrun (some l) (242, 416, ls, (.int b :: .int a :: st), w) = zrun (some l) (242, 417, ls, (.int (a + b) :: st), w) := (zEs (i := .iadd) (by decide +kernel) _ _ _).trans rfl
theorem e242_417 (l : List Value) (ls : List Value) (j : Int32) (st : List Value) (w : zH) : zrun (some l) (242, 417, ls, (.int j :: .ref 1000006 :: st), w) = zoi (zsx l j) (fun x => zrun (some l) (242, 418, ls, (.int x :: st), w)) := (zEs (i := .iaload) (by decide +kernel) _ _ _).trans zqs_iald
theorem e242_418 (l : List Value) (ls : List Value) (a : Nat) (x0 : Int32) (x1 : Int32) (x2 : Int32) (x3 : Int32) (st : List Value) (w : zH) (hr : zcat st ≤ 8) (hc : zis w a 12) : zrun (some l) (242, 418, ls, (.int x3 :: .int x2 :: .int x1 :: .int x0 :: .ref a :: st), w) = zcl (zrun (some l) (158, 0, [.ref a, .int x0, .int x1, .int x2, .int x3], [], w)) (fun r => zrun (some l) (242, 421, ls, r.1.toList ++ st, r.2)) := by
  refine (zEs (i := .invokevirtual 158) (by decide +kernel) _ _ _).trans ?_
  show zresx (some l) (zinv (some l) 158 242 418 ls (.int x3 :: .int x2 :: .int x1 :: .int x0 :: .ref a :: st) w) = _
  unfold zinv
  show zresx (some l) (if zrc (some l) 158 w (.ref a) = true then zcall 158 [.ref a, .int x0, .int x1, .int x2, .int x3] st 242 418 ls w else none) = _
  rw [if_pos (zrc_more (zrc_is hc (by decide +kernel)))]
  exact zqs_call hr (Nat.le_of_ble_eq_true rfl) rfl rfl
theorem e242_421 (l : List Value) (ls : List Value) (a b : Int32) (st : List Value) (w : zH) : zrun (some l) (242, 421, ls, (.int b :: .int a :: st), w) = if a = b then zrun (some l) (242, 1557, ls, st, w) else zrun (some l) (242, 424, ls, st, w) := (zEs (i := .if_icmp .eq 1136) (by decide +kernel) _ _ _).trans (zqs_ic_eq rfl rfl)
theorem e242_424 (l : List Value) (ls st : List Value) (w : zH) : zrun (some l) (242, 424, ls, st, w) = zrun (some l) (242, 425, ls, (.int 0 :: st), w) := (zEs (i := .iconst 0) (by decide +kernel) _ _ _).trans rfl
theorem e242_425 (l : List Value) (ls : List Value) (x : Int32) (w : zH) (h : narrow .boolean (.int x) = .int x) : zrun (some l) (242, 425, ls, [.int x], w) = some (some (.int x), w) := by
  refine (zEs (i := .ireturn) (by decide +kernel) _ _ _).trans ?_
  show zresx (some l) (if narrow .boolean (.int x) = .int x then _ else none) = _
  rw [if_pos h]
  rfl
theorem e242_426 (l : List Value) (v0 v2 v3 : Value) (x : Nat) (st : List Value) (w : zH) : zrun (some l) (242, 426, [v0, .ref x, v2, v3], st, w) = zrun (some l) (242, 427, [v0, .ref x, v2, v3], (.ref x :: st), w) := (zEs (i := .aload_n 1) (by decide +kernel) _ _ _).trans rfl
theorem e242_426n (l : List Value) (v0 v2 v3 : Value) (st : List Value) (w : zH) : zrun (some l) (242, 426, [v0, .null, v2, v3], st, w) = zrun (some l) (242, 427, [v0, .null, v2, v3], (.null :: st), w) := (zEs (i := .aload_n 1) (by decide +kernel) _ _ _).trans rfl
theorem e242_427 (l : List Value) (v1 v2 v3 : Value) (x : Nat) (st : List Value) (w : zH) : zrun (some l) (242, 427, [.ref x, v1, v2, v3], st, w) = zrun (some l) (242, 428, [.ref x, v1, v2, v3], (.ref x :: st), w) := (zEs (i := .aload_n 0) (by decide +kernel) _ _ _).trans rfl
theorem e242_427n (l : List Value) (v1 v2 v3 : Value) (st : List Value) (w : zH) : zrun (some l) (242, 427, [.null, v1, v2, v3], st, w) = zrun (some l) (242, 428, [.null, v1, v2, v3], (.null :: st), w) := (zEs (i := .aload_n 0) (by decide +kernel) _ _ _).trans rfl
theorem e242_428 (l : List Value) (v0 v1 v2 : Value) (x : Int32) (st : List Value) (w : zH) : zrun (some l) (242, 428, [v0, v1, v2, .int x], st, w) = zrun (some l) (242, 429, [v0, v1, v2, .int x], (.int x :: st), w) := (zEs (i := .iload_n 3) (by decide +kernel) _ _ _).trans rfl
theorem e242_429 (l : List Value) (ls st : List Value) (w : zH) : zrun (some l) (242, 429, ls, st, w) = zrun (some l) (242, 430, ls, (.int 1 :: st), w) := (zEs (i := .iconst 1) (by decide +kernel) _ _ _).trans rfl
theorem e242_430 (l : List Value) (ls : List Value) (a b : Int32) (st : List Value) (w : zH) : zrun (some l) (242, 430, ls, (.int b :: .int a :: st), w) = zrun (some l) (242, 431, ls, (.int (a + b) :: st), w) := (zEs (i := .iadd) (by decide +kernel) _ _ _).trans rfl
theorem e242_431 (l : List Value) (ls : List Value) (j : Int32) (st : List Value) (w : zH) : zrun (some l) (242, 431, ls, (.int j :: .ref 1000006 :: st), w) = zoi (zsx l j) (fun x => zrun (some l) (242, 432, ls, (.int x :: st), w)) := (zEs (i := .iaload) (by decide +kernel) _ _ _).trans zqs_iald
theorem e242_432 (l : List Value) (v1 v2 v3 : Value) (x : Nat) (st : List Value) (w : zH) : zrun (some l) (242, 432, [.ref x, v1, v2, v3], st, w) = zrun (some l) (242, 433, [.ref x, v1, v2, v3], (.ref x :: st), w) := (zEs (i := .aload_n 0) (by decide +kernel) _ _ _).trans rfl
theorem e242_432n (l : List Value) (v1 v2 v3 : Value) (st : List Value) (w : zH) : zrun (some l) (242, 432, [.null, v1, v2, v3], st, w) = zrun (some l) (242, 433, [.null, v1, v2, v3], (.null :: st), w) := (zEs (i := .aload_n 0) (by decide +kernel) _ _ _).trans rfl
theorem e242_433 (l : List Value) (v0 v1 v2 : Value) (x : Int32) (st : List Value) (w : zH) : zrun (some l) (242, 433, [v0, v1, v2, .int x], st, w) = zrun (some l) (242, 434, [v0, v1, v2, .int x], (.int x :: st), w) := (zEs (i := .iload_n 3) (by decide +kernel) _ _ _).trans rfl
theorem e242_434 (l : List Value) (ls st : List Value) (w : zH) : zrun (some l) (242, 434, ls, st, w) = zrun (some l) (242, 435, ls, (.int 2 :: st), w) := (zEs (i := .iconst 2) (by decide +kernel) _ _ _).trans rfl
theorem e242_435 (l : List Value) (ls : List Value) (a b : Int32) (st : List Value) (w : zH) : zrun (some l) (242, 435, ls, (.int b :: .int a :: st), w) = zrun (some l) (242, 436, ls, (.int (a + b) :: st), w) := (zEs (i := .iadd) (by decide +kernel) _ _ _).trans rfl
theorem e242_436 (l : List Value) (ls : List Value) (j : Int32) (st : List Value) (w : zH) : zrun (some l) (242, 436, ls, (.int j :: .ref 1000006 :: st), w) = zoi (zsx l j) (fun x => zrun (some l) (242, 437, ls, (.int x :: st), w)) := (zEs (i := .iaload) (by decide +kernel) _ _ _).trans zqs_iald
theorem e242_437 (l : List Value) (v1 v2 v3 : Value) (x : Nat) (st : List Value) (w : zH) : zrun (some l) (242, 437, [.ref x, v1, v2, v3], st, w) = zrun (some l) (242, 438, [.ref x, v1, v2, v3], (.ref x :: st), w) := (zEs (i := .aload_n 0) (by decide +kernel) _ _ _).trans rfl
theorem e242_437n (l : List Value) (v1 v2 v3 : Value) (st : List Value) (w : zH) : zrun (some l) (242, 437, [.null, v1, v2, v3], st, w) = zrun (some l) (242, 438, [.null, v1, v2, v3], (.null :: st), w) := (zEs (i := .aload_n 0) (by decide +kernel) _ _ _).trans rfl
theorem e242_438 (l : List Value) (v0 v1 v2 : Value) (x : Int32) (st : List Value) (w : zH) : zrun (some l) (242, 438, [v0, v1, v2, .int x], st, w) = zrun (some l) (242, 439, [v0, v1, v2, .int x], (.int x :: st), w) := (zEs (i := .iload_n 3) (by decide +kernel) _ _ _).trans rfl
theorem e242_439 (l : List Value) (ls st : List Value) (w : zH) : zrun (some l) (242, 439, ls, st, w) = zrun (some l) (242, 440, ls, (.int 3 :: st), w) := (zEs (i := .iconst 3) (by decide +kernel) _ _ _).trans rfl
theorem e242_440 (l : List Value) (ls : List Value) (a b : Int32) (st : List Value) (w : zH) : zrun (some l) (242, 440, ls, (.int b :: .int a :: st), w) = zrun (some l) (242, 441, ls, (.int (a + b) :: st), w) := (zEs (i := .iadd) (by decide +kernel) _ _ _).trans rfl
theorem e242_441 (l : List Value) (ls : List Value) (j : Int32) (st : List Value) (w : zH) : zrun (some l) (242, 441, ls, (.int j :: .ref 1000006 :: st), w) = zoi (zsx l j) (fun x => zrun (some l) (242, 442, ls, (.int x :: st), w)) := (zEs (i := .iaload) (by decide +kernel) _ _ _).trans zqs_iald
theorem e242_442 (l : List Value) (ls : List Value) (a : Nat) (x0 : Int32) (x1 : Int32) (x2 : Int32) (st : List Value) (w : zH) (hr : zcat st ≤ 8) (hc : zis w a 11) : zrun (some l) (242, 442, ls, (.int x2 :: .int x1 :: .int x0 :: .ref a :: st), w) = zcl (zrun (some l) (71, 0, [.ref a, .int x0, .int x1, .int x2], [], w)) (fun r => zrun (some l) (242, 445, ls, r.1.toList ++ st, r.2)) := by
  refine (zEs (i := .invokevirtual 71) (by decide +kernel) _ _ _).trans ?_
  show zresx (some l) (zinv (some l) 71 242 442 ls (.int x2 :: .int x1 :: .int x0 :: .ref a :: st) w) = _
  unfold zinv
  show zresx (some l) (if zrc (some l) 71 w (.ref a) = true then zcall 71 [.ref a, .int x0, .int x1, .int x2] st 242 442 ls w else none) = _
  rw [if_pos (zrc_more (zrc_is hc (by decide +kernel)))]
  exact zqs_call hr (Nat.le_of_ble_eq_true rfl) rfl rfl
theorem e242_445 (l : List Value) (v0 v1 v3 : Value) (x : Nat) (st : List Value) (w : zH) : zrun (some l) (242, 445, [v0, v1, .ref x, v3], st, w) = zrun (some l) (242, 446, [v0, v1, .ref x, v3], (.ref x :: st), w) := (zEs (i := .aload_n 2) (by decide +kernel) _ _ _).trans rfl
theorem e242_445n (l : List Value) (v0 v1 v3 : Value) (st : List Value) (w : zH) : zrun (some l) (242, 445, [v0, v1, .null, v3], st, w) = zrun (some l) (242, 446, [v0, v1, .null, v3], (.null :: st), w) := (zEs (i := .aload_n 2) (by decide +kernel) _ _ _).trans rfl
theorem e242_446 (l : List Value) (v1 v2 v3 : Value) (x : Nat) (st : List Value) (w : zH) : zrun (some l) (242, 446, [.ref x, v1, v2, v3], st, w) = zrun (some l) (242, 447, [.ref x, v1, v2, v3], (.ref x :: st), w) := (zEs (i := .aload_n 0) (by decide +kernel) _ _ _).trans rfl
theorem e242_446n (l : List Value) (v1 v2 v3 : Value) (st : List Value) (w : zH) : zrun (some l) (242, 446, [.null, v1, v2, v3], st, w) = zrun (some l) (242, 447, [.null, v1, v2, v3], (.null :: st), w) := (zEs (i := .aload_n 0) (by decide +kernel) _ _ _).trans rfl
theorem e242_447 (l : List Value) (v0 v1 v2 : Value) (x : Int32) (st : List Value) (w : zH) : zrun (some l) (242, 447, [v0, v1, v2, .int x], st, w) = zrun (some l) (242, 448, [v0, v1, v2, .int x], (.int x :: st), w) := (zEs (i := .iload_n 3) (by decide +kernel) _ _ _).trans rfl
theorem e242_448 (l : List Value) (ls st : List Value) (w : zH) : zrun (some l) (242, 448, ls, st, w) = zrun (some l) (242, 449, ls, (.int 1 :: st), w) := (zEs (i := .iconst 1) (by decide +kernel) _ _ _).trans rfl
theorem e242_449 (l : List Value) (ls : List Value) (a b : Int32) (st : List Value) (w : zH) : zrun (some l) (242, 449, ls, (.int b :: .int a :: st), w) = zrun (some l) (242, 450, ls, (.int (a + b) :: st), w) := (zEs (i := .iadd) (by decide +kernel) _ _ _).trans rfl
theorem e242_450 (l : List Value) (ls : List Value) (j : Int32) (st : List Value) (w : zH) : zrun (some l) (242, 450, ls, (.int j :: .ref 1000006 :: st), w) = zoi (zsx l j) (fun x => zrun (some l) (242, 451, ls, (.int x :: st), w)) := (zEs (i := .iaload) (by decide +kernel) _ _ _).trans zqs_iald
theorem e242_451 (l : List Value) (v1 v2 v3 : Value) (x : Nat) (st : List Value) (w : zH) : zrun (some l) (242, 451, [.ref x, v1, v2, v3], st, w) = zrun (some l) (242, 452, [.ref x, v1, v2, v3], (.ref x :: st), w) := (zEs (i := .aload_n 0) (by decide +kernel) _ _ _).trans rfl
theorem e242_451n (l : List Value) (v1 v2 v3 : Value) (st : List Value) (w : zH) : zrun (some l) (242, 451, [.null, v1, v2, v3], st, w) = zrun (some l) (242, 452, [.null, v1, v2, v3], (.null :: st), w) := (zEs (i := .aload_n 0) (by decide +kernel) _ _ _).trans rfl
theorem e242_452 (l : List Value) (v0 v1 v2 : Value) (x : Int32) (st : List Value) (w : zH) : zrun (some l) (242, 452, [v0, v1, v2, .int x], st, w) = zrun (some l) (242, 453, [v0, v1, v2, .int x], (.int x :: st), w) := (zEs (i := .iload_n 3) (by decide +kernel) _ _ _).trans rfl
theorem e242_453 (l : List Value) (ls st : List Value) (w : zH) : zrun (some l) (242, 453, ls, st, w) = zrun (some l) (242, 454, ls, (.int 2 :: st), w) := (zEs (i := .iconst 2) (by decide +kernel) _ _ _).trans rfl
theorem e242_454 (l : List Value) (ls : List Value) (a b : Int32) (st : List Value) (w : zH) : zrun (some l) (242, 454, ls, (.int b :: .int a :: st), w) = zrun (some l) (242, 455, ls, (.int (a + b) :: st), w) := (zEs (i := .iadd) (by decide +kernel) _ _ _).trans rfl
theorem e242_455 (l : List Value) (ls : List Value) (j : Int32) (st : List Value) (w : zH) : zrun (some l) (242, 455, ls, (.int j :: .ref 1000006 :: st), w) = zoi (zsx l j) (fun x => zrun (some l) (242, 456, ls, (.int x :: st), w)) := (zEs (i := .iaload) (by decide +kernel) _ _ _).trans zqs_iald
theorem e242_456 (l : List Value) (v1 v2 v3 : Value) (x : Nat) (st : List Value) (w : zH) : zrun (some l) (242, 456, [.ref x, v1, v2, v3], st, w) = zrun (some l) (242, 457, [.ref x, v1, v2, v3], (.ref x :: st), w) := (zEs (i := .aload_n 0) (by decide +kernel) _ _ _).trans rfl
theorem e242_456n (l : List Value) (v1 v2 v3 : Value) (st : List Value) (w : zH) : zrun (some l) (242, 456, [.null, v1, v2, v3], st, w) = zrun (some l) (242, 457, [.null, v1, v2, v3], (.null :: st), w) := (zEs (i := .aload_n 0) (by decide +kernel) _ _ _).trans rfl
theorem e242_457 (l : List Value) (v0 v1 v2 : Value) (x : Int32) (st : List Value) (w : zH) : zrun (some l) (242, 457, [v0, v1, v2, .int x], st, w) = zrun (some l) (242, 458, [v0, v1, v2, .int x], (.int x :: st), w) := (zEs (i := .iload_n 3) (by decide +kernel) _ _ _).trans rfl
theorem e242_458 (l : List Value) (ls st : List Value) (w : zH) : zrun (some l) (242, 458, ls, st, w) = zrun (some l) (242, 459, ls, (.int 3 :: st), w) := (zEs (i := .iconst 3) (by decide +kernel) _ _ _).trans rfl
theorem e242_459 (l : List Value) (ls : List Value) (a b : Int32) (st : List Value) (w : zH) : zrun (some l) (242, 459, ls, (.int b :: .int a :: st), w) = zrun (some l) (242, 460, ls, (.int (a + b) :: st), w) := (zEs (i := .iadd) (by decide +kernel) _ _ _).trans rfl
theorem e242_460 (l : List Value) (ls : List Value) (j : Int32) (st : List Value) (w : zH) : zrun (some l) (242, 460, ls, (.int j :: .ref 1000006 :: st), w) = zoi (zsx l j) (fun x => zrun (some l) (242, 461, ls, (.int x :: st), w)) := (zEs (i := .iaload) (by decide +kernel) _ _ _).trans zqs_iald
theorem e242_461 (l : List Value) (ls : List Value) (a : Nat) (x0 : Int32) (x1 : Int32) (x2 : Int32) (st : List Value) (w : zH) (hr : zcat st ≤ 8) (hc : zis w a 12) : zrun (some l) (242, 461, ls, (.int x2 :: .int x1 :: .int x0 :: .ref a :: st), w) = zcl (zrun (some l) (160, 0, [.ref a, .int x0, .int x1, .int x2], [], w)) (fun r => zrun (some l) (242, 464, ls, r.1.toList ++ st, r.2)) := by
  refine (zEs (i := .invokevirtual 160) (by decide +kernel) _ _ _).trans ?_
  show zresx (some l) (zinv (some l) 160 242 461 ls (.int x2 :: .int x1 :: .int x0 :: .ref a :: st) w) = _
  unfold zinv
  show zresx (some l) (if zrc (some l) 160 w (.ref a) = true then zcall 160 [.ref a, .int x0, .int x1, .int x2] st 242 461 ls w else none) = _
  rw [if_pos (zrc_more (zrc_is hc (by decide +kernel)))]
  exact zqs_call hr (Nat.le_of_ble_eq_true rfl) rfl rfl
theorem e242_464 (l : List Value) (ls : List Value) (a b : Int32) (st : List Value) (w : zH) : zrun (some l) (242, 464, ls, (.int b :: .int a :: st), w) = if a = b then zrun (some l) (242, 1557, ls, st, w) else zrun (some l) (242, 467, ls, st, w) := (zEs (i := .if_icmp .eq 1093) (by decide +kernel) _ _ _).trans (zqs_ic_eq rfl rfl)
theorem e242_467 (l : List Value) (ls st : List Value) (w : zH) : zrun (some l) (242, 467, ls, st, w) = zrun (some l) (242, 468, ls, (.int 0 :: st), w) := (zEs (i := .iconst 0) (by decide +kernel) _ _ _).trans rfl
theorem e242_468 (l : List Value) (ls : List Value) (x : Int32) (w : zH) (h : narrow .boolean (.int x) = .int x) : zrun (some l) (242, 468, ls, [.int x], w) = some (some (.int x), w) := by
  refine (zEs (i := .ireturn) (by decide +kernel) _ _ _).trans ?_
  show zresx (some l) (if narrow .boolean (.int x) = .int x then _ else none) = _
  rw [if_pos h]
  rfl
theorem e242_469 (l : List Value) (v0 v2 v3 : Value) (x : Nat) (st : List Value) (w : zH) : zrun (some l) (242, 469, [v0, .ref x, v2, v3], st, w) = zrun (some l) (242, 470, [v0, .ref x, v2, v3], (.ref x :: st), w) := (zEs (i := .aload_n 1) (by decide +kernel) _ _ _).trans rfl
theorem e242_469n (l : List Value) (v0 v2 v3 : Value) (st : List Value) (w : zH) : zrun (some l) (242, 469, [v0, .null, v2, v3], st, w) = zrun (some l) (242, 470, [v0, .null, v2, v3], (.null :: st), w) := (zEs (i := .aload_n 1) (by decide +kernel) _ _ _).trans rfl
theorem e242_470 (l : List Value) (v1 v2 v3 : Value) (x : Nat) (st : List Value) (w : zH) : zrun (some l) (242, 470, [.ref x, v1, v2, v3], st, w) = zrun (some l) (242, 471, [.ref x, v1, v2, v3], (.ref x :: st), w) := (zEs (i := .aload_n 0) (by decide +kernel) _ _ _).trans rfl
theorem e242_470n (l : List Value) (v1 v2 v3 : Value) (st : List Value) (w : zH) : zrun (some l) (242, 470, [.null, v1, v2, v3], st, w) = zrun (some l) (242, 471, [.null, v1, v2, v3], (.null :: st), w) := (zEs (i := .aload_n 0) (by decide +kernel) _ _ _).trans rfl
theorem e242_471 (l : List Value) (v0 v1 v2 : Value) (x : Int32) (st : List Value) (w : zH) : zrun (some l) (242, 471, [v0, v1, v2, .int x], st, w) = zrun (some l) (242, 472, [v0, v1, v2, .int x], (.int x :: st), w) := (zEs (i := .iload_n 3) (by decide +kernel) _ _ _).trans rfl
theorem e242_472 (l : List Value) (ls st : List Value) (w : zH) : zrun (some l) (242, 472, ls, st, w) = zrun (some l) (242, 473, ls, (.int 1 :: st), w) := (zEs (i := .iconst 1) (by decide +kernel) _ _ _).trans rfl
theorem e242_473 (l : List Value) (ls : List Value) (a b : Int32) (st : List Value) (w : zH) : zrun (some l) (242, 473, ls, (.int b :: .int a :: st), w) = zrun (some l) (242, 474, ls, (.int (a + b) :: st), w) := (zEs (i := .iadd) (by decide +kernel) _ _ _).trans rfl
theorem e242_474 (l : List Value) (ls : List Value) (j : Int32) (st : List Value) (w : zH) : zrun (some l) (242, 474, ls, (.int j :: .ref 1000006 :: st), w) = zoi (zsx l j) (fun x => zrun (some l) (242, 475, ls, (.int x :: st), w)) := (zEs (i := .iaload) (by decide +kernel) _ _ _).trans zqs_iald
theorem e242_475 (l : List Value) (v1 v2 v3 : Value) (x : Nat) (st : List Value) (w : zH) : zrun (some l) (242, 475, [.ref x, v1, v2, v3], st, w) = zrun (some l) (242, 476, [.ref x, v1, v2, v3], (.ref x :: st), w) := (zEs (i := .aload_n 0) (by decide +kernel) _ _ _).trans rfl
theorem e242_475n (l : List Value) (v1 v2 v3 : Value) (st : List Value) (w : zH) : zrun (some l) (242, 475, [.null, v1, v2, v3], st, w) = zrun (some l) (242, 476, [.null, v1, v2, v3], (.null :: st), w) := (zEs (i := .aload_n 0) (by decide +kernel) _ _ _).trans rfl
theorem e242_476 (l : List Value) (v0 v1 v2 : Value) (x : Int32) (st : List Value) (w : zH) : zrun (some l) (242, 476, [v0, v1, v2, .int x], st, w) = zrun (some l) (242, 477, [v0, v1, v2, .int x], (.int x :: st), w) := (zEs (i := .iload_n 3) (by decide +kernel) _ _ _).trans rfl
theorem e242_477 (l : List Value) (ls st : List Value) (w : zH) : zrun (some l) (242, 477, ls, st, w) = zrun (some l) (242, 478, ls, (.int 2 :: st), w) := (zEs (i := .iconst 2) (by decide +kernel) _ _ _).trans rfl
theorem e242_478 (l : List Value) (ls : List Value) (a b : Int32) (st : List Value) (w : zH) : zrun (some l) (242, 478, ls, (.int b :: .int a :: st), w) = zrun (some l) (242, 479, ls, (.int (a + b) :: st), w) := (zEs (i := .iadd) (by decide +kernel) _ _ _).trans rfl
theorem e242_479 (l : List Value) (ls : List Value) (j : Int32) (st : List Value) (w : zH) : zrun (some l) (242, 479, ls, (.int j :: .ref 1000006 :: st), w) = zoi (zsx l j) (fun x => zrun (some l) (242, 480, ls, (.int x :: st), w)) := (zEs (i := .iaload) (by decide +kernel) _ _ _).trans zqs_iald
theorem e242_480 (l : List Value) (v1 v2 v3 : Value) (x : Nat) (st : List Value) (w : zH) : zrun (some l) (242, 480, [.ref x, v1, v2, v3], st, w) = zrun (some l) (242, 481, [.ref x, v1, v2, v3], (.ref x :: st), w) := (zEs (i := .aload_n 0) (by decide +kernel) _ _ _).trans rfl
theorem e242_480n (l : List Value) (v1 v2 v3 : Value) (st : List Value) (w : zH) : zrun (some l) (242, 480, [.null, v1, v2, v3], st, w) = zrun (some l) (242, 481, [.null, v1, v2, v3], (.null :: st), w) := (zEs (i := .aload_n 0) (by decide +kernel) _ _ _).trans rfl
theorem e242_481 (l : List Value) (v0 v1 v2 : Value) (x : Int32) (st : List Value) (w : zH) : zrun (some l) (242, 481, [v0, v1, v2, .int x], st, w) = zrun (some l) (242, 482, [v0, v1, v2, .int x], (.int x :: st), w) := (zEs (i := .iload_n 3) (by decide +kernel) _ _ _).trans rfl
theorem e242_482 (l : List Value) (ls st : List Value) (w : zH) : zrun (some l) (242, 482, ls, st, w) = zrun (some l) (242, 483, ls, (.int 3 :: st), w) := (zEs (i := .iconst 3) (by decide +kernel) _ _ _).trans rfl
theorem e242_483 (l : List Value) (ls : List Value) (a b : Int32) (st : List Value) (w : zH) : zrun (some l) (242, 483, ls, (.int b :: .int a :: st), w) = zrun (some l) (242, 484, ls, (.int (a + b) :: st), w) := (zEs (i := .iadd) (by decide +kernel) _ _ _).trans rfl
theorem e242_484 (l : List Value) (ls : List Value) (j : Int32) (st : List Value) (w : zH) : zrun (some l) (242, 484, ls, (.int j :: .ref 1000006 :: st), w) = zoi (zsx l j) (fun x => zrun (some l) (242, 485, ls, (.int x :: st), w)) := (zEs (i := .iaload) (by decide +kernel) _ _ _).trans zqs_iald
theorem e242_485 (l : List Value) (v1 v2 v3 : Value) (x : Nat) (st : List Value) (w : zH) : zrun (some l) (242, 485, [.ref x, v1, v2, v3], st, w) = zrun (some l) (242, 486, [.ref x, v1, v2, v3], (.ref x :: st), w) := (zEs (i := .aload_n 0) (by decide +kernel) _ _ _).trans rfl
theorem e242_485n (l : List Value) (v1 v2 v3 : Value) (st : List Value) (w : zH) : zrun (some l) (242, 485, [.null, v1, v2, v3], st, w) = zrun (some l) (242, 486, [.null, v1, v2, v3], (.null :: st), w) := (zEs (i := .aload_n 0) (by decide +kernel) _ _ _).trans rfl
theorem e242_486 (l : List Value) (v0 v1 v2 : Value) (x : Int32) (st : List Value) (w : zH) : zrun (some l) (242, 486, [v0, v1, v2, .int x], st, w) = zrun (some l) (242, 487, [v0, v1, v2, .int x], (.int x :: st), w) := (zEs (i := .iload_n 3) (by decide +kernel) _ _ _).trans rfl
theorem e242_487 (l : List Value) (ls st : List Value) (w : zH) : zrun (some l) (242, 487, ls, st, w) = zrun (some l) (242, 488, ls, (.int 4 :: st), w) := (zEs (i := .iconst 4) (by decide +kernel) _ _ _).trans rfl
theorem e242_488 (l : List Value) (ls : List Value) (a b : Int32) (st : List Value) (w : zH) : zrun (some l) (242, 488, ls, (.int b :: .int a :: st), w) = zrun (some l) (242, 489, ls, (.int (a + b) :: st), w) := (zEs (i := .iadd) (by decide +kernel) _ _ _).trans rfl
theorem e242_489 (l : List Value) (ls : List Value) (j : Int32) (st : List Value) (w : zH) : zrun (some l) (242, 489, ls, (.int j :: .ref 1000006 :: st), w) = zoi (zsx l j) (fun x => zrun (some l) (242, 490, ls, (.int x :: st), w)) := (zEs (i := .iaload) (by decide +kernel) _ _ _).trans zqs_iald
theorem e242_490 (l : List Value) (ls : List Value) (a : Nat) (x0 : Int32) (x1 : Int32) (x2 : Int32) (x3 : Int32) (st : List Value) (w : zH) (hr : zcat st ≤ 8) (hc : zis w a 11) : zrun (some l) (242, 490, ls, (.int x3 :: .int x2 :: .int x1 :: .int x0 :: .ref a :: st), w) = zcl (zrun (some l) (72, 0, [.ref a, .int x0, .int x1, .int x2, .int x3], [], w)) (fun r => zrun (some l) (242, 493, ls, r.1.toList ++ st, r.2)) := by
  refine (zEs (i := .invokevirtual 72) (by decide +kernel) _ _ _).trans ?_
  show zresx (some l) (zinv (some l) 72 242 490 ls (.int x3 :: .int x2 :: .int x1 :: .int x0 :: .ref a :: st) w) = _
  unfold zinv
  show zresx (some l) (if zrc (some l) 72 w (.ref a) = true then zcall 72 [.ref a, .int x0, .int x1, .int x2, .int x3] st 242 490 ls w else none) = _
  rw [if_pos (zrc_more (zrc_is hc (by decide +kernel)))]
  exact zqs_call hr (Nat.le_of_ble_eq_true rfl) rfl rfl
theorem e242_493 (l : List Value) (v0 v1 v3 : Value) (x : Nat) (st : List Value) (w : zH) : zrun (some l) (242, 493, [v0, v1, .ref x, v3], st, w) = zrun (some l) (242, 494, [v0, v1, .ref x, v3], (.ref x :: st), w) := (zEs (i := .aload_n 2) (by decide +kernel) _ _ _).trans rfl
theorem e242_493n (l : List Value) (v0 v1 v3 : Value) (st : List Value) (w : zH) : zrun (some l) (242, 493, [v0, v1, .null, v3], st, w) = zrun (some l) (242, 494, [v0, v1, .null, v3], (.null :: st), w) := (zEs (i := .aload_n 2) (by decide +kernel) _ _ _).trans rfl
theorem e242_494 (l : List Value) (v1 v2 v3 : Value) (x : Nat) (st : List Value) (w : zH) : zrun (some l) (242, 494, [.ref x, v1, v2, v3], st, w) = zrun (some l) (242, 495, [.ref x, v1, v2, v3], (.ref x :: st), w) := (zEs (i := .aload_n 0) (by decide +kernel) _ _ _).trans rfl
theorem e242_494n (l : List Value) (v1 v2 v3 : Value) (st : List Value) (w : zH) : zrun (some l) (242, 494, [.null, v1, v2, v3], st, w) = zrun (some l) (242, 495, [.null, v1, v2, v3], (.null :: st), w) := (zEs (i := .aload_n 0) (by decide +kernel) _ _ _).trans rfl
theorem e242_495 (l : List Value) (v0 v1 v2 : Value) (x : Int32) (st : List Value) (w : zH) : zrun (some l) (242, 495, [v0, v1, v2, .int x], st, w) = zrun (some l) (242, 496, [v0, v1, v2, .int x], (.int x :: st), w) := (zEs (i := .iload_n 3) (by decide +kernel) _ _ _).trans rfl
theorem e242_496 (l : List Value) (ls st : List Value) (w : zH) : zrun (some l) (242, 496, ls, st, w) = zrun (some l) (242, 497, ls, (.int 1 :: st), w) := (zEs (i := .iconst 1) (by decide +kernel) _ _ _).trans rfl
theorem e242_497 (l : List Value) (ls : List Value) (a b : Int32) (st : List Value) (w : zH) : zrun (some l) (242, 497, ls, (.int b :: .int a :: st), w) = zrun (some l) (242, 498, ls, (.int (a + b) :: st), w) := (zEs (i := .iadd) (by decide +kernel) _ _ _).trans rfl
theorem e242_498 (l : List Value) (ls : List Value) (j : Int32) (st : List Value) (w : zH) : zrun (some l) (242, 498, ls, (.int j :: .ref 1000006 :: st), w) = zoi (zsx l j) (fun x => zrun (some l) (242, 499, ls, (.int x :: st), w)) := (zEs (i := .iaload) (by decide +kernel) _ _ _).trans zqs_iald
theorem e242_499 (l : List Value) (v1 v2 v3 : Value) (x : Nat) (st : List Value) (w : zH) : zrun (some l) (242, 499, [.ref x, v1, v2, v3], st, w) = zrun (some l) (242, 500, [.ref x, v1, v2, v3], (.ref x :: st), w) := (zEs (i := .aload_n 0) (by decide +kernel) _ _ _).trans rfl
theorem e242_499n (l : List Value) (v1 v2 v3 : Value) (st : List Value) (w : zH) : zrun (some l) (242, 499, [.null, v1, v2, v3], st, w) = zrun (some l) (242, 500, [.null, v1, v2, v3], (.null :: st), w) := (zEs (i := .aload_n 0) (by decide +kernel) _ _ _).trans rfl
theorem e242_500 (l : List Value) (v0 v1 v2 : Value) (x : Int32) (st : List Value) (w : zH) : zrun (some l) (242, 500, [v0, v1, v2, .int x], st, w) = zrun (some l) (242, 501, [v0, v1, v2, .int x], (.int x :: st), w) := (zEs (i := .iload_n 3) (by decide +kernel) _ _ _).trans rfl
theorem e242_501 (l : List Value) (ls st : List Value) (w : zH) : zrun (some l) (242, 501, ls, st, w) = zrun (some l) (242, 502, ls, (.int 2 :: st), w) := (zEs (i := .iconst 2) (by decide +kernel) _ _ _).trans rfl
theorem e242_502 (l : List Value) (ls : List Value) (a b : Int32) (st : List Value) (w : zH) : zrun (some l) (242, 502, ls, (.int b :: .int a :: st), w) = zrun (some l) (242, 503, ls, (.int (a + b) :: st), w) := (zEs (i := .iadd) (by decide +kernel) _ _ _).trans rfl
theorem e242_503 (l : List Value) (ls : List Value) (j : Int32) (st : List Value) (w : zH) : zrun (some l) (242, 503, ls, (.int j :: .ref 1000006 :: st), w) = zoi (zsx l j) (fun x => zrun (some l) (242, 504, ls, (.int x :: st), w)) := (zEs (i := .iaload) (by decide +kernel) _ _ _).trans zqs_iald
theorem e242_504 (l : List Value) (v1 v2 v3 : Value) (x : Nat) (st : List Value) (w : zH) : zrun (some l) (242, 504, [.ref x, v1, v2, v3], st, w) = zrun (some l) (242, 505, [.ref x, v1, v2, v3], (.ref x :: st), w) := (zEs (i := .aload_n 0) (by decide +kernel) _ _ _).trans rfl
theorem e242_504n (l : List Value) (v1 v2 v3 : Value) (st : List Value) (w : zH) : zrun (some l) (242, 504, [.null, v1, v2, v3], st, w) = zrun (some l) (242, 505, [.null, v1, v2, v3], (.null :: st), w) := (zEs (i := .aload_n 0) (by decide +kernel) _ _ _).trans rfl
theorem e242_505 (l : List Value) (v0 v1 v2 : Value) (x : Int32) (st : List Value) (w : zH) : zrun (some l) (242, 505, [v0, v1, v2, .int x], st, w) = zrun (some l) (242, 506, [v0, v1, v2, .int x], (.int x :: st), w) := (zEs (i := .iload_n 3) (by decide +kernel) _ _ _).trans rfl
theorem e242_506 (l : List Value) (ls st : List Value) (w : zH) : zrun (some l) (242, 506, ls, st, w) = zrun (some l) (242, 507, ls, (.int 3 :: st), w) := (zEs (i := .iconst 3) (by decide +kernel) _ _ _).trans rfl
theorem e242_507 (l : List Value) (ls : List Value) (a b : Int32) (st : List Value) (w : zH) : zrun (some l) (242, 507, ls, (.int b :: .int a :: st), w) = zrun (some l) (242, 508, ls, (.int (a + b) :: st), w) := (zEs (i := .iadd) (by decide +kernel) _ _ _).trans rfl
theorem e242_508 (l : List Value) (ls : List Value) (j : Int32) (st : List Value) (w : zH) : zrun (some l) (242, 508, ls, (.int j :: .ref 1000006 :: st), w) = zoi (zsx l j) (fun x => zrun (some l) (242, 509, ls, (.int x :: st), w)) := (zEs (i := .iaload) (by decide +kernel) _ _ _).trans zqs_iald
theorem e242_509 (l : List Value) (v1 v2 v3 : Value) (x : Nat) (st : List Value) (w : zH) : zrun (some l) (242, 509, [.ref x, v1, v2, v3], st, w) = zrun (some l) (242, 510, [.ref x, v1, v2, v3], (.ref x :: st), w) := (zEs (i := .aload_n 0) (by decide +kernel) _ _ _).trans rfl
theorem e242_509n (l : List Value) (v1 v2 v3 : Value) (st : List Value) (w : zH) : zrun (some l) (242, 509, [.null, v1, v2, v3], st, w) = zrun (some l) (242, 510, [.null, v1, v2, v3], (.null :: st), w) := (zEs (i := .aload_n 0) (by decide +kernel) _ _ _).trans rfl
theorem e242_510 (l : List Value) (v0 v1 v2 : Value) (x : Int32) (st : List Value) (w : zH) : zrun (some l) (242, 510, [v0, v1, v2, .int x], st, w) = zrun (some l) (242, 511, [v0, v1, v2, .int x], (.int x :: st), w) := (zEs (i := .iload_n 3) (by decide +kernel) _ _ _).trans rfl
theorem e242_511 (l : List Value) (ls st : List Value) (w : zH) : zrun (some l) (242, 511, ls, st, w) = zrun (some l) (242, 512, ls, (.int 4 :: st), w) := (zEs (i := .iconst 4) (by decide +kernel) _ _ _).trans rfl
theorem e242_512 (l : List Value) (ls : List Value) (a b : Int32) (st : List Value) (w : zH) : zrun (some l) (242, 512, ls, (.int b :: .int a :: st), w) = zrun (some l) (242, 513, ls, (.int (a + b) :: st), w) := (zEs (i := .iadd) (by decide +kernel) _ _ _).trans rfl
theorem e242_513 (l : List Value) (ls : List Value) (j : Int32) (st : List Value) (w : zH) : zrun (some l) (242, 513, ls, (.int j :: .ref 1000006 :: st), w) = zoi (zsx l j) (fun x => zrun (some l) (242, 514, ls, (.int x :: st), w)) := (zEs (i := .iaload) (by decide +kernel) _ _ _).trans zqs_iald
theorem e242_514 (l : List Value) (ls : List Value) (a : Nat) (x0 : Int32) (x1 : Int32) (x2 : Int32) (x3 : Int32) (st : List Value) (w : zH) (hr : zcat st ≤ 8) (hc : zis w a 12) : zrun (some l) (242, 514, ls, (.int x3 :: .int x2 :: .int x1 :: .int x0 :: .ref a :: st), w) = zcl (zrun (some l) (161, 0, [.ref a, .int x0, .int x1, .int x2, .int x3], [], w)) (fun r => zrun (some l) (242, 517, ls, r.1.toList ++ st, r.2)) := by
  refine (zEs (i := .invokevirtual 161) (by decide +kernel) _ _ _).trans ?_
  show zresx (some l) (zinv (some l) 161 242 514 ls (.int x3 :: .int x2 :: .int x1 :: .int x0 :: .ref a :: st) w) = _
  unfold zinv
  show zresx (some l) (if zrc (some l) 161 w (.ref a) = true then zcall 161 [.ref a, .int x0, .int x1, .int x2, .int x3] st 242 514 ls w else none) = _
  rw [if_pos (zrc_more (zrc_is hc (by decide +kernel)))]
  exact zqs_call hr (Nat.le_of_ble_eq_true rfl) rfl rfl
theorem e242_517 (l : List Value) (ls : List Value) (a b : Int32) (st : List Value) (w : zH) : zrun (some l) (242, 517, ls, (.int b :: .int a :: st), w) = if a = b then zrun (some l) (242, 1557, ls, st, w) else zrun (some l) (242, 520, ls, st, w) := (zEs (i := .if_icmp .eq 1040) (by decide +kernel) _ _ _).trans (zqs_ic_eq rfl rfl)
theorem e242_520 (l : List Value) (ls st : List Value) (w : zH) : zrun (some l) (242, 520, ls, st, w) = zrun (some l) (242, 521, ls, (.int 0 :: st), w) := (zEs (i := .iconst 0) (by decide +kernel) _ _ _).trans rfl
theorem e242_521 (l : List Value) (ls : List Value) (x : Int32) (w : zH) (h : narrow .boolean (.int x) = .int x) : zrun (some l) (242, 521, ls, [.int x], w) = some (some (.int x), w) := by
  refine (zEs (i := .ireturn) (by decide +kernel) _ _ _).trans ?_
  show zresx (some l) (if narrow .boolean (.int x) = .int x then _ else none) = _
  rw [if_pos h]
  rfl
theorem e242_522 (l : List Value) (v0 v2 v3 : Value) (x : Nat) (st : List Value) (w : zH) : zrun (some l) (242, 522, [v0, .ref x, v2, v3], st, w) = zrun (some l) (242, 523, [v0, .ref x, v2, v3], (.ref x :: st), w) := (zEs (i := .aload_n 1) (by decide +kernel) _ _ _).trans rfl
theorem e242_522n (l : List Value) (v0 v2 v3 : Value) (st : List Value) (w : zH) : zrun (some l) (242, 522, [v0, .null, v2, v3], st, w) = zrun (some l) (242, 523, [v0, .null, v2, v3], (.null :: st), w) := (zEs (i := .aload_n 1) (by decide +kernel) _ _ _).trans rfl
theorem e242_523 (l : List Value) (v1 v2 v3 : Value) (x : Nat) (st : List Value) (w : zH) : zrun (some l) (242, 523, [.ref x, v1, v2, v3], st, w) = zrun (some l) (242, 524, [.ref x, v1, v2, v3], (.ref x :: st), w) := (zEs (i := .aload_n 0) (by decide +kernel) _ _ _).trans rfl
theorem e242_523n (l : List Value) (v1 v2 v3 : Value) (st : List Value) (w : zH) : zrun (some l) (242, 523, [.null, v1, v2, v3], st, w) = zrun (some l) (242, 524, [.null, v1, v2, v3], (.null :: st), w) := (zEs (i := .aload_n 0) (by decide +kernel) _ _ _).trans rfl
theorem e242_524 (l : List Value) (v0 v1 v2 : Value) (x : Int32) (st : List Value) (w : zH) : zrun (some l) (242, 524, [v0, v1, v2, .int x], st, w) = zrun (some l) (242, 525, [v0, v1, v2, .int x], (.int x :: st), w) := (zEs (i := .iload_n 3) (by decide +kernel) _ _ _).trans rfl
theorem e242_525 (l : List Value) (ls st : List Value) (w : zH) : zrun (some l) (242, 525, ls, st, w) = zrun (some l) (242, 526, ls, (.int 1 :: st), w) := (zEs (i := .iconst 1) (by decide +kernel) _ _ _).trans rfl
theorem e242_526 (l : List Value) (ls : List Value) (a b : Int32) (st : List Value) (w : zH) : zrun (some l) (242, 526, ls, (.int b :: .int a :: st), w) = zrun (some l) (242, 527, ls, (.int (a + b) :: st), w) := (zEs (i := .iadd) (by decide +kernel) _ _ _).trans rfl
theorem e242_527 (l : List Value) (ls : List Value) (j : Int32) (st : List Value) (w : zH) : zrun (some l) (242, 527, ls, (.int j :: .ref 1000006 :: st), w) = zoi (zsx l j) (fun x => zrun (some l) (242, 528, ls, (.int x :: st), w)) := (zEs (i := .iaload) (by decide +kernel) _ _ _).trans zqs_iald
theorem e242_528 (l : List Value) (v1 v2 v3 : Value) (x : Nat) (st : List Value) (w : zH) : zrun (some l) (242, 528, [.ref x, v1, v2, v3], st, w) = zrun (some l) (242, 529, [.ref x, v1, v2, v3], (.ref x :: st), w) := (zEs (i := .aload_n 0) (by decide +kernel) _ _ _).trans rfl
theorem e242_528n (l : List Value) (v1 v2 v3 : Value) (st : List Value) (w : zH) : zrun (some l) (242, 528, [.null, v1, v2, v3], st, w) = zrun (some l) (242, 529, [.null, v1, v2, v3], (.null :: st), w) := (zEs (i := .aload_n 0) (by decide +kernel) _ _ _).trans rfl
theorem e242_529 (l : List Value) (v0 v1 v2 : Value) (x : Int32) (st : List Value) (w : zH) : zrun (some l) (242, 529, [v0, v1, v2, .int x], st, w) = zrun (some l) (242, 530, [v0, v1, v2, .int x], (.int x :: st), w) := (zEs (i := .iload_n 3) (by decide +kernel) _ _ _).trans rfl
theorem e242_530 (l : List Value) (ls st : List Value) (w : zH) : zrun (some l) (242, 530, ls, st, w) = zrun (some l) (242, 531, ls, (.int 2 :: st), w) := (zEs (i := .iconst 2) (by decide +kernel) _ _ _).trans rfl
theorem e242_531 (l : List Value) (ls : List Value) (a b : Int32) (st : List Value) (w : zH) : zrun (some l) (242, 531, ls, (.int b :: .int a :: st), w) = zrun (some l) (242, 532, ls, (.int (a + b) :: st), w) := (zEs (i := .iadd) (by decide +kernel) _ _ _).trans rfl
theorem e242_532 (l : List Value) (ls : List Value) (j : Int32) (st : List Value) (w : zH) : zrun (some l) (242, 532, ls, (.int j :: .ref 1000006 :: st), w) = zoi (zsx l j) (fun x => zrun (some l) (242, 533, ls, (.int x :: st), w)) := (zEs (i := .iaload) (by decide +kernel) _ _ _).trans zqs_iald
theorem e242_533 (l : List Value) (ls : List Value) (a : Nat) (x0 : Int32) (x1 : Int32) (st : List Value) (w : zH) (hr : zcat st ≤ 8) (hc : zis w a 11) : zrun (some l) (242, 533, ls, (.int x1 :: .int x0 :: .ref a :: st), w) = zcl (zrun (some l) (73, 0, [.ref a, .int x0, .int x1, zJ], [], w)) (fun r => zrun (some l) (242, 536, ls, r.1.toList ++ st, r.2)) := by
  refine (zEs (i := .invokevirtual 73) (by decide +kernel) _ _ _).trans ?_
  show zresx (some l) (zinv (some l) 73 242 533 ls (.int x1 :: .int x0 :: .ref a :: st) w) = _
  unfold zinv
  show zresx (some l) (if zrc (some l) 73 w (.ref a) = true then zcall 73 [.ref a, .int x0, .int x1] st 242 533 ls w else none) = _
  rw [if_pos (zrc_more (zrc_is hc (by decide +kernel)))]
  exact zqs_call hr (Nat.le_of_ble_eq_true rfl) rfl rfl
theorem e242_536 (l : List Value) (v0 v1 v3 : Value) (x : Nat) (st : List Value) (w : zH) : zrun (some l) (242, 536, [v0, v1, .ref x, v3], st, w) = zrun (some l) (242, 537, [v0, v1, .ref x, v3], (.ref x :: st), w) := (zEs (i := .aload_n 2) (by decide +kernel) _ _ _).trans rfl
theorem e242_536n (l : List Value) (v0 v1 v3 : Value) (st : List Value) (w : zH) : zrun (some l) (242, 536, [v0, v1, .null, v3], st, w) = zrun (some l) (242, 537, [v0, v1, .null, v3], (.null :: st), w) := (zEs (i := .aload_n 2) (by decide +kernel) _ _ _).trans rfl
theorem e242_537 (l : List Value) (v1 v2 v3 : Value) (x : Nat) (st : List Value) (w : zH) : zrun (some l) (242, 537, [.ref x, v1, v2, v3], st, w) = zrun (some l) (242, 538, [.ref x, v1, v2, v3], (.ref x :: st), w) := (zEs (i := .aload_n 0) (by decide +kernel) _ _ _).trans rfl
theorem e242_537n (l : List Value) (v1 v2 v3 : Value) (st : List Value) (w : zH) : zrun (some l) (242, 537, [.null, v1, v2, v3], st, w) = zrun (some l) (242, 538, [.null, v1, v2, v3], (.null :: st), w) := (zEs (i := .aload_n 0) (by decide +kernel) _ _ _).trans rfl
theorem e242_538 (l : List Value) (v0 v1 v2 : Value) (x : Int32) (st : List Value) (w : zH) : zrun (some l) (242, 538, [v0, v1, v2, .int x], st, w) = zrun (some l) (242, 539, [v0, v1, v2, .int x], (.int x :: st), w) := (zEs (i := .iload_n 3) (by decide +kernel) _ _ _).trans rfl
theorem e242_539 (l : List Value) (ls st : List Value) (w : zH) : zrun (some l) (242, 539, ls, st, w) = zrun (some l) (242, 540, ls, (.int 1 :: st), w) := (zEs (i := .iconst 1) (by decide +kernel) _ _ _).trans rfl
theorem e242_540 (l : List Value) (ls : List Value) (a b : Int32) (st : List Value) (w : zH) : zrun (some l) (242, 540, ls, (.int b :: .int a :: st), w) = zrun (some l) (242, 541, ls, (.int (a + b) :: st), w) := (zEs (i := .iadd) (by decide +kernel) _ _ _).trans rfl
theorem e242_541 (l : List Value) (ls : List Value) (j : Int32) (st : List Value) (w : zH) : zrun (some l) (242, 541, ls, (.int j :: .ref 1000006 :: st), w) = zoi (zsx l j) (fun x => zrun (some l) (242, 542, ls, (.int x :: st), w)) := (zEs (i := .iaload) (by decide +kernel) _ _ _).trans zqs_iald
theorem e242_542 (l : List Value) (v1 v2 v3 : Value) (x : Nat) (st : List Value) (w : zH) : zrun (some l) (242, 542, [.ref x, v1, v2, v3], st, w) = zrun (some l) (242, 543, [.ref x, v1, v2, v3], (.ref x :: st), w) := (zEs (i := .aload_n 0) (by decide +kernel) _ _ _).trans rfl
theorem e242_542n (l : List Value) (v1 v2 v3 : Value) (st : List Value) (w : zH) : zrun (some l) (242, 542, [.null, v1, v2, v3], st, w) = zrun (some l) (242, 543, [.null, v1, v2, v3], (.null :: st), w) := (zEs (i := .aload_n 0) (by decide +kernel) _ _ _).trans rfl
theorem e242_543 (l : List Value) (v0 v1 v2 : Value) (x : Int32) (st : List Value) (w : zH) : zrun (some l) (242, 543, [v0, v1, v2, .int x], st, w) = zrun (some l) (242, 544, [v0, v1, v2, .int x], (.int x :: st), w) := (zEs (i := .iload_n 3) (by decide +kernel) _ _ _).trans rfl
theorem e242_544 (l : List Value) (ls st : List Value) (w : zH) : zrun (some l) (242, 544, ls, st, w) = zrun (some l) (242, 545, ls, (.int 2 :: st), w) := (zEs (i := .iconst 2) (by decide +kernel) _ _ _).trans rfl
theorem e242_545 (l : List Value) (ls : List Value) (a b : Int32) (st : List Value) (w : zH) : zrun (some l) (242, 545, ls, (.int b :: .int a :: st), w) = zrun (some l) (242, 546, ls, (.int (a + b) :: st), w) := (zEs (i := .iadd) (by decide +kernel) _ _ _).trans rfl
theorem e242_546 (l : List Value) (ls : List Value) (j : Int32) (st : List Value) (w : zH) : zrun (some l) (242, 546, ls, (.int j :: .ref 1000006 :: st), w) = zoi (zsx l j) (fun x => zrun (some l) (242, 547, ls, (.int x :: st), w)) := (zEs (i := .iaload) (by decide +kernel) _ _ _).trans zqs_iald
theorem e242_547 (l : List Value) (ls : List Value) (a : Nat) (x0 : Int32) (x1 : Int32) (st : List Value) (w : zH) (hr : zcat st ≤ 8) (hc : zis w a 12) : zrun (some l) (242, 547, ls, (.int x1 :: .int x0 :: .ref a :: st), w) = zcl (zrun (some l) (165, 0, [.ref a, .int x0, .int x1], [], w)) (fun r => zrun (some l) (242, 550, ls, r.1.toList ++ st, r.2)) := by
  refine (zEs (i := .invokevirtual 165) (by decide +kernel) _ _ _).trans ?_
  show zresx (some l) (zinv (some l) 165 242 547 ls (.int x1 :: .int x0 :: .ref a :: st) w) = _
  unfold zinv
  show zresx (some l) (if zrc (some l) 165 w (.ref a) = true then zcall 165 [.ref a, .int x0, .int x1] st 242 547 ls w else none) = _
  rw [if_pos (zrc_more (zrc_is hc (by decide +kernel)))]
  exact zqs_call hr (Nat.le_of_ble_eq_true rfl) rfl rfl
theorem e242_550 (l : List Value) (ls : List Value) (a b : Int32) (st : List Value) (w : zH) : zrun (some l) (242, 550, ls, (.int b :: .int a :: st), w) = if a = b then zrun (some l) (242, 1557, ls, st, w) else zrun (some l) (242, 553, ls, st, w) := (zEs (i := .if_icmp .eq 1007) (by decide +kernel) _ _ _).trans (zqs_ic_eq rfl rfl)
theorem e242_553 (l : List Value) (ls st : List Value) (w : zH) : zrun (some l) (242, 553, ls, st, w) = zrun (some l) (242, 554, ls, (.int 0 :: st), w) := (zEs (i := .iconst 0) (by decide +kernel) _ _ _).trans rfl
theorem e242_554 (l : List Value) (ls : List Value) (x : Int32) (w : zH) (h : narrow .boolean (.int x) = .int x) : zrun (some l) (242, 554, ls, [.int x], w) = some (some (.int x), w) := by
  refine (zEs (i := .ireturn) (by decide +kernel) _ _ _).trans ?_
  show zresx (some l) (if narrow .boolean (.int x) = .int x then _ else none) = _
  rw [if_pos h]
  rfl
theorem e242_555 (l : List Value) (v0 v2 v3 : Value) (x : Nat) (st : List Value) (w : zH) : zrun (some l) (242, 555, [v0, .ref x, v2, v3], st, w) = zrun (some l) (242, 556, [v0, .ref x, v2, v3], (.ref x :: st), w) := (zEs (i := .aload_n 1) (by decide +kernel) _ _ _).trans rfl
theorem e242_555n (l : List Value) (v0 v2 v3 : Value) (st : List Value) (w : zH) : zrun (some l) (242, 555, [v0, .null, v2, v3], st, w) = zrun (some l) (242, 556, [v0, .null, v2, v3], (.null :: st), w) := (zEs (i := .aload_n 1) (by decide +kernel) _ _ _).trans rfl
theorem e242_556 (l : List Value) (v1 v2 v3 : Value) (x : Nat) (st : List Value) (w : zH) : zrun (some l) (242, 556, [.ref x, v1, v2, v3], st, w) = zrun (some l) (242, 557, [.ref x, v1, v2, v3], (.ref x :: st), w) := (zEs (i := .aload_n 0) (by decide +kernel) _ _ _).trans rfl
theorem e242_556n (l : List Value) (v1 v2 v3 : Value) (st : List Value) (w : zH) : zrun (some l) (242, 556, [.null, v1, v2, v3], st, w) = zrun (some l) (242, 557, [.null, v1, v2, v3], (.null :: st), w) := (zEs (i := .aload_n 0) (by decide +kernel) _ _ _).trans rfl
theorem e242_557 (l : List Value) (v0 v1 v2 : Value) (x : Int32) (st : List Value) (w : zH) : zrun (some l) (242, 557, [v0, v1, v2, .int x], st, w) = zrun (some l) (242, 558, [v0, v1, v2, .int x], (.int x :: st), w) := (zEs (i := .iload_n 3) (by decide +kernel) _ _ _).trans rfl
theorem e242_558 (l : List Value) (ls st : List Value) (w : zH) : zrun (some l) (242, 558, ls, st, w) = zrun (some l) (242, 559, ls, (.int 1 :: st), w) := (zEs (i := .iconst 1) (by decide +kernel) _ _ _).trans rfl
theorem e242_559 (l : List Value) (ls : List Value) (a b : Int32) (st : List Value) (w : zH) : zrun (some l) (242, 559, ls, (.int b :: .int a :: st), w) = zrun (some l) (242, 560, ls, (.int (a + b) :: st), w) := (zEs (i := .iadd) (by decide +kernel) _ _ _).trans rfl
theorem e242_560 (l : List Value) (ls : List Value) (j : Int32) (st : List Value) (w : zH) : zrun (some l) (242, 560, ls, (.int j :: .ref 1000006 :: st), w) = zoi (zsx l j) (fun x => zrun (some l) (242, 561, ls, (.int x :: st), w)) := (zEs (i := .iaload) (by decide +kernel) _ _ _).trans zqs_iald
theorem e242_561 (l : List Value) (ls : List Value) (a : Int32) (st : List Value) (w : zH) : zrun (some l) (242, 561, ls, (.int a :: st), w) = zrun (some l) (242, 562, ls, (.long a.toInt64 :: st), w) := (zEs (i := .i2l) (by decide +kernel) _ _ _).trans rfl
theorem e242_562 (l : List Value) (ls st : List Value) (w : zH) : zrun (some l) (242, 562, ls, st, w) = zrun (some l) (242, 564, ls, (.int 32 :: st), w) := (zEs (i := .bipush 32) (by decide +kernel) _ _ _).trans rfl
theorem e242_564 (l : List Value) (ls : List Value) (a : Int64) (b : Int32) (st : List Value) (w : zH) : zrun (some l) (242, 564, ls, (.int b :: .long a :: st), w) = zrun (some l) (242, 565, ls, (.long (a <<< (b.toInt64 &&& 63)) :: st), w) := (zEs (i := .lshl) (by decide +kernel) _ _ _).trans rfl
theorem e242_565 (l : List Value) (v1 v2 v3 : Value) (x : Nat) (st : List Value) (w : zH) : zrun (some l) (242, 565, [.ref x, v1, v2, v3], st, w) = zrun (some l) (242, 566, [.ref x, v1, v2, v3], (.ref x :: st), w) := (zEs (i := .aload_n 0) (by decide +kernel) _ _ _).trans rfl
theorem e242_565n (l : List Value) (v1 v2 v3 : Value) (st : List Value) (w : zH) : zrun (some l) (242, 565, [.null, v1, v2, v3], st, w) = zrun (some l) (242, 566, [.null, v1, v2, v3], (.null :: st), w) := (zEs (i := .aload_n 0) (by decide +kernel) _ _ _).trans rfl
theorem e242_566 (l : List Value) (v0 v1 v2 : Value) (x : Int32) (st : List Value) (w : zH) : zrun (some l) (242, 566, [v0, v1, v2, .int x], st, w) = zrun (some l) (242, 567, [v0, v1, v2, .int x], (.int x :: st), w) := (zEs (i := .iload_n 3) (by decide +kernel) _ _ _).trans rfl
theorem e242_567 (l : List Value) (ls st : List Value) (w : zH) : zrun (some l) (242, 567, ls, st, w) = zrun (some l) (242, 568, ls, (.int 2 :: st), w) := (zEs (i := .iconst 2) (by decide +kernel) _ _ _).trans rfl
theorem e242_568 (l : List Value) (ls : List Value) (a b : Int32) (st : List Value) (w : zH) : zrun (some l) (242, 568, ls, (.int b :: .int a :: st), w) = zrun (some l) (242, 569, ls, (.int (a + b) :: st), w) := (zEs (i := .iadd) (by decide +kernel) _ _ _).trans rfl
theorem e242_569 (l : List Value) (ls : List Value) (j : Int32) (st : List Value) (w : zH) : zrun (some l) (242, 569, ls, (.int j :: .ref 1000006 :: st), w) = zoi (zsx l j) (fun x => zrun (some l) (242, 570, ls, (.int x :: st), w)) := (zEs (i := .iaload) (by decide +kernel) _ _ _).trans zqs_iald
theorem e242_570 (l : List Value) (ls : List Value) (a : Int32) (st : List Value) (w : zH) : zrun (some l) (242, 570, ls, (.int a :: st), w) = zrun (some l) (242, 571, ls, (.long a.toInt64 :: st), w) := (zEs (i := .i2l) (by decide +kernel) _ _ _).trans rfl
theorem e242_571 (l : List Value) (ls st : List Value) (w : zH) : zrun (some l) (242, 571, ls, st, w) = zrun (some l) (242, 574, ls, (.long 4294967295 :: st), w) := (zEs (i := .ldc2_w 4294967295) (by decide +kernel) _ _ _).trans rfl
theorem e242_574 (l : List Value) (ls : List Value) (a b : Int64) (st : List Value) (w : zH) : zrun (some l) (242, 574, ls, (.long b :: .long a :: st), w) = zrun (some l) (242, 575, ls, (.long (a &&& b) :: st), w) := (zEs (i := .land) (by decide +kernel) _ _ _).trans rfl
theorem e242_575 (l : List Value) (ls : List Value) (a b : Int64) (st : List Value) (w : zH) : zrun (some l) (242, 575, ls, (.long b :: .long a :: st), w) = zrun (some l) (242, 576, ls, (.long (a ||| b) :: st), w) := (zEs (i := .lor) (by decide +kernel) _ _ _).trans rfl
theorem e242_576 (l : List Value) (v1 v2 v3 : Value) (x : Nat) (st : List Value) (w : zH) : zrun (some l) (242, 576, [.ref x, v1, v2, v3], st, w) = zrun (some l) (242, 577, [.ref x, v1, v2, v3], (.ref x :: st), w) := (zEs (i := .aload_n 0) (by decide +kernel) _ _ _).trans rfl
theorem e242_576n (l : List Value) (v1 v2 v3 : Value) (st : List Value) (w : zH) : zrun (some l) (242, 576, [.null, v1, v2, v3], st, w) = zrun (some l) (242, 577, [.null, v1, v2, v3], (.null :: st), w) := (zEs (i := .aload_n 0) (by decide +kernel) _ _ _).trans rfl
theorem e242_577 (l : List Value) (v0 v1 v2 : Value) (x : Int32) (st : List Value) (w : zH) : zrun (some l) (242, 577, [v0, v1, v2, .int x], st, w) = zrun (some l) (242, 578, [v0, v1, v2, .int x], (.int x :: st), w) := (zEs (i := .iload_n 3) (by decide +kernel) _ _ _).trans rfl
theorem e242_578 (l : List Value) (ls st : List Value) (w : zH) : zrun (some l) (242, 578, ls, st, w) = zrun (some l) (242, 579, ls, (.int 3 :: st), w) := (zEs (i := .iconst 3) (by decide +kernel) _ _ _).trans rfl
theorem e242_579 (l : List Value) (ls : List Value) (a b : Int32) (st : List Value) (w : zH) : zrun (some l) (242, 579, ls, (.int b :: .int a :: st), w) = zrun (some l) (242, 580, ls, (.int (a + b) :: st), w) := (zEs (i := .iadd) (by decide +kernel) _ _ _).trans rfl
theorem e242_580 (l : List Value) (ls : List Value) (j : Int32) (st : List Value) (w : zH) : zrun (some l) (242, 580, ls, (.int j :: .ref 1000006 :: st), w) = zoi (zsx l j) (fun x => zrun (some l) (242, 581, ls, (.int x :: st), w)) := (zEs (i := .iaload) (by decide +kernel) _ _ _).trans zqs_iald
theorem e242_581 (l : List Value) (ls : List Value) (a : Nat) (x0 : Int64) (x1 : Int32) (st : List Value) (w : zH) (hr : zcat st ≤ 8) (hc : zis w a 11) : zrun (some l) (242, 581, ls, (.int x1 :: .long x0 :: .ref a :: st), w) = zcl (zrun (some l) (74, 0, [.ref a, .long x0, zJ, .int x1], [], w)) (fun r => zrun (some l) (242, 584, ls, r.1.toList ++ st, r.2)) := by
  refine (zEs (i := .invokevirtual 74) (by decide +kernel) _ _ _).trans ?_
  show zresx (some l) (zinv (some l) 74 242 581 ls (.int x1 :: .long x0 :: .ref a :: st) w) = _
  unfold zinv
  show zresx (some l) (if zrc (some l) 74 w (.ref a) = true then zcall 74 [.ref a, .long x0, .int x1] st 242 581 ls w else none) = _
  rw [if_pos (zrc_more (zrc_is hc (by decide +kernel)))]
  exact zqs_call hr (Nat.le_of_ble_eq_true rfl) rfl rfl
theorem e242_584 (l : List Value) (v0 v1 v3 : Value) (x : Nat) (st : List Value) (w : zH) : zrun (some l) (242, 584, [v0, v1, .ref x, v3], st, w) = zrun (some l) (242, 585, [v0, v1, .ref x, v3], (.ref x :: st), w) := (zEs (i := .aload_n 2) (by decide +kernel) _ _ _).trans rfl
theorem e242_584n (l : List Value) (v0 v1 v3 : Value) (st : List Value) (w : zH) : zrun (some l) (242, 584, [v0, v1, .null, v3], st, w) = zrun (some l) (242, 585, [v0, v1, .null, v3], (.null :: st), w) := (zEs (i := .aload_n 2) (by decide +kernel) _ _ _).trans rfl
theorem e242_585 (l : List Value) (v1 v2 v3 : Value) (x : Nat) (st : List Value) (w : zH) : zrun (some l) (242, 585, [.ref x, v1, v2, v3], st, w) = zrun (some l) (242, 586, [.ref x, v1, v2, v3], (.ref x :: st), w) := (zEs (i := .aload_n 0) (by decide +kernel) _ _ _).trans rfl
theorem e242_585n (l : List Value) (v1 v2 v3 : Value) (st : List Value) (w : zH) : zrun (some l) (242, 585, [.null, v1, v2, v3], st, w) = zrun (some l) (242, 586, [.null, v1, v2, v3], (.null :: st), w) := (zEs (i := .aload_n 0) (by decide +kernel) _ _ _).trans rfl
theorem e242_586 (l : List Value) (v0 v1 v2 : Value) (x : Int32) (st : List Value) (w : zH) : zrun (some l) (242, 586, [v0, v1, v2, .int x], st, w) = zrun (some l) (242, 587, [v0, v1, v2, .int x], (.int x :: st), w) := (zEs (i := .iload_n 3) (by decide +kernel) _ _ _).trans rfl
theorem e242_587 (l : List Value) (ls st : List Value) (w : zH) : zrun (some l) (242, 587, ls, st, w) = zrun (some l) (242, 588, ls, (.int 1 :: st), w) := (zEs (i := .iconst 1) (by decide +kernel) _ _ _).trans rfl
theorem e242_588 (l : List Value) (ls : List Value) (a b : Int32) (st : List Value) (w : zH) : zrun (some l) (242, 588, ls, (.int b :: .int a :: st), w) = zrun (some l) (242, 589, ls, (.int (a + b) :: st), w) := (zEs (i := .iadd) (by decide +kernel) _ _ _).trans rfl
theorem e242_589 (l : List Value) (ls : List Value) (j : Int32) (st : List Value) (w : zH) : zrun (some l) (242, 589, ls, (.int j :: .ref 1000006 :: st), w) = zoi (zsx l j) (fun x => zrun (some l) (242, 590, ls, (.int x :: st), w)) := (zEs (i := .iaload) (by decide +kernel) _ _ _).trans zqs_iald
theorem e242_590 (l : List Value) (ls : List Value) (a : Int32) (st : List Value) (w : zH) : zrun (some l) (242, 590, ls, (.int a :: st), w) = zrun (some l) (242, 591, ls, (.long a.toInt64 :: st), w) := (zEs (i := .i2l) (by decide +kernel) _ _ _).trans rfl
theorem e242_591 (l : List Value) (ls st : List Value) (w : zH) : zrun (some l) (242, 591, ls, st, w) = zrun (some l) (242, 593, ls, (.int 32 :: st), w) := (zEs (i := .bipush 32) (by decide +kernel) _ _ _).trans rfl
theorem e242_593 (l : List Value) (ls : List Value) (a : Int64) (b : Int32) (st : List Value) (w : zH) : zrun (some l) (242, 593, ls, (.int b :: .long a :: st), w) = zrun (some l) (242, 594, ls, (.long (a <<< (b.toInt64 &&& 63)) :: st), w) := (zEs (i := .lshl) (by decide +kernel) _ _ _).trans rfl
theorem e242_594 (l : List Value) (v1 v2 v3 : Value) (x : Nat) (st : List Value) (w : zH) : zrun (some l) (242, 594, [.ref x, v1, v2, v3], st, w) = zrun (some l) (242, 595, [.ref x, v1, v2, v3], (.ref x :: st), w) := (zEs (i := .aload_n 0) (by decide +kernel) _ _ _).trans rfl
theorem e242_594n (l : List Value) (v1 v2 v3 : Value) (st : List Value) (w : zH) : zrun (some l) (242, 594, [.null, v1, v2, v3], st, w) = zrun (some l) (242, 595, [.null, v1, v2, v3], (.null :: st), w) := (zEs (i := .aload_n 0) (by decide +kernel) _ _ _).trans rfl
theorem e242_595 (l : List Value) (v0 v1 v2 : Value) (x : Int32) (st : List Value) (w : zH) : zrun (some l) (242, 595, [v0, v1, v2, .int x], st, w) = zrun (some l) (242, 596, [v0, v1, v2, .int x], (.int x :: st), w) := (zEs (i := .iload_n 3) (by decide +kernel) _ _ _).trans rfl
theorem e242_596 (l : List Value) (ls st : List Value) (w : zH) : zrun (some l) (242, 596, ls, st, w) = zrun (some l) (242, 597, ls, (.int 2 :: st), w) := (zEs (i := .iconst 2) (by decide +kernel) _ _ _).trans rfl
theorem e242_597 (l : List Value) (ls : List Value) (a b : Int32) (st : List Value) (w : zH) : zrun (some l) (242, 597, ls, (.int b :: .int a :: st), w) = zrun (some l) (242, 598, ls, (.int (a + b) :: st), w) := (zEs (i := .iadd) (by decide +kernel) _ _ _).trans rfl
theorem e242_598 (l : List Value) (ls : List Value) (j : Int32) (st : List Value) (w : zH) : zrun (some l) (242, 598, ls, (.int j :: .ref 1000006 :: st), w) = zoi (zsx l j) (fun x => zrun (some l) (242, 599, ls, (.int x :: st), w)) := (zEs (i := .iaload) (by decide +kernel) _ _ _).trans zqs_iald
theorem e242_599 (l : List Value) (ls : List Value) (a : Int32) (st : List Value) (w : zH) : zrun (some l) (242, 599, ls, (.int a :: st), w) = zrun (some l) (242, 600, ls, (.long a.toInt64 :: st), w) := (zEs (i := .i2l) (by decide +kernel) _ _ _).trans rfl
theorem e242_600 (l : List Value) (ls st : List Value) (w : zH) : zrun (some l) (242, 600, ls, st, w) = zrun (some l) (242, 603, ls, (.long 4294967295 :: st), w) := (zEs (i := .ldc2_w 4294967295) (by decide +kernel) _ _ _).trans rfl
theorem e242_603 (l : List Value) (ls : List Value) (a b : Int64) (st : List Value) (w : zH) : zrun (some l) (242, 603, ls, (.long b :: .long a :: st), w) = zrun (some l) (242, 604, ls, (.long (a &&& b) :: st), w) := (zEs (i := .land) (by decide +kernel) _ _ _).trans rfl
theorem e242_604 (l : List Value) (ls : List Value) (a b : Int64) (st : List Value) (w : zH) : zrun (some l) (242, 604, ls, (.long b :: .long a :: st), w) = zrun (some l) (242, 605, ls, (.long (a ||| b) :: st), w) := (zEs (i := .lor) (by decide +kernel) _ _ _).trans rfl
theorem e242_605 (l : List Value) (v1 v2 v3 : Value) (x : Nat) (st : List Value) (w : zH) : zrun (some l) (242, 605, [.ref x, v1, v2, v3], st, w) = zrun (some l) (242, 606, [.ref x, v1, v2, v3], (.ref x :: st), w) := (zEs (i := .aload_n 0) (by decide +kernel) _ _ _).trans rfl
theorem e242_605n (l : List Value) (v1 v2 v3 : Value) (st : List Value) (w : zH) : zrun (some l) (242, 605, [.null, v1, v2, v3], st, w) = zrun (some l) (242, 606, [.null, v1, v2, v3], (.null :: st), w) := (zEs (i := .aload_n 0) (by decide +kernel) _ _ _).trans rfl
theorem e242_606 (l : List Value) (v0 v1 v2 : Value) (x : Int32) (st : List Value) (w : zH) : zrun (some l) (242, 606, [v0, v1, v2, .int x], st, w) = zrun (some l) (242, 607, [v0, v1, v2, .int x], (.int x :: st), w) := (zEs (i := .iload_n 3) (by decide +kernel) _ _ _).trans rfl
theorem e242_607 (l : List Value) (ls st : List Value) (w : zH) : zrun (some l) (242, 607, ls, st, w) = zrun (some l) (242, 608, ls, (.int 3 :: st), w) := (zEs (i := .iconst 3) (by decide +kernel) _ _ _).trans rfl
theorem e242_608 (l : List Value) (ls : List Value) (a b : Int32) (st : List Value) (w : zH) : zrun (some l) (242, 608, ls, (.int b :: .int a :: st), w) = zrun (some l) (242, 609, ls, (.int (a + b) :: st), w) := (zEs (i := .iadd) (by decide +kernel) _ _ _).trans rfl
theorem e242_609 (l : List Value) (ls : List Value) (j : Int32) (st : List Value) (w : zH) : zrun (some l) (242, 609, ls, (.int j :: .ref 1000006 :: st), w) = zoi (zsx l j) (fun x => zrun (some l) (242, 610, ls, (.int x :: st), w)) := (zEs (i := .iaload) (by decide +kernel) _ _ _).trans zqs_iald
theorem e242_610 (l : List Value) (ls : List Value) (a : Nat) (x0 : Int64) (x1 : Int32) (st : List Value) (w : zH) (hr : zcat st ≤ 8) (hc : zis w a 12) : zrun (some l) (242, 610, ls, (.int x1 :: .long x0 :: .ref a :: st), w) = zcl (zrun (some l) (167, 0, [.ref a, .long x0, zJ, .int x1, zJ], [], w)) (fun r => zrun (some l) (242, 613, ls, r.1.toList ++ st, r.2)) := by
  refine (zEs (i := .invokevirtual 167) (by decide +kernel) _ _ _).trans ?_
  show zresx (some l) (zinv (some l) 167 242 610 ls (.int x1 :: .long x0 :: .ref a :: st) w) = _
  unfold zinv
  show zresx (some l) (if zrc (some l) 167 w (.ref a) = true then zcall 167 [.ref a, .long x0, .int x1] st 242 610 ls w else none) = _
  rw [if_pos (zrc_more (zrc_is hc (by decide +kernel)))]
  exact zqs_call hr (Nat.le_of_ble_eq_true rfl) rfl rfl
theorem e242_613 (l : List Value) (ls : List Value) (a b : Int32) (st : List Value) (w : zH) : zrun (some l) (242, 613, ls, (.int b :: .int a :: st), w) = if a = b then zrun (some l) (242, 1557, ls, st, w) else zrun (some l) (242, 616, ls, st, w) := (zEs (i := .if_icmp .eq 944) (by decide +kernel) _ _ _).trans (zqs_ic_eq rfl rfl)
theorem e242_616 (l : List Value) (ls st : List Value) (w : zH) : zrun (some l) (242, 616, ls, st, w) = zrun (some l) (242, 617, ls, (.int 0 :: st), w) := (zEs (i := .iconst 0) (by decide +kernel) _ _ _).trans rfl
theorem e242_617 (l : List Value) (ls : List Value) (x : Int32) (w : zH) (h : narrow .boolean (.int x) = .int x) : zrun (some l) (242, 617, ls, [.int x], w) = some (some (.int x), w) := by
  refine (zEs (i := .ireturn) (by decide +kernel) _ _ _).trans ?_
  show zresx (some l) (if narrow .boolean (.int x) = .int x then _ else none) = _
  rw [if_pos h]
  rfl
theorem e242_618 (l : List Value) (v0 v2 v3 : Value) (x : Nat) (st : List Value) (w : zH) : zrun (some l) (242, 618, [v0, .ref x, v2, v3], st, w) = zrun (some l) (242, 619, [v0, .ref x, v2, v3], (.ref x :: st), w) := (zEs (i := .aload_n 1) (by decide +kernel) _ _ _).trans rfl
theorem e242_618n (l : List Value) (v0 v2 v3 : Value) (st : List Value) (w : zH) : zrun (some l) (242, 618, [v0, .null, v2, v3], st, w) = zrun (some l) (242, 619, [v0, .null, v2, v3], (.null :: st), w) := (zEs (i := .aload_n 1) (by decide +kernel) _ _ _).trans rfl
theorem e242_619 (l : List Value) (ls : List Value) (a : Nat) (st : List Value) (w : zH) (hr : zcat st ≤ 8) (hc : zis w a 11) : zrun (some l) (242, 619, ls, (.ref a :: st), w) = zcl (zrun (some l) (75, 0, [.ref a, zJ, zJ], [], w)) (fun r => zrun (some l) (242, 622, ls, r.1.toList ++ st, r.2)) := by
  refine (zEs (i := .invokevirtual 75) (by decide +kernel) _ _ _).trans ?_
  show zresx (some l) (zinv (some l) 75 242 619 ls (.ref a :: st) w) = _
  unfold zinv
  show zresx (some l) (if zrc (some l) 75 w (.ref a) = true then zcall 75 [.ref a] st 242 619 ls w else none) = _
  rw [if_pos (zrc_more (zrc_is hc (by decide +kernel)))]
  exact zqs_call hr (Nat.le_of_ble_eq_true rfl) rfl rfl
theorem e242_622 (l : List Value) (v0 v1 v3 : Value) (x : Nat) (st : List Value) (w : zH) : zrun (some l) (242, 622, [v0, v1, .ref x, v3], st, w) = zrun (some l) (242, 623, [v0, v1, .ref x, v3], (.ref x :: st), w) := (zEs (i := .aload_n 2) (by decide +kernel) _ _ _).trans rfl
theorem e242_622n (l : List Value) (v0 v1 v3 : Value) (st : List Value) (w : zH) : zrun (some l) (242, 622, [v0, v1, .null, v3], st, w) = zrun (some l) (242, 623, [v0, v1, .null, v3], (.null :: st), w) := (zEs (i := .aload_n 2) (by decide +kernel) _ _ _).trans rfl
theorem e242_623 (l : List Value) (ls : List Value) (a : Nat) (st : List Value) (w : zH) (hr : zcat st ≤ 8) (hc : zis w a 12) : zrun (some l) (242, 623, ls, (.ref a :: st), w) = zcl (zrun (some l) (179, 0, [.ref a], [], w)) (fun r => zrun (some l) (242, 626, ls, r.1.toList ++ st, r.2)) := by
  refine (zEs (i := .invokevirtual 179) (by decide +kernel) _ _ _).trans ?_
  show zresx (some l) (zinv (some l) 179 242 623 ls (.ref a :: st) w) = _
  unfold zinv
  show zresx (some l) (if zrc (some l) 179 w (.ref a) = true then zcall 179 [.ref a] st 242 623 ls w else none) = _
  rw [if_pos (zrc_more (zrc_is hc (by decide +kernel)))]
  exact zqs_call hr (Nat.le_of_ble_eq_true rfl) rfl rfl
theorem e242_626 (l : List Value) (ls : List Value) (a b : Int32) (st : List Value) (w : zH) : zrun (some l) (242, 626, ls, (.int b :: .int a :: st), w) = if a = b then zrun (some l) (242, 1557, ls, st, w) else zrun (some l) (242, 629, ls, st, w) := (zEs (i := .if_icmp .eq 931) (by decide +kernel) _ _ _).trans (zqs_ic_eq rfl rfl)
theorem e242_629 (l : List Value) (ls st : List Value) (w : zH) : zrun (some l) (242, 629, ls, st, w) = zrun (some l) (242, 630, ls, (.int 0 :: st), w) := (zEs (i := .iconst 0) (by decide +kernel) _ _ _).trans rfl
theorem e242_630 (l : List Value) (ls : List Value) (x : Int32) (w : zH) (h : narrow .boolean (.int x) = .int x) : zrun (some l) (242, 630, ls, [.int x], w) = some (some (.int x), w) := by
  refine (zEs (i := .ireturn) (by decide +kernel) _ _ _).trans ?_
  show zresx (some l) (if narrow .boolean (.int x) = .int x then _ else none) = _
  rw [if_pos h]
  rfl
theorem e242_631 (l : List Value) (v0 v2 v3 : Value) (x : Nat) (st : List Value) (w : zH) : zrun (some l) (242, 631, [v0, .ref x, v2, v3], st, w) = zrun (some l) (242, 632, [v0, .ref x, v2, v3], (.ref x :: st), w) := (zEs (i := .aload_n 1) (by decide +kernel) _ _ _).trans rfl
theorem e242_631n (l : List Value) (v0 v2 v3 : Value) (st : List Value) (w : zH) : zrun (some l) (242, 631, [v0, .null, v2, v3], st, w) = zrun (some l) (242, 632, [v0, .null, v2, v3], (.null :: st), w) := (zEs (i := .aload_n 1) (by decide +kernel) _ _ _).trans rfl
theorem e242_632 (l : List Value) (ls : List Value) (a : Nat) (st : List Value) (w : zH) (hr : zcat st ≤ 8) (hc : zis w a 11) : zrun (some l) (242, 632, ls, (.ref a :: st), w) = zcl (zrun (some l) (76, 0, [.ref a], [], w)) (fun r => zrun (some l) (242, 635, ls, r.1.toList ++ st, r.2)) := by
  refine (zEs (i := .invokevirtual 76) (by decide +kernel) _ _ _).trans ?_
  show zresx (some l) (zinv (some l) 76 242 632 ls (.ref a :: st) w) = _
  unfold zinv
  show zresx (some l) (if zrc (some l) 76 w (.ref a) = true then zcall 76 [.ref a] st 242 632 ls w else none) = _
  rw [if_pos (zrc_more (zrc_is hc (by decide +kernel)))]
  exact zqs_call hr (Nat.le_of_ble_eq_true rfl) rfl rfl
theorem e242_635 (l : List Value) (v0 v1 v3 : Value) (x : Nat) (st : List Value) (w : zH) : zrun (some l) (242, 635, [v0, v1, .ref x, v3], st, w) = zrun (some l) (242, 636, [v0, v1, .ref x, v3], (.ref x :: st), w) := (zEs (i := .aload_n 2) (by decide +kernel) _ _ _).trans rfl
theorem e242_635n (l : List Value) (v0 v1 v3 : Value) (st : List Value) (w : zH) : zrun (some l) (242, 635, [v0, v1, .null, v3], st, w) = zrun (some l) (242, 636, [v0, v1, .null, v3], (.null :: st), w) := (zEs (i := .aload_n 2) (by decide +kernel) _ _ _).trans rfl
theorem e242_636 (l : List Value) (ls : List Value) (a : Nat) (st : List Value) (w : zH) (hr : zcat st ≤ 8) (hc : zis w a 12) : zrun (some l) (242, 636, ls, (.ref a :: st), w) = zcl (zrun (some l) (180, 0, [.ref a], [], w)) (fun r => zrun (some l) (242, 639, ls, r.1.toList ++ st, r.2)) := by
  refine (zEs (i := .invokevirtual 180) (by decide +kernel) _ _ _).trans ?_
  show zresx (some l) (zinv (some l) 180 242 636 ls (.ref a :: st) w) = _
  unfold zinv
  show zresx (some l) (if zrc (some l) 180 w (.ref a) = true then zcall 180 [.ref a] st 242 636 ls w else none) = _
  rw [if_pos (zrc_more (zrc_is hc (by decide +kernel)))]
  exact zqs_call hr (Nat.le_of_ble_eq_true rfl) rfl rfl
theorem e242_639 (l : List Value) (ls : List Value) (a b : Int32) (st : List Value) (w : zH) : zrun (some l) (242, 639, ls, (.int b :: .int a :: st), w) = if a = b then zrun (some l) (242, 1557, ls, st, w) else zrun (some l) (242, 642, ls, st, w) := (zEs (i := .if_icmp .eq 918) (by decide +kernel) _ _ _).trans (zqs_ic_eq rfl rfl)
theorem e242_642 (l : List Value) (ls st : List Value) (w : zH) : zrun (some l) (242, 642, ls, st, w) = zrun (some l) (242, 643, ls, (.int 0 :: st), w) := (zEs (i := .iconst 0) (by decide +kernel) _ _ _).trans rfl
theorem e242_643 (l : List Value) (ls : List Value) (x : Int32) (w : zH) (h : narrow .boolean (.int x) = .int x) : zrun (some l) (242, 643, ls, [.int x], w) = some (some (.int x), w) := by
  refine (zEs (i := .ireturn) (by decide +kernel) _ _ _).trans ?_
  show zresx (some l) (if narrow .boolean (.int x) = .int x then _ else none) = _
  rw [if_pos h]
  rfl
theorem e242_644 (l : List Value) (v0 v2 v3 : Value) (x : Nat) (st : List Value) (w : zH) : zrun (some l) (242, 644, [v0, .ref x, v2, v3], st, w) = zrun (some l) (242, 645, [v0, .ref x, v2, v3], (.ref x :: st), w) := (zEs (i := .aload_n 1) (by decide +kernel) _ _ _).trans rfl
theorem e242_644n (l : List Value) (v0 v2 v3 : Value) (st : List Value) (w : zH) : zrun (some l) (242, 644, [v0, .null, v2, v3], st, w) = zrun (some l) (242, 645, [v0, .null, v2, v3], (.null :: st), w) := (zEs (i := .aload_n 1) (by decide +kernel) _ _ _).trans rfl
theorem e242_645 (l : List Value) (v1 v2 v3 : Value) (x : Nat) (st : List Value) (w : zH) : zrun (some l) (242, 645, [.ref x, v1, v2, v3], st, w) = zrun (some l) (242, 646, [.ref x, v1, v2, v3], (.ref x :: st), w) := (zEs (i := .aload_n 0) (by decide +kernel) _ _ _).trans rfl
theorem e242_645n (l : List Value) (v1 v2 v3 : Value) (st : List Value) (w : zH) : zrun (some l) (242, 645, [.null, v1, v2, v3], st, w) = zrun (some l) (242, 646, [.null, v1, v2, v3], (.null :: st), w) := (zEs (i := .aload_n 0) (by decide +kernel) _ _ _).trans rfl
theorem e242_646 (l : List Value) (v0 v1 v2 : Value) (x : Int32) (st : List Value) (w : zH) : zrun (some l) (242, 646, [v0, v1, v2, .int x], st, w) = zrun (some l) (242, 647, [v0, v1, v2, .int x], (.int x :: st), w) := (zEs (i := .iload_n 3) (by decide +kernel) _ _ _).trans rfl
theorem e242_647 (l : List Value) (ls st : List Value) (w : zH) : zrun (some l) (242, 647, ls, st, w) = zrun (some l) (242, 648, ls, (.int 1 :: st), w) := (zEs (i := .iconst 1) (by decide +kernel) _ _ _).trans rfl
theorem e242_648 (l : List Value) (ls : List Value) (a b : Int32) (st : List Value) (w : zH) : zrun (some l) (242, 648, ls, (.int b :: .int a :: st), w) = zrun (some l) (242, 649, ls, (.int (a + b) :: st), w) := (zEs (i := .iadd) (by decide +kernel) _ _ _).trans rfl
theorem e242_649 (l : List Value) (ls : List Value) (j : Int32) (st : List Value) (w : zH) : zrun (some l) (242, 649, ls, (.int j :: .ref 1000006 :: st), w) = zoi (zsx l j) (fun x => zrun (some l) (242, 650, ls, (.int x :: st), w)) := (zEs (i := .iaload) (by decide +kernel) _ _ _).trans zqs_iald
theorem e242_650 (l : List Value) (v1 v2 v3 : Value) (x : Nat) (st : List Value) (w : zH) : zrun (some l) (242, 650, [.ref x, v1, v2, v3], st, w) = zrun (some l) (242, 651, [.ref x, v1, v2, v3], (.ref x :: st), w) := (zEs (i := .aload_n 0) (by decide +kernel) _ _ _).trans rfl
theorem e242_650n (l : List Value) (v1 v2 v3 : Value) (st : List Value) (w : zH) : zrun (some l) (242, 650, [.null, v1, v2, v3], st, w) = zrun (some l) (242, 651, [.null, v1, v2, v3], (.null :: st), w) := (zEs (i := .aload_n 0) (by decide +kernel) _ _ _).trans rfl
theorem e242_651 (l : List Value) (v0 v1 v2 : Value) (x : Int32) (st : List Value) (w : zH) : zrun (some l) (242, 651, [v0, v1, v2, .int x], st, w) = zrun (some l) (242, 652, [v0, v1, v2, .int x], (.int x :: st), w) := (zEs (i := .iload_n 3) (by decide +kernel) _ _ _).trans rfl
theorem e242_652 (l : List Value) (ls st : List Value) (w : zH) : zrun (some l) (242, 652, ls, st, w) = zrun (some l) (242, 653, ls, (.int 2 :: st), w) := (zEs (i := .iconst 2) (by decide +kernel) _ _ _).trans rfl
theorem e242_653 (l : List Value) (ls : List Value) (a b : Int32) (st : List Value) (w : zH) : zrun (some l) (242, 653, ls, (.int b :: .int a :: st), w) = zrun (some l) (242, 654, ls, (.int (a + b) :: st), w) := (zEs (i := .iadd) (by decide +kernel) _ _ _).trans rfl
theorem e242_654 (l : List Value) (ls : List Value) (j : Int32) (st : List Value) (w : zH) : zrun (some l) (242, 654, ls, (.int j :: .ref 1000006 :: st), w) = zoi (zsx l j) (fun x => zrun (some l) (242, 655, ls, (.int x :: st), w)) := (zEs (i := .iaload) (by decide +kernel) _ _ _).trans zqs_iald
theorem e242_655 (l : List Value) (v1 v2 v3 : Value) (x : Nat) (st : List Value) (w : zH) : zrun (some l) (242, 655, [.ref x, v1, v2, v3], st, w) = zrun (some l) (242, 656, [.ref x, v1, v2, v3], (.ref x :: st), w) := (zEs (i := .aload_n 0) (by decide +kernel) _ _ _).trans rfl
theorem e242_655n (l : List Value) (v1 v2 v3 : Value) (st : List Value) (w : zH) : zrun (some l) (242, 655, [.null, v1, v2, v3], st, w) = zrun (some l) (242, 656, [.null, v1, v2, v3], (.null :: st), w) := (zEs (i := .aload_n 0) (by decide +kernel) _ _ _).trans rfl
theorem e242_656 (l : List Value) (v0 v1 v2 : Value) (x : Int32) (st : List Value) (w : zH) : zrun (some l) (242, 656, [v0, v1, v2, .int x], st, w) = zrun (some l) (242, 657, [v0, v1, v2, .int x], (.int x :: st), w) := (zEs (i := .iload_n 3) (by decide +kernel) _ _ _).trans rfl
theorem e242_657 (l : List Value) (ls st : List Value) (w : zH) : zrun (some l) (242, 657, ls, st, w) = zrun (some l) (242, 658, ls, (.int 3 :: st), w) := (zEs (i := .iconst 3) (by decide +kernel) _ _ _).trans rfl
theorem e242_658 (l : List Value) (ls : List Value) (a b : Int32) (st : List Value) (w : zH) : zrun (some l) (242, 658, ls, (.int b :: .int a :: st), w) = zrun (some l) (242, 659, ls, (.int (a + b) :: st), w) := (zEs (i := .iadd) (by decide +kernel) _ _ _).trans rfl
theorem e242_659 (l : List Value) (ls : List Value) (j : Int32) (st : List Value) (w : zH) : zrun (some l) (242, 659, ls, (.int j :: .ref 1000006 :: st), w) = zoi (zsx l j) (fun x => zrun (some l) (242, 660, ls, (.int x :: st), w)) := (zEs (i := .iaload) (by decide +kernel) _ _ _).trans zqs_iald
theorem e242_660 (l : List Value) (v1 v2 v3 : Value) (x : Nat) (st : List Value) (w : zH) : zrun (some l) (242, 660, [.ref x, v1, v2, v3], st, w) = zrun (some l) (242, 661, [.ref x, v1, v2, v3], (.ref x :: st), w) := (zEs (i := .aload_n 0) (by decide +kernel) _ _ _).trans rfl
theorem e242_660n (l : List Value) (v1 v2 v3 : Value) (st : List Value) (w : zH) : zrun (some l) (242, 660, [.null, v1, v2, v3], st, w) = zrun (some l) (242, 661, [.null, v1, v2, v3], (.null :: st), w) := (zEs (i := .aload_n 0) (by decide +kernel) _ _ _).trans rfl
theorem e242_661 (l : List Value) (v0 v1 v2 : Value) (x : Int32) (st : List Value) (w : zH) : zrun (some l) (242, 661, [v0, v1, v2, .int x], st, w) = zrun (some l) (242, 662, [v0, v1, v2, .int x], (.int x :: st), w) := (zEs (i := .iload_n 3) (by decide +kernel) _ _ _).trans rfl
theorem e242_662 (l : List Value) (ls st : List Value) (w : zH) : zrun (some l) (242, 662, ls, st, w) = zrun (some l) (242, 663, ls, (.int 4 :: st), w) := (zEs (i := .iconst 4) (by decide +kernel) _ _ _).trans rfl
theorem e242_663 (l : List Value) (ls : List Value) (a b : Int32) (st : List Value) (w : zH) : zrun (some l) (242, 663, ls, (.int b :: .int a :: st), w) = zrun (some l) (242, 664, ls, (.int (a + b) :: st), w) := (zEs (i := .iadd) (by decide +kernel) _ _ _).trans rfl
theorem e242_664 (l : List Value) (ls : List Value) (j : Int32) (st : List Value) (w : zH) : zrun (some l) (242, 664, ls, (.int j :: .ref 1000006 :: st), w) = zoi (zsx l j) (fun x => zrun (some l) (242, 665, ls, (.int x :: st), w)) := (zEs (i := .iaload) (by decide +kernel) _ _ _).trans zqs_iald
theorem e242_665 (l : List Value) (ls : List Value) (a : Nat) (x0 : Int32) (x1 : Int32) (x2 : Int32) (x3 : Int32) (st : List Value) (w : zH) (hr : zcat st ≤ 8) (hc : zis w a 11) : zrun (some l) (242, 665, ls, (.int x3 :: .int x2 :: .int x1 :: .int x0 :: .ref a :: st), w) = zcl (zrun (some l) (77, 0, [.ref a, .int x0, .int x1, .int x2, .int x3, zJ], [], w)) (fun r => zrun (some l) (242, 668, ls, r.1.toList ++ st, r.2)) := by
  refine (zEs (i := .invokevirtual 77) (by decide +kernel) _ _ _).trans ?_
  show zresx (some l) (zinv (some l) 77 242 665 ls (.int x3 :: .int x2 :: .int x1 :: .int x0 :: .ref a :: st) w) = _
  unfold zinv
  show zresx (some l) (if zrc (some l) 77 w (.ref a) = true then zcall 77 [.ref a, .int x0, .int x1, .int x2, .int x3] st 242 665 ls w else none) = _
  rw [if_pos (zrc_more (zrc_is hc (by decide +kernel)))]
  exact zqs_call hr (Nat.le_of_ble_eq_true rfl) rfl rfl
theorem e242_668 (l : List Value) (v0 v1 v3 : Value) (x : Nat) (st : List Value) (w : zH) : zrun (some l) (242, 668, [v0, v1, .ref x, v3], st, w) = zrun (some l) (242, 669, [v0, v1, .ref x, v3], (.ref x :: st), w) := (zEs (i := .aload_n 2) (by decide +kernel) _ _ _).trans rfl
theorem e242_668n (l : List Value) (v0 v1 v3 : Value) (st : List Value) (w : zH) : zrun (some l) (242, 668, [v0, v1, .null, v3], st, w) = zrun (some l) (242, 669, [v0, v1, .null, v3], (.null :: st), w) := (zEs (i := .aload_n 2) (by decide +kernel) _ _ _).trans rfl
theorem e242_669 (l : List Value) (v1 v2 v3 : Value) (x : Nat) (st : List Value) (w : zH) : zrun (some l) (242, 669, [.ref x, v1, v2, v3], st, w) = zrun (some l) (242, 670, [.ref x, v1, v2, v3], (.ref x :: st), w) := (zEs (i := .aload_n 0) (by decide +kernel) _ _ _).trans rfl
theorem e242_669n (l : List Value) (v1 v2 v3 : Value) (st : List Value) (w : zH) : zrun (some l) (242, 669, [.null, v1, v2, v3], st, w) = zrun (some l) (242, 670, [.null, v1, v2, v3], (.null :: st), w) := (zEs (i := .aload_n 0) (by decide +kernel) _ _ _).trans rfl
theorem e242_670 (l : List Value) (v0 v1 v2 : Value) (x : Int32) (st : List Value) (w : zH) : zrun (some l) (242, 670, [v0, v1, v2, .int x], st, w) = zrun (some l) (242, 671, [v0, v1, v2, .int x], (.int x :: st), w) := (zEs (i := .iload_n 3) (by decide +kernel) _ _ _).trans rfl
theorem e242_671 (l : List Value) (ls st : List Value) (w : zH) : zrun (some l) (242, 671, ls, st, w) = zrun (some l) (242, 672, ls, (.int 1 :: st), w) := (zEs (i := .iconst 1) (by decide +kernel) _ _ _).trans rfl
theorem e242_672 (l : List Value) (ls : List Value) (a b : Int32) (st : List Value) (w : zH) : zrun (some l) (242, 672, ls, (.int b :: .int a :: st), w) = zrun (some l) (242, 673, ls, (.int (a + b) :: st), w) := (zEs (i := .iadd) (by decide +kernel) _ _ _).trans rfl
theorem e242_673 (l : List Value) (ls : List Value) (j : Int32) (st : List Value) (w : zH) : zrun (some l) (242, 673, ls, (.int j :: .ref 1000006 :: st), w) = zoi (zsx l j) (fun x => zrun (some l) (242, 674, ls, (.int x :: st), w)) := (zEs (i := .iaload) (by decide +kernel) _ _ _).trans zqs_iald
theorem e242_674 (l : List Value) (v1 v2 v3 : Value) (x : Nat) (st : List Value) (w : zH) : zrun (some l) (242, 674, [.ref x, v1, v2, v3], st, w) = zrun (some l) (242, 675, [.ref x, v1, v2, v3], (.ref x :: st), w) := (zEs (i := .aload_n 0) (by decide +kernel) _ _ _).trans rfl
theorem e242_674n (l : List Value) (v1 v2 v3 : Value) (st : List Value) (w : zH) : zrun (some l) (242, 674, [.null, v1, v2, v3], st, w) = zrun (some l) (242, 675, [.null, v1, v2, v3], (.null :: st), w) := (zEs (i := .aload_n 0) (by decide +kernel) _ _ _).trans rfl
theorem e242_675 (l : List Value) (v0 v1 v2 : Value) (x : Int32) (st : List Value) (w : zH) : zrun (some l) (242, 675, [v0, v1, v2, .int x], st, w) = zrun (some l) (242, 676, [v0, v1, v2, .int x], (.int x :: st), w) := (zEs (i := .iload_n 3) (by decide +kernel) _ _ _).trans rfl
theorem e242_676 (l : List Value) (ls st : List Value) (w : zH) : zrun (some l) (242, 676, ls, st, w) = zrun (some l) (242, 677, ls, (.int 2 :: st), w) := (zEs (i := .iconst 2) (by decide +kernel) _ _ _).trans rfl
theorem e242_677 (l : List Value) (ls : List Value) (a b : Int32) (st : List Value) (w : zH) : zrun (some l) (242, 677, ls, (.int b :: .int a :: st), w) = zrun (some l) (242, 678, ls, (.int (a + b) :: st), w) := (zEs (i := .iadd) (by decide +kernel) _ _ _).trans rfl
theorem e242_678 (l : List Value) (ls : List Value) (j : Int32) (st : List Value) (w : zH) : zrun (some l) (242, 678, ls, (.int j :: .ref 1000006 :: st), w) = zoi (zsx l j) (fun x => zrun (some l) (242, 679, ls, (.int x :: st), w)) := (zEs (i := .iaload) (by decide +kernel) _ _ _).trans zqs_iald
theorem e242_679 (l : List Value) (v1 v2 v3 : Value) (x : Nat) (st : List Value) (w : zH) : zrun (some l) (242, 679, [.ref x, v1, v2, v3], st, w) = zrun (some l) (242, 680, [.ref x, v1, v2, v3], (.ref x :: st), w) := (zEs (i := .aload_n 0) (by decide +kernel) _ _ _).trans rfl
theorem e242_679n (l : List Value) (v1 v2 v3 : Value) (st : List Value) (w : zH) : zrun (some l) (242, 679, [.null, v1, v2, v3], st, w) = zrun (some l) (242, 680, [.null, v1, v2, v3], (.null :: st), w) := (zEs (i := .aload_n 0) (by decide +kernel) _ _ _).trans rfl
theorem e242_680 (l : List Value) (v0 v1 v2 : Value) (x : Int32) (st : List Value) (w : zH) : zrun (some l) (242, 680, [v0, v1, v2, .int x], st, w) = zrun (some l) (242, 681, [v0, v1, v2, .int x], (.int x :: st), w) := (zEs (i := .iload_n 3) (by decide +kernel) _ _ _).trans rfl
theorem e242_681 (l : List Value) (ls st : List Value) (w : zH) : zrun (some l) (242, 681, ls, st, w) = zrun (some l) (242, 682, ls, (.int 3 :: st), w) := (zEs (i := .iconst 3) (by decide +kernel) _ _ _).trans rfl
theorem e242_682 (l : List Value) (ls : List Value) (a b : Int32) (st : List Value) (w : zH) : zrun (some l) (242, 682, ls, (.int b :: .int a :: st), w) = zrun (some l) (242, 683, ls, (.int (a + b) :: st), w) := (zEs (i := .iadd) (by decide +kernel) _ _ _).trans rfl
theorem e242_683 (l : List Value) (ls : List Value) (j : Int32) (st : List Value) (w : zH) : zrun (some l) (242, 683, ls, (.int j :: .ref 1000006 :: st), w) = zoi (zsx l j) (fun x => zrun (some l) (242, 684, ls, (.int x :: st), w)) := (zEs (i := .iaload) (by decide +kernel) _ _ _).trans zqs_iald
theorem e242_684 (l : List Value) (v1 v2 v3 : Value) (x : Nat) (st : List Value) (w : zH) : zrun (some l) (242, 684, [.ref x, v1, v2, v3], st, w) = zrun (some l) (242, 685, [.ref x, v1, v2, v3], (.ref x :: st), w) := (zEs (i := .aload_n 0) (by decide +kernel) _ _ _).trans rfl
theorem e242_684n (l : List Value) (v1 v2 v3 : Value) (st : List Value) (w : zH) : zrun (some l) (242, 684, [.null, v1, v2, v3], st, w) = zrun (some l) (242, 685, [.null, v1, v2, v3], (.null :: st), w) := (zEs (i := .aload_n 0) (by decide +kernel) _ _ _).trans rfl
theorem e242_685 (l : List Value) (v0 v1 v2 : Value) (x : Int32) (st : List Value) (w : zH) : zrun (some l) (242, 685, [v0, v1, v2, .int x], st, w) = zrun (some l) (242, 686, [v0, v1, v2, .int x], (.int x :: st), w) := (zEs (i := .iload_n 3) (by decide +kernel) _ _ _).trans rfl
theorem e242_686 (l : List Value) (ls st : List Value) (w : zH) : zrun (some l) (242, 686, ls, st, w) = zrun (some l) (242, 687, ls, (.int 4 :: st), w) := (zEs (i := .iconst 4) (by decide +kernel) _ _ _).trans rfl
theorem e242_687 (l : List Value) (ls : List Value) (a b : Int32) (st : List Value) (w : zH) : zrun (some l) (242, 687, ls, (.int b :: .int a :: st), w) = zrun (some l) (242, 688, ls, (.int (a + b) :: st), w) := (zEs (i := .iadd) (by decide +kernel) _ _ _).trans rfl
theorem e242_688 (l : List Value) (ls : List Value) (j : Int32) (st : List Value) (w : zH) : zrun (some l) (242, 688, ls, (.int j :: .ref 1000006 :: st), w) = zoi (zsx l j) (fun x => zrun (some l) (242, 689, ls, (.int x :: st), w)) := (zEs (i := .iaload) (by decide +kernel) _ _ _).trans zqs_iald
theorem e242_689 (l : List Value) (ls : List Value) (a : Nat) (x0 : Int32) (x1 : Int32) (x2 : Int32) (x3 : Int32) (st : List Value) (w : zH) (hr : zcat st ≤ 8) (hc : zis w a 12) : zrun (some l) (242, 689, ls, (.int x3 :: .int x2 :: .int x1 :: .int x0 :: .ref a :: st), w) = zcl (zrun (some l) (184, 0, [.ref a, .int x0, .int x1, .int x2, .int x3], [], w)) (fun r => zrun (some l) (242, 692, ls, r.1.toList ++ st, r.2)) := by
  refine (zEs (i := .invokevirtual 184) (by decide +kernel) _ _ _).trans ?_
  show zresx (some l) (zinv (some l) 184 242 689 ls (.int x3 :: .int x2 :: .int x1 :: .int x0 :: .ref a :: st) w) = _
  unfold zinv
  show zresx (some l) (if zrc (some l) 184 w (.ref a) = true then zcall 184 [.ref a, .int x0, .int x1, .int x2, .int x3] st 242 689 ls w else none) = _
  rw [if_pos (zrc_more (zrc_is hc (by decide +kernel)))]
  exact zqs_call hr (Nat.le_of_ble_eq_true rfl) rfl rfl
theorem e242_692 (l : List Value) (ls : List Value) (a b : Int32) (st : List Value) (w : zH) : zrun (some l) (242, 692, ls, (.int b :: .int a :: st), w) = if a = b then zrun (some l) (242, 1557, ls, st, w) else zrun (some l) (242, 695, ls, st, w) := (zEs (i := .if_icmp .eq 865) (by decide +kernel) _ _ _).trans (zqs_ic_eq rfl rfl)
theorem e242_695 (l : List Value) (ls st : List Value) (w : zH) : zrun (some l) (242, 695, ls, st, w) = zrun (some l) (242, 696, ls, (.int 0 :: st), w) := (zEs (i := .iconst 0) (by decide +kernel) _ _ _).trans rfl
theorem e242_696 (l : List Value) (ls : List Value) (x : Int32) (w : zH) (h : narrow .boolean (.int x) = .int x) : zrun (some l) (242, 696, ls, [.int x], w) = some (some (.int x), w) := by
  refine (zEs (i := .ireturn) (by decide +kernel) _ _ _).trans ?_
  show zresx (some l) (if narrow .boolean (.int x) = .int x then _ else none) = _
  rw [if_pos h]
  rfl
theorem e242_697 (l : List Value) (v0 v2 v3 : Value) (x : Nat) (st : List Value) (w : zH) : zrun (some l) (242, 697, [v0, .ref x, v2, v3], st, w) = zrun (some l) (242, 698, [v0, .ref x, v2, v3], (.ref x :: st), w) := (zEs (i := .aload_n 1) (by decide +kernel) _ _ _).trans rfl
theorem e242_697n (l : List Value) (v0 v2 v3 : Value) (st : List Value) (w : zH) : zrun (some l) (242, 697, [v0, .null, v2, v3], st, w) = zrun (some l) (242, 698, [v0, .null, v2, v3], (.null :: st), w) := (zEs (i := .aload_n 1) (by decide +kernel) _ _ _).trans rfl
theorem e242_698 (l : List Value) (v1 v2 v3 : Value) (x : Nat) (st : List Value) (w : zH) : zrun (some l) (242, 698, [.ref x, v1, v2, v3], st, w) = zrun (some l) (242, 699, [.ref x, v1, v2, v3], (.ref x :: st), w) := (zEs (i := .aload_n 0) (by decide +kernel) _ _ _).trans rfl
theorem e242_698n (l : List Value) (v1 v2 v3 : Value) (st : List Value) (w : zH) : zrun (some l) (242, 698, [.null, v1, v2, v3], st, w) = zrun (some l) (242, 699, [.null, v1, v2, v3], (.null :: st), w) := (zEs (i := .aload_n 0) (by decide +kernel) _ _ _).trans rfl
theorem e242_699 (l : List Value) (v0 v1 v2 : Value) (x : Int32) (st : List Value) (w : zH) : zrun (some l) (242, 699, [v0, v1, v2, .int x], st, w) = zrun (some l) (242, 700, [v0, v1, v2, .int x], (.int x :: st), w) := (zEs (i := .iload_n 3) (by decide +kernel) _ _ _).trans rfl
theorem e242_700 (l : List Value) (ls st : List Value) (w : zH) : zrun (some l) (242, 700, ls, st, w) = zrun (some l) (242, 701, ls, (.int 1 :: st), w) := (zEs (i := .iconst 1) (by decide +kernel) _ _ _).trans rfl
theorem e242_701 (l : List Value) (ls : List Value) (a b : Int32) (st : List Value) (w : zH) : zrun (some l) (242, 701, ls, (.int b :: .int a :: st), w) = zrun (some l) (242, 702, ls, (.int (a + b) :: st), w) := (zEs (i := .iadd) (by decide +kernel) _ _ _).trans rfl
theorem e242_702 (l : List Value) (ls : List Value) (j : Int32) (st : List Value) (w : zH) : zrun (some l) (242, 702, ls, (.int j :: .ref 1000006 :: st), w) = zoi (zsx l j) (fun x => zrun (some l) (242, 703, ls, (.int x :: st), w)) := (zEs (i := .iaload) (by decide +kernel) _ _ _).trans zqs_iald
theorem e242_703 (l : List Value) (v1 v2 v3 : Value) (x : Nat) (st : List Value) (w : zH) : zrun (some l) (242, 703, [.ref x, v1, v2, v3], st, w) = zrun (some l) (242, 704, [.ref x, v1, v2, v3], (.ref x :: st), w) := (zEs (i := .aload_n 0) (by decide +kernel) _ _ _).trans rfl
theorem e242_703n (l : List Value) (v1 v2 v3 : Value) (st : List Value) (w : zH) : zrun (some l) (242, 703, [.null, v1, v2, v3], st, w) = zrun (some l) (242, 704, [.null, v1, v2, v3], (.null :: st), w) := (zEs (i := .aload_n 0) (by decide +kernel) _ _ _).trans rfl
theorem e242_704 (l : List Value) (v0 v1 v2 : Value) (x : Int32) (st : List Value) (w : zH) : zrun (some l) (242, 704, [v0, v1, v2, .int x], st, w) = zrun (some l) (242, 705, [v0, v1, v2, .int x], (.int x :: st), w) := (zEs (i := .iload_n 3) (by decide +kernel) _ _ _).trans rfl
theorem e242_705 (l : List Value) (ls st : List Value) (w : zH) : zrun (some l) (242, 705, ls, st, w) = zrun (some l) (242, 706, ls, (.int 2 :: st), w) := (zEs (i := .iconst 2) (by decide +kernel) _ _ _).trans rfl
theorem e242_706 (l : List Value) (ls : List Value) (a b : Int32) (st : List Value) (w : zH) : zrun (some l) (242, 706, ls, (.int b :: .int a :: st), w) = zrun (some l) (242, 707, ls, (.int (a + b) :: st), w) := (zEs (i := .iadd) (by decide +kernel) _ _ _).trans rfl
theorem e242_707 (l : List Value) (ls : List Value) (j : Int32) (st : List Value) (w : zH) : zrun (some l) (242, 707, ls, (.int j :: .ref 1000006 :: st), w) = zoi (zsx l j) (fun x => zrun (some l) (242, 708, ls, (.int x :: st), w)) := (zEs (i := .iaload) (by decide +kernel) _ _ _).trans zqs_iald
theorem e242_708 (l : List Value) (v1 v2 v3 : Value) (x : Nat) (st : List Value) (w : zH) : zrun (some l) (242, 708, [.ref x, v1, v2, v3], st, w) = zrun (some l) (242, 709, [.ref x, v1, v2, v3], (.ref x :: st), w) := (zEs (i := .aload_n 0) (by decide +kernel) _ _ _).trans rfl
theorem e242_708n (l : List Value) (v1 v2 v3 : Value) (st : List Value) (w : zH) : zrun (some l) (242, 708, [.null, v1, v2, v3], st, w) = zrun (some l) (242, 709, [.null, v1, v2, v3], (.null :: st), w) := (zEs (i := .aload_n 0) (by decide +kernel) _ _ _).trans rfl
theorem e242_709 (l : List Value) (v0 v1 v2 : Value) (x : Int32) (st : List Value) (w : zH) : zrun (some l) (242, 709, [v0, v1, v2, .int x], st, w) = zrun (some l) (242, 710, [v0, v1, v2, .int x], (.int x :: st), w) := (zEs (i := .iload_n 3) (by decide +kernel) _ _ _).trans rfl
theorem e242_710 (l : List Value) (ls st : List Value) (w : zH) : zrun (some l) (242, 710, ls, st, w) = zrun (some l) (242, 711, ls, (.int 3 :: st), w) := (zEs (i := .iconst 3) (by decide +kernel) _ _ _).trans rfl
theorem e242_711 (l : List Value) (ls : List Value) (a b : Int32) (st : List Value) (w : zH) : zrun (some l) (242, 711, ls, (.int b :: .int a :: st), w) = zrun (some l) (242, 712, ls, (.int (a + b) :: st), w) := (zEs (i := .iadd) (by decide +kernel) _ _ _).trans rfl
theorem e242_712 (l : List Value) (ls : List Value) (j : Int32) (st : List Value) (w : zH) : zrun (some l) (242, 712, ls, (.int j :: .ref 1000006 :: st), w) = zoi (zsx l j) (fun x => zrun (some l) (242, 713, ls, (.int x :: st), w)) := (zEs (i := .iaload) (by decide +kernel) _ _ _).trans zqs_iald
theorem e242_713 (l : List Value) (v1 v2 v3 : Value) (x : Nat) (st : List Value) (w : zH) : zrun (some l) (242, 713, [.ref x, v1, v2, v3], st, w) = zrun (some l) (242, 714, [.ref x, v1, v2, v3], (.ref x :: st), w) := (zEs (i := .aload_n 0) (by decide +kernel) _ _ _).trans rfl
theorem e242_713n (l : List Value) (v1 v2 v3 : Value) (st : List Value) (w : zH) : zrun (some l) (242, 713, [.null, v1, v2, v3], st, w) = zrun (some l) (242, 714, [.null, v1, v2, v3], (.null :: st), w) := (zEs (i := .aload_n 0) (by decide +kernel) _ _ _).trans rfl
theorem e242_714 (l : List Value) (v0 v1 v2 : Value) (x : Int32) (st : List Value) (w : zH) : zrun (some l) (242, 714, [v0, v1, v2, .int x], st, w) = zrun (some l) (242, 715, [v0, v1, v2, .int x], (.int x :: st), w) := (zEs (i := .iload_n 3) (by decide +kernel) _ _ _).trans rfl
theorem e242_715 (l : List Value) (ls st : List Value) (w : zH) : zrun (some l) (242, 715, ls, st, w) = zrun (some l) (242, 716, ls, (.int 4 :: st), w) := (zEs (i := .iconst 4) (by decide +kernel) _ _ _).trans rfl
theorem e242_716 (l : List Value) (ls : List Value) (a b : Int32) (st : List Value) (w : zH) : zrun (some l) (242, 716, ls, (.int b :: .int a :: st), w) = zrun (some l) (242, 717, ls, (.int (a + b) :: st), w) := (zEs (i := .iadd) (by decide +kernel) _ _ _).trans rfl
theorem e242_717 (l : List Value) (ls : List Value) (j : Int32) (st : List Value) (w : zH) : zrun (some l) (242, 717, ls, (.int j :: .ref 1000006 :: st), w) = zoi (zsx l j) (fun x => zrun (some l) (242, 718, ls, (.int x :: st), w)) := (zEs (i := .iaload) (by decide +kernel) _ _ _).trans zqs_iald
theorem e242_718 (l : List Value) (v1 v2 v3 : Value) (x : Nat) (st : List Value) (w : zH) : zrun (some l) (242, 718, [.ref x, v1, v2, v3], st, w) = zrun (some l) (242, 719, [.ref x, v1, v2, v3], (.ref x :: st), w) := (zEs (i := .aload_n 0) (by decide +kernel) _ _ _).trans rfl
theorem e242_718n (l : List Value) (v1 v2 v3 : Value) (st : List Value) (w : zH) : zrun (some l) (242, 718, [.null, v1, v2, v3], st, w) = zrun (some l) (242, 719, [.null, v1, v2, v3], (.null :: st), w) := (zEs (i := .aload_n 0) (by decide +kernel) _ _ _).trans rfl
theorem e242_719 (l : List Value) (v0 v1 v2 : Value) (x : Int32) (st : List Value) (w : zH) : zrun (some l) (242, 719, [v0, v1, v2, .int x], st, w) = zrun (some l) (242, 720, [v0, v1, v2, .int x], (.int x :: st), w) := (zEs (i := .iload_n 3) (by decide +kernel) _ _ _).trans rfl
theorem e242_720 (l : List Value) (ls st : List Value) (w : zH) : zrun (some l) (242, 720, ls, st, w) = zrun (some l) (242, 721, ls, (.int 5 :: st), w) := (zEs (i := .iconst 5) (by decide +kernel) _ _ _).trans rfl
theorem e242_721 (l : List Value) (ls : List Value) (a b : Int32) (st : List Value) (w : zH) : zrun (some l) (242, 721, ls, (.int b :: .int a :: st), w) = zrun (some l) (242, 722, ls, (.int (a + b) :: st), w) := (zEs (i := .iadd) (by decide +kernel) _ _ _).trans rfl
theorem e242_722 (l : List Value) (ls : List Value) (j : Int32) (st : List Value) (w : zH) : zrun (some l) (242, 722, ls, (.int j :: .ref 1000006 :: st), w) = zoi (zsx l j) (fun x => zrun (some l) (242, 723, ls, (.int x :: st), w)) := (zEs (i := .iaload) (by decide +kernel) _ _ _).trans zqs_iald
theorem e242_723 (l : List Value) (ls : List Value) (a : Nat) (x0 : Int32) (x1 : Int32) (x2 : Int32) (x3 : Int32) (x4 : Int32) (st : List Value) (w : zH) (hr : zcat st ≤ 8) (hc : zis w a 11) : zrun (some l) (242, 723, ls, (.int x4 :: .int x3 :: .int x2 :: .int x1 :: .int x0 :: .ref a :: st), w) = zcl (zrun (some l) (78, 0, [.ref a, .int x0, .int x1, .int x2, .int x3, .int x4], [], w)) (fun r => zrun (some l) (242, 726, ls, r.1.toList ++ st, r.2)) := by
  refine (zEs (i := .invokevirtual 78) (by decide +kernel) _ _ _).trans ?_
  show zresx (some l) (zinv (some l) 78 242 723 ls (.int x4 :: .int x3 :: .int x2 :: .int x1 :: .int x0 :: .ref a :: st) w) = _
  unfold zinv
  show zresx (some l) (if zrc (some l) 78 w (.ref a) = true then zcall 78 [.ref a, .int x0, .int x1, .int x2, .int x3, .int x4] st 242 723 ls w else none) = _
  rw [if_pos (zrc_more (zrc_is hc (by decide +kernel)))]
  exact zqs_call hr (Nat.le_of_ble_eq_true rfl) rfl rfl
theorem e242_726 (l : List Value) (v0 v1 v3 : Value) (x : Nat) (st : List Value) (w : zH) : zrun (some l) (242, 726, [v0, v1, .ref x, v3], st, w) = zrun (some l) (242, 727, [v0, v1, .ref x, v3], (.ref x :: st), w) := (zEs (i := .aload_n 2) (by decide +kernel) _ _ _).trans rfl
theorem e242_726n (l : List Value) (v0 v1 v3 : Value) (st : List Value) (w : zH) : zrun (some l) (242, 726, [v0, v1, .null, v3], st, w) = zrun (some l) (242, 727, [v0, v1, .null, v3], (.null :: st), w) := (zEs (i := .aload_n 2) (by decide +kernel) _ _ _).trans rfl
theorem e242_727 (l : List Value) (v1 v2 v3 : Value) (x : Nat) (st : List Value) (w : zH) : zrun (some l) (242, 727, [.ref x, v1, v2, v3], st, w) = zrun (some l) (242, 728, [.ref x, v1, v2, v3], (.ref x :: st), w) := (zEs (i := .aload_n 0) (by decide +kernel) _ _ _).trans rfl
theorem e242_727n (l : List Value) (v1 v2 v3 : Value) (st : List Value) (w : zH) : zrun (some l) (242, 727, [.null, v1, v2, v3], st, w) = zrun (some l) (242, 728, [.null, v1, v2, v3], (.null :: st), w) := (zEs (i := .aload_n 0) (by decide +kernel) _ _ _).trans rfl
theorem e242_728 (l : List Value) (v0 v1 v2 : Value) (x : Int32) (st : List Value) (w : zH) : zrun (some l) (242, 728, [v0, v1, v2, .int x], st, w) = zrun (some l) (242, 729, [v0, v1, v2, .int x], (.int x :: st), w) := (zEs (i := .iload_n 3) (by decide +kernel) _ _ _).trans rfl
theorem e242_729 (l : List Value) (ls st : List Value) (w : zH) : zrun (some l) (242, 729, ls, st, w) = zrun (some l) (242, 730, ls, (.int 1 :: st), w) := (zEs (i := .iconst 1) (by decide +kernel) _ _ _).trans rfl
theorem e242_730 (l : List Value) (ls : List Value) (a b : Int32) (st : List Value) (w : zH) : zrun (some l) (242, 730, ls, (.int b :: .int a :: st), w) = zrun (some l) (242, 731, ls, (.int (a + b) :: st), w) := (zEs (i := .iadd) (by decide +kernel) _ _ _).trans rfl
theorem e242_731 (l : List Value) (ls : List Value) (j : Int32) (st : List Value) (w : zH) : zrun (some l) (242, 731, ls, (.int j :: .ref 1000006 :: st), w) = zoi (zsx l j) (fun x => zrun (some l) (242, 732, ls, (.int x :: st), w)) := (zEs (i := .iaload) (by decide +kernel) _ _ _).trans zqs_iald
theorem e242_732 (l : List Value) (v1 v2 v3 : Value) (x : Nat) (st : List Value) (w : zH) : zrun (some l) (242, 732, [.ref x, v1, v2, v3], st, w) = zrun (some l) (242, 733, [.ref x, v1, v2, v3], (.ref x :: st), w) := (zEs (i := .aload_n 0) (by decide +kernel) _ _ _).trans rfl
theorem e242_732n (l : List Value) (v1 v2 v3 : Value) (st : List Value) (w : zH) : zrun (some l) (242, 732, [.null, v1, v2, v3], st, w) = zrun (some l) (242, 733, [.null, v1, v2, v3], (.null :: st), w) := (zEs (i := .aload_n 0) (by decide +kernel) _ _ _).trans rfl
theorem e242_733 (l : List Value) (v0 v1 v2 : Value) (x : Int32) (st : List Value) (w : zH) : zrun (some l) (242, 733, [v0, v1, v2, .int x], st, w) = zrun (some l) (242, 734, [v0, v1, v2, .int x], (.int x :: st), w) := (zEs (i := .iload_n 3) (by decide +kernel) _ _ _).trans rfl
theorem e242_734 (l : List Value) (ls st : List Value) (w : zH) : zrun (some l) (242, 734, ls, st, w) = zrun (some l) (242, 735, ls, (.int 2 :: st), w) := (zEs (i := .iconst 2) (by decide +kernel) _ _ _).trans rfl
theorem e242_735 (l : List Value) (ls : List Value) (a b : Int32) (st : List Value) (w : zH) : zrun (some l) (242, 735, ls, (.int b :: .int a :: st), w) = zrun (some l) (242, 736, ls, (.int (a + b) :: st), w) := (zEs (i := .iadd) (by decide +kernel) _ _ _).trans rfl
theorem e242_736 (l : List Value) (ls : List Value) (j : Int32) (st : List Value) (w : zH) : zrun (some l) (242, 736, ls, (.int j :: .ref 1000006 :: st), w) = zoi (zsx l j) (fun x => zrun (some l) (242, 737, ls, (.int x :: st), w)) := (zEs (i := .iaload) (by decide +kernel) _ _ _).trans zqs_iald
theorem e242_737 (l : List Value) (v1 v2 v3 : Value) (x : Nat) (st : List Value) (w : zH) : zrun (some l) (242, 737, [.ref x, v1, v2, v3], st, w) = zrun (some l) (242, 738, [.ref x, v1, v2, v3], (.ref x :: st), w) := (zEs (i := .aload_n 0) (by decide +kernel) _ _ _).trans rfl
theorem e242_737n (l : List Value) (v1 v2 v3 : Value) (st : List Value) (w : zH) : zrun (some l) (242, 737, [.null, v1, v2, v3], st, w) = zrun (some l) (242, 738, [.null, v1, v2, v3], (.null :: st), w) := (zEs (i := .aload_n 0) (by decide +kernel) _ _ _).trans rfl
theorem e242_738 (l : List Value) (v0 v1 v2 : Value) (x : Int32) (st : List Value) (w : zH) : zrun (some l) (242, 738, [v0, v1, v2, .int x], st, w) = zrun (some l) (242, 739, [v0, v1, v2, .int x], (.int x :: st), w) := (zEs (i := .iload_n 3) (by decide +kernel) _ _ _).trans rfl
theorem e242_739 (l : List Value) (ls st : List Value) (w : zH) : zrun (some l) (242, 739, ls, st, w) = zrun (some l) (242, 740, ls, (.int 3 :: st), w) := (zEs (i := .iconst 3) (by decide +kernel) _ _ _).trans rfl
theorem e242_740 (l : List Value) (ls : List Value) (a b : Int32) (st : List Value) (w : zH) : zrun (some l) (242, 740, ls, (.int b :: .int a :: st), w) = zrun (some l) (242, 741, ls, (.int (a + b) :: st), w) := (zEs (i := .iadd) (by decide +kernel) _ _ _).trans rfl
theorem e242_741 (l : List Value) (ls : List Value) (j : Int32) (st : List Value) (w : zH) : zrun (some l) (242, 741, ls, (.int j :: .ref 1000006 :: st), w) = zoi (zsx l j) (fun x => zrun (some l) (242, 742, ls, (.int x :: st), w)) := (zEs (i := .iaload) (by decide +kernel) _ _ _).trans zqs_iald
theorem e242_742 (l : List Value) (v1 v2 v3 : Value) (x : Nat) (st : List Value) (w : zH) : zrun (some l) (242, 742, [.ref x, v1, v2, v3], st, w) = zrun (some l) (242, 743, [.ref x, v1, v2, v3], (.ref x :: st), w) := (zEs (i := .aload_n 0) (by decide +kernel) _ _ _).trans rfl
theorem e242_742n (l : List Value) (v1 v2 v3 : Value) (st : List Value) (w : zH) : zrun (some l) (242, 742, [.null, v1, v2, v3], st, w) = zrun (some l) (242, 743, [.null, v1, v2, v3], (.null :: st), w) := (zEs (i := .aload_n 0) (by decide +kernel) _ _ _).trans rfl
theorem e242_743 (l : List Value) (v0 v1 v2 : Value) (x : Int32) (st : List Value) (w : zH) : zrun (some l) (242, 743, [v0, v1, v2, .int x], st, w) = zrun (some l) (242, 744, [v0, v1, v2, .int x], (.int x :: st), w) := (zEs (i := .iload_n 3) (by decide +kernel) _ _ _).trans rfl
theorem e242_744 (l : List Value) (ls st : List Value) (w : zH) : zrun (some l) (242, 744, ls, st, w) = zrun (some l) (242, 745, ls, (.int 4 :: st), w) := (zEs (i := .iconst 4) (by decide +kernel) _ _ _).trans rfl
theorem e242_745 (l : List Value) (ls : List Value) (a b : Int32) (st : List Value) (w : zH) : zrun (some l) (242, 745, ls, (.int b :: .int a :: st), w) = zrun (some l) (242, 746, ls, (.int (a + b) :: st), w) := (zEs (i := .iadd) (by decide +kernel) _ _ _).trans rfl
theorem e242_746 (l : List Value) (ls : List Value) (j : Int32) (st : List Value) (w : zH) : zrun (some l) (242, 746, ls, (.int j :: .ref 1000006 :: st), w) = zoi (zsx l j) (fun x => zrun (some l) (242, 747, ls, (.int x :: st), w)) := (zEs (i := .iaload) (by decide +kernel) _ _ _).trans zqs_iald
theorem e242_747 (l : List Value) (v1 v2 v3 : Value) (x : Nat) (st : List Value) (w : zH) : zrun (some l) (242, 747, [.ref x, v1, v2, v3], st, w) = zrun (some l) (242, 748, [.ref x, v1, v2, v3], (.ref x :: st), w) := (zEs (i := .aload_n 0) (by decide +kernel) _ _ _).trans rfl
theorem e242_747n (l : List Value) (v1 v2 v3 : Value) (st : List Value) (w : zH) : zrun (some l) (242, 747, [.null, v1, v2, v3], st, w) = zrun (some l) (242, 748, [.null, v1, v2, v3], (.null :: st), w) := (zEs (i := .aload_n 0) (by decide +kernel) _ _ _).trans rfl
theorem e242_748 (l : List Value) (v0 v1 v2 : Value) (x : Int32) (st : List Value) (w : zH) : zrun (some l) (242, 748, [v0, v1, v2, .int x], st, w) = zrun (some l) (242, 749, [v0, v1, v2, .int x], (.int x :: st), w) := (zEs (i := .iload_n 3) (by decide +kernel) _ _ _).trans rfl
theorem e242_749 (l : List Value) (ls st : List Value) (w : zH) : zrun (some l) (242, 749, ls, st, w) = zrun (some l) (242, 750, ls, (.int 5 :: st), w) := (zEs (i := .iconst 5) (by decide +kernel) _ _ _).trans rfl
theorem e242_750 (l : List Value) (ls : List Value) (a b : Int32) (st : List Value) (w : zH) : zrun (some l) (242, 750, ls, (.int b :: .int a :: st), w) = zrun (some l) (242, 751, ls, (.int (a + b) :: st), w) := (zEs (i := .iadd) (by decide +kernel) _ _ _).trans rfl
theorem e242_751 (l : List Value) (ls : List Value) (j : Int32) (st : List Value) (w : zH) : zrun (some l) (242, 751, ls, (.int j :: .ref 1000006 :: st), w) = zoi (zsx l j) (fun x => zrun (some l) (242, 752, ls, (.int x :: st), w)) := (zEs (i := .iaload) (by decide +kernel) _ _ _).trans zqs_iald
theorem e242_752 (l : List Value) (ls : List Value) (a : Nat) (x0 : Int32) (x1 : Int32) (x2 : Int32) (x3 : Int32) (x4 : Int32) (st : List Value) (w : zH) (hr : zcat st ≤ 8) (hc : zis w a 12) : zrun (some l) (242, 752, ls, (.int x4 :: .int x3 :: .int x2 :: .int x1 :: .int x0 :: .ref a :: st), w) = zcl (zrun (some l) (185, 0, [.ref a, .int x0, .int x1, .int x2, .int x3, .int x4, zJ], [], w)) (fun r => zrun (some l) (242, 755, ls, r.1.toList ++ st, r.2)) := by
  refine (zEs (i := .invokevirtual 185) (by decide +kernel) _ _ _).trans ?_
  show zresx (some l) (zinv (some l) 185 242 752 ls (.int x4 :: .int x3 :: .int x2 :: .int x1 :: .int x0 :: .ref a :: st) w) = _
  unfold zinv
  show zresx (some l) (if zrc (some l) 185 w (.ref a) = true then zcall 185 [.ref a, .int x0, .int x1, .int x2, .int x3, .int x4] st 242 752 ls w else none) = _
  rw [if_pos (zrc_more (zrc_is hc (by decide +kernel)))]
  exact zqs_call hr (Nat.le_of_ble_eq_true rfl) rfl rfl
theorem e242_755 (l : List Value) (ls : List Value) (a b : Int32) (st : List Value) (w : zH) : zrun (some l) (242, 755, ls, (.int b :: .int a :: st), w) = if a = b then zrun (some l) (242, 1557, ls, st, w) else zrun (some l) (242, 758, ls, st, w) := (zEs (i := .if_icmp .eq 802) (by decide +kernel) _ _ _).trans (zqs_ic_eq rfl rfl)
theorem e242_758 (l : List Value) (ls st : List Value) (w : zH) : zrun (some l) (242, 758, ls, st, w) = zrun (some l) (242, 759, ls, (.int 0 :: st), w) := (zEs (i := .iconst 0) (by decide +kernel) _ _ _).trans rfl
theorem e242_759 (l : List Value) (ls : List Value) (x : Int32) (w : zH) (h : narrow .boolean (.int x) = .int x) : zrun (some l) (242, 759, ls, [.int x], w) = some (some (.int x), w) := by
  refine (zEs (i := .ireturn) (by decide +kernel) _ _ _).trans ?_
  show zresx (some l) (if narrow .boolean (.int x) = .int x then _ else none) = _
  rw [if_pos h]
  rfl
theorem e242_760 (l : List Value) (v0 v2 v3 : Value) (x : Nat) (st : List Value) (w : zH) : zrun (some l) (242, 760, [v0, .ref x, v2, v3], st, w) = zrun (some l) (242, 761, [v0, .ref x, v2, v3], (.ref x :: st), w) := (zEs (i := .aload_n 1) (by decide +kernel) _ _ _).trans rfl
theorem e242_760n (l : List Value) (v0 v2 v3 : Value) (st : List Value) (w : zH) : zrun (some l) (242, 760, [v0, .null, v2, v3], st, w) = zrun (some l) (242, 761, [v0, .null, v2, v3], (.null :: st), w) := (zEs (i := .aload_n 1) (by decide +kernel) _ _ _).trans rfl
theorem e242_761 (l : List Value) (v1 v2 v3 : Value) (x : Nat) (st : List Value) (w : zH) : zrun (some l) (242, 761, [.ref x, v1, v2, v3], st, w) = zrun (some l) (242, 762, [.ref x, v1, v2, v3], (.ref x :: st), w) := (zEs (i := .aload_n 0) (by decide +kernel) _ _ _).trans rfl
theorem e242_761n (l : List Value) (v1 v2 v3 : Value) (st : List Value) (w : zH) : zrun (some l) (242, 761, [.null, v1, v2, v3], st, w) = zrun (some l) (242, 762, [.null, v1, v2, v3], (.null :: st), w) := (zEs (i := .aload_n 0) (by decide +kernel) _ _ _).trans rfl
theorem e242_762 (l : List Value) (v0 v1 v2 : Value) (x : Int32) (st : List Value) (w : zH) : zrun (some l) (242, 762, [v0, v1, v2, .int x], st, w) = zrun (some l) (242, 763, [v0, v1, v2, .int x], (.int x :: st), w) := (zEs (i := .iload_n 3) (by decide +kernel) _ _ _).trans rfl
theorem e242_763 (l : List Value) (ls st : List Value) (w : zH) : zrun (some l) (242, 763, ls, st, w) = zrun (some l) (242, 764, ls, (.int 1 :: st), w) := (zEs (i := .iconst 1) (by decide +kernel) _ _ _).trans rfl
theorem e242_764 (l : List Value) (ls : List Value) (a b : Int32) (st : List Value) (w : zH) : zrun (some l) (242, 764, ls, (.int b :: .int a :: st), w) = zrun (some l) (242, 765, ls, (.int (a + b) :: st), w) := (zEs (i := .iadd) (by decide +kernel) _ _ _).trans rfl
theorem e242_765 (l : List Value) (ls : List Value) (j : Int32) (st : List Value) (w : zH) : zrun (some l) (242, 765, ls, (.int j :: .ref 1000006 :: st), w) = zoi (zsx l j) (fun x => zrun (some l) (242, 766, ls, (.int x :: st), w)) := (zEs (i := .iaload) (by decide +kernel) _ _ _).trans zqs_iald
theorem e242_766 (l : List Value) (v1 v2 v3 : Value) (x : Nat) (st : List Value) (w : zH) : zrun (some l) (242, 766, [.ref x, v1, v2, v3], st, w) = zrun (some l) (242, 767, [.ref x, v1, v2, v3], (.ref x :: st), w) := (zEs (i := .aload_n 0) (by decide +kernel) _ _ _).trans rfl
theorem e242_766n (l : List Value) (v1 v2 v3 : Value) (st : List Value) (w : zH) : zrun (some l) (242, 766, [.null, v1, v2, v3], st, w) = zrun (some l) (242, 767, [.null, v1, v2, v3], (.null :: st), w) := (zEs (i := .aload_n 0) (by decide +kernel) _ _ _).trans rfl
theorem e242_767 (l : List Value) (v0 v1 v2 : Value) (x : Int32) (st : List Value) (w : zH) : zrun (some l) (242, 767, [v0, v1, v2, .int x], st, w) = zrun (some l) (242, 768, [v0, v1, v2, .int x], (.int x :: st), w) := (zEs (i := .iload_n 3) (by decide +kernel) _ _ _).trans rfl
theorem e242_768 (l : List Value) (ls st : List Value) (w : zH) : zrun (some l) (242, 768, ls, st, w) = zrun (some l) (242, 769, ls, (.int 2 :: st), w) := (zEs (i := .iconst 2) (by decide +kernel) _ _ _).trans rfl
theorem e242_769 (l : List Value) (ls : List Value) (a b : Int32) (st : List Value) (w : zH) : zrun (some l) (242, 769, ls, (.int b :: .int a :: st), w) = zrun (some l) (242, 770, ls, (.int (a + b) :: st), w) := (zEs (i := .iadd) (by decide +kernel) _ _ _).trans rfl
theorem e242_770 (l : List Value) (ls : List Value) (j : Int32) (st : List Value) (w : zH) : zrun (some l) (242, 770, ls, (.int j :: .ref 1000006 :: st), w) = zoi (zsx l j) (fun x => zrun (some l) (242, 771, ls, (.int x :: st), w)) := (zEs (i := .iaload) (by decide +kernel) _ _ _).trans zqs_iald
theorem e242_771 (l : List Value) (v1 v2 v3 : Value) (x : Nat) (st : List Value) (w : zH) : zrun (some l) (242, 771, [.ref x, v1, v2, v3], st, w) = zrun (some l) (242, 772, [.ref x, v1, v2, v3], (.ref x :: st), w) := (zEs (i := .aload_n 0) (by decide +kernel) _ _ _).trans rfl
theorem e242_771n (l : List Value) (v1 v2 v3 : Value) (st : List Value) (w : zH) : zrun (some l) (242, 771, [.null, v1, v2, v3], st, w) = zrun (some l) (242, 772, [.null, v1, v2, v3], (.null :: st), w) := (zEs (i := .aload_n 0) (by decide +kernel) _ _ _).trans rfl
theorem e242_772 (l : List Value) (v0 v1 v2 : Value) (x : Int32) (st : List Value) (w : zH) : zrun (some l) (242, 772, [v0, v1, v2, .int x], st, w) = zrun (some l) (242, 773, [v0, v1, v2, .int x], (.int x :: st), w) := (zEs (i := .iload_n 3) (by decide +kernel) _ _ _).trans rfl
theorem e242_773 (l : List Value) (ls st : List Value) (w : zH) : zrun (some l) (242, 773, ls, st, w) = zrun (some l) (242, 774, ls, (.int 3 :: st), w) := (zEs (i := .iconst 3) (by decide +kernel) _ _ _).trans rfl
theorem e242_774 (l : List Value) (ls : List Value) (a b : Int32) (st : List Value) (w : zH) : zrun (some l) (242, 774, ls, (.int b :: .int a :: st), w) = zrun (some l) (242, 775, ls, (.int (a + b) :: st), w) := (zEs (i := .iadd) (by decide +kernel) _ _ _).trans rfl
theorem e242_775 (l : List Value) (ls : List Value) (j : Int32) (st : List Value) (w : zH) : zrun (some l) (242, 775, ls, (.int j :: .ref 1000006 :: st), w) = zoi (zsx l j) (fun x => zrun (some l) (242, 776, ls, (.int x :: st), w)) := (zEs (i := .iaload) (by decide +kernel) _ _ _).trans zqs_iald
theorem e242_776 (l : List Value) (ls : List Value) (a : Nat) (x0 : Int32) (x1 : Int32) (x2 : Int32) (st : List Value) (w : zH) (hr : zcat st ≤ 8) (hc : zis w a 11) : zrun (some l) (242, 776, ls, (.int x2 :: .int x1 :: .int x0 :: .ref a :: st), w) = zcl (zrun (some l) (79, 0, [.ref a, .int x0, .int x1, .int x2, zJ], [], w)) (fun r => zrun (some l) (242, 779, ls, r.1.toList ++ st, r.2)) := by
  refine (zEs (i := .invokevirtual 79) (by decide +kernel) _ _ _).trans ?_
  show zresx (some l) (zinv (some l) 79 242 776 ls (.int x2 :: .int x1 :: .int x0 :: .ref a :: st) w) = _
  unfold zinv
  show zresx (some l) (if zrc (some l) 79 w (.ref a) = true then zcall 79 [.ref a, .int x0, .int x1, .int x2] st 242 776 ls w else none) = _
  rw [if_pos (zrc_more (zrc_is hc (by decide +kernel)))]
  exact zqs_call hr (Nat.le_of_ble_eq_true rfl) rfl rfl
theorem e242_779 (l : List Value) (v0 v1 v3 : Value) (x : Nat) (st : List Value) (w : zH) : zrun (some l) (242, 779, [v0, v1, .ref x, v3], st, w) = zrun (some l) (242, 780, [v0, v1, .ref x, v3], (.ref x :: st), w) := (zEs (i := .aload_n 2) (by decide +kernel) _ _ _).trans rfl
theorem e242_779n (l : List Value) (v0 v1 v3 : Value) (st : List Value) (w : zH) : zrun (some l) (242, 779, [v0, v1, .null, v3], st, w) = zrun (some l) (242, 780, [v0, v1, .null, v3], (.null :: st), w) := (zEs (i := .aload_n 2) (by decide +kernel) _ _ _).trans rfl
theorem e242_780 (l : List Value) (v1 v2 v3 : Value) (x : Nat) (st : List Value) (w : zH) : zrun (some l) (242, 780, [.ref x, v1, v2, v3], st, w) = zrun (some l) (242, 781, [.ref x, v1, v2, v3], (.ref x :: st), w) := (zEs (i := .aload_n 0) (by decide +kernel) _ _ _).trans rfl
theorem e242_780n (l : List Value) (v1 v2 v3 : Value) (st : List Value) (w : zH) : zrun (some l) (242, 780, [.null, v1, v2, v3], st, w) = zrun (some l) (242, 781, [.null, v1, v2, v3], (.null :: st), w) := (zEs (i := .aload_n 0) (by decide +kernel) _ _ _).trans rfl
theorem e242_781 (l : List Value) (v0 v1 v2 : Value) (x : Int32) (st : List Value) (w : zH) : zrun (some l) (242, 781, [v0, v1, v2, .int x], st, w) = zrun (some l) (242, 782, [v0, v1, v2, .int x], (.int x :: st), w) := (zEs (i := .iload_n 3) (by decide +kernel) _ _ _).trans rfl
theorem e242_782 (l : List Value) (ls st : List Value) (w : zH) : zrun (some l) (242, 782, ls, st, w) = zrun (some l) (242, 783, ls, (.int 1 :: st), w) := (zEs (i := .iconst 1) (by decide +kernel) _ _ _).trans rfl
theorem e242_783 (l : List Value) (ls : List Value) (a b : Int32) (st : List Value) (w : zH) : zrun (some l) (242, 783, ls, (.int b :: .int a :: st), w) = zrun (some l) (242, 784, ls, (.int (a + b) :: st), w) := (zEs (i := .iadd) (by decide +kernel) _ _ _).trans rfl
theorem e242_784 (l : List Value) (ls : List Value) (j : Int32) (st : List Value) (w : zH) : zrun (some l) (242, 784, ls, (.int j :: .ref 1000006 :: st), w) = zoi (zsx l j) (fun x => zrun (some l) (242, 785, ls, (.int x :: st), w)) := (zEs (i := .iaload) (by decide +kernel) _ _ _).trans zqs_iald
theorem e242_785 (l : List Value) (v1 v2 v3 : Value) (x : Nat) (st : List Value) (w : zH) : zrun (some l) (242, 785, [.ref x, v1, v2, v3], st, w) = zrun (some l) (242, 786, [.ref x, v1, v2, v3], (.ref x :: st), w) := (zEs (i := .aload_n 0) (by decide +kernel) _ _ _).trans rfl
theorem e242_785n (l : List Value) (v1 v2 v3 : Value) (st : List Value) (w : zH) : zrun (some l) (242, 785, [.null, v1, v2, v3], st, w) = zrun (some l) (242, 786, [.null, v1, v2, v3], (.null :: st), w) := (zEs (i := .aload_n 0) (by decide +kernel) _ _ _).trans rfl
theorem e242_786 (l : List Value) (v0 v1 v2 : Value) (x : Int32) (st : List Value) (w : zH) : zrun (some l) (242, 786, [v0, v1, v2, .int x], st, w) = zrun (some l) (242, 787, [v0, v1, v2, .int x], (.int x :: st), w) := (zEs (i := .iload_n 3) (by decide +kernel) _ _ _).trans rfl
theorem e242_787 (l : List Value) (ls st : List Value) (w : zH) : zrun (some l) (242, 787, ls, st, w) = zrun (some l) (242, 788, ls, (.int 2 :: st), w) := (zEs (i := .iconst 2) (by decide +kernel) _ _ _).trans rfl
theorem e242_788 (l : List Value) (ls : List Value) (a b : Int32) (st : List Value) (w : zH) : zrun (some l) (242, 788, ls, (.int b :: .int a :: st), w) = zrun (some l) (242, 789, ls, (.int (a + b) :: st), w) := (zEs (i := .iadd) (by decide +kernel) _ _ _).trans rfl
theorem e242_789 (l : List Value) (ls : List Value) (j : Int32) (st : List Value) (w : zH) : zrun (some l) (242, 789, ls, (.int j :: .ref 1000006 :: st), w) = zoi (zsx l j) (fun x => zrun (some l) (242, 790, ls, (.int x :: st), w)) := (zEs (i := .iaload) (by decide +kernel) _ _ _).trans zqs_iald
theorem e242_790 (l : List Value) (v1 v2 v3 : Value) (x : Nat) (st : List Value) (w : zH) : zrun (some l) (242, 790, [.ref x, v1, v2, v3], st, w) = zrun (some l) (242, 791, [.ref x, v1, v2, v3], (.ref x :: st), w) := (zEs (i := .aload_n 0) (by decide +kernel) _ _ _).trans rfl
theorem e242_790n (l : List Value) (v1 v2 v3 : Value) (st : List Value) (w : zH) : zrun (some l) (242, 790, [.null, v1, v2, v3], st, w) = zrun (some l) (242, 791, [.null, v1, v2, v3], (.null :: st), w) := (zEs (i := .aload_n 0) (by decide +kernel) _ _ _).trans rfl
theorem e242_791 (l : List Value) (v0 v1 v2 : Value) (x : Int32) (st : List Value) (w : zH) : zrun (some l) (242, 791, [v0, v1, v2, .int x], st, w) = zrun (some l) (242, 792, [v0, v1, v2, .int x], (.int x :: st), w) := (zEs (i := .iload_n 3) (by decide +kernel) _ _ _).trans rfl
theorem e242_792 (l : List Value) (ls st : List Value) (w : zH) : zrun (some l) (242, 792, ls, st, w) = zrun (some l) (242, 793, ls, (.int 3 :: st), w) := (zEs (i := .iconst 3) (by decide +kernel) _ _ _).trans rfl
theorem e242_793 (l : List Value) (ls : List Value) (a b : Int32) (st : List Value) (w : zH) : zrun (some l) (242, 793, ls, (.int b :: .int a :: st), w) = zrun (some l) (242, 794, ls, (.int (a + b) :: st), w) := (zEs (i := .iadd) (by decide +kernel) _ _ _).trans rfl
theorem e242_794 (l : List Value) (ls : List Value) (j : Int32) (st : List Value) (w : zH) : zrun (some l) (242, 794, ls, (.int j :: .ref 1000006 :: st), w) = zoi (zsx l j) (fun x => zrun (some l) (242, 795, ls, (.int x :: st), w)) := (zEs (i := .iaload) (by decide +kernel) _ _ _).trans zqs_iald
theorem e242_795 (l : List Value) (ls : List Value) (a : Nat) (x0 : Int32) (x1 : Int32) (x2 : Int32) (st : List Value) (w : zH) (hr : zcat st ≤ 8) (hc : zis w a 12) : zrun (some l) (242, 795, ls, (.int x2 :: .int x1 :: .int x0 :: .ref a :: st), w) = zcl (zrun (some l) (187, 0, [.ref a, .int x0, .int x1, .int x2], [], w)) (fun r => zrun (some l) (242, 798, ls, r.1.toList ++ st, r.2)) := by
  refine (zEs (i := .invokevirtual 187) (by decide +kernel) _ _ _).trans ?_
  show zresx (some l) (zinv (some l) 187 242 795 ls (.int x2 :: .int x1 :: .int x0 :: .ref a :: st) w) = _
  unfold zinv
  show zresx (some l) (if zrc (some l) 187 w (.ref a) = true then zcall 187 [.ref a, .int x0, .int x1, .int x2] st 242 795 ls w else none) = _
  rw [if_pos (zrc_more (zrc_is hc (by decide +kernel)))]
  exact zqs_call hr (Nat.le_of_ble_eq_true rfl) rfl rfl
theorem e242_798 (l : List Value) (ls : List Value) (a b : Int32) (st : List Value) (w : zH) : zrun (some l) (242, 798, ls, (.int b :: .int a :: st), w) = if a = b then zrun (some l) (242, 1557, ls, st, w) else zrun (some l) (242, 801, ls, st, w) := (zEs (i := .if_icmp .eq 759) (by decide +kernel) _ _ _).trans (zqs_ic_eq rfl rfl)
theorem e242_801 (l : List Value) (ls st : List Value) (w : zH) : zrun (some l) (242, 801, ls, st, w) = zrun (some l) (242, 802, ls, (.int 0 :: st), w) := (zEs (i := .iconst 0) (by decide +kernel) _ _ _).trans rfl
theorem e242_802 (l : List Value) (ls : List Value) (x : Int32) (w : zH) (h : narrow .boolean (.int x) = .int x) : zrun (some l) (242, 802, ls, [.int x], w) = some (some (.int x), w) := by
  refine (zEs (i := .ireturn) (by decide +kernel) _ _ _).trans ?_
  show zresx (some l) (if narrow .boolean (.int x) = .int x then _ else none) = _
  rw [if_pos h]
  rfl
theorem e242_803 (l : List Value) (v0 v2 v3 : Value) (x : Nat) (st : List Value) (w : zH) : zrun (some l) (242, 803, [v0, .ref x, v2, v3], st, w) = zrun (some l) (242, 804, [v0, .ref x, v2, v3], (.ref x :: st), w) := (zEs (i := .aload_n 1) (by decide +kernel) _ _ _).trans rfl
theorem e242_803n (l : List Value) (v0 v2 v3 : Value) (st : List Value) (w : zH) : zrun (some l) (242, 803, [v0, .null, v2, v3], st, w) = zrun (some l) (242, 804, [v0, .null, v2, v3], (.null :: st), w) := (zEs (i := .aload_n 1) (by decide +kernel) _ _ _).trans rfl
theorem e242_804 (l : List Value) (v1 v2 v3 : Value) (x : Nat) (st : List Value) (w : zH) : zrun (some l) (242, 804, [.ref x, v1, v2, v3], st, w) = zrun (some l) (242, 805, [.ref x, v1, v2, v3], (.ref x :: st), w) := (zEs (i := .aload_n 0) (by decide +kernel) _ _ _).trans rfl
theorem e242_804n (l : List Value) (v1 v2 v3 : Value) (st : List Value) (w : zH) : zrun (some l) (242, 804, [.null, v1, v2, v3], st, w) = zrun (some l) (242, 805, [.null, v1, v2, v3], (.null :: st), w) := (zEs (i := .aload_n 0) (by decide +kernel) _ _ _).trans rfl
theorem e242_805 (l : List Value) (v0 v1 v2 : Value) (x : Int32) (st : List Value) (w : zH) : zrun (some l) (242, 805, [v0, v1, v2, .int x], st, w) = zrun (some l) (242, 806, [v0, v1, v2, .int x], (.int x :: st), w) := (zEs (i := .iload_n 3) (by decide +kernel) _ _ _).trans rfl
theorem e242_806 (l : List Value) (ls st : List Value) (w : zH) : zrun (some l) (242, 806, ls, st, w) = zrun (some l) (242, 807, ls, (.int 1 :: st), w) := (zEs (i := .iconst 1) (by decide +kernel) _ _ _).trans rfl
theorem e242_807 (l : List Value) (ls : List Value) (a b : Int32) (st : List Value) (w : zH) : zrun (some l) (242, 807, ls, (.int b :: .int a :: st), w) = zrun (some l) (242, 808, ls, (.int (a + b) :: st), w) := (zEs (i := .iadd) (by decide +kernel) _ _ _).trans rfl
theorem e242_808 (l : List Value) (ls : List Value) (j : Int32) (st : List Value) (w : zH) : zrun (some l) (242, 808, ls, (.int j :: .ref 1000006 :: st), w) = zoi (zsx l j) (fun x => zrun (some l) (242, 809, ls, (.int x :: st), w)) := (zEs (i := .iaload) (by decide +kernel) _ _ _).trans zqs_iald
theorem e242_809 (l : List Value) (v1 v2 v3 : Value) (x : Nat) (st : List Value) (w : zH) : zrun (some l) (242, 809, [.ref x, v1, v2, v3], st, w) = zrun (some l) (242, 810, [.ref x, v1, v2, v3], (.ref x :: st), w) := (zEs (i := .aload_n 0) (by decide +kernel) _ _ _).trans rfl
theorem e242_809n (l : List Value) (v1 v2 v3 : Value) (st : List Value) (w : zH) : zrun (some l) (242, 809, [.null, v1, v2, v3], st, w) = zrun (some l) (242, 810, [.null, v1, v2, v3], (.null :: st), w) := (zEs (i := .aload_n 0) (by decide +kernel) _ _ _).trans rfl
theorem e242_810 (l : List Value) (v0 v1 v2 : Value) (x : Int32) (st : List Value) (w : zH) : zrun (some l) (242, 810, [v0, v1, v2, .int x], st, w) = zrun (some l) (242, 811, [v0, v1, v2, .int x], (.int x :: st), w) := (zEs (i := .iload_n 3) (by decide +kernel) _ _ _).trans rfl
theorem e242_811 (l : List Value) (ls st : List Value) (w : zH) : zrun (some l) (242, 811, ls, st, w) = zrun (some l) (242, 812, ls, (.int 2 :: st), w) := (zEs (i := .iconst 2) (by decide +kernel) _ _ _).trans rfl
theorem e242_812 (l : List Value) (ls : List Value) (a b : Int32) (st : List Value) (w : zH) : zrun (some l) (242, 812, ls, (.int b :: .int a :: st), w) = zrun (some l) (242, 813, ls, (.int (a + b) :: st), w) := (zEs (i := .iadd) (by decide +kernel) _ _ _).trans rfl
theorem e242_813 (l : List Value) (ls : List Value) (j : Int32) (st : List Value) (w : zH) : zrun (some l) (242, 813, ls, (.int j :: .ref 1000006 :: st), w) = zoi (zsx l j) (fun x => zrun (some l) (242, 814, ls, (.int x :: st), w)) := (zEs (i := .iaload) (by decide +kernel) _ _ _).trans zqs_iald
theorem e242_814 (l : List Value) (ls : List Value) (a : Nat) (x0 : Int32) (x1 : Int32) (st : List Value) (w : zH) (hr : zcat st ≤ 8) (hc : zis w a 11) : zrun (some l) (242, 814, ls, (.int x1 :: .int x0 :: .ref a :: st), w) = zcl (zrun (some l) (80, 0, [.ref a, .int x0, .int x1], [], w)) (fun r => zrun (some l) (242, 817, ls, r.1.toList ++ st, r.2)) := by
  refine (zEs (i := .invokevirtual 80) (by decide +kernel) _ _ _).trans ?_
  show zresx (some l) (zinv (some l) 80 242 814 ls (.int x1 :: .int x0 :: .ref a :: st) w) = _
  unfold zinv
  show zresx (some l) (if zrc (some l) 80 w (.ref a) = true then zcall 80 [.ref a, .int x0, .int x1] st 242 814 ls w else none) = _
  rw [if_pos (zrc_more (zrc_is hc (by decide +kernel)))]
  exact zqs_call hr (Nat.le_of_ble_eq_true rfl) rfl rfl
theorem e242_817 (l : List Value) (v0 v1 v3 : Value) (x : Nat) (st : List Value) (w : zH) : zrun (some l) (242, 817, [v0, v1, .ref x, v3], st, w) = zrun (some l) (242, 818, [v0, v1, .ref x, v3], (.ref x :: st), w) := (zEs (i := .aload_n 2) (by decide +kernel) _ _ _).trans rfl
theorem e242_817n (l : List Value) (v0 v1 v3 : Value) (st : List Value) (w : zH) : zrun (some l) (242, 817, [v0, v1, .null, v3], st, w) = zrun (some l) (242, 818, [v0, v1, .null, v3], (.null :: st), w) := (zEs (i := .aload_n 2) (by decide +kernel) _ _ _).trans rfl
theorem e242_818 (l : List Value) (v1 v2 v3 : Value) (x : Nat) (st : List Value) (w : zH) : zrun (some l) (242, 818, [.ref x, v1, v2, v3], st, w) = zrun (some l) (242, 819, [.ref x, v1, v2, v3], (.ref x :: st), w) := (zEs (i := .aload_n 0) (by decide +kernel) _ _ _).trans rfl
theorem e242_818n (l : List Value) (v1 v2 v3 : Value) (st : List Value) (w : zH) : zrun (some l) (242, 818, [.null, v1, v2, v3], st, w) = zrun (some l) (242, 819, [.null, v1, v2, v3], (.null :: st), w) := (zEs (i := .aload_n 0) (by decide +kernel) _ _ _).trans rfl
theorem e242_819 (l : List Value) (v0 v1 v2 : Value) (x : Int32) (st : List Value) (w : zH) : zrun (some l) (242, 819, [v0, v1, v2, .int x], st, w) = zrun (some l) (242, 820, [v0, v1, v2, .int x], (.int x :: st), w) := (zEs (i := .iload_n 3) (by decide +kernel) _ _ _).trans rfl
theorem e242_820 (l : List Value) (ls st : List Value) (w : zH) : zrun (some l) (242, 820, ls, st, w) = zrun (some l) (242, 821, ls, (.int 1 :: st), w) := (zEs (i := .iconst 1) (by decide +kernel) _ _ _).trans rfl
theorem e242_821 (l : List Value) (ls : List Value) (a b : Int32) (st : List Value) (w : zH) : zrun (some l) (242, 821, ls, (.int b :: .int a :: st), w) = zrun (some l) (242, 822, ls, (.int (a + b) :: st), w) := (zEs (i := .iadd) (by decide +kernel) _ _ _).trans rfl
theorem e242_822 (l : List Value) (ls : List Value) (j : Int32) (st : List Value) (w : zH) : zrun (some l) (242, 822, ls, (.int j :: .ref 1000006 :: st), w) = zoi (zsx l j) (fun x => zrun (some l) (242, 823, ls, (.int x :: st), w)) := (zEs (i := .iaload) (by decide +kernel) _ _ _).trans zqs_iald
theorem e242_823 (l : List Value) (v1 v2 v3 : Value) (x : Nat) (st : List Value) (w : zH) : zrun (some l) (242, 823, [.ref x, v1, v2, v3], st, w) = zrun (some l) (242, 824, [.ref x, v1, v2, v3], (.ref x :: st), w) := (zEs (i := .aload_n 0) (by decide +kernel) _ _ _).trans rfl
theorem e242_823n (l : List Value) (v1 v2 v3 : Value) (st : List Value) (w : zH) : zrun (some l) (242, 823, [.null, v1, v2, v3], st, w) = zrun (some l) (242, 824, [.null, v1, v2, v3], (.null :: st), w) := (zEs (i := .aload_n 0) (by decide +kernel) _ _ _).trans rfl
theorem e242_824 (l : List Value) (v0 v1 v2 : Value) (x : Int32) (st : List Value) (w : zH) : zrun (some l) (242, 824, [v0, v1, v2, .int x], st, w) = zrun (some l) (242, 825, [v0, v1, v2, .int x], (.int x :: st), w) := (zEs (i := .iload_n 3) (by decide +kernel) _ _ _).trans rfl
theorem e242_825 (l : List Value) (ls st : List Value) (w : zH) : zrun (some l) (242, 825, ls, st, w) = zrun (some l) (242, 826, ls, (.int 2 :: st), w) := (zEs (i := .iconst 2) (by decide +kernel) _ _ _).trans rfl
theorem e242_826 (l : List Value) (ls : List Value) (a b : Int32) (st : List Value) (w : zH) : zrun (some l) (242, 826, ls, (.int b :: .int a :: st), w) = zrun (some l) (242, 827, ls, (.int (a + b) :: st), w) := (zEs (i := .iadd) (by decide +kernel) _ _ _).trans rfl
theorem e242_827 (l : List Value) (ls : List Value) (j : Int32) (st : List Value) (w : zH) : zrun (some l) (242, 827, ls, (.int j :: .ref 1000006 :: st), w) = zoi (zsx l j) (fun x => zrun (some l) (242, 828, ls, (.int x :: st), w)) := (zEs (i := .iaload) (by decide +kernel) _ _ _).trans zqs_iald
theorem e242_828 (l : List Value) (ls : List Value) (a : Nat) (x0 : Int32) (x1 : Int32) (st : List Value) (w : zH) (hr : zcat st ≤ 8) (hc : zis w a 12) : zrun (some l) (242, 828, ls, (.int x1 :: .int x0 :: .ref a :: st), w) = zcl (zrun (some l) (188, 0, [.ref a, .int x0, .int x1], [], w)) (fun r => zrun (some l) (242, 831, ls, r.1.toList ++ st, r.2)) := by
  refine (zEs (i := .invokevirtual 188) (by decide +kernel) _ _ _).trans ?_
  show zresx (some l) (zinv (some l) 188 242 828 ls (.int x1 :: .int x0 :: .ref a :: st) w) = _
  unfold zinv
  show zresx (some l) (if zrc (some l) 188 w (.ref a) = true then zcall 188 [.ref a, .int x0, .int x1] st 242 828 ls w else none) = _
  rw [if_pos (zrc_more (zrc_is hc (by decide +kernel)))]
  exact zqs_call hr (Nat.le_of_ble_eq_true rfl) rfl rfl
theorem e242_831 (l : List Value) (ls : List Value) (a b : Int32) (st : List Value) (w : zH) : zrun (some l) (242, 831, ls, (.int b :: .int a :: st), w) = if a = b then zrun (some l) (242, 1557, ls, st, w) else zrun (some l) (242, 834, ls, st, w) := (zEs (i := .if_icmp .eq 726) (by decide +kernel) _ _ _).trans (zqs_ic_eq rfl rfl)
theorem e242_834 (l : List Value) (ls st : List Value) (w : zH) : zrun (some l) (242, 834, ls, st, w) = zrun (some l) (242, 835, ls, (.int 0 :: st), w) := (zEs (i := .iconst 0) (by decide +kernel) _ _ _).trans rfl
theorem e242_835 (l : List Value) (ls : List Value) (x : Int32) (w : zH) (h : narrow .boolean (.int x) = .int x) : zrun (some l) (242, 835, ls, [.int x], w) = some (some (.int x), w) := by
  refine (zEs (i := .ireturn) (by decide +kernel) _ _ _).trans ?_
  show zresx (some l) (if narrow .boolean (.int x) = .int x then _ else none) = _
  rw [if_pos h]
  rfl
theorem e242_836 (l : List Value) (v0 v2 v3 : Value) (x : Nat) (st : List Value) (w : zH) : zrun (some l) (242, 836, [v0, .ref x, v2, v3], st, w) = zrun (some l) (242, 837, [v0, .ref x, v2, v3], (.ref x :: st), w) := (zEs (i := .aload_n 1) (by decide +kernel) _ _ _).trans rfl
theorem e242_836n (l : List Value) (v0 v2 v3 : Value) (st : List Value) (w : zH) : zrun (some l) (242, 836, [v0, .null, v2, v3], st, w) = zrun (some l) (242, 837, [v0, .null, v2, v3], (.null :: st), w) := (zEs (i := .aload_n 1) (by decide +kernel) _ _ _).trans rfl
theorem e242_837 (l : List Value) (v1 v2 v3 : Value) (x : Nat) (st : List Value) (w : zH) : zrun (some l) (242, 837, [.ref x, v1, v2, v3], st, w) = zrun (some l) (242, 838, [.ref x, v1, v2, v3], (.ref x :: st), w) := (zEs (i := .aload_n 0) (by decide +kernel) _ _ _).trans rfl
theorem e242_837n (l : List Value) (v1 v2 v3 : Value) (st : List Value) (w : zH) : zrun (some l) (242, 837, [.null, v1, v2, v3], st, w) = zrun (some l) (242, 838, [.null, v1, v2, v3], (.null :: st), w) := (zEs (i := .aload_n 0) (by decide +kernel) _ _ _).trans rfl
theorem e242_838 (l : List Value) (v0 v1 v2 : Value) (x : Int32) (st : List Value) (w : zH) : zrun (some l) (242, 838, [v0, v1, v2, .int x], st, w) = zrun (some l) (242, 839, [v0, v1, v2, .int x], (.int x :: st), w) := (zEs (i := .iload_n 3) (by decide +kernel) _ _ _).trans rfl
theorem e242_839 (l : List Value) (ls st : List Value) (w : zH) : zrun (some l) (242, 839, ls, st, w) = zrun (some l) (242, 840, ls, (.int 1 :: st), w) := (zEs (i := .iconst 1) (by decide +kernel) _ _ _).trans rfl
theorem e242_840 (l : List Value) (ls : List Value) (a b : Int32) (st : List Value) (w : zH) : zrun (some l) (242, 840, ls, (.int b :: .int a :: st), w) = zrun (some l) (242, 841, ls, (.int (a + b) :: st), w) := (zEs (i := .iadd) (by decide +kernel) _ _ _).trans rfl
theorem e242_841 (l : List Value) (ls : List Value) (j : Int32) (st : List Value) (w : zH) : zrun (some l) (242, 841, ls, (.int j :: .ref 1000006 :: st), w) = zoi (zsx l j) (fun x => zrun (some l) (242, 842, ls, (.int x :: st), w)) := (zEs (i := .iaload) (by decide +kernel) _ _ _).trans zqs_iald
theorem e242_842 (l : List Value) (v1 v2 v3 : Value) (x : Nat) (st : List Value) (w : zH) : zrun (some l) (242, 842, [.ref x, v1, v2, v3], st, w) = zrun (some l) (242, 843, [.ref x, v1, v2, v3], (.ref x :: st), w) := (zEs (i := .aload_n 0) (by decide +kernel) _ _ _).trans rfl
theorem e242_842n (l : List Value) (v1 v2 v3 : Value) (st : List Value) (w : zH) : zrun (some l) (242, 842, [.null, v1, v2, v3], st, w) = zrun (some l) (242, 843, [.null, v1, v2, v3], (.null :: st), w) := (zEs (i := .aload_n 0) (by decide +kernel) _ _ _).trans rfl
theorem e242_843 (l : List Value) (v0 v1 v2 : Value) (x : Int32) (st : List Value) (w : zH) : zrun (some l) (242, 843, [v0, v1, v2, .int x], st, w) = zrun (some l) (242, 844, [v0, v1, v2, .int x], (.int x :: st), w) := (zEs (i := .iload_n 3) (by decide +kernel) _ _ _).trans rfl
theorem e242_844 (l : List Value) (ls st : List Value) (w : zH) : zrun (some l) (242, 844, ls, st, w) = zrun (some l) (242, 845, ls, (.int 2 :: st), w) := (zEs (i := .iconst 2) (by decide +kernel) _ _ _).trans rfl
theorem e242_845 (l : List Value) (ls : List Value) (a b : Int32) (st : List Value) (w : zH) : zrun (some l) (242, 845, ls, (.int b :: .int a :: st), w) = zrun (some l) (242, 846, ls, (.int (a + b) :: st), w) := (zEs (i := .iadd) (by decide +kernel) _ _ _).trans rfl
theorem e242_846 (l : List Value) (ls : List Value) (j : Int32) (st : List Value) (w : zH) : zrun (some l) (242, 846, ls, (.int j :: .ref 1000006 :: st), w) = zoi (zsx l j) (fun x => zrun (some l) (242, 847, ls, (.int x :: st), w)) := (zEs (i := .iaload) (by decide +kernel) _ _ _).trans zqs_iald
theorem e242_847 (l : List Value) (ls : List Value) (a : Nat) (x0 : Int32) (x1 : Int32) (st : List Value) (w : zH) (hr : zcat st ≤ 8) (hc : zis w a 11) : zrun (some l) (242, 847, ls, (.int x1 :: .int x0 :: .ref a :: st), w) = zcl (zrun (some l) (81, 0, [.ref a, .int x0, .int x1, zJ], [], w)) (fun r => zrun (some l) (242, 850, ls, r.1.toList ++ st, r.2)) := by
  refine (zEs (i := .invokevirtual 81) (by decide +kernel) _ _ _).trans ?_
  show zresx (some l) (zinv (some l) 81 242 847 ls (.int x1 :: .int x0 :: .ref a :: st) w) = _
  unfold zinv
  show zresx (some l) (if zrc (some l) 81 w (.ref a) = true then zcall 81 [.ref a, .int x0, .int x1] st 242 847 ls w else none) = _
  rw [if_pos (zrc_more (zrc_is hc (by decide +kernel)))]
  exact zqs_call hr (Nat.le_of_ble_eq_true rfl) rfl rfl
theorem e242_850 (l : List Value) (v0 v1 v3 : Value) (x : Nat) (st : List Value) (w : zH) : zrun (some l) (242, 850, [v0, v1, .ref x, v3], st, w) = zrun (some l) (242, 851, [v0, v1, .ref x, v3], (.ref x :: st), w) := (zEs (i := .aload_n 2) (by decide +kernel) _ _ _).trans rfl
theorem e242_850n (l : List Value) (v0 v1 v3 : Value) (st : List Value) (w : zH) : zrun (some l) (242, 850, [v0, v1, .null, v3], st, w) = zrun (some l) (242, 851, [v0, v1, .null, v3], (.null :: st), w) := (zEs (i := .aload_n 2) (by decide +kernel) _ _ _).trans rfl
theorem e242_851 (l : List Value) (v1 v2 v3 : Value) (x : Nat) (st : List Value) (w : zH) : zrun (some l) (242, 851, [.ref x, v1, v2, v3], st, w) = zrun (some l) (242, 852, [.ref x, v1, v2, v3], (.ref x :: st), w) := (zEs (i := .aload_n 0) (by decide +kernel) _ _ _).trans rfl
theorem e242_851n (l : List Value) (v1 v2 v3 : Value) (st : List Value) (w : zH) : zrun (some l) (242, 851, [.null, v1, v2, v3], st, w) = zrun (some l) (242, 852, [.null, v1, v2, v3], (.null :: st), w) := (zEs (i := .aload_n 0) (by decide +kernel) _ _ _).trans rfl
theorem e242_852 (l : List Value) (v0 v1 v2 : Value) (x : Int32) (st : List Value) (w : zH) : zrun (some l) (242, 852, [v0, v1, v2, .int x], st, w) = zrun (some l) (242, 853, [v0, v1, v2, .int x], (.int x :: st), w) := (zEs (i := .iload_n 3) (by decide +kernel) _ _ _).trans rfl
theorem e242_853 (l : List Value) (ls st : List Value) (w : zH) : zrun (some l) (242, 853, ls, st, w) = zrun (some l) (242, 854, ls, (.int 1 :: st), w) := (zEs (i := .iconst 1) (by decide +kernel) _ _ _).trans rfl
theorem e242_854 (l : List Value) (ls : List Value) (a b : Int32) (st : List Value) (w : zH) : zrun (some l) (242, 854, ls, (.int b :: .int a :: st), w) = zrun (some l) (242, 855, ls, (.int (a + b) :: st), w) := (zEs (i := .iadd) (by decide +kernel) _ _ _).trans rfl
theorem e242_855 (l : List Value) (ls : List Value) (j : Int32) (st : List Value) (w : zH) : zrun (some l) (242, 855, ls, (.int j :: .ref 1000006 :: st), w) = zoi (zsx l j) (fun x => zrun (some l) (242, 856, ls, (.int x :: st), w)) := (zEs (i := .iaload) (by decide +kernel) _ _ _).trans zqs_iald
theorem e242_856 (l : List Value) (v1 v2 v3 : Value) (x : Nat) (st : List Value) (w : zH) : zrun (some l) (242, 856, [.ref x, v1, v2, v3], st, w) = zrun (some l) (242, 857, [.ref x, v1, v2, v3], (.ref x :: st), w) := (zEs (i := .aload_n 0) (by decide +kernel) _ _ _).trans rfl
theorem e242_856n (l : List Value) (v1 v2 v3 : Value) (st : List Value) (w : zH) : zrun (some l) (242, 856, [.null, v1, v2, v3], st, w) = zrun (some l) (242, 857, [.null, v1, v2, v3], (.null :: st), w) := (zEs (i := .aload_n 0) (by decide +kernel) _ _ _).trans rfl
theorem e242_857 (l : List Value) (v0 v1 v2 : Value) (x : Int32) (st : List Value) (w : zH) : zrun (some l) (242, 857, [v0, v1, v2, .int x], st, w) = zrun (some l) (242, 858, [v0, v1, v2, .int x], (.int x :: st), w) := (zEs (i := .iload_n 3) (by decide +kernel) _ _ _).trans rfl
theorem e242_858 (l : List Value) (ls st : List Value) (w : zH) : zrun (some l) (242, 858, ls, st, w) = zrun (some l) (242, 859, ls, (.int 2 :: st), w) := (zEs (i := .iconst 2) (by decide +kernel) _ _ _).trans rfl
theorem e242_859 (l : List Value) (ls : List Value) (a b : Int32) (st : List Value) (w : zH) : zrun (some l) (242, 859, ls, (.int b :: .int a :: st), w) = zrun (some l) (242, 860, ls, (.int (a + b) :: st), w) := (zEs (i := .iadd) (by decide +kernel) _ _ _).trans rfl
theorem e242_860 (l : List Value) (ls : List Value) (j : Int32) (st : List Value) (w : zH) : zrun (some l) (242, 860, ls, (.int j :: .ref 1000006 :: st), w) = zoi (zsx l j) (fun x => zrun (some l) (242, 861, ls, (.int x :: st), w)) := (zEs (i := .iaload) (by decide +kernel) _ _ _).trans zqs_iald
theorem e242_861 (l : List Value) (ls : List Value) (a : Nat) (x0 : Int32) (x1 : Int32) (st : List Value) (w : zH) (hr : zcat st ≤ 8) (hc : zis w a 12) : zrun (some l) (242, 861, ls, (.int x1 :: .int x0 :: .ref a :: st), w) = zcl (zrun (some l) (192, 0, [.ref a, .int x0, .int x1, zJ, zJ], [], w)) (fun r => zrun (some l) (242, 864, ls, r.1.toList ++ st, r.2)) := by
  refine (zEs (i := .invokevirtual 192) (by decide +kernel) _ _ _).trans ?_
  show zresx (some l) (zinv (some l) 192 242 861 ls (.int x1 :: .int x0 :: .ref a :: st) w) = _
  unfold zinv
  show zresx (some l) (if zrc (some l) 192 w (.ref a) = true then zcall 192 [.ref a, .int x0, .int x1] st 242 861 ls w else none) = _
  rw [if_pos (zrc_more (zrc_is hc (by decide +kernel)))]
  exact zqs_call hr (Nat.le_of_ble_eq_true rfl) rfl rfl
theorem e242_864 (l : List Value) (ls : List Value) (a b : Int32) (st : List Value) (w : zH) : zrun (some l) (242, 864, ls, (.int b :: .int a :: st), w) = if a = b then zrun (some l) (242, 1557, ls, st, w) else zrun (some l) (242, 867, ls, st, w) := (zEs (i := .if_icmp .eq 693) (by decide +kernel) _ _ _).trans (zqs_ic_eq rfl rfl)
theorem e242_867 (l : List Value) (ls st : List Value) (w : zH) : zrun (some l) (242, 867, ls, st, w) = zrun (some l) (242, 868, ls, (.int 0 :: st), w) := (zEs (i := .iconst 0) (by decide +kernel) _ _ _).trans rfl
theorem e242_868 (l : List Value) (ls : List Value) (x : Int32) (w : zH) (h : narrow .boolean (.int x) = .int x) : zrun (some l) (242, 868, ls, [.int x], w) = some (some (.int x), w) := by
  refine (zEs (i := .ireturn) (by decide +kernel) _ _ _).trans ?_
  show zresx (some l) (if narrow .boolean (.int x) = .int x then _ else none) = _
  rw [if_pos h]
  rfl
theorem e242_869 (l : List Value) (v0 v2 v3 : Value) (x : Nat) (st : List Value) (w : zH) : zrun (some l) (242, 869, [v0, .ref x, v2, v3], st, w) = zrun (some l) (242, 870, [v0, .ref x, v2, v3], (.ref x :: st), w) := (zEs (i := .aload_n 1) (by decide +kernel) _ _ _).trans rfl
theorem e242_869n (l : List Value) (v0 v2 v3 : Value) (st : List Value) (w : zH) : zrun (some l) (242, 869, [v0, .null, v2, v3], st, w) = zrun (some l) (242, 870, [v0, .null, v2, v3], (.null :: st), w) := (zEs (i := .aload_n 1) (by decide +kernel) _ _ _).trans rfl
theorem e242_870 (l : List Value) (v1 v2 v3 : Value) (x : Nat) (st : List Value) (w : zH) : zrun (some l) (242, 870, [.ref x, v1, v2, v3], st, w) = zrun (some l) (242, 871, [.ref x, v1, v2, v3], (.ref x :: st), w) := (zEs (i := .aload_n 0) (by decide +kernel) _ _ _).trans rfl
theorem e242_870n (l : List Value) (v1 v2 v3 : Value) (st : List Value) (w : zH) : zrun (some l) (242, 870, [.null, v1, v2, v3], st, w) = zrun (some l) (242, 871, [.null, v1, v2, v3], (.null :: st), w) := (zEs (i := .aload_n 0) (by decide +kernel) _ _ _).trans rfl
theorem e242_871 (l : List Value) (v0 v1 v2 : Value) (x : Int32) (st : List Value) (w : zH) : zrun (some l) (242, 871, [v0, v1, v2, .int x], st, w) = zrun (some l) (242, 872, [v0, v1, v2, .int x], (.int x :: st), w) := (zEs (i := .iload_n 3) (by decide +kernel) _ _ _).trans rfl
theorem e242_872 (l : List Value) (ls st : List Value) (w : zH) : zrun (some l) (242, 872, ls, st, w) = zrun (some l) (242, 873, ls, (.int 1 :: st), w) := (zEs (i := .iconst 1) (by decide +kernel) _ _ _).trans rfl
theorem e242_873 (l : List Value) (ls : List Value) (a b : Int32) (st : List Value) (w : zH) : zrun (some l) (242, 873, ls, (.int b :: .int a :: st), w) = zrun (some l) (242, 874, ls, (.int (a + b) :: st), w) := (zEs (i := .iadd) (by decide +kernel) _ _ _).trans rfl
theorem e242_874 (l : List Value) (ls : List Value) (j : Int32) (st : List Value) (w : zH) : zrun (some l) (242, 874, ls, (.int j :: .ref 1000006 :: st), w) = zoi (zsx l j) (fun x => zrun (some l) (242, 875, ls, (.int x :: st), w)) := (zEs (i := .iaload) (by decide +kernel) _ _ _).trans zqs_iald
theorem e242_875 (l : List Value) (v1 v2 v3 : Value) (x : Nat) (st : List Value) (w : zH) : zrun (some l) (242, 875, [.ref x, v1, v2, v3], st, w) = zrun (some l) (242, 876, [.ref x, v1, v2, v3], (.ref x :: st), w) := (zEs (i := .aload_n 0) (by decide +kernel) _ _ _).trans rfl
theorem e242_875n (l : List Value) (v1 v2 v3 : Value) (st : List Value) (w : zH) : zrun (some l) (242, 875, [.null, v1, v2, v3], st, w) = zrun (some l) (242, 876, [.null, v1, v2, v3], (.null :: st), w) := (zEs (i := .aload_n 0) (by decide +kernel) _ _ _).trans rfl
theorem e242_876 (l : List Value) (v0 v1 v2 : Value) (x : Int32) (st : List Value) (w : zH) : zrun (some l) (242, 876, [v0, v1, v2, .int x], st, w) = zrun (some l) (242, 877, [v0, v1, v2, .int x], (.int x :: st), w) := (zEs (i := .iload_n 3) (by decide +kernel) _ _ _).trans rfl
theorem e242_877 (l : List Value) (ls st : List Value) (w : zH) : zrun (some l) (242, 877, ls, st, w) = zrun (some l) (242, 878, ls, (.int 2 :: st), w) := (zEs (i := .iconst 2) (by decide +kernel) _ _ _).trans rfl
theorem e242_878 (l : List Value) (ls : List Value) (a b : Int32) (st : List Value) (w : zH) : zrun (some l) (242, 878, ls, (.int b :: .int a :: st), w) = zrun (some l) (242, 879, ls, (.int (a + b) :: st), w) := (zEs (i := .iadd) (by decide +kernel) _ _ _).trans rfl
theorem e242_879 (l : List Value) (ls : List Value) (j : Int32) (st : List Value) (w : zH) : zrun (some l) (242, 879, ls, (.int j :: .ref 1000006 :: st), w) = zoi (zsx l j) (fun x => zrun (some l) (242, 880, ls, (.int x :: st), w)) := (zEs (i := .iaload) (by decide +kernel) _ _ _).trans zqs_iald
theorem e242_880 (l : List Value) (ls : List Value) (a : Nat) (x0 : Int32) (x1 : Int32) (st : List Value) (w : zH) (hr : zcat st ≤ 8) (hc : zis w a 11) : zrun (some l) (242, 880, ls, (.int x1 :: .int x0 :: .ref a :: st), w) = zcl (zrun (some l) (82, 0, [.ref a, .int x0, .int x1, zJ], [], w)) (fun r => zrun (some l) (242, 883, ls, r.1.toList ++ st, r.2)) := by
  refine (zEs (i := .invokevirtual 82) (by decide +kernel) _ _ _).trans ?_
  show zresx (some l) (zinv (some l) 82 242 880 ls (.int x1 :: .int x0 :: .ref a :: st) w) = _
  unfold zinv
  show zresx (some l) (if zrc (some l) 82 w (.ref a) = true then zcall 82 [.ref a, .int x0, .int x1] st 242 880 ls w else none) = _
  rw [if_pos (zrc_more (zrc_is hc (by decide +kernel)))]
  exact zqs_call hr (Nat.le_of_ble_eq_true rfl) rfl rfl
theorem e242_883 (l : List Value) (v0 v1 v3 : Value) (x : Nat) (st : List Value) (w : zH) : zrun (some l) (242, 883, [v0, v1, .ref x, v3], st, w) = zrun (some l) (242, 884, [v0, v1, .ref x, v3], (.ref x :: st), w) := (zEs (i := .aload_n 2) (by decide +kernel) _ _ _).trans rfl
theorem e242_883n (l : List Value) (v0 v1 v3 : Value) (st : List Value) (w : zH) : zrun (some l) (242, 883, [v0, v1, .null, v3], st, w) = zrun (some l) (242, 884, [v0, v1, .null, v3], (.null :: st), w) := (zEs (i := .aload_n 2) (by decide +kernel) _ _ _).trans rfl
theorem e242_884 (l : List Value) (v1 v2 v3 : Value) (x : Nat) (st : List Value) (w : zH) : zrun (some l) (242, 884, [.ref x, v1, v2, v3], st, w) = zrun (some l) (242, 885, [.ref x, v1, v2, v3], (.ref x :: st), w) := (zEs (i := .aload_n 0) (by decide +kernel) _ _ _).trans rfl
theorem e242_884n (l : List Value) (v1 v2 v3 : Value) (st : List Value) (w : zH) : zrun (some l) (242, 884, [.null, v1, v2, v3], st, w) = zrun (some l) (242, 885, [.null, v1, v2, v3], (.null :: st), w) := (zEs (i := .aload_n 0) (by decide +kernel) _ _ _).trans rfl
theorem e242_885 (l : List Value) (v0 v1 v2 : Value) (x : Int32) (st : List Value) (w : zH) : zrun (some l) (242, 885, [v0, v1, v2, .int x], st, w) = zrun (some l) (242, 886, [v0, v1, v2, .int x], (.int x :: st), w) := (zEs (i := .iload_n 3) (by decide +kernel) _ _ _).trans rfl
theorem e242_886 (l : List Value) (ls st : List Value) (w : zH) : zrun (some l) (242, 886, ls, st, w) = zrun (some l) (242, 887, ls, (.int 1 :: st), w) := (zEs (i := .iconst 1) (by decide +kernel) _ _ _).trans rfl
theorem e242_887 (l : List Value) (ls : List Value) (a b : Int32) (st : List Value) (w : zH) : zrun (some l) (242, 887, ls, (.int b :: .int a :: st), w) = zrun (some l) (242, 888, ls, (.int (a + b) :: st), w) := (zEs (i := .iadd) (by decide +kernel) _ _ _).trans rfl
theorem e242_888 (l : List Value) (ls : List Value) (j : Int32) (st : List Value) (w : zH) : zrun (some l) (242, 888, ls, (.int j :: .ref 1000006 :: st), w) = zoi (zsx l j) (fun x => zrun (some l) (242, 889, ls, (.int x :: st), w)) := (zEs (i := .iaload) (by decide +kernel) _ _ _).trans zqs_iald
theorem e242_889 (l : List Value) (v1 v2 v3 : Value) (x : Nat) (st : List Value) (w : zH) : zrun (some l) (242, 889, [.ref x, v1, v2, v3], st, w) = zrun (some l) (242, 890, [.ref x, v1, v2, v3], (.ref x :: st), w) := (zEs (i := .aload_n 0) (by decide +kernel) _ _ _).trans rfl
theorem e242_889n (l : List Value) (v1 v2 v3 : Value) (st : List Value) (w : zH) : zrun (some l) (242, 889, [.null, v1, v2, v3], st, w) = zrun (some l) (242, 890, [.null, v1, v2, v3], (.null :: st), w) := (zEs (i := .aload_n 0) (by decide +kernel) _ _ _).trans rfl
theorem e242_890 (l : List Value) (v0 v1 v2 : Value) (x : Int32) (st : List Value) (w : zH) : zrun (some l) (242, 890, [v0, v1, v2, .int x], st, w) = zrun (some l) (242, 891, [v0, v1, v2, .int x], (.int x :: st), w) := (zEs (i := .iload_n 3) (by decide +kernel) _ _ _).trans rfl
theorem e242_891 (l : List Value) (ls st : List Value) (w : zH) : zrun (some l) (242, 891, ls, st, w) = zrun (some l) (242, 892, ls, (.int 2 :: st), w) := (zEs (i := .iconst 2) (by decide +kernel) _ _ _).trans rfl
theorem e242_892 (l : List Value) (ls : List Value) (a b : Int32) (st : List Value) (w : zH) : zrun (some l) (242, 892, ls, (.int b :: .int a :: st), w) = zrun (some l) (242, 893, ls, (.int (a + b) :: st), w) := (zEs (i := .iadd) (by decide +kernel) _ _ _).trans rfl
theorem e242_893 (l : List Value) (ls : List Value) (j : Int32) (st : List Value) (w : zH) : zrun (some l) (242, 893, ls, (.int j :: .ref 1000006 :: st), w) = zoi (zsx l j) (fun x => zrun (some l) (242, 894, ls, (.int x :: st), w)) := (zEs (i := .iaload) (by decide +kernel) _ _ _).trans zqs_iald
theorem e242_894 (l : List Value) (ls : List Value) (a : Nat) (x0 : Int32) (x1 : Int32) (st : List Value) (w : zH) (hr : zcat st ≤ 8) (hc : zis w a 12) : zrun (some l) (242, 894, ls, (.int x1 :: .int x0 :: .ref a :: st), w) = zcl (zrun (some l) (193, 0, [.ref a, .int x0, .int x1, zJ, zJ, zJ], [], w)) (fun r => zrun (some l) (242, 897, ls, r.1.toList ++ st, r.2)) := by
  refine (zEs (i := .invokevirtual 193) (by decide +kernel) _ _ _).trans ?_
  show zresx (some l) (zinv (some l) 193 242 894 ls (.int x1 :: .int x0 :: .ref a :: st) w) = _
  unfold zinv
  show zresx (some l) (if zrc (some l) 193 w (.ref a) = true then zcall 193 [.ref a, .int x0, .int x1] st 242 894 ls w else none) = _
  rw [if_pos (zrc_more (zrc_is hc (by decide +kernel)))]
  exact zqs_call hr (Nat.le_of_ble_eq_true rfl) rfl rfl
theorem e242_897 (l : List Value) (ls : List Value) (a b : Int32) (st : List Value) (w : zH) : zrun (some l) (242, 897, ls, (.int b :: .int a :: st), w) = if a = b then zrun (some l) (242, 1557, ls, st, w) else zrun (some l) (242, 900, ls, st, w) := (zEs (i := .if_icmp .eq 660) (by decide +kernel) _ _ _).trans (zqs_ic_eq rfl rfl)
theorem e242_900 (l : List Value) (ls st : List Value) (w : zH) : zrun (some l) (242, 900, ls, st, w) = zrun (some l) (242, 901, ls, (.int 0 :: st), w) := (zEs (i := .iconst 0) (by decide +kernel) _ _ _).trans rfl
theorem e242_901 (l : List Value) (ls : List Value) (x : Int32) (w : zH) (h : narrow .boolean (.int x) = .int x) : zrun (some l) (242, 901, ls, [.int x], w) = some (some (.int x), w) := by
  refine (zEs (i := .ireturn) (by decide +kernel) _ _ _).trans ?_
  show zresx (some l) (if narrow .boolean (.int x) = .int x then _ else none) = _
  rw [if_pos h]
  rfl
theorem e242_902 (l : List Value) (v0 v2 v3 : Value) (x : Nat) (st : List Value) (w : zH) : zrun (some l) (242, 902, [v0, .ref x, v2, v3], st, w) = zrun (some l) (242, 903, [v0, .ref x, v2, v3], (.ref x :: st), w) := (zEs (i := .aload_n 1) (by decide +kernel) _ _ _).trans rfl
theorem e242_902n (l : List Value) (v0 v2 v3 : Value) (st : List Value) (w : zH) : zrun (some l) (242, 902, [v0, .null, v2, v3], st, w) = zrun (some l) (242, 903, [v0, .null, v2, v3], (.null :: st), w) := (zEs (i := .aload_n 1) (by decide +kernel) _ _ _).trans rfl
theorem e242_903 (l : List Value) (v1 v2 v3 : Value) (x : Nat) (st : List Value) (w : zH) : zrun (some l) (242, 903, [.ref x, v1, v2, v3], st, w) = zrun (some l) (242, 904, [.ref x, v1, v2, v3], (.ref x :: st), w) := (zEs (i := .aload_n 0) (by decide +kernel) _ _ _).trans rfl
theorem e242_903n (l : List Value) (v1 v2 v3 : Value) (st : List Value) (w : zH) : zrun (some l) (242, 903, [.null, v1, v2, v3], st, w) = zrun (some l) (242, 904, [.null, v1, v2, v3], (.null :: st), w) := (zEs (i := .aload_n 0) (by decide +kernel) _ _ _).trans rfl
theorem e242_904 (l : List Value) (v0 v1 v2 : Value) (x : Int32) (st : List Value) (w : zH) : zrun (some l) (242, 904, [v0, v1, v2, .int x], st, w) = zrun (some l) (242, 905, [v0, v1, v2, .int x], (.int x :: st), w) := (zEs (i := .iload_n 3) (by decide +kernel) _ _ _).trans rfl
theorem e242_905 (l : List Value) (ls st : List Value) (w : zH) : zrun (some l) (242, 905, ls, st, w) = zrun (some l) (242, 906, ls, (.int 1 :: st), w) := (zEs (i := .iconst 1) (by decide +kernel) _ _ _).trans rfl
theorem e242_906 (l : List Value) (ls : List Value) (a b : Int32) (st : List Value) (w : zH) : zrun (some l) (242, 906, ls, (.int b :: .int a :: st), w) = zrun (some l) (242, 907, ls, (.int (a + b) :: st), w) := (zEs (i := .iadd) (by decide +kernel) _ _ _).trans rfl
theorem e242_907 (l : List Value) (ls : List Value) (j : Int32) (st : List Value) (w : zH) : zrun (some l) (242, 907, ls, (.int j :: .ref 1000006 :: st), w) = zoi (zsx l j) (fun x => zrun (some l) (242, 908, ls, (.int x :: st), w)) := (zEs (i := .iaload) (by decide +kernel) _ _ _).trans zqs_iald
theorem e242_908 (l : List Value) (v1 v2 v3 : Value) (x : Nat) (st : List Value) (w : zH) : zrun (some l) (242, 908, [.ref x, v1, v2, v3], st, w) = zrun (some l) (242, 909, [.ref x, v1, v2, v3], (.ref x :: st), w) := (zEs (i := .aload_n 0) (by decide +kernel) _ _ _).trans rfl
theorem e242_908n (l : List Value) (v1 v2 v3 : Value) (st : List Value) (w : zH) : zrun (some l) (242, 908, [.null, v1, v2, v3], st, w) = zrun (some l) (242, 909, [.null, v1, v2, v3], (.null :: st), w) := (zEs (i := .aload_n 0) (by decide +kernel) _ _ _).trans rfl
theorem e242_909 (l : List Value) (v0 v1 v2 : Value) (x : Int32) (st : List Value) (w : zH) : zrun (some l) (242, 909, [v0, v1, v2, .int x], st, w) = zrun (some l) (242, 910, [v0, v1, v2, .int x], (.int x :: st), w) := (zEs (i := .iload_n 3) (by decide +kernel) _ _ _).trans rfl
theorem e242_910 (l : List Value) (ls st : List Value) (w : zH) : zrun (some l) (242, 910, ls, st, w) = zrun (some l) (242, 911, ls, (.int 2 :: st), w) := (zEs (i := .iconst 2) (by decide +kernel) _ _ _).trans rfl
theorem e242_911 (l : List Value) (ls : List Value) (a b : Int32) (st : List Value) (w : zH) : zrun (some l) (242, 911, ls, (.int b :: .int a :: st), w) = zrun (some l) (242, 912, ls, (.int (a + b) :: st), w) := (zEs (i := .iadd) (by decide +kernel) _ _ _).trans rfl
theorem e242_912 (l : List Value) (ls : List Value) (j : Int32) (st : List Value) (w : zH) : zrun (some l) (242, 912, ls, (.int j :: .ref 1000006 :: st), w) = zoi (zsx l j) (fun x => zrun (some l) (242, 913, ls, (.int x :: st), w)) := (zEs (i := .iaload) (by decide +kernel) _ _ _).trans zqs_iald
theorem e242_913 (l : List Value) (v1 v2 v3 : Value) (x : Nat) (st : List Value) (w : zH) : zrun (some l) (242, 913, [.ref x, v1, v2, v3], st, w) = zrun (some l) (242, 914, [.ref x, v1, v2, v3], (.ref x :: st), w) := (zEs (i := .aload_n 0) (by decide +kernel) _ _ _).trans rfl
theorem e242_913n (l : List Value) (v1 v2 v3 : Value) (st : List Value) (w : zH) : zrun (some l) (242, 913, [.null, v1, v2, v3], st, w) = zrun (some l) (242, 914, [.null, v1, v2, v3], (.null :: st), w) := (zEs (i := .aload_n 0) (by decide +kernel) _ _ _).trans rfl
theorem e242_914 (l : List Value) (v0 v1 v2 : Value) (x : Int32) (st : List Value) (w : zH) : zrun (some l) (242, 914, [v0, v1, v2, .int x], st, w) = zrun (some l) (242, 915, [v0, v1, v2, .int x], (.int x :: st), w) := (zEs (i := .iload_n 3) (by decide +kernel) _ _ _).trans rfl
theorem e242_915 (l : List Value) (ls st : List Value) (w : zH) : zrun (some l) (242, 915, ls, st, w) = zrun (some l) (242, 916, ls, (.int 3 :: st), w) := (zEs (i := .iconst 3) (by decide +kernel) _ _ _).trans rfl
theorem e242_916 (l : List Value) (ls : List Value) (a b : Int32) (st : List Value) (w : zH) : zrun (some l) (242, 916, ls, (.int b :: .int a :: st), w) = zrun (some l) (242, 917, ls, (.int (a + b) :: st), w) := (zEs (i := .iadd) (by decide +kernel) _ _ _).trans rfl
theorem e242_917 (l : List Value) (ls : List Value) (j : Int32) (st : List Value) (w : zH) : zrun (some l) (242, 917, ls, (.int j :: .ref 1000006 :: st), w) = zoi (zsx l j) (fun x => zrun (some l) (242, 918, ls, (.int x :: st), w)) := (zEs (i := .iaload) (by decide +kernel) _ _ _).trans zqs_iald
theorem e242_918 (l : List Value) (ls : List Value) (a : Nat) (x0 : Int32) (x1 : Int32) (x2 : Int32) (st : List Value) (w : zH) (hr : zcat st ≤ 8) (hc : zis w a 11) : zrun (some l) (242, 918, ls, (.int x2 :: .int x1 :: .int x0 :: .ref a :: st), w) = zcl (zrun (some l) (83, 0, [.ref a, .int x0, .int x1, .int x2], [], w)) (fun r => zrun (some l) (242, 921, ls, r.1.toList ++ st, r.2)) := by
  refine (zEs (i := .invokevirtual 83) (by decide +kernel) _ _ _).trans ?_
  show zresx (some l) (zinv (some l) 83 242 918 ls (.int x2 :: .int x1 :: .int x0 :: .ref a :: st) w) = _
  unfold zinv
  show zresx (some l) (if zrc (some l) 83 w (.ref a) = true then zcall 83 [.ref a, .int x0, .int x1, .int x2] st 242 918 ls w else none) = _
  rw [if_pos (zrc_more (zrc_is hc (by decide +kernel)))]
  exact zqs_call hr (Nat.le_of_ble_eq_true rfl) rfl rfl
theorem e242_921 (l : List Value) (v0 v1 v3 : Value) (x : Nat) (st : List Value) (w : zH) : zrun (some l) (242, 921, [v0, v1, .ref x, v3], st, w) = zrun (some l) (242, 922, [v0, v1, .ref x, v3], (.ref x :: st), w) := (zEs (i := .aload_n 2) (by decide +kernel) _ _ _).trans rfl
theorem e242_921n (l : List Value) (v0 v1 v3 : Value) (st : List Value) (w : zH) : zrun (some l) (242, 921, [v0, v1, .null, v3], st, w) = zrun (some l) (242, 922, [v0, v1, .null, v3], (.null :: st), w) := (zEs (i := .aload_n 2) (by decide +kernel) _ _ _).trans rfl
theorem e242_922 (l : List Value) (v1 v2 v3 : Value) (x : Nat) (st : List Value) (w : zH) : zrun (some l) (242, 922, [.ref x, v1, v2, v3], st, w) = zrun (some l) (242, 923, [.ref x, v1, v2, v3], (.ref x :: st), w) := (zEs (i := .aload_n 0) (by decide +kernel) _ _ _).trans rfl
theorem e242_922n (l : List Value) (v1 v2 v3 : Value) (st : List Value) (w : zH) : zrun (some l) (242, 922, [.null, v1, v2, v3], st, w) = zrun (some l) (242, 923, [.null, v1, v2, v3], (.null :: st), w) := (zEs (i := .aload_n 0) (by decide +kernel) _ _ _).trans rfl
theorem e242_923 (l : List Value) (v0 v1 v2 : Value) (x : Int32) (st : List Value) (w : zH) : zrun (some l) (242, 923, [v0, v1, v2, .int x], st, w) = zrun (some l) (242, 924, [v0, v1, v2, .int x], (.int x :: st), w) := (zEs (i := .iload_n 3) (by decide +kernel) _ _ _).trans rfl
theorem e242_924 (l : List Value) (ls st : List Value) (w : zH) : zrun (some l) (242, 924, ls, st, w) = zrun (some l) (242, 925, ls, (.int 1 :: st), w) := (zEs (i := .iconst 1) (by decide +kernel) _ _ _).trans rfl
theorem e242_925 (l : List Value) (ls : List Value) (a b : Int32) (st : List Value) (w : zH) : zrun (some l) (242, 925, ls, (.int b :: .int a :: st), w) = zrun (some l) (242, 926, ls, (.int (a + b) :: st), w) := (zEs (i := .iadd) (by decide +kernel) _ _ _).trans rfl
theorem e242_926 (l : List Value) (ls : List Value) (j : Int32) (st : List Value) (w : zH) : zrun (some l) (242, 926, ls, (.int j :: .ref 1000006 :: st), w) = zoi (zsx l j) (fun x => zrun (some l) (242, 927, ls, (.int x :: st), w)) := (zEs (i := .iaload) (by decide +kernel) _ _ _).trans zqs_iald
theorem e242_927 (l : List Value) (v1 v2 v3 : Value) (x : Nat) (st : List Value) (w : zH) : zrun (some l) (242, 927, [.ref x, v1, v2, v3], st, w) = zrun (some l) (242, 928, [.ref x, v1, v2, v3], (.ref x :: st), w) := (zEs (i := .aload_n 0) (by decide +kernel) _ _ _).trans rfl
theorem e242_927n (l : List Value) (v1 v2 v3 : Value) (st : List Value) (w : zH) : zrun (some l) (242, 927, [.null, v1, v2, v3], st, w) = zrun (some l) (242, 928, [.null, v1, v2, v3], (.null :: st), w) := (zEs (i := .aload_n 0) (by decide +kernel) _ _ _).trans rfl
theorem e242_928 (l : List Value) (v0 v1 v2 : Value) (x : Int32) (st : List Value) (w : zH) : zrun (some l) (242, 928, [v0, v1, v2, .int x], st, w) = zrun (some l) (242, 929, [v0, v1, v2, .int x], (.int x :: st), w) := (zEs (i := .iload_n 3) (by decide +kernel) _ _ _).trans rfl
theorem e242_929 (l : List Value) (ls st : List Value) (w : zH) : zrun (some l) (242, 929, ls, st, w) = zrun (some l) (242, 930, ls, (.int 2 :: st), w) := (zEs (i := .iconst 2) (by decide +kernel) _ _ _).trans rfl
theorem e242_930 (l : List Value) (ls : List Value) (a b : Int32) (st : List Value) (w : zH) : zrun (some l) (242, 930, ls, (.int b :: .int a :: st), w) = zrun (some l) (242, 931, ls, (.int (a + b) :: st), w) := (zEs (i := .iadd) (by decide +kernel) _ _ _).trans rfl
theorem e242_931 (l : List Value) (ls : List Value) (j : Int32) (st : List Value) (w : zH) : zrun (some l) (242, 931, ls, (.int j :: .ref 1000006 :: st), w) = zoi (zsx l j) (fun x => zrun (some l) (242, 932, ls, (.int x :: st), w)) := (zEs (i := .iaload) (by decide +kernel) _ _ _).trans zqs_iald
theorem e242_932 (l : List Value) (v1 v2 v3 : Value) (x : Nat) (st : List Value) (w : zH) : zrun (some l) (242, 932, [.ref x, v1, v2, v3], st, w) = zrun (some l) (242, 933, [.ref x, v1, v2, v3], (.ref x :: st), w) := (zEs (i := .aload_n 0) (by decide +kernel) _ _ _).trans rfl
theorem e242_932n (l : List Value) (v1 v2 v3 : Value) (st : List Value) (w : zH) : zrun (some l) (242, 932, [.null, v1, v2, v3], st, w) = zrun (some l) (242, 933, [.null, v1, v2, v3], (.null :: st), w) := (zEs (i := .aload_n 0) (by decide +kernel) _ _ _).trans rfl
theorem e242_933 (l : List Value) (v0 v1 v2 : Value) (x : Int32) (st : List Value) (w : zH) : zrun (some l) (242, 933, [v0, v1, v2, .int x], st, w) = zrun (some l) (242, 934, [v0, v1, v2, .int x], (.int x :: st), w) := (zEs (i := .iload_n 3) (by decide +kernel) _ _ _).trans rfl
theorem e242_934 (l : List Value) (ls st : List Value) (w : zH) : zrun (some l) (242, 934, ls, st, w) = zrun (some l) (242, 935, ls, (.int 3 :: st), w) := (zEs (i := .iconst 3) (by decide +kernel) _ _ _).trans rfl
theorem e242_935 (l : List Value) (ls : List Value) (a b : Int32) (st : List Value) (w : zH) : zrun (some l) (242, 935, ls, (.int b :: .int a :: st), w) = zrun (some l) (242, 936, ls, (.int (a + b) :: st), w) := (zEs (i := .iadd) (by decide +kernel) _ _ _).trans rfl
theorem e242_936 (l : List Value) (ls : List Value) (j : Int32) (st : List Value) (w : zH) : zrun (some l) (242, 936, ls, (.int j :: .ref 1000006 :: st), w) = zoi (zsx l j) (fun x => zrun (some l) (242, 937, ls, (.int x :: st), w)) := (zEs (i := .iaload) (by decide +kernel) _ _ _).trans zqs_iald
theorem e242_937 (l : List Value) (ls : List Value) (a : Nat) (x0 : Int32) (x1 : Int32) (x2 : Int32) (st : List Value) (w : zH) (hr : zcat st ≤ 8) (hc : zis w a 12) : zrun (some l) (242, 937, ls, (.int x2 :: .int x1 :: .int x0 :: .ref a :: st), w) = zcl (zrun (some l) (194, 0, [.ref a, .int x0, .int x1, .int x2], [], w)) (fun r => zrun (some l) (242, 940, ls, r.1.toList ++ st, r.2)) := by
  refine (zEs (i := .invokevirtual 194) (by decide +kernel) _ _ _).trans ?_
  show zresx (some l) (zinv (some l) 194 242 937 ls (.int x2 :: .int x1 :: .int x0 :: .ref a :: st) w) = _
  unfold zinv
  show zresx (some l) (if zrc (some l) 194 w (.ref a) = true then zcall 194 [.ref a, .int x0, .int x1, .int x2] st 242 937 ls w else none) = _
  rw [if_pos (zrc_more (zrc_is hc (by decide +kernel)))]
  exact zqs_call hr (Nat.le_of_ble_eq_true rfl) rfl rfl
theorem e242_940 (l : List Value) (ls : List Value) (a b : Int32) (st : List Value) (w : zH) : zrun (some l) (242, 940, ls, (.int b :: .int a :: st), w) = if a = b then zrun (some l) (242, 1557, ls, st, w) else zrun (some l) (242, 943, ls, st, w) := (zEs (i := .if_icmp .eq 617) (by decide +kernel) _ _ _).trans (zqs_ic_eq rfl rfl)
theorem e242_943 (l : List Value) (ls st : List Value) (w : zH) : zrun (some l) (242, 943, ls, st, w) = zrun (some l) (242, 944, ls, (.int 0 :: st), w) := (zEs (i := .iconst 0) (by decide +kernel) _ _ _).trans rfl
theorem e242_944 (l : List Value) (ls : List Value) (x : Int32) (w : zH) (h : narrow .boolean (.int x) = .int x) : zrun (some l) (242, 944, ls, [.int x], w) = some (some (.int x), w) := by
  refine (zEs (i := .ireturn) (by decide +kernel) _ _ _).trans ?_
  show zresx (some l) (if narrow .boolean (.int x) = .int x then _ else none) = _
  rw [if_pos h]
  rfl
theorem e242_945 (l : List Value) (v0 v2 v3 : Value) (x : Nat) (st : List Value) (w : zH) : zrun (some l) (242, 945, [v0, .ref x, v2, v3], st, w) = zrun (some l) (242, 946, [v0, .ref x, v2, v3], (.ref x :: st), w) := (zEs (i := .aload_n 1) (by decide +kernel) _ _ _).trans rfl
theorem e242_945n (l : List Value) (v0 v2 v3 : Value) (st : List Value) (w : zH) : zrun (some l) (242, 945, [v0, .null, v2, v3], st, w) = zrun (some l) (242, 946, [v0, .null, v2, v3], (.null :: st), w) := (zEs (i := .aload_n 1) (by decide +kernel) _ _ _).trans rfl
theorem e242_946 (l : List Value) (v1 v2 v3 : Value) (x : Nat) (st : List Value) (w : zH) : zrun (some l) (242, 946, [.ref x, v1, v2, v3], st, w) = zrun (some l) (242, 947, [.ref x, v1, v2, v3], (.ref x :: st), w) := (zEs (i := .aload_n 0) (by decide +kernel) _ _ _).trans rfl
theorem e242_946n (l : List Value) (v1 v2 v3 : Value) (st : List Value) (w : zH) : zrun (some l) (242, 946, [.null, v1, v2, v3], st, w) = zrun (some l) (242, 947, [.null, v1, v2, v3], (.null :: st), w) := (zEs (i := .aload_n 0) (by decide +kernel) _ _ _).trans rfl
theorem e242_947 (l : List Value) (v0 v1 v2 : Value) (x : Int32) (st : List Value) (w : zH) : zrun (some l) (242, 947, [v0, v1, v2, .int x], st, w) = zrun (some l) (242, 948, [v0, v1, v2, .int x], (.int x :: st), w) := (zEs (i := .iload_n 3) (by decide +kernel) _ _ _).trans rfl
theorem e242_948 (l : List Value) (ls st : List Value) (w : zH) : zrun (some l) (242, 948, ls, st, w) = zrun (some l) (242, 949, ls, (.int 1 :: st), w) := (zEs (i := .iconst 1) (by decide +kernel) _ _ _).trans rfl
theorem e242_949 (l : List Value) (ls : List Value) (a b : Int32) (st : List Value) (w : zH) : zrun (some l) (242, 949, ls, (.int b :: .int a :: st), w) = zrun (some l) (242, 950, ls, (.int (a + b) :: st), w) := (zEs (i := .iadd) (by decide +kernel) _ _ _).trans rfl
theorem e242_950 (l : List Value) (ls : List Value) (j : Int32) (st : List Value) (w : zH) : zrun (some l) (242, 950, ls, (.int j :: .ref 1000006 :: st), w) = zoi (zsx l j) (fun x => zrun (some l) (242, 951, ls, (.int x :: st), w)) := (zEs (i := .iaload) (by decide +kernel) _ _ _).trans zqs_iald
theorem e242_951 (l : List Value) (v1 v2 v3 : Value) (x : Nat) (st : List Value) (w : zH) : zrun (some l) (242, 951, [.ref x, v1, v2, v3], st, w) = zrun (some l) (242, 952, [.ref x, v1, v2, v3], (.ref x :: st), w) := (zEs (i := .aload_n 0) (by decide +kernel) _ _ _).trans rfl
theorem e242_951n (l : List Value) (v1 v2 v3 : Value) (st : List Value) (w : zH) : zrun (some l) (242, 951, [.null, v1, v2, v3], st, w) = zrun (some l) (242, 952, [.null, v1, v2, v3], (.null :: st), w) := (zEs (i := .aload_n 0) (by decide +kernel) _ _ _).trans rfl
theorem e242_952 (l : List Value) (v0 v1 v2 : Value) (x : Int32) (st : List Value) (w : zH) : zrun (some l) (242, 952, [v0, v1, v2, .int x], st, w) = zrun (some l) (242, 953, [v0, v1, v2, .int x], (.int x :: st), w) := (zEs (i := .iload_n 3) (by decide +kernel) _ _ _).trans rfl
theorem e242_953 (l : List Value) (ls st : List Value) (w : zH) : zrun (some l) (242, 953, ls, st, w) = zrun (some l) (242, 954, ls, (.int 2 :: st), w) := (zEs (i := .iconst 2) (by decide +kernel) _ _ _).trans rfl
theorem e242_954 (l : List Value) (ls : List Value) (a b : Int32) (st : List Value) (w : zH) : zrun (some l) (242, 954, ls, (.int b :: .int a :: st), w) = zrun (some l) (242, 955, ls, (.int (a + b) :: st), w) := (zEs (i := .iadd) (by decide +kernel) _ _ _).trans rfl
theorem e242_955 (l : List Value) (ls : List Value) (j : Int32) (st : List Value) (w : zH) : zrun (some l) (242, 955, ls, (.int j :: .ref 1000006 :: st), w) = zoi (zsx l j) (fun x => zrun (some l) (242, 956, ls, (.int x :: st), w)) := (zEs (i := .iaload) (by decide +kernel) _ _ _).trans zqs_iald
theorem e242_956 (l : List Value) (ls : List Value) (a : Nat) (x0 : Int32) (x1 : Int32) (st : List Value) (w : zH) (hr : zcat st ≤ 8) (hc : zis w a 11) : zrun (some l) (242, 956, ls, (.int x1 :: .int x0 :: .ref a :: st), w) = zcl (zrun (some l) (84, 0, [.ref a, .int x0, .int x1, zJ, zJ], [], w)) (fun r => zrun (some l) (242, 959, ls, r.1.toList ++ st, r.2)) := by
  refine (zEs (i := .invokevirtual 84) (by decide +kernel) _ _ _).trans ?_
  show zresx (some l) (zinv (some l) 84 242 956 ls (.int x1 :: .int x0 :: .ref a :: st) w) = _
  unfold zinv
  show zresx (some l) (if zrc (some l) 84 w (.ref a) = true then zcall 84 [.ref a, .int x0, .int x1] st 242 956 ls w else none) = _
  rw [if_pos (zrc_more (zrc_is hc (by decide +kernel)))]
  exact zqs_call hr (Nat.le_of_ble_eq_true rfl) rfl rfl
theorem e242_959 (l : List Value) (v0 v1 v3 : Value) (x : Nat) (st : List Value) (w : zH) : zrun (some l) (242, 959, [v0, v1, .ref x, v3], st, w) = zrun (some l) (242, 960, [v0, v1, .ref x, v3], (.ref x :: st), w) := (zEs (i := .aload_n 2) (by decide +kernel) _ _ _).trans rfl
theorem e242_959n (l : List Value) (v0 v1 v3 : Value) (st : List Value) (w : zH) : zrun (some l) (242, 959, [v0, v1, .null, v3], st, w) = zrun (some l) (242, 960, [v0, v1, .null, v3], (.null :: st), w) := (zEs (i := .aload_n 2) (by decide +kernel) _ _ _).trans rfl
theorem e242_960 (l : List Value) (v1 v2 v3 : Value) (x : Nat) (st : List Value) (w : zH) : zrun (some l) (242, 960, [.ref x, v1, v2, v3], st, w) = zrun (some l) (242, 961, [.ref x, v1, v2, v3], (.ref x :: st), w) := (zEs (i := .aload_n 0) (by decide +kernel) _ _ _).trans rfl
theorem e242_960n (l : List Value) (v1 v2 v3 : Value) (st : List Value) (w : zH) : zrun (some l) (242, 960, [.null, v1, v2, v3], st, w) = zrun (some l) (242, 961, [.null, v1, v2, v3], (.null :: st), w) := (zEs (i := .aload_n 0) (by decide +kernel) _ _ _).trans rfl
theorem e242_961 (l : List Value) (v0 v1 v2 : Value) (x : Int32) (st : List Value) (w : zH) : zrun (some l) (242, 961, [v0, v1, v2, .int x], st, w) = zrun (some l) (242, 962, [v0, v1, v2, .int x], (.int x :: st), w) := (zEs (i := .iload_n 3) (by decide +kernel) _ _ _).trans rfl
theorem e242_962 (l : List Value) (ls st : List Value) (w : zH) : zrun (some l) (242, 962, ls, st, w) = zrun (some l) (242, 963, ls, (.int 1 :: st), w) := (zEs (i := .iconst 1) (by decide +kernel) _ _ _).trans rfl
theorem e242_963 (l : List Value) (ls : List Value) (a b : Int32) (st : List Value) (w : zH) : zrun (some l) (242, 963, ls, (.int b :: .int a :: st), w) = zrun (some l) (242, 964, ls, (.int (a + b) :: st), w) := (zEs (i := .iadd) (by decide +kernel) _ _ _).trans rfl
theorem e242_964 (l : List Value) (ls : List Value) (j : Int32) (st : List Value) (w : zH) : zrun (some l) (242, 964, ls, (.int j :: .ref 1000006 :: st), w) = zoi (zsx l j) (fun x => zrun (some l) (242, 965, ls, (.int x :: st), w)) := (zEs (i := .iaload) (by decide +kernel) _ _ _).trans zqs_iald
theorem e242_965 (l : List Value) (v1 v2 v3 : Value) (x : Nat) (st : List Value) (w : zH) : zrun (some l) (242, 965, [.ref x, v1, v2, v3], st, w) = zrun (some l) (242, 966, [.ref x, v1, v2, v3], (.ref x :: st), w) := (zEs (i := .aload_n 0) (by decide +kernel) _ _ _).trans rfl
theorem e242_965n (l : List Value) (v1 v2 v3 : Value) (st : List Value) (w : zH) : zrun (some l) (242, 965, [.null, v1, v2, v3], st, w) = zrun (some l) (242, 966, [.null, v1, v2, v3], (.null :: st), w) := (zEs (i := .aload_n 0) (by decide +kernel) _ _ _).trans rfl
theorem e242_966 (l : List Value) (v0 v1 v2 : Value) (x : Int32) (st : List Value) (w : zH) : zrun (some l) (242, 966, [v0, v1, v2, .int x], st, w) = zrun (some l) (242, 967, [v0, v1, v2, .int x], (.int x :: st), w) := (zEs (i := .iload_n 3) (by decide +kernel) _ _ _).trans rfl
theorem e242_967 (l : List Value) (ls st : List Value) (w : zH) : zrun (some l) (242, 967, ls, st, w) = zrun (some l) (242, 968, ls, (.int 2 :: st), w) := (zEs (i := .iconst 2) (by decide +kernel) _ _ _).trans rfl
theorem e242_968 (l : List Value) (ls : List Value) (a b : Int32) (st : List Value) (w : zH) : zrun (some l) (242, 968, ls, (.int b :: .int a :: st), w) = zrun (some l) (242, 969, ls, (.int (a + b) :: st), w) := (zEs (i := .iadd) (by decide +kernel) _ _ _).trans rfl
theorem e242_969 (l : List Value) (ls : List Value) (j : Int32) (st : List Value) (w : zH) : zrun (some l) (242, 969, ls, (.int j :: .ref 1000006 :: st), w) = zoi (zsx l j) (fun x => zrun (some l) (242, 970, ls, (.int x :: st), w)) := (zEs (i := .iaload) (by decide +kernel) _ _ _).trans zqs_iald
theorem e242_970 (l : List Value) (ls : List Value) (a : Nat) (x0 : Int32) (x1 : Int32) (st : List Value) (w : zH) (hr : zcat st ≤ 8) (hc : zis w a 12) : zrun (some l) (242, 970, ls, (.int x1 :: .int x0 :: .ref a :: st), w) = zcl (zrun (some l) (197, 0, [.ref a, .int x0, .int x1, zJ, zJ], [], w)) (fun r => zrun (some l) (242, 973, ls, r.1.toList ++ st, r.2)) := by
  refine (zEs (i := .invokevirtual 197) (by decide +kernel) _ _ _).trans ?_
  show zresx (some l) (zinv (some l) 197 242 970 ls (.int x1 :: .int x0 :: .ref a :: st) w) = _
  unfold zinv
  show zresx (some l) (if zrc (some l) 197 w (.ref a) = true then zcall 197 [.ref a, .int x0, .int x1] st 242 970 ls w else none) = _
  rw [if_pos (zrc_more (zrc_is hc (by decide +kernel)))]
  exact zqs_call hr (Nat.le_of_ble_eq_true rfl) rfl rfl
theorem e242_973 (l : List Value) (ls : List Value) (a b : Int32) (st : List Value) (w : zH) : zrun (some l) (242, 973, ls, (.int b :: .int a :: st), w) = if a = b then zrun (some l) (242, 1557, ls, st, w) else zrun (some l) (242, 976, ls, st, w) := (zEs (i := .if_icmp .eq 584) (by decide +kernel) _ _ _).trans (zqs_ic_eq rfl rfl)
theorem e242_976 (l : List Value) (ls st : List Value) (w : zH) : zrun (some l) (242, 976, ls, st, w) = zrun (some l) (242, 977, ls, (.int 0 :: st), w) := (zEs (i := .iconst 0) (by decide +kernel) _ _ _).trans rfl
theorem e242_977 (l : List Value) (ls : List Value) (x : Int32) (w : zH) (h : narrow .boolean (.int x) = .int x) : zrun (some l) (242, 977, ls, [.int x], w) = some (some (.int x), w) := by
  refine (zEs (i := .ireturn) (by decide +kernel) _ _ _).trans ?_
  show zresx (some l) (if narrow .boolean (.int x) = .int x then _ else none) = _
  rw [if_pos h]
  rfl
theorem e242_978 (l : List Value) (v0 v2 v3 : Value) (x : Nat) (st : List Value) (w : zH) : zrun (some l) (242, 978, [v0, .ref x, v2, v3], st, w) = zrun (some l) (242, 979, [v0, .ref x, v2, v3], (.ref x :: st), w) := (zEs (i := .aload_n 1) (by decide +kernel) _ _ _).trans rfl
theorem e242_978n (l : List Value) (v0 v2 v3 : Value) (st : List Value) (w : zH) : zrun (some l) (242, 978, [v0, .null, v2, v3], st, w) = zrun (some l) (242, 979, [v0, .null, v2, v3], (.null :: st), w) := (zEs (i := .aload_n 1) (by decide +kernel) _ _ _).trans rfl
theorem e242_979 (l : List Value) (v1 v2 v3 : Value) (x : Nat) (st : List Value) (w : zH) : zrun (some l) (242, 979, [.ref x, v1, v2, v3], st, w) = zrun (some l) (242, 980, [.ref x, v1, v2, v3], (.ref x :: st), w) := (zEs (i := .aload_n 0) (by decide +kernel) _ _ _).trans rfl
theorem e242_979n (l : List Value) (v1 v2 v3 : Value) (st : List Value) (w : zH) : zrun (some l) (242, 979, [.null, v1, v2, v3], st, w) = zrun (some l) (242, 980, [.null, v1, v2, v3], (.null :: st), w) := (zEs (i := .aload_n 0) (by decide +kernel) _ _ _).trans rfl
theorem e242_980 (l : List Value) (v0 v1 v2 : Value) (x : Int32) (st : List Value) (w : zH) : zrun (some l) (242, 980, [v0, v1, v2, .int x], st, w) = zrun (some l) (242, 981, [v0, v1, v2, .int x], (.int x :: st), w) := (zEs (i := .iload_n 3) (by decide +kernel) _ _ _).trans rfl
theorem e242_981 (l : List Value) (ls st : List Value) (w : zH) : zrun (some l) (242, 981, ls, st, w) = zrun (some l) (242, 982, ls, (.int 1 :: st), w) := (zEs (i := .iconst 1) (by decide +kernel) _ _ _).trans rfl
theorem e242_982 (l : List Value) (ls : List Value) (a b : Int32) (st : List Value) (w : zH) : zrun (some l) (242, 982, ls, (.int b :: .int a :: st), w) = zrun (some l) (242, 983, ls, (.int (a + b) :: st), w) := (zEs (i := .iadd) (by decide +kernel) _ _ _).trans rfl
theorem e242_983 (l : List Value) (ls : List Value) (j : Int32) (st : List Value) (w : zH) : zrun (some l) (242, 983, ls, (.int j :: .ref 1000006 :: st), w) = zoi (zsx l j) (fun x => zrun (some l) (242, 984, ls, (.int x :: st), w)) := (zEs (i := .iaload) (by decide +kernel) _ _ _).trans zqs_iald
theorem e242_984 (l : List Value) (v1 v2 v3 : Value) (x : Nat) (st : List Value) (w : zH) : zrun (some l) (242, 984, [.ref x, v1, v2, v3], st, w) = zrun (some l) (242, 985, [.ref x, v1, v2, v3], (.ref x :: st), w) := (zEs (i := .aload_n 0) (by decide +kernel) _ _ _).trans rfl
theorem e242_984n (l : List Value) (v1 v2 v3 : Value) (st : List Value) (w : zH) : zrun (some l) (242, 984, [.null, v1, v2, v3], st, w) = zrun (some l) (242, 985, [.null, v1, v2, v3], (.null :: st), w) := (zEs (i := .aload_n 0) (by decide +kernel) _ _ _).trans rfl
theorem e242_985 (l : List Value) (v0 v1 v2 : Value) (x : Int32) (st : List Value) (w : zH) : zrun (some l) (242, 985, [v0, v1, v2, .int x], st, w) = zrun (some l) (242, 986, [v0, v1, v2, .int x], (.int x :: st), w) := (zEs (i := .iload_n 3) (by decide +kernel) _ _ _).trans rfl
theorem e242_986 (l : List Value) (ls st : List Value) (w : zH) : zrun (some l) (242, 986, ls, st, w) = zrun (some l) (242, 987, ls, (.int 2 :: st), w) := (zEs (i := .iconst 2) (by decide +kernel) _ _ _).trans rfl
theorem e242_987 (l : List Value) (ls : List Value) (a b : Int32) (st : List Value) (w : zH) : zrun (some l) (242, 987, ls, (.int b :: .int a :: st), w) = zrun (some l) (242, 988, ls, (.int (a + b) :: st), w) := (zEs (i := .iadd) (by decide +kernel) _ _ _).trans rfl
theorem e242_988 (l : List Value) (ls : List Value) (j : Int32) (st : List Value) (w : zH) : zrun (some l) (242, 988, ls, (.int j :: .ref 1000006 :: st), w) = zoi (zsx l j) (fun x => zrun (some l) (242, 989, ls, (.int x :: st), w)) := (zEs (i := .iaload) (by decide +kernel) _ _ _).trans zqs_iald
theorem e242_989 (l : List Value) (ls : List Value) (a : Nat) (x0 : Int32) (x1 : Int32) (st : List Value) (w : zH) (hr : zcat st ≤ 8) (hc : zis w a 11) : zrun (some l) (242, 989, ls, (.int x1 :: .int x0 :: .ref a :: st), w) = zcl (zrun (some l) (85, 0, [.ref a, .int x0, .int x1], [], w)) (fun r => zrun (some l) (242, 992, ls, r.1.toList ++ st, r.2)) := by
  refine (zEs (i := .invokevirtual 85) (by decide +kernel) _ _ _).trans ?_
  show zresx (some l) (zinv (some l) 85 242 989 ls (.int x1 :: .int x0 :: .ref a :: st) w) = _
  unfold zinv
  show zresx (some l) (if zrc (some l) 85 w (.ref a) = true then zcall 85 [.ref a, .int x0, .int x1] st 242 989 ls w else none) = _
  rw [if_pos (zrc_more (zrc_is hc (by decide +kernel)))]
  exact zqs_call hr (Nat.le_of_ble_eq_true rfl) rfl rfl
theorem e242_992 (l : List Value) (v0 v1 v3 : Value) (x : Nat) (st : List Value) (w : zH) : zrun (some l) (242, 992, [v0, v1, .ref x, v3], st, w) = zrun (some l) (242, 993, [v0, v1, .ref x, v3], (.ref x :: st), w) := (zEs (i := .aload_n 2) (by decide +kernel) _ _ _).trans rfl
theorem e242_992n (l : List Value) (v0 v1 v3 : Value) (st : List Value) (w : zH) : zrun (some l) (242, 992, [v0, v1, .null, v3], st, w) = zrun (some l) (242, 993, [v0, v1, .null, v3], (.null :: st), w) := (zEs (i := .aload_n 2) (by decide +kernel) _ _ _).trans rfl
theorem e242_993 (l : List Value) (v1 v2 v3 : Value) (x : Nat) (st : List Value) (w : zH) : zrun (some l) (242, 993, [.ref x, v1, v2, v3], st, w) = zrun (some l) (242, 994, [.ref x, v1, v2, v3], (.ref x :: st), w) := (zEs (i := .aload_n 0) (by decide +kernel) _ _ _).trans rfl
theorem e242_993n (l : List Value) (v1 v2 v3 : Value) (st : List Value) (w : zH) : zrun (some l) (242, 993, [.null, v1, v2, v3], st, w) = zrun (some l) (242, 994, [.null, v1, v2, v3], (.null :: st), w) := (zEs (i := .aload_n 0) (by decide +kernel) _ _ _).trans rfl
theorem e242_994 (l : List Value) (v0 v1 v2 : Value) (x : Int32) (st : List Value) (w : zH) : zrun (some l) (242, 994, [v0, v1, v2, .int x], st, w) = zrun (some l) (242, 995, [v0, v1, v2, .int x], (.int x :: st), w) := (zEs (i := .iload_n 3) (by decide +kernel) _ _ _).trans rfl
theorem e242_995 (l : List Value) (ls st : List Value) (w : zH) : zrun (some l) (242, 995, ls, st, w) = zrun (some l) (242, 996, ls, (.int 1 :: st), w) := (zEs (i := .iconst 1) (by decide +kernel) _ _ _).trans rfl
theorem e242_996 (l : List Value) (ls : List Value) (a b : Int32) (st : List Value) (w : zH) : zrun (some l) (242, 996, ls, (.int b :: .int a :: st), w) = zrun (some l) (242, 997, ls, (.int (a + b) :: st), w) := (zEs (i := .iadd) (by decide +kernel) _ _ _).trans rfl
theorem e242_997 (l : List Value) (ls : List Value) (j : Int32) (st : List Value) (w : zH) : zrun (some l) (242, 997, ls, (.int j :: .ref 1000006 :: st), w) = zoi (zsx l j) (fun x => zrun (some l) (242, 998, ls, (.int x :: st), w)) := (zEs (i := .iaload) (by decide +kernel) _ _ _).trans zqs_iald
theorem e242_998 (l : List Value) (v1 v2 v3 : Value) (x : Nat) (st : List Value) (w : zH) : zrun (some l) (242, 998, [.ref x, v1, v2, v3], st, w) = zrun (some l) (242, 999, [.ref x, v1, v2, v3], (.ref x :: st), w) := (zEs (i := .aload_n 0) (by decide +kernel) _ _ _).trans rfl
theorem e242_998n (l : List Value) (v1 v2 v3 : Value) (st : List Value) (w : zH) : zrun (some l) (242, 998, [.null, v1, v2, v3], st, w) = zrun (some l) (242, 999, [.null, v1, v2, v3], (.null :: st), w) := (zEs (i := .aload_n 0) (by decide +kernel) _ _ _).trans rfl
theorem e242_999 (l : List Value) (v0 v1 v2 : Value) (x : Int32) (st : List Value) (w : zH) : zrun (some l) (242, 999, [v0, v1, v2, .int x], st, w) = zrun (some l) (242, 1000, [v0, v1, v2, .int x], (.int x :: st), w) := (zEs (i := .iload_n 3) (by decide +kernel) _ _ _).trans rfl
theorem e242_1000 (l : List Value) (ls st : List Value) (w : zH) : zrun (some l) (242, 1000, ls, st, w) = zrun (some l) (242, 1001, ls, (.int 2 :: st), w) := (zEs (i := .iconst 2) (by decide +kernel) _ _ _).trans rfl
theorem e242_1001 (l : List Value) (ls : List Value) (a b : Int32) (st : List Value) (w : zH) : zrun (some l) (242, 1001, ls, (.int b :: .int a :: st), w) = zrun (some l) (242, 1002, ls, (.int (a + b) :: st), w) := (zEs (i := .iadd) (by decide +kernel) _ _ _).trans rfl
theorem e242_1002 (l : List Value) (ls : List Value) (j : Int32) (st : List Value) (w : zH) : zrun (some l) (242, 1002, ls, (.int j :: .ref 1000006 :: st), w) = zoi (zsx l j) (fun x => zrun (some l) (242, 1003, ls, (.int x :: st), w)) := (zEs (i := .iaload) (by decide +kernel) _ _ _).trans zqs_iald
theorem e242_1003 (l : List Value) (ls : List Value) (a : Nat) (x0 : Int32) (x1 : Int32) (st : List Value) (w : zH) (hr : zcat st ≤ 8) (hc : zis w a 12) : zrun (some l) (242, 1003, ls, (.int x1 :: .int x0 :: .ref a :: st), w) = zcl (zrun (some l) (199, 0, [.ref a, .int x0, .int x1], [], w)) (fun r => zrun (some l) (242, 1006, ls, r.1.toList ++ st, r.2)) := by
  refine (zEs (i := .invokevirtual 199) (by decide +kernel) _ _ _).trans ?_
  show zresx (some l) (zinv (some l) 199 242 1003 ls (.int x1 :: .int x0 :: .ref a :: st) w) = _
  unfold zinv
  show zresx (some l) (if zrc (some l) 199 w (.ref a) = true then zcall 199 [.ref a, .int x0, .int x1] st 242 1003 ls w else none) = _
  rw [if_pos (zrc_more (zrc_is hc (by decide +kernel)))]
  exact zqs_call hr (Nat.le_of_ble_eq_true rfl) rfl rfl
theorem e242_1006 (l : List Value) (ls : List Value) (a b : Int32) (st : List Value) (w : zH) : zrun (some l) (242, 1006, ls, (.int b :: .int a :: st), w) = if a = b then zrun (some l) (242, 1557, ls, st, w) else zrun (some l) (242, 1009, ls, st, w) := (zEs (i := .if_icmp .eq 551) (by decide +kernel) _ _ _).trans (zqs_ic_eq rfl rfl)
theorem e242_1009 (l : List Value) (ls st : List Value) (w : zH) : zrun (some l) (242, 1009, ls, st, w) = zrun (some l) (242, 1010, ls, (.int 0 :: st), w) := (zEs (i := .iconst 0) (by decide +kernel) _ _ _).trans rfl
theorem e242_1010 (l : List Value) (ls : List Value) (x : Int32) (w : zH) (h : narrow .boolean (.int x) = .int x) : zrun (some l) (242, 1010, ls, [.int x], w) = some (some (.int x), w) := by
  refine (zEs (i := .ireturn) (by decide +kernel) _ _ _).trans ?_
  show zresx (some l) (if narrow .boolean (.int x) = .int x then _ else none) = _
  rw [if_pos h]
  rfl
theorem e242_1011 (l : List Value) (v0 v2 v3 : Value) (x : Nat) (st : List Value) (w : zH) : zrun (some l) (242, 1011, [v0, .ref x, v2, v3], st, w) = zrun (some l) (242, 1012, [v0, .ref x, v2, v3], (.ref x :: st), w) := (zEs (i := .aload_n 1) (by decide +kernel) _ _ _).trans rfl
theorem e242_1011n (l : List Value) (v0 v2 v3 : Value) (st : List Value) (w : zH) : zrun (some l) (242, 1011, [v0, .null, v2, v3], st, w) = zrun (some l) (242, 1012, [v0, .null, v2, v3], (.null :: st), w) := (zEs (i := .aload_n 1) (by decide +kernel) _ _ _).trans rfl
theorem e242_1012 (l : List Value) (v1 v2 v3 : Value) (x : Nat) (st : List Value) (w : zH) : zrun (some l) (242, 1012, [.ref x, v1, v2, v3], st, w) = zrun (some l) (242, 1013, [.ref x, v1, v2, v3], (.ref x :: st), w) := (zEs (i := .aload_n 0) (by decide +kernel) _ _ _).trans rfl
theorem e242_1012n (l : List Value) (v1 v2 v3 : Value) (st : List Value) (w : zH) : zrun (some l) (242, 1012, [.null, v1, v2, v3], st, w) = zrun (some l) (242, 1013, [.null, v1, v2, v3], (.null :: st), w) := (zEs (i := .aload_n 0) (by decide +kernel) _ _ _).trans rfl
theorem e242_1013 (l : List Value) (v0 v1 v2 : Value) (x : Int32) (st : List Value) (w : zH) : zrun (some l) (242, 1013, [v0, v1, v2, .int x], st, w) = zrun (some l) (242, 1014, [v0, v1, v2, .int x], (.int x :: st), w) := (zEs (i := .iload_n 3) (by decide +kernel) _ _ _).trans rfl
theorem e242_1014 (l : List Value) (ls st : List Value) (w : zH) : zrun (some l) (242, 1014, ls, st, w) = zrun (some l) (242, 1015, ls, (.int 1 :: st), w) := (zEs (i := .iconst 1) (by decide +kernel) _ _ _).trans rfl
theorem e242_1015 (l : List Value) (ls : List Value) (a b : Int32) (st : List Value) (w : zH) : zrun (some l) (242, 1015, ls, (.int b :: .int a :: st), w) = zrun (some l) (242, 1016, ls, (.int (a + b) :: st), w) := (zEs (i := .iadd) (by decide +kernel) _ _ _).trans rfl
theorem e242_1016 (l : List Value) (ls : List Value) (j : Int32) (st : List Value) (w : zH) : zrun (some l) (242, 1016, ls, (.int j :: .ref 1000006 :: st), w) = zoi (zsx l j) (fun x => zrun (some l) (242, 1017, ls, (.int x :: st), w)) := (zEs (i := .iaload) (by decide +kernel) _ _ _).trans zqs_iald
theorem e242_1017 (l : List Value) (v1 v2 v3 : Value) (x : Nat) (st : List Value) (w : zH) : zrun (some l) (242, 1017, [.ref x, v1, v2, v3], st, w) = zrun (some l) (242, 1018, [.ref x, v1, v2, v3], (.ref x :: st), w) := (zEs (i := .aload_n 0) (by decide +kernel) _ _ _).trans rfl
theorem e242_1017n (l : List Value) (v1 v2 v3 : Value) (st : List Value) (w : zH) : zrun (some l) (242, 1017, [.null, v1, v2, v3], st, w) = zrun (some l) (242, 1018, [.null, v1, v2, v3], (.null :: st), w) := (zEs (i := .aload_n 0) (by decide +kernel) _ _ _).trans rfl
theorem e242_1018 (l : List Value) (v0 v1 v2 : Value) (x : Int32) (st : List Value) (w : zH) : zrun (some l) (242, 1018, [v0, v1, v2, .int x], st, w) = zrun (some l) (242, 1019, [v0, v1, v2, .int x], (.int x :: st), w) := (zEs (i := .iload_n 3) (by decide +kernel) _ _ _).trans rfl
theorem e242_1019 (l : List Value) (ls st : List Value) (w : zH) : zrun (some l) (242, 1019, ls, st, w) = zrun (some l) (242, 1020, ls, (.int 2 :: st), w) := (zEs (i := .iconst 2) (by decide +kernel) _ _ _).trans rfl
theorem e242_1020 (l : List Value) (ls : List Value) (a b : Int32) (st : List Value) (w : zH) : zrun (some l) (242, 1020, ls, (.int b :: .int a :: st), w) = zrun (some l) (242, 1021, ls, (.int (a + b) :: st), w) := (zEs (i := .iadd) (by decide +kernel) _ _ _).trans rfl
theorem e242_1021 (l : List Value) (ls : List Value) (j : Int32) (st : List Value) (w : zH) : zrun (some l) (242, 1021, ls, (.int j :: .ref 1000006 :: st), w) = zoi (zsx l j) (fun x => zrun (some l) (242, 1022, ls, (.int x :: st), w)) := (zEs (i := .iaload) (by decide +kernel) _ _ _).trans zqs_iald
theorem e242_1022 (l : List Value) (v1 v2 v3 : Value) (x : Nat) (st : List Value) (w : zH) : zrun (some l) (242, 1022, [.ref x, v1, v2, v3], st, w) = zrun (some l) (242, 1023, [.ref x, v1, v2, v3], (.ref x :: st), w) := (zEs (i := .aload_n 0) (by decide +kernel) _ _ _).trans rfl
theorem e242_1022n (l : List Value) (v1 v2 v3 : Value) (st : List Value) (w : zH) : zrun (some l) (242, 1022, [.null, v1, v2, v3], st, w) = zrun (some l) (242, 1023, [.null, v1, v2, v3], (.null :: st), w) := (zEs (i := .aload_n 0) (by decide +kernel) _ _ _).trans rfl
theorem e242_1023 (l : List Value) (v0 v1 v2 : Value) (x : Int32) (st : List Value) (w : zH) : zrun (some l) (242, 1023, [v0, v1, v2, .int x], st, w) = zrun (some l) (242, 1024, [v0, v1, v2, .int x], (.int x :: st), w) := (zEs (i := .iload_n 3) (by decide +kernel) _ _ _).trans rfl
theorem e242_1024 (l : List Value) (ls st : List Value) (w : zH) : zrun (some l) (242, 1024, ls, st, w) = zrun (some l) (242, 1025, ls, (.int 3 :: st), w) := (zEs (i := .iconst 3) (by decide +kernel) _ _ _).trans rfl
theorem e242_1025 (l : List Value) (ls : List Value) (a b : Int32) (st : List Value) (w : zH) : zrun (some l) (242, 1025, ls, (.int b :: .int a :: st), w) = zrun (some l) (242, 1026, ls, (.int (a + b) :: st), w) := (zEs (i := .iadd) (by decide +kernel) _ _ _).trans rfl
theorem e242_1026 (l : List Value) (ls : List Value) (j : Int32) (st : List Value) (w : zH) : zrun (some l) (242, 1026, ls, (.int j :: .ref 1000006 :: st), w) = zoi (zsx l j) (fun x => zrun (some l) (242, 1027, ls, (.int x :: st), w)) := (zEs (i := .iaload) (by decide +kernel) _ _ _).trans zqs_iald
theorem e242_1027 (l : List Value) (v1 v2 v3 : Value) (x : Nat) (st : List Value) (w : zH) : zrun (some l) (242, 1027, [.ref x, v1, v2, v3], st, w) = zrun (some l) (242, 1028, [.ref x, v1, v2, v3], (.ref x :: st), w) := (zEs (i := .aload_n 0) (by decide +kernel) _ _ _).trans rfl
theorem e242_1027n (l : List Value) (v1 v2 v3 : Value) (st : List Value) (w : zH) : zrun (some l) (242, 1027, [.null, v1, v2, v3], st, w) = zrun (some l) (242, 1028, [.null, v1, v2, v3], (.null :: st), w) := (zEs (i := .aload_n 0) (by decide +kernel) _ _ _).trans rfl
theorem e242_1028 (l : List Value) (v0 v1 v2 : Value) (x : Int32) (st : List Value) (w : zH) : zrun (some l) (242, 1028, [v0, v1, v2, .int x], st, w) = zrun (some l) (242, 1029, [v0, v1, v2, .int x], (.int x :: st), w) := (zEs (i := .iload_n 3) (by decide +kernel) _ _ _).trans rfl
theorem e242_1029 (l : List Value) (ls st : List Value) (w : zH) : zrun (some l) (242, 1029, ls, st, w) = zrun (some l) (242, 1030, ls, (.int 4 :: st), w) := (zEs (i := .iconst 4) (by decide +kernel) _ _ _).trans rfl
theorem e242_1030 (l : List Value) (ls : List Value) (a b : Int32) (st : List Value) (w : zH) : zrun (some l) (242, 1030, ls, (.int b :: .int a :: st), w) = zrun (some l) (242, 1031, ls, (.int (a + b) :: st), w) := (zEs (i := .iadd) (by decide +kernel) _ _ _).trans rfl
theorem e242_1031 (l : List Value) (ls : List Value) (j : Int32) (st : List Value) (w : zH) : zrun (some l) (242, 1031, ls, (.int j :: .ref 1000006 :: st), w) = zoi (zsx l j) (fun x => zrun (some l) (242, 1032, ls, (.int x :: st), w)) := (zEs (i := .iaload) (by decide +kernel) _ _ _).trans zqs_iald
theorem e242_1032 (l : List Value) (v1 v2 v3 : Value) (x : Nat) (st : List Value) (w : zH) : zrun (some l) (242, 1032, [.ref x, v1, v2, v3], st, w) = zrun (some l) (242, 1033, [.ref x, v1, v2, v3], (.ref x :: st), w) := (zEs (i := .aload_n 0) (by decide +kernel) _ _ _).trans rfl
theorem e242_1032n (l : List Value) (v1 v2 v3 : Value) (st : List Value) (w : zH) : zrun (some l) (242, 1032, [.null, v1, v2, v3], st, w) = zrun (some l) (242, 1033, [.null, v1, v2, v3], (.null :: st), w) := (zEs (i := .aload_n 0) (by decide +kernel) _ _ _).trans rfl
theorem e242_1033 (l : List Value) (v0 v1 v2 : Value) (x : Int32) (st : List Value) (w : zH) : zrun (some l) (242, 1033, [v0, v1, v2, .int x], st, w) = zrun (some l) (242, 1034, [v0, v1, v2, .int x], (.int x :: st), w) := (zEs (i := .iload_n 3) (by decide +kernel) _ _ _).trans rfl
theorem e242_1034 (l : List Value) (ls st : List Value) (w : zH) : zrun (some l) (242, 1034, ls, st, w) = zrun (some l) (242, 1035, ls, (.int 5 :: st), w) := (zEs (i := .iconst 5) (by decide +kernel) _ _ _).trans rfl
theorem e242_1035 (l : List Value) (ls : List Value) (a b : Int32) (st : List Value) (w : zH) : zrun (some l) (242, 1035, ls, (.int b :: .int a :: st), w) = zrun (some l) (242, 1036, ls, (.int (a + b) :: st), w) := (zEs (i := .iadd) (by decide +kernel) _ _ _).trans rfl
theorem e242_1036 (l : List Value) (ls : List Value) (j : Int32) (st : List Value) (w : zH) : zrun (some l) (242, 1036, ls, (.int j :: .ref 1000006 :: st), w) = zoi (zsx l j) (fun x => zrun (some l) (242, 1037, ls, (.int x :: st), w)) := (zEs (i := .iaload) (by decide +kernel) _ _ _).trans zqs_iald
theorem e242_1037 (l : List Value) (ls : List Value) (a : Nat) (x0 : Int32) (x1 : Int32) (x2 : Int32) (x3 : Int32) (x4 : Int32) (st : List Value) (w : zH) (hr : zcat st ≤ 8) (hc : zis w a 11) : zrun (some l) (242, 1037, ls, (.int x4 :: .int x3 :: .int x2 :: .int x1 :: .int x0 :: .ref a :: st), w) = zcl (zrun (some l) (86, 0, [.ref a, .int x0, .int x1, .int x2, .int x3, .int x4, zJ, zJ], [], w)) (fun r => zrun (some l) (242, 1040, ls, r.1.toList ++ st, r.2)) := by
  refine (zEs (i := .invokevirtual 86) (by decide +kernel) _ _ _).trans ?_
  show zresx (some l) (zinv (some l) 86 242 1037 ls (.int x4 :: .int x3 :: .int x2 :: .int x1 :: .int x0 :: .ref a :: st) w) = _
  unfold zinv
  show zresx (some l) (if zrc (some l) 86 w (.ref a) = true then zcall 86 [.ref a, .int x0, .int x1, .int x2, .int x3, .int x4] st 242 1037 ls w else none) = _
  rw [if_pos (zrc_more (zrc_is hc (by decide +kernel)))]
  exact zqs_call hr (Nat.le_of_ble_eq_true rfl) rfl rfl
theorem e242_1040 (l : List Value) (v0 v1 v3 : Value) (x : Nat) (st : List Value) (w : zH) : zrun (some l) (242, 1040, [v0, v1, .ref x, v3], st, w) = zrun (some l) (242, 1041, [v0, v1, .ref x, v3], (.ref x :: st), w) := (zEs (i := .aload_n 2) (by decide +kernel) _ _ _).trans rfl
theorem e242_1040n (l : List Value) (v0 v1 v3 : Value) (st : List Value) (w : zH) : zrun (some l) (242, 1040, [v0, v1, .null, v3], st, w) = zrun (some l) (242, 1041, [v0, v1, .null, v3], (.null :: st), w) := (zEs (i := .aload_n 2) (by decide +kernel) _ _ _).trans rfl
theorem e242_1041 (l : List Value) (v1 v2 v3 : Value) (x : Nat) (st : List Value) (w : zH) : zrun (some l) (242, 1041, [.ref x, v1, v2, v3], st, w) = zrun (some l) (242, 1042, [.ref x, v1, v2, v3], (.ref x :: st), w) := (zEs (i := .aload_n 0) (by decide +kernel) _ _ _).trans rfl
theorem e242_1041n (l : List Value) (v1 v2 v3 : Value) (st : List Value) (w : zH) : zrun (some l) (242, 1041, [.null, v1, v2, v3], st, w) = zrun (some l) (242, 1042, [.null, v1, v2, v3], (.null :: st), w) := (zEs (i := .aload_n 0) (by decide +kernel) _ _ _).trans rfl
theorem e242_1042 (l : List Value) (v0 v1 v2 : Value) (x : Int32) (st : List Value) (w : zH) : zrun (some l) (242, 1042, [v0, v1, v2, .int x], st, w) = zrun (some l) (242, 1043, [v0, v1, v2, .int x], (.int x :: st), w) := (zEs (i := .iload_n 3) (by decide +kernel) _ _ _).trans rfl
theorem e242_1043 (l : List Value) (ls st : List Value) (w : zH) : zrun (some l) (242, 1043, ls, st, w) = zrun (some l) (242, 1044, ls, (.int 1 :: st), w) := (zEs (i := .iconst 1) (by decide +kernel) _ _ _).trans rfl
theorem e242_1044 (l : List Value) (ls : List Value) (a b : Int32) (st : List Value) (w : zH) : zrun (some l) (242, 1044, ls, (.int b :: .int a :: st), w) = zrun (some l) (242, 1045, ls, (.int (a + b) :: st), w) := (zEs (i := .iadd) (by decide +kernel) _ _ _).trans rfl
theorem e242_1045 (l : List Value) (ls : List Value) (j : Int32) (st : List Value) (w : zH) : zrun (some l) (242, 1045, ls, (.int j :: .ref 1000006 :: st), w) = zoi (zsx l j) (fun x => zrun (some l) (242, 1046, ls, (.int x :: st), w)) := (zEs (i := .iaload) (by decide +kernel) _ _ _).trans zqs_iald
theorem e242_1046 (l : List Value) (v1 v2 v3 : Value) (x : Nat) (st : List Value) (w : zH) : zrun (some l) (242, 1046, [.ref x, v1, v2, v3], st, w) = zrun (some l) (242, 1047, [.ref x, v1, v2, v3], (.ref x :: st), w) := (zEs (i := .aload_n 0) (by decide +kernel) _ _ _).trans rfl
theorem e242_1046n (l : List Value) (v1 v2 v3 : Value) (st : List Value) (w : zH) : zrun (some l) (242, 1046, [.null, v1, v2, v3], st, w) = zrun (some l) (242, 1047, [.null, v1, v2, v3], (.null :: st), w) := (zEs (i := .aload_n 0) (by decide +kernel) _ _ _).trans rfl
theorem e242_1047 (l : List Value) (v0 v1 v2 : Value) (x : Int32) (st : List Value) (w : zH) : zrun (some l) (242, 1047, [v0, v1, v2, .int x], st, w) = zrun (some l) (242, 1048, [v0, v1, v2, .int x], (.int x :: st), w) := (zEs (i := .iload_n 3) (by decide +kernel) _ _ _).trans rfl
theorem e242_1048 (l : List Value) (ls st : List Value) (w : zH) : zrun (some l) (242, 1048, ls, st, w) = zrun (some l) (242, 1049, ls, (.int 2 :: st), w) := (zEs (i := .iconst 2) (by decide +kernel) _ _ _).trans rfl
theorem e242_1049 (l : List Value) (ls : List Value) (a b : Int32) (st : List Value) (w : zH) : zrun (some l) (242, 1049, ls, (.int b :: .int a :: st), w) = zrun (some l) (242, 1050, ls, (.int (a + b) :: st), w) := (zEs (i := .iadd) (by decide +kernel) _ _ _).trans rfl
theorem e242_1050 (l : List Value) (ls : List Value) (j : Int32) (st : List Value) (w : zH) : zrun (some l) (242, 1050, ls, (.int j :: .ref 1000006 :: st), w) = zoi (zsx l j) (fun x => zrun (some l) (242, 1051, ls, (.int x :: st), w)) := (zEs (i := .iaload) (by decide +kernel) _ _ _).trans zqs_iald
theorem e242_1051 (l : List Value) (v1 v2 v3 : Value) (x : Nat) (st : List Value) (w : zH) : zrun (some l) (242, 1051, [.ref x, v1, v2, v3], st, w) = zrun (some l) (242, 1052, [.ref x, v1, v2, v3], (.ref x :: st), w) := (zEs (i := .aload_n 0) (by decide +kernel) _ _ _).trans rfl
theorem e242_1051n (l : List Value) (v1 v2 v3 : Value) (st : List Value) (w : zH) : zrun (some l) (242, 1051, [.null, v1, v2, v3], st, w) = zrun (some l) (242, 1052, [.null, v1, v2, v3], (.null :: st), w) := (zEs (i := .aload_n 0) (by decide +kernel) _ _ _).trans rfl
theorem e242_1052 (l : List Value) (v0 v1 v2 : Value) (x : Int32) (st : List Value) (w : zH) : zrun (some l) (242, 1052, [v0, v1, v2, .int x], st, w) = zrun (some l) (242, 1053, [v0, v1, v2, .int x], (.int x :: st), w) := (zEs (i := .iload_n 3) (by decide +kernel) _ _ _).trans rfl
theorem e242_1053 (l : List Value) (ls st : List Value) (w : zH) : zrun (some l) (242, 1053, ls, st, w) = zrun (some l) (242, 1054, ls, (.int 3 :: st), w) := (zEs (i := .iconst 3) (by decide +kernel) _ _ _).trans rfl
theorem e242_1054 (l : List Value) (ls : List Value) (a b : Int32) (st : List Value) (w : zH) : zrun (some l) (242, 1054, ls, (.int b :: .int a :: st), w) = zrun (some l) (242, 1055, ls, (.int (a + b) :: st), w) := (zEs (i := .iadd) (by decide +kernel) _ _ _).trans rfl
theorem e242_1055 (l : List Value) (ls : List Value) (j : Int32) (st : List Value) (w : zH) : zrun (some l) (242, 1055, ls, (.int j :: .ref 1000006 :: st), w) = zoi (zsx l j) (fun x => zrun (some l) (242, 1056, ls, (.int x :: st), w)) := (zEs (i := .iaload) (by decide +kernel) _ _ _).trans zqs_iald
theorem e242_1056 (l : List Value) (v1 v2 v3 : Value) (x : Nat) (st : List Value) (w : zH) : zrun (some l) (242, 1056, [.ref x, v1, v2, v3], st, w) = zrun (some l) (242, 1057, [.ref x, v1, v2, v3], (.ref x :: st), w) := (zEs (i := .aload_n 0) (by decide +kernel) _ _ _).trans rfl
theorem e242_1056n (l : List Value) (v1 v2 v3 : Value) (st : List Value) (w : zH) : zrun (some l) (242, 1056, [.null, v1, v2, v3], st, w) = zrun (some l) (242, 1057, [.null, v1, v2, v3], (.null :: st), w) := (zEs (i := .aload_n 0) (by decide +kernel) _ _ _).trans rfl
theorem e242_1057 (l : List Value) (v0 v1 v2 : Value) (x : Int32) (st : List Value) (w : zH) : zrun (some l) (242, 1057, [v0, v1, v2, .int x], st, w) = zrun (some l) (242, 1058, [v0, v1, v2, .int x], (.int x :: st), w) := (zEs (i := .iload_n 3) (by decide +kernel) _ _ _).trans rfl
theorem e242_1058 (l : List Value) (ls st : List Value) (w : zH) : zrun (some l) (242, 1058, ls, st, w) = zrun (some l) (242, 1059, ls, (.int 4 :: st), w) := (zEs (i := .iconst 4) (by decide +kernel) _ _ _).trans rfl
theorem e242_1059 (l : List Value) (ls : List Value) (a b : Int32) (st : List Value) (w : zH) : zrun (some l) (242, 1059, ls, (.int b :: .int a :: st), w) = zrun (some l) (242, 1060, ls, (.int (a + b) :: st), w) := (zEs (i := .iadd) (by decide +kernel) _ _ _).trans rfl
theorem e242_1060 (l : List Value) (ls : List Value) (j : Int32) (st : List Value) (w : zH) : zrun (some l) (242, 1060, ls, (.int j :: .ref 1000006 :: st), w) = zoi (zsx l j) (fun x => zrun (some l) (242, 1061, ls, (.int x :: st), w)) := (zEs (i := .iaload) (by decide +kernel) _ _ _).trans zqs_iald
theorem e242_1061 (l : List Value) (v1 v2 v3 : Value) (x : Nat) (st : List Value) (w : zH) : zrun (some l) (242, 1061, [.ref x, v1, v2, v3], st, w) = zrun (some l) (242, 1062, [.ref x, v1, v2, v3], (.ref x :: st), w) := (zEs (i := .aload_n 0) (by decide +kernel) _ _ _).trans rfl
theorem e242_1061n (l : List Value) (v1 v2 v3 : Value) (st : List Value) (w : zH) : zrun (some l) (242, 1061, [.null, v1, v2, v3], st, w) = zrun (some l) (242, 1062, [.null, v1, v2, v3], (.null :: st), w) := (zEs (i := .aload_n 0) (by decide +kernel) _ _ _).trans rfl
theorem e242_1062 (l : List Value) (v0 v1 v2 : Value) (x : Int32) (st : List Value) (w : zH) : zrun (some l) (242, 1062, [v0, v1, v2, .int x], st, w) = zrun (some l) (242, 1063, [v0, v1, v2, .int x], (.int x :: st), w) := (zEs (i := .iload_n 3) (by decide +kernel) _ _ _).trans rfl
theorem e242_1063 (l : List Value) (ls st : List Value) (w : zH) : zrun (some l) (242, 1063, ls, st, w) = zrun (some l) (242, 1064, ls, (.int 5 :: st), w) := (zEs (i := .iconst 5) (by decide +kernel) _ _ _).trans rfl
theorem e242_1064 (l : List Value) (ls : List Value) (a b : Int32) (st : List Value) (w : zH) : zrun (some l) (242, 1064, ls, (.int b :: .int a :: st), w) = zrun (some l) (242, 1065, ls, (.int (a + b) :: st), w) := (zEs (i := .iadd) (by decide +kernel) _ _ _).trans rfl
theorem e242_1065 (l : List Value) (ls : List Value) (j : Int32) (st : List Value) (w : zH) : zrun (some l) (242, 1065, ls, (.int j :: .ref 1000006 :: st), w) = zoi (zsx l j) (fun x => zrun (some l) (242, 1066, ls, (.int x :: st), w)) := (zEs (i := .iaload) (by decide +kernel) _ _ _).trans zqs_iald
theorem e242_1066 (l : List Value) (ls : List Value) (a : Nat) (x0 : Int32) (x1 : Int32) (x2 : Int32) (x3 : Int32) (x4 : Int32) (st : List Value) (w : zH) (hr : zcat st ≤ 8) (hc : zis w a 12) : zrun (some l) (242, 1066, ls, (.int x4 :: .int x3 :: .int x2 :: .int x1 :: .int x0 :: .ref a :: st), w) = zcl (zrun (some l) (201, 0, [.ref a, .int x0, .int x1, .int x2, .int x3, .int x4, zJ, zJ, zJ, zJ, zJ], [], w)) (fun r => zrun (some l) (242, 1069, ls, r.1.toList ++ st, r.2)) := by
  refine (zEs (i := .invokevirtual 201) (by decide +kernel) _ _ _).trans ?_
  show zresx (some l) (zinv (some l) 201 242 1066 ls (.int x4 :: .int x3 :: .int x2 :: .int x1 :: .int x0 :: .ref a :: st) w) = _
  unfold zinv
  show zresx (some l) (if zrc (some l) 201 w (.ref a) = true then zcall 201 [.ref a, .int x0, .int x1, .int x2, .int x3, .int x4] st 242 1066 ls w else none) = _
  rw [if_pos (zrc_more (zrc_is hc (by decide +kernel)))]
  exact zqs_call hr (Nat.le_of_ble_eq_true rfl) rfl rfl
theorem e242_1069 (l : List Value) (ls : List Value) (a b : Int32) (st : List Value) (w : zH) : zrun (some l) (242, 1069, ls, (.int b :: .int a :: st), w) = if a = b then zrun (some l) (242, 1557, ls, st, w) else zrun (some l) (242, 1072, ls, st, w) := (zEs (i := .if_icmp .eq 488) (by decide +kernel) _ _ _).trans (zqs_ic_eq rfl rfl)
theorem e242_1072 (l : List Value) (ls st : List Value) (w : zH) : zrun (some l) (242, 1072, ls, st, w) = zrun (some l) (242, 1073, ls, (.int 0 :: st), w) := (zEs (i := .iconst 0) (by decide +kernel) _ _ _).trans rfl
theorem e242_1073 (l : List Value) (ls : List Value) (x : Int32) (w : zH) (h : narrow .boolean (.int x) = .int x) : zrun (some l) (242, 1073, ls, [.int x], w) = some (some (.int x), w) := by
  refine (zEs (i := .ireturn) (by decide +kernel) _ _ _).trans ?_
  show zresx (some l) (if narrow .boolean (.int x) = .int x then _ else none) = _
  rw [if_pos h]
  rfl
theorem e242_1074 (l : List Value) (v0 v2 v3 : Value) (x : Nat) (st : List Value) (w : zH) : zrun (some l) (242, 1074, [v0, .ref x, v2, v3], st, w) = zrun (some l) (242, 1075, [v0, .ref x, v2, v3], (.ref x :: st), w) := (zEs (i := .aload_n 1) (by decide +kernel) _ _ _).trans rfl
theorem e242_1074n (l : List Value) (v0 v2 v3 : Value) (st : List Value) (w : zH) : zrun (some l) (242, 1074, [v0, .null, v2, v3], st, w) = zrun (some l) (242, 1075, [v0, .null, v2, v3], (.null :: st), w) := (zEs (i := .aload_n 1) (by decide +kernel) _ _ _).trans rfl
theorem e242_1075 (l : List Value) (v1 v2 v3 : Value) (x : Nat) (st : List Value) (w : zH) : zrun (some l) (242, 1075, [.ref x, v1, v2, v3], st, w) = zrun (some l) (242, 1076, [.ref x, v1, v2, v3], (.ref x :: st), w) := (zEs (i := .aload_n 0) (by decide +kernel) _ _ _).trans rfl
theorem e242_1075n (l : List Value) (v1 v2 v3 : Value) (st : List Value) (w : zH) : zrun (some l) (242, 1075, [.null, v1, v2, v3], st, w) = zrun (some l) (242, 1076, [.null, v1, v2, v3], (.null :: st), w) := (zEs (i := .aload_n 0) (by decide +kernel) _ _ _).trans rfl
theorem e242_1076 (l : List Value) (v0 v1 v2 : Value) (x : Int32) (st : List Value) (w : zH) : zrun (some l) (242, 1076, [v0, v1, v2, .int x], st, w) = zrun (some l) (242, 1077, [v0, v1, v2, .int x], (.int x :: st), w) := (zEs (i := .iload_n 3) (by decide +kernel) _ _ _).trans rfl
theorem e242_1077 (l : List Value) (ls st : List Value) (w : zH) : zrun (some l) (242, 1077, ls, st, w) = zrun (some l) (242, 1078, ls, (.int 1 :: st), w) := (zEs (i := .iconst 1) (by decide +kernel) _ _ _).trans rfl
theorem e242_1078 (l : List Value) (ls : List Value) (a b : Int32) (st : List Value) (w : zH) : zrun (some l) (242, 1078, ls, (.int b :: .int a :: st), w) = zrun (some l) (242, 1079, ls, (.int (a + b) :: st), w) := (zEs (i := .iadd) (by decide +kernel) _ _ _).trans rfl
theorem e242_1079 (l : List Value) (ls : List Value) (j : Int32) (st : List Value) (w : zH) : zrun (some l) (242, 1079, ls, (.int j :: .ref 1000006 :: st), w) = zoi (zsx l j) (fun x => zrun (some l) (242, 1080, ls, (.int x :: st), w)) := (zEs (i := .iaload) (by decide +kernel) _ _ _).trans zqs_iald
theorem e242_1080 (l : List Value) (v1 v2 v3 : Value) (x : Nat) (st : List Value) (w : zH) : zrun (some l) (242, 1080, [.ref x, v1, v2, v3], st, w) = zrun (some l) (242, 1081, [.ref x, v1, v2, v3], (.ref x :: st), w) := (zEs (i := .aload_n 0) (by decide +kernel) _ _ _).trans rfl
theorem e242_1080n (l : List Value) (v1 v2 v3 : Value) (st : List Value) (w : zH) : zrun (some l) (242, 1080, [.null, v1, v2, v3], st, w) = zrun (some l) (242, 1081, [.null, v1, v2, v3], (.null :: st), w) := (zEs (i := .aload_n 0) (by decide +kernel) _ _ _).trans rfl
theorem e242_1081 (l : List Value) (v0 v1 v2 : Value) (x : Int32) (st : List Value) (w : zH) : zrun (some l) (242, 1081, [v0, v1, v2, .int x], st, w) = zrun (some l) (242, 1082, [v0, v1, v2, .int x], (.int x :: st), w) := (zEs (i := .iload_n 3) (by decide +kernel) _ _ _).trans rfl
theorem e242_1082 (l : List Value) (ls st : List Value) (w : zH) : zrun (some l) (242, 1082, ls, st, w) = zrun (some l) (242, 1083, ls, (.int 2 :: st), w) := (zEs (i := .iconst 2) (by decide +kernel) _ _ _).trans rfl
theorem e242_1083 (l : List Value) (ls : List Value) (a b : Int32) (st : List Value) (w : zH) : zrun (some l) (242, 1083, ls, (.int b :: .int a :: st), w) = zrun (some l) (242, 1084, ls, (.int (a + b) :: st), w) := (zEs (i := .iadd) (by decide +kernel) _ _ _).trans rfl
theorem e242_1084 (l : List Value) (ls : List Value) (j : Int32) (st : List Value) (w : zH) : zrun (some l) (242, 1084, ls, (.int j :: .ref 1000006 :: st), w) = zoi (zsx l j) (fun x => zrun (some l) (242, 1085, ls, (.int x :: st), w)) := (zEs (i := .iaload) (by decide +kernel) _ _ _).trans zqs_iald
theorem e242_1085 (l : List Value) (v1 v2 v3 : Value) (x : Nat) (st : List Value) (w : zH) : zrun (some l) (242, 1085, [.ref x, v1, v2, v3], st, w) = zrun (some l) (242, 1086, [.ref x, v1, v2, v3], (.ref x :: st), w) := (zEs (i := .aload_n 0) (by decide +kernel) _ _ _).trans rfl
theorem e242_1085n (l : List Value) (v1 v2 v3 : Value) (st : List Value) (w : zH) : zrun (some l) (242, 1085, [.null, v1, v2, v3], st, w) = zrun (some l) (242, 1086, [.null, v1, v2, v3], (.null :: st), w) := (zEs (i := .aload_n 0) (by decide +kernel) _ _ _).trans rfl
theorem e242_1086 (l : List Value) (v0 v1 v2 : Value) (x : Int32) (st : List Value) (w : zH) : zrun (some l) (242, 1086, [v0, v1, v2, .int x], st, w) = zrun (some l) (242, 1087, [v0, v1, v2, .int x], (.int x :: st), w) := (zEs (i := .iload_n 3) (by decide +kernel) _ _ _).trans rfl
theorem e242_1087 (l : List Value) (ls st : List Value) (w : zH) : zrun (some l) (242, 1087, ls, st, w) = zrun (some l) (242, 1088, ls, (.int 3 :: st), w) := (zEs (i := .iconst 3) (by decide +kernel) _ _ _).trans rfl
theorem e242_1088 (l : List Value) (ls : List Value) (a b : Int32) (st : List Value) (w : zH) : zrun (some l) (242, 1088, ls, (.int b :: .int a :: st), w) = zrun (some l) (242, 1089, ls, (.int (a + b) :: st), w) := (zEs (i := .iadd) (by decide +kernel) _ _ _).trans rfl
theorem e242_1089 (l : List Value) (ls : List Value) (j : Int32) (st : List Value) (w : zH) : zrun (some l) (242, 1089, ls, (.int j :: .ref 1000006 :: st), w) = zoi (zsx l j) (fun x => zrun (some l) (242, 1090, ls, (.int x :: st), w)) := (zEs (i := .iaload) (by decide +kernel) _ _ _).trans zqs_iald
theorem e242_1090 (l : List Value) (v1 v2 v3 : Value) (x : Nat) (st : List Value) (w : zH) : zrun (some l) (242, 1090, [.ref x, v1, v2, v3], st, w) = zrun (some l) (242, 1091, [.ref x, v1, v2, v3], (.ref x :: st), w) := (zEs (i := .aload_n 0) (by decide +kernel) _ _ _).trans rfl
theorem e242_1090n (l : List Value) (v1 v2 v3 : Value) (st : List Value) (w : zH) : zrun (some l) (242, 1090, [.null, v1, v2, v3], st, w) = zrun (some l) (242, 1091, [.null, v1, v2, v3], (.null :: st), w) := (zEs (i := .aload_n 0) (by decide +kernel) _ _ _).trans rfl
theorem e242_1091 (l : List Value) (v0 v1 v2 : Value) (x : Int32) (st : List Value) (w : zH) : zrun (some l) (242, 1091, [v0, v1, v2, .int x], st, w) = zrun (some l) (242, 1092, [v0, v1, v2, .int x], (.int x :: st), w) := (zEs (i := .iload_n 3) (by decide +kernel) _ _ _).trans rfl
theorem e242_1092 (l : List Value) (ls st : List Value) (w : zH) : zrun (some l) (242, 1092, ls, st, w) = zrun (some l) (242, 1093, ls, (.int 4 :: st), w) := (zEs (i := .iconst 4) (by decide +kernel) _ _ _).trans rfl
theorem e242_1093 (l : List Value) (ls : List Value) (a b : Int32) (st : List Value) (w : zH) : zrun (some l) (242, 1093, ls, (.int b :: .int a :: st), w) = zrun (some l) (242, 1094, ls, (.int (a + b) :: st), w) := (zEs (i := .iadd) (by decide +kernel) _ _ _).trans rfl
theorem e242_1094 (l : List Value) (ls : List Value) (j : Int32) (st : List Value) (w : zH) : zrun (some l) (242, 1094, ls, (.int j :: .ref 1000006 :: st), w) = zoi (zsx l j) (fun x => zrun (some l) (242, 1095, ls, (.int x :: st), w)) := (zEs (i := .iaload) (by decide +kernel) _ _ _).trans zqs_iald
theorem e242_1095 (l : List Value) (v1 v2 v3 : Value) (x : Nat) (st : List Value) (w : zH) : zrun (some l) (242, 1095, [.ref x, v1, v2, v3], st, w) = zrun (some l) (242, 1096, [.ref x, v1, v2, v3], (.ref x :: st), w) := (zEs (i := .aload_n 0) (by decide +kernel) _ _ _).trans rfl
theorem e242_1095n (l : List Value) (v1 v2 v3 : Value) (st : List Value) (w : zH) : zrun (some l) (242, 1095, [.null, v1, v2, v3], st, w) = zrun (some l) (242, 1096, [.null, v1, v2, v3], (.null :: st), w) := (zEs (i := .aload_n 0) (by decide +kernel) _ _ _).trans rfl
theorem e242_1096 (l : List Value) (v0 v1 v2 : Value) (x : Int32) (st : List Value) (w : zH) : zrun (some l) (242, 1096, [v0, v1, v2, .int x], st, w) = zrun (some l) (242, 1097, [v0, v1, v2, .int x], (.int x :: st), w) := (zEs (i := .iload_n 3) (by decide +kernel) _ _ _).trans rfl
theorem e242_1097 (l : List Value) (ls st : List Value) (w : zH) : zrun (some l) (242, 1097, ls, st, w) = zrun (some l) (242, 1098, ls, (.int 5 :: st), w) := (zEs (i := .iconst 5) (by decide +kernel) _ _ _).trans rfl
theorem e242_1098 (l : List Value) (ls : List Value) (a b : Int32) (st : List Value) (w : zH) : zrun (some l) (242, 1098, ls, (.int b :: .int a :: st), w) = zrun (some l) (242, 1099, ls, (.int (a + b) :: st), w) := (zEs (i := .iadd) (by decide +kernel) _ _ _).trans rfl
theorem e242_1099 (l : List Value) (ls : List Value) (j : Int32) (st : List Value) (w : zH) : zrun (some l) (242, 1099, ls, (.int j :: .ref 1000006 :: st), w) = zoi (zsx l j) (fun x => zrun (some l) (242, 1100, ls, (.int x :: st), w)) := (zEs (i := .iaload) (by decide +kernel) _ _ _).trans zqs_iald
theorem e242_1100 (l : List Value) (v1 v2 v3 : Value) (x : Nat) (st : List Value) (w : zH) : zrun (some l) (242, 1100, [.ref x, v1, v2, v3], st, w) = zrun (some l) (242, 1101, [.ref x, v1, v2, v3], (.ref x :: st), w) := (zEs (i := .aload_n 0) (by decide +kernel) _ _ _).trans rfl
theorem e242_1100n (l : List Value) (v1 v2 v3 : Value) (st : List Value) (w : zH) : zrun (some l) (242, 1100, [.null, v1, v2, v3], st, w) = zrun (some l) (242, 1101, [.null, v1, v2, v3], (.null :: st), w) := (zEs (i := .aload_n 0) (by decide +kernel) _ _ _).trans rfl
theorem e242_1101 (l : List Value) (v0 v1 v2 : Value) (x : Int32) (st : List Value) (w : zH) : zrun (some l) (242, 1101, [v0, v1, v2, .int x], st, w) = zrun (some l) (242, 1102, [v0, v1, v2, .int x], (.int x :: st), w) := (zEs (i := .iload_n 3) (by decide +kernel) _ _ _).trans rfl
theorem e242_1102 (l : List Value) (ls st : List Value) (w : zH) : zrun (some l) (242, 1102, ls, st, w) = zrun (some l) (242, 1104, ls, (.int 6 :: st), w) := (zEs (i := .bipush 6) (by decide +kernel) _ _ _).trans rfl
theorem e242_1104 (l : List Value) (ls : List Value) (a b : Int32) (st : List Value) (w : zH) : zrun (some l) (242, 1104, ls, (.int b :: .int a :: st), w) = zrun (some l) (242, 1105, ls, (.int (a + b) :: st), w) := (zEs (i := .iadd) (by decide +kernel) _ _ _).trans rfl
theorem e242_1105 (l : List Value) (ls : List Value) (j : Int32) (st : List Value) (w : zH) : zrun (some l) (242, 1105, ls, (.int j :: .ref 1000006 :: st), w) = zoi (zsx l j) (fun x => zrun (some l) (242, 1106, ls, (.int x :: st), w)) := (zEs (i := .iaload) (by decide +kernel) _ _ _).trans zqs_iald
theorem e242_1106 (l : List Value) (v1 v2 v3 : Value) (x : Nat) (st : List Value) (w : zH) : zrun (some l) (242, 1106, [.ref x, v1, v2, v3], st, w) = zrun (some l) (242, 1107, [.ref x, v1, v2, v3], (.ref x :: st), w) := (zEs (i := .aload_n 0) (by decide +kernel) _ _ _).trans rfl
theorem e242_1106n (l : List Value) (v1 v2 v3 : Value) (st : List Value) (w : zH) : zrun (some l) (242, 1106, [.null, v1, v2, v3], st, w) = zrun (some l) (242, 1107, [.null, v1, v2, v3], (.null :: st), w) := (zEs (i := .aload_n 0) (by decide +kernel) _ _ _).trans rfl
theorem e242_1107 (l : List Value) (v0 v1 v2 : Value) (x : Int32) (st : List Value) (w : zH) : zrun (some l) (242, 1107, [v0, v1, v2, .int x], st, w) = zrun (some l) (242, 1108, [v0, v1, v2, .int x], (.int x :: st), w) := (zEs (i := .iload_n 3) (by decide +kernel) _ _ _).trans rfl
theorem e242_1108 (l : List Value) (ls st : List Value) (w : zH) : zrun (some l) (242, 1108, ls, st, w) = zrun (some l) (242, 1110, ls, (.int 7 :: st), w) := (zEs (i := .bipush 7) (by decide +kernel) _ _ _).trans rfl
theorem e242_1110 (l : List Value) (ls : List Value) (a b : Int32) (st : List Value) (w : zH) : zrun (some l) (242, 1110, ls, (.int b :: .int a :: st), w) = zrun (some l) (242, 1111, ls, (.int (a + b) :: st), w) := (zEs (i := .iadd) (by decide +kernel) _ _ _).trans rfl
theorem e242_1111 (l : List Value) (ls : List Value) (j : Int32) (st : List Value) (w : zH) : zrun (some l) (242, 1111, ls, (.int j :: .ref 1000006 :: st), w) = zoi (zsx l j) (fun x => zrun (some l) (242, 1112, ls, (.int x :: st), w)) := (zEs (i := .iaload) (by decide +kernel) _ _ _).trans zqs_iald
theorem e242_1112 (l : List Value) (ls : List Value) (a : Nat) (x0 : Int32) (x1 : Int32) (x2 : Int32) (x3 : Int32) (x4 : Int32) (x5 : Int32) (x6 : Int32) (st : List Value) (w : zH) (hr : zcat st ≤ 8) (hc : zis w a 11) : zrun (some l) (242, 1112, ls, (.int x6 :: .int x5 :: .int x4 :: .int x3 :: .int x2 :: .int x1 :: .int x0 :: .ref a :: st), w) = zcl (zrun (some l) (87, 0, [.ref a, .int x0, .int x1, .int x2, .int x3, .int x4, .int x5, .int x6, zJ, zJ, zJ], [], w)) (fun r => zrun (some l) (242, 1115, ls, r.1.toList ++ st, r.2)) := by
  refine (zEs (i := .invokevirtual 87) (by decide +kernel) _ _ _).trans ?_
  show zresx (some l) (zinv (some l) 87 242 1112 ls (.int x6 :: .int x5 :: .int x4 :: .int x3 :: .int x2 :: .int x1 :: .int x0 :: .ref a :: st) w) = _
  unfold zinv
  show zresx (some l) (if zrc (some l) 87 w (.ref a) = true then zcall 87 [.ref a, .int x0, .int x1, .int x2, .int x3, .int x4, .int x5, .int x6] st 242 1112 ls w else none) = _
  rw [if_pos (zrc_more (zrc_is hc (by decide +kernel)))]
  exact zqs_call hr (Nat.le_of_ble_eq_true rfl) rfl rfl
theorem e242_1115 (l : List Value) (v0 v1 v3 : Value) (x : Nat) (st : List Value) (w : zH) : zrun (some l) (242, 1115, [v0, v1, .ref x, v3], st, w) = zrun (some l) (242, 1116, [v0, v1, .ref x, v3], (.ref x :: st), w) := (zEs (i := .aload_n 2) (by decide +kernel) _ _ _).trans rfl
theorem e242_1115n (l : List Value) (v0 v1 v3 : Value) (st : List Value) (w : zH) : zrun (some l) (242, 1115, [v0, v1, .null, v3], st, w) = zrun (some l) (242, 1116, [v0, v1, .null, v3], (.null :: st), w) := (zEs (i := .aload_n 2) (by decide +kernel) _ _ _).trans rfl
theorem e242_1116 (l : List Value) (v1 v2 v3 : Value) (x : Nat) (st : List Value) (w : zH) : zrun (some l) (242, 1116, [.ref x, v1, v2, v3], st, w) = zrun (some l) (242, 1117, [.ref x, v1, v2, v3], (.ref x :: st), w) := (zEs (i := .aload_n 0) (by decide +kernel) _ _ _).trans rfl
theorem e242_1116n (l : List Value) (v1 v2 v3 : Value) (st : List Value) (w : zH) : zrun (some l) (242, 1116, [.null, v1, v2, v3], st, w) = zrun (some l) (242, 1117, [.null, v1, v2, v3], (.null :: st), w) := (zEs (i := .aload_n 0) (by decide +kernel) _ _ _).trans rfl
theorem e242_1117 (l : List Value) (v0 v1 v2 : Value) (x : Int32) (st : List Value) (w : zH) : zrun (some l) (242, 1117, [v0, v1, v2, .int x], st, w) = zrun (some l) (242, 1118, [v0, v1, v2, .int x], (.int x :: st), w) := (zEs (i := .iload_n 3) (by decide +kernel) _ _ _).trans rfl
theorem e242_1118 (l : List Value) (ls st : List Value) (w : zH) : zrun (some l) (242, 1118, ls, st, w) = zrun (some l) (242, 1119, ls, (.int 1 :: st), w) := (zEs (i := .iconst 1) (by decide +kernel) _ _ _).trans rfl
theorem e242_1119 (l : List Value) (ls : List Value) (a b : Int32) (st : List Value) (w : zH) : zrun (some l) (242, 1119, ls, (.int b :: .int a :: st), w) = zrun (some l) (242, 1120, ls, (.int (a + b) :: st), w) := (zEs (i := .iadd) (by decide +kernel) _ _ _).trans rfl
theorem e242_1120 (l : List Value) (ls : List Value) (j : Int32) (st : List Value) (w : zH) : zrun (some l) (242, 1120, ls, (.int j :: .ref 1000006 :: st), w) = zoi (zsx l j) (fun x => zrun (some l) (242, 1121, ls, (.int x :: st), w)) := (zEs (i := .iaload) (by decide +kernel) _ _ _).trans zqs_iald
theorem e242_1121 (l : List Value) (v1 v2 v3 : Value) (x : Nat) (st : List Value) (w : zH) : zrun (some l) (242, 1121, [.ref x, v1, v2, v3], st, w) = zrun (some l) (242, 1122, [.ref x, v1, v2, v3], (.ref x :: st), w) := (zEs (i := .aload_n 0) (by decide +kernel) _ _ _).trans rfl
theorem e242_1121n (l : List Value) (v1 v2 v3 : Value) (st : List Value) (w : zH) : zrun (some l) (242, 1121, [.null, v1, v2, v3], st, w) = zrun (some l) (242, 1122, [.null, v1, v2, v3], (.null :: st), w) := (zEs (i := .aload_n 0) (by decide +kernel) _ _ _).trans rfl
theorem e242_1122 (l : List Value) (v0 v1 v2 : Value) (x : Int32) (st : List Value) (w : zH) : zrun (some l) (242, 1122, [v0, v1, v2, .int x], st, w) = zrun (some l) (242, 1123, [v0, v1, v2, .int x], (.int x :: st), w) := (zEs (i := .iload_n 3) (by decide +kernel) _ _ _).trans rfl
theorem e242_1123 (l : List Value) (ls st : List Value) (w : zH) : zrun (some l) (242, 1123, ls, st, w) = zrun (some l) (242, 1124, ls, (.int 2 :: st), w) := (zEs (i := .iconst 2) (by decide +kernel) _ _ _).trans rfl
theorem e242_1124 (l : List Value) (ls : List Value) (a b : Int32) (st : List Value) (w : zH) : zrun (some l) (242, 1124, ls, (.int b :: .int a :: st), w) = zrun (some l) (242, 1125, ls, (.int (a + b) :: st), w) := (zEs (i := .iadd) (by decide +kernel) _ _ _).trans rfl
theorem e242_1125 (l : List Value) (ls : List Value) (j : Int32) (st : List Value) (w : zH) : zrun (some l) (242, 1125, ls, (.int j :: .ref 1000006 :: st), w) = zoi (zsx l j) (fun x => zrun (some l) (242, 1126, ls, (.int x :: st), w)) := (zEs (i := .iaload) (by decide +kernel) _ _ _).trans zqs_iald
theorem e242_1126 (l : List Value) (v1 v2 v3 : Value) (x : Nat) (st : List Value) (w : zH) : zrun (some l) (242, 1126, [.ref x, v1, v2, v3], st, w) = zrun (some l) (242, 1127, [.ref x, v1, v2, v3], (.ref x :: st), w) := (zEs (i := .aload_n 0) (by decide +kernel) _ _ _).trans rfl
theorem e242_1126n (l : List Value) (v1 v2 v3 : Value) (st : List Value) (w : zH) : zrun (some l) (242, 1126, [.null, v1, v2, v3], st, w) = zrun (some l) (242, 1127, [.null, v1, v2, v3], (.null :: st), w) := (zEs (i := .aload_n 0) (by decide +kernel) _ _ _).trans rfl
theorem e242_1127 (l : List Value) (v0 v1 v2 : Value) (x : Int32) (st : List Value) (w : zH) : zrun (some l) (242, 1127, [v0, v1, v2, .int x], st, w) = zrun (some l) (242, 1128, [v0, v1, v2, .int x], (.int x :: st), w) := (zEs (i := .iload_n 3) (by decide +kernel) _ _ _).trans rfl
theorem e242_1128 (l : List Value) (ls st : List Value) (w : zH) : zrun (some l) (242, 1128, ls, st, w) = zrun (some l) (242, 1129, ls, (.int 3 :: st), w) := (zEs (i := .iconst 3) (by decide +kernel) _ _ _).trans rfl
theorem e242_1129 (l : List Value) (ls : List Value) (a b : Int32) (st : List Value) (w : zH) : zrun (some l) (242, 1129, ls, (.int b :: .int a :: st), w) = zrun (some l) (242, 1130, ls, (.int (a + b) :: st), w) := (zEs (i := .iadd) (by decide +kernel) _ _ _).trans rfl
theorem e242_1130 (l : List Value) (ls : List Value) (j : Int32) (st : List Value) (w : zH) : zrun (some l) (242, 1130, ls, (.int j :: .ref 1000006 :: st), w) = zoi (zsx l j) (fun x => zrun (some l) (242, 1131, ls, (.int x :: st), w)) := (zEs (i := .iaload) (by decide +kernel) _ _ _).trans zqs_iald
theorem e242_1131 (l : List Value) (v1 v2 v3 : Value) (x : Nat) (st : List Value) (w : zH) : zrun (some l) (242, 1131, [.ref x, v1, v2, v3], st, w) = zrun (some l) (242, 1132, [.ref x, v1, v2, v3], (.ref x :: st), w) := (zEs (i := .aload_n 0) (by decide +kernel) _ _ _).trans rfl
theorem e242_1131n (l : List Value) (v1 v2 v3 : Value) (st : List Value) (w : zH) : zrun (some l) (242, 1131, [.null, v1, v2, v3], st, w) = zrun (some l) (242, 1132, [.null, v1, v2, v3], (.null :: st), w) := (zEs (i := .aload_n 0) (by decide +kernel) _ _ _).trans rfl
theorem e242_1132 (l : List Value) (v0 v1 v2 : Value) (x : Int32) (st : List Value) (w : zH) : zrun (some l) (242, 1132, [v0, v1, v2, .int x], st, w) = zrun (some l) (242, 1133, [v0, v1, v2, .int x], (.int x :: st), w) := (zEs (i := .iload_n 3) (by decide +kernel) _ _ _).trans rfl
theorem e242_1133 (l : List Value) (ls st : List Value) (w : zH) : zrun (some l) (242, 1133, ls, st, w) = zrun (some l) (242, 1134, ls, (.int 4 :: st), w) := (zEs (i := .iconst 4) (by decide +kernel) _ _ _).trans rfl
theorem e242_1134 (l : List Value) (ls : List Value) (a b : Int32) (st : List Value) (w : zH) : zrun (some l) (242, 1134, ls, (.int b :: .int a :: st), w) = zrun (some l) (242, 1135, ls, (.int (a + b) :: st), w) := (zEs (i := .iadd) (by decide +kernel) _ _ _).trans rfl
theorem e242_1135 (l : List Value) (ls : List Value) (j : Int32) (st : List Value) (w : zH) : zrun (some l) (242, 1135, ls, (.int j :: .ref 1000006 :: st), w) = zoi (zsx l j) (fun x => zrun (some l) (242, 1136, ls, (.int x :: st), w)) := (zEs (i := .iaload) (by decide +kernel) _ _ _).trans zqs_iald
theorem e242_1136 (l : List Value) (v1 v2 v3 : Value) (x : Nat) (st : List Value) (w : zH) : zrun (some l) (242, 1136, [.ref x, v1, v2, v3], st, w) = zrun (some l) (242, 1137, [.ref x, v1, v2, v3], (.ref x :: st), w) := (zEs (i := .aload_n 0) (by decide +kernel) _ _ _).trans rfl
theorem e242_1136n (l : List Value) (v1 v2 v3 : Value) (st : List Value) (w : zH) : zrun (some l) (242, 1136, [.null, v1, v2, v3], st, w) = zrun (some l) (242, 1137, [.null, v1, v2, v3], (.null :: st), w) := (zEs (i := .aload_n 0) (by decide +kernel) _ _ _).trans rfl
theorem e242_1137 (l : List Value) (v0 v1 v2 : Value) (x : Int32) (st : List Value) (w : zH) : zrun (some l) (242, 1137, [v0, v1, v2, .int x], st, w) = zrun (some l) (242, 1138, [v0, v1, v2, .int x], (.int x :: st), w) := (zEs (i := .iload_n 3) (by decide +kernel) _ _ _).trans rfl
theorem e242_1138 (l : List Value) (ls st : List Value) (w : zH) : zrun (some l) (242, 1138, ls, st, w) = zrun (some l) (242, 1139, ls, (.int 5 :: st), w) := (zEs (i := .iconst 5) (by decide +kernel) _ _ _).trans rfl
theorem e242_1139 (l : List Value) (ls : List Value) (a b : Int32) (st : List Value) (w : zH) : zrun (some l) (242, 1139, ls, (.int b :: .int a :: st), w) = zrun (some l) (242, 1140, ls, (.int (a + b) :: st), w) := (zEs (i := .iadd) (by decide +kernel) _ _ _).trans rfl
theorem e242_1140 (l : List Value) (ls : List Value) (j : Int32) (st : List Value) (w : zH) : zrun (some l) (242, 1140, ls, (.int j :: .ref 1000006 :: st), w) = zoi (zsx l j) (fun x => zrun (some l) (242, 1141, ls, (.int x :: st), w)) := (zEs (i := .iaload) (by decide +kernel) _ _ _).trans zqs_iald
theorem e242_1141 (l : List Value) (v1 v2 v3 : Value) (x : Nat) (st : List Value) (w : zH) : zrun (some l) (242, 1141, [.ref x, v1, v2, v3], st, w) = zrun (some l) (242, 1142, [.ref x, v1, v2, v3], (.ref x :: st), w) := (zEs (i := .aload_n 0) (by decide +kernel) _ _ _).trans rfl
theorem e242_1141n (l : List Value) (v1 v2 v3 : Value) (st : List Value) (w : zH) : zrun (some l) (242, 1141, [.null, v1, v2, v3], st, w) = zrun (some l) (242, 1142, [.null, v1, v2, v3], (.null :: st), w) := (zEs (i := .aload_n 0) (by decide +kernel) _ _ _).trans rfl
theorem e242_1142 (l : List Value) (v0 v1 v2 : Value) (x : Int32) (st : List Value) (w : zH) : zrun (some l) (242, 1142, [v0, v1, v2, .int x], st, w) = zrun (some l) (242, 1143, [v0, v1, v2, .int x], (.int x :: st), w) := (zEs (i := .iload_n 3) (by decide +kernel) _ _ _).trans rfl
theorem e242_1143 (l : List Value) (ls st : List Value) (w : zH) : zrun (some l) (242, 1143, ls, st, w) = zrun (some l) (242, 1145, ls, (.int 6 :: st), w) := (zEs (i := .bipush 6) (by decide +kernel) _ _ _).trans rfl
theorem e242_1145 (l : List Value) (ls : List Value) (a b : Int32) (st : List Value) (w : zH) : zrun (some l) (242, 1145, ls, (.int b :: .int a :: st), w) = zrun (some l) (242, 1146, ls, (.int (a + b) :: st), w) := (zEs (i := .iadd) (by decide +kernel) _ _ _).trans rfl
theorem e242_1146 (l : List Value) (ls : List Value) (j : Int32) (st : List Value) (w : zH) : zrun (some l) (242, 1146, ls, (.int j :: .ref 1000006 :: st), w) = zoi (zsx l j) (fun x => zrun (some l) (242, 1147, ls, (.int x :: st), w)) := (zEs (i := .iaload) (by decide +kernel) _ _ _).trans zqs_iald
theorem e242_1147 (l : List Value) (v1 v2 v3 : Value) (x : Nat) (st : List Value) (w : zH) : zrun (some l) (242, 1147, [.ref x, v1, v2, v3], st, w) = zrun (some l) (242, 1148, [.ref x, v1, v2, v3], (.ref x :: st), w) := (zEs (i := .aload_n 0) (by decide +kernel) _ _ _).trans rfl
theorem e242_1147n (l : List Value) (v1 v2 v3 : Value) (st : List Value) (w : zH) : zrun (some l) (242, 1147, [.null, v1, v2, v3], st, w) = zrun (some l) (242, 1148, [.null, v1, v2, v3], (.null :: st), w) := (zEs (i := .aload_n 0) (by decide +kernel) _ _ _).trans rfl
theorem e242_1148 (l : List Value) (v0 v1 v2 : Value) (x : Int32) (st : List Value) (w : zH) : zrun (some l) (242, 1148, [v0, v1, v2, .int x], st, w) = zrun (some l) (242, 1149, [v0, v1, v2, .int x], (.int x :: st), w) := (zEs (i := .iload_n 3) (by decide +kernel) _ _ _).trans rfl
theorem e242_1149 (l : List Value) (ls st : List Value) (w : zH) : zrun (some l) (242, 1149, ls, st, w) = zrun (some l) (242, 1151, ls, (.int 7 :: st), w) := (zEs (i := .bipush 7) (by decide +kernel) _ _ _).trans rfl
theorem e242_1151 (l : List Value) (ls : List Value) (a b : Int32) (st : List Value) (w : zH) : zrun (some l) (242, 1151, ls, (.int b :: .int a :: st), w) = zrun (some l) (242, 1152, ls, (.int (a + b) :: st), w) := (zEs (i := .iadd) (by decide +kernel) _ _ _).trans rfl
theorem e242_1152 (l : List Value) (ls : List Value) (j : Int32) (st : List Value) (w : zH) : zrun (some l) (242, 1152, ls, (.int j :: .ref 1000006 :: st), w) = zoi (zsx l j) (fun x => zrun (some l) (242, 1153, ls, (.int x :: st), w)) := (zEs (i := .iaload) (by decide +kernel) _ _ _).trans zqs_iald
theorem e242_1153 (l : List Value) (ls : List Value) (a : Nat) (x0 : Int32) (x1 : Int32) (x2 : Int32) (x3 : Int32) (x4 : Int32) (x5 : Int32) (x6 : Int32) (st : List Value) (w : zH) (hr : zcat st ≤ 8) (hc : zis w a 12) : zrun (some l) (242, 1153, ls, (.int x6 :: .int x5 :: .int x4 :: .int x3 :: .int x2 :: .int x1 :: .int x0 :: .ref a :: st), w) = zcl (zrun (some l) (202, 0, [.ref a, .int x0, .int x1, .int x2, .int x3, .int x4, .int x5, .int x6, zJ, zJ, zJ, zJ, zJ], [], w)) (fun r => zrun (some l) (242, 1156, ls, r.1.toList ++ st, r.2)) := by
  refine (zEs (i := .invokevirtual 202) (by decide +kernel) _ _ _).trans ?_
  show zresx (some l) (zinv (some l) 202 242 1153 ls (.int x6 :: .int x5 :: .int x4 :: .int x3 :: .int x2 :: .int x1 :: .int x0 :: .ref a :: st) w) = _
  unfold zinv
  show zresx (some l) (if zrc (some l) 202 w (.ref a) = true then zcall 202 [.ref a, .int x0, .int x1, .int x2, .int x3, .int x4, .int x5, .int x6] st 242 1153 ls w else none) = _
  rw [if_pos (zrc_more (zrc_is hc (by decide +kernel)))]
  exact zqs_call hr (Nat.le_of_ble_eq_true rfl) rfl rfl
theorem e242_1156 (l : List Value) (ls : List Value) (a b : Int32) (st : List Value) (w : zH) : zrun (some l) (242, 1156, ls, (.int b :: .int a :: st), w) = if a = b then zrun (some l) (242, 1557, ls, st, w) else zrun (some l) (242, 1159, ls, st, w) := (zEs (i := .if_icmp .eq 401) (by decide +kernel) _ _ _).trans (zqs_ic_eq rfl rfl)
theorem e242_1159 (l : List Value) (ls st : List Value) (w : zH) : zrun (some l) (242, 1159, ls, st, w) = zrun (some l) (242, 1160, ls, (.int 0 :: st), w) := (zEs (i := .iconst 0) (by decide +kernel) _ _ _).trans rfl
theorem e242_1160 (l : List Value) (ls : List Value) (x : Int32) (w : zH) (h : narrow .boolean (.int x) = .int x) : zrun (some l) (242, 1160, ls, [.int x], w) = some (some (.int x), w) := by
  refine (zEs (i := .ireturn) (by decide +kernel) _ _ _).trans ?_
  show zresx (some l) (if narrow .boolean (.int x) = .int x then _ else none) = _
  rw [if_pos h]
  rfl
theorem e242_1161 (l : List Value) (v0 v2 v3 : Value) (x : Nat) (st : List Value) (w : zH) : zrun (some l) (242, 1161, [v0, .ref x, v2, v3], st, w) = zrun (some l) (242, 1162, [v0, .ref x, v2, v3], (.ref x :: st), w) := (zEs (i := .aload_n 1) (by decide +kernel) _ _ _).trans rfl
theorem e242_1161n (l : List Value) (v0 v2 v3 : Value) (st : List Value) (w : zH) : zrun (some l) (242, 1161, [v0, .null, v2, v3], st, w) = zrun (some l) (242, 1162, [v0, .null, v2, v3], (.null :: st), w) := (zEs (i := .aload_n 1) (by decide +kernel) _ _ _).trans rfl
theorem e242_1162 (l : List Value) (v1 v2 v3 : Value) (x : Nat) (st : List Value) (w : zH) : zrun (some l) (242, 1162, [.ref x, v1, v2, v3], st, w) = zrun (some l) (242, 1163, [.ref x, v1, v2, v3], (.ref x :: st), w) := (zEs (i := .aload_n 0) (by decide +kernel) _ _ _).trans rfl
theorem e242_1162n (l : List Value) (v1 v2 v3 : Value) (st : List Value) (w : zH) : zrun (some l) (242, 1162, [.null, v1, v2, v3], st, w) = zrun (some l) (242, 1163, [.null, v1, v2, v3], (.null :: st), w) := (zEs (i := .aload_n 0) (by decide +kernel) _ _ _).trans rfl
theorem e242_1163 (l : List Value) (v0 v1 v2 : Value) (x : Int32) (st : List Value) (w : zH) : zrun (some l) (242, 1163, [v0, v1, v2, .int x], st, w) = zrun (some l) (242, 1164, [v0, v1, v2, .int x], (.int x :: st), w) := (zEs (i := .iload_n 3) (by decide +kernel) _ _ _).trans rfl
theorem e242_1164 (l : List Value) (ls st : List Value) (w : zH) : zrun (some l) (242, 1164, ls, st, w) = zrun (some l) (242, 1165, ls, (.int 1 :: st), w) := (zEs (i := .iconst 1) (by decide +kernel) _ _ _).trans rfl
theorem e242_1165 (l : List Value) (ls : List Value) (a b : Int32) (st : List Value) (w : zH) : zrun (some l) (242, 1165, ls, (.int b :: .int a :: st), w) = zrun (some l) (242, 1166, ls, (.int (a + b) :: st), w) := (zEs (i := .iadd) (by decide +kernel) _ _ _).trans rfl
theorem e242_1166 (l : List Value) (ls : List Value) (j : Int32) (st : List Value) (w : zH) : zrun (some l) (242, 1166, ls, (.int j :: .ref 1000006 :: st), w) = zoi (zsx l j) (fun x => zrun (some l) (242, 1167, ls, (.int x :: st), w)) := (zEs (i := .iaload) (by decide +kernel) _ _ _).trans zqs_iald
theorem e242_1167 (l : List Value) (v1 v2 v3 : Value) (x : Nat) (st : List Value) (w : zH) : zrun (some l) (242, 1167, [.ref x, v1, v2, v3], st, w) = zrun (some l) (242, 1168, [.ref x, v1, v2, v3], (.ref x :: st), w) := (zEs (i := .aload_n 0) (by decide +kernel) _ _ _).trans rfl
theorem e242_1167n (l : List Value) (v1 v2 v3 : Value) (st : List Value) (w : zH) : zrun (some l) (242, 1167, [.null, v1, v2, v3], st, w) = zrun (some l) (242, 1168, [.null, v1, v2, v3], (.null :: st), w) := (zEs (i := .aload_n 0) (by decide +kernel) _ _ _).trans rfl
theorem e242_1168 (l : List Value) (v0 v1 v2 : Value) (x : Int32) (st : List Value) (w : zH) : zrun (some l) (242, 1168, [v0, v1, v2, .int x], st, w) = zrun (some l) (242, 1169, [v0, v1, v2, .int x], (.int x :: st), w) := (zEs (i := .iload_n 3) (by decide +kernel) _ _ _).trans rfl
theorem e242_1169 (l : List Value) (ls st : List Value) (w : zH) : zrun (some l) (242, 1169, ls, st, w) = zrun (some l) (242, 1170, ls, (.int 2 :: st), w) := (zEs (i := .iconst 2) (by decide +kernel) _ _ _).trans rfl
theorem e242_1170 (l : List Value) (ls : List Value) (a b : Int32) (st : List Value) (w : zH) : zrun (some l) (242, 1170, ls, (.int b :: .int a :: st), w) = zrun (some l) (242, 1171, ls, (.int (a + b) :: st), w) := (zEs (i := .iadd) (by decide +kernel) _ _ _).trans rfl
theorem e242_1171 (l : List Value) (ls : List Value) (j : Int32) (st : List Value) (w : zH) : zrun (some l) (242, 1171, ls, (.int j :: .ref 1000006 :: st), w) = zoi (zsx l j) (fun x => zrun (some l) (242, 1172, ls, (.int x :: st), w)) := (zEs (i := .iaload) (by decide +kernel) _ _ _).trans zqs_iald
theorem e242_1172 (l : List Value) (v1 v2 v3 : Value) (x : Nat) (st : List Value) (w : zH) : zrun (some l) (242, 1172, [.ref x, v1, v2, v3], st, w) = zrun (some l) (242, 1173, [.ref x, v1, v2, v3], (.ref x :: st), w) := (zEs (i := .aload_n 0) (by decide +kernel) _ _ _).trans rfl
theorem e242_1172n (l : List Value) (v1 v2 v3 : Value) (st : List Value) (w : zH) : zrun (some l) (242, 1172, [.null, v1, v2, v3], st, w) = zrun (some l) (242, 1173, [.null, v1, v2, v3], (.null :: st), w) := (zEs (i := .aload_n 0) (by decide +kernel) _ _ _).trans rfl
theorem e242_1173 (l : List Value) (v0 v1 v2 : Value) (x : Int32) (st : List Value) (w : zH) : zrun (some l) (242, 1173, [v0, v1, v2, .int x], st, w) = zrun (some l) (242, 1174, [v0, v1, v2, .int x], (.int x :: st), w) := (zEs (i := .iload_n 3) (by decide +kernel) _ _ _).trans rfl
theorem e242_1174 (l : List Value) (ls st : List Value) (w : zH) : zrun (some l) (242, 1174, ls, st, w) = zrun (some l) (242, 1175, ls, (.int 3 :: st), w) := (zEs (i := .iconst 3) (by decide +kernel) _ _ _).trans rfl
theorem e242_1175 (l : List Value) (ls : List Value) (a b : Int32) (st : List Value) (w : zH) : zrun (some l) (242, 1175, ls, (.int b :: .int a :: st), w) = zrun (some l) (242, 1176, ls, (.int (a + b) :: st), w) := (zEs (i := .iadd) (by decide +kernel) _ _ _).trans rfl
theorem e242_1176 (l : List Value) (ls : List Value) (j : Int32) (st : List Value) (w : zH) : zrun (some l) (242, 1176, ls, (.int j :: .ref 1000006 :: st), w) = zoi (zsx l j) (fun x => zrun (some l) (242, 1177, ls, (.int x :: st), w)) := (zEs (i := .iaload) (by decide +kernel) _ _ _).trans zqs_iald
theorem e242_1177 (l : List Value) (ls : List Value) (a : Nat) (x0 : Int32) (x1 : Int32) (x2 : Int32) (st : List Value) (w : zH) (hr : zcat st ≤ 8) (hc : zis w a 11) : zrun (some l) (242, 1177, ls, (.int x2 :: .int x1 :: .int x0 :: .ref a :: st), w) = zcl (zrun (some l) (88, 0, [.ref a, .int x0, .int x1, .int x2], [], w)) (fun r => zrun (some l) (242, 1180, ls, r.1.toList ++ st, r.2)) := by
  refine (zEs (i := .invokevirtual 88) (by decide +kernel) _ _ _).trans ?_
  show zresx (some l) (zinv (some l) 88 242 1177 ls (.int x2 :: .int x1 :: .int x0 :: .ref a :: st) w) = _
  unfold zinv
  show zresx (some l) (if zrc (some l) 88 w (.ref a) = true then zcall 88 [.ref a, .int x0, .int x1, .int x2] st 242 1177 ls w else none) = _
  rw [if_pos (zrc_more (zrc_is hc (by decide +kernel)))]
  exact zqs_call hr (Nat.le_of_ble_eq_true rfl) rfl rfl
theorem e242_1180 (l : List Value) (v0 v1 v3 : Value) (x : Nat) (st : List Value) (w : zH) : zrun (some l) (242, 1180, [v0, v1, .ref x, v3], st, w) = zrun (some l) (242, 1181, [v0, v1, .ref x, v3], (.ref x :: st), w) := (zEs (i := .aload_n 2) (by decide +kernel) _ _ _).trans rfl
theorem e242_1180n (l : List Value) (v0 v1 v3 : Value) (st : List Value) (w : zH) : zrun (some l) (242, 1180, [v0, v1, .null, v3], st, w) = zrun (some l) (242, 1181, [v0, v1, .null, v3], (.null :: st), w) := (zEs (i := .aload_n 2) (by decide +kernel) _ _ _).trans rfl
theorem e242_1181 (l : List Value) (v1 v2 v3 : Value) (x : Nat) (st : List Value) (w : zH) : zrun (some l) (242, 1181, [.ref x, v1, v2, v3], st, w) = zrun (some l) (242, 1182, [.ref x, v1, v2, v3], (.ref x :: st), w) := (zEs (i := .aload_n 0) (by decide +kernel) _ _ _).trans rfl
theorem e242_1181n (l : List Value) (v1 v2 v3 : Value) (st : List Value) (w : zH) : zrun (some l) (242, 1181, [.null, v1, v2, v3], st, w) = zrun (some l) (242, 1182, [.null, v1, v2, v3], (.null :: st), w) := (zEs (i := .aload_n 0) (by decide +kernel) _ _ _).trans rfl
theorem e242_1182 (l : List Value) (v0 v1 v2 : Value) (x : Int32) (st : List Value) (w : zH) : zrun (some l) (242, 1182, [v0, v1, v2, .int x], st, w) = zrun (some l) (242, 1183, [v0, v1, v2, .int x], (.int x :: st), w) := (zEs (i := .iload_n 3) (by decide +kernel) _ _ _).trans rfl
theorem e242_1183 (l : List Value) (ls st : List Value) (w : zH) : zrun (some l) (242, 1183, ls, st, w) = zrun (some l) (242, 1184, ls, (.int 1 :: st), w) := (zEs (i := .iconst 1) (by decide +kernel) _ _ _).trans rfl
theorem e242_1184 (l : List Value) (ls : List Value) (a b : Int32) (st : List Value) (w : zH) : zrun (some l) (242, 1184, ls, (.int b :: .int a :: st), w) = zrun (some l) (242, 1185, ls, (.int (a + b) :: st), w) := (zEs (i := .iadd) (by decide +kernel) _ _ _).trans rfl
theorem e242_1185 (l : List Value) (ls : List Value) (j : Int32) (st : List Value) (w : zH) : zrun (some l) (242, 1185, ls, (.int j :: .ref 1000006 :: st), w) = zoi (zsx l j) (fun x => zrun (some l) (242, 1186, ls, (.int x :: st), w)) := (zEs (i := .iaload) (by decide +kernel) _ _ _).trans zqs_iald
theorem e242_1186 (l : List Value) (v1 v2 v3 : Value) (x : Nat) (st : List Value) (w : zH) : zrun (some l) (242, 1186, [.ref x, v1, v2, v3], st, w) = zrun (some l) (242, 1187, [.ref x, v1, v2, v3], (.ref x :: st), w) := (zEs (i := .aload_n 0) (by decide +kernel) _ _ _).trans rfl
theorem e242_1186n (l : List Value) (v1 v2 v3 : Value) (st : List Value) (w : zH) : zrun (some l) (242, 1186, [.null, v1, v2, v3], st, w) = zrun (some l) (242, 1187, [.null, v1, v2, v3], (.null :: st), w) := (zEs (i := .aload_n 0) (by decide +kernel) _ _ _).trans rfl
theorem e242_1187 (l : List Value) (v0 v1 v2 : Value) (x : Int32) (st : List Value) (w : zH) : zrun (some l) (242, 1187, [v0, v1, v2, .int x], st, w) = zrun (some l) (242, 1188, [v0, v1, v2, .int x], (.int x :: st), w) := (zEs (i := .iload_n 3) (by decide +kernel) _ _ _).trans rfl
theorem e242_1188 (l : List Value) (ls st : List Value) (w : zH) : zrun (some l) (242, 1188, ls, st, w) = zrun (some l) (242, 1189, ls, (.int 2 :: st), w) := (zEs (i := .iconst 2) (by decide +kernel) _ _ _).trans rfl
theorem e242_1189 (l : List Value) (ls : List Value) (a b : Int32) (st : List Value) (w : zH) : zrun (some l) (242, 1189, ls, (.int b :: .int a :: st), w) = zrun (some l) (242, 1190, ls, (.int (a + b) :: st), w) := (zEs (i := .iadd) (by decide +kernel) _ _ _).trans rfl
theorem e242_1190 (l : List Value) (ls : List Value) (j : Int32) (st : List Value) (w : zH) : zrun (some l) (242, 1190, ls, (.int j :: .ref 1000006 :: st), w) = zoi (zsx l j) (fun x => zrun (some l) (242, 1191, ls, (.int x :: st), w)) := (zEs (i := .iaload) (by decide +kernel) _ _ _).trans zqs_iald
theorem e242_1191 (l : List Value) (v1 v2 v3 : Value) (x : Nat) (st : List Value) (w : zH) : zrun (some l) (242, 1191, [.ref x, v1, v2, v3], st, w) = zrun (some l) (242, 1192, [.ref x, v1, v2, v3], (.ref x :: st), w) := (zEs (i := .aload_n 0) (by decide +kernel) _ _ _).trans rfl
theorem e242_1191n (l : List Value) (v1 v2 v3 : Value) (st : List Value) (w : zH) : zrun (some l) (242, 1191, [.null, v1, v2, v3], st, w) = zrun (some l) (242, 1192, [.null, v1, v2, v3], (.null :: st), w) := (zEs (i := .aload_n 0) (by decide +kernel) _ _ _).trans rfl
theorem e242_1192 (l : List Value) (v0 v1 v2 : Value) (x : Int32) (st : List Value) (w : zH) : zrun (some l) (242, 1192, [v0, v1, v2, .int x], st, w) = zrun (some l) (242, 1193, [v0, v1, v2, .int x], (.int x :: st), w) := (zEs (i := .iload_n 3) (by decide +kernel) _ _ _).trans rfl
theorem e242_1193 (l : List Value) (ls st : List Value) (w : zH) : zrun (some l) (242, 1193, ls, st, w) = zrun (some l) (242, 1194, ls, (.int 3 :: st), w) := (zEs (i := .iconst 3) (by decide +kernel) _ _ _).trans rfl
theorem e242_1194 (l : List Value) (ls : List Value) (a b : Int32) (st : List Value) (w : zH) : zrun (some l) (242, 1194, ls, (.int b :: .int a :: st), w) = zrun (some l) (242, 1195, ls, (.int (a + b) :: st), w) := (zEs (i := .iadd) (by decide +kernel) _ _ _).trans rfl
theorem e242_1195 (l : List Value) (ls : List Value) (j : Int32) (st : List Value) (w : zH) : zrun (some l) (242, 1195, ls, (.int j :: .ref 1000006 :: st), w) = zoi (zsx l j) (fun x => zrun (some l) (242, 1196, ls, (.int x :: st), w)) := (zEs (i := .iaload) (by decide +kernel) _ _ _).trans zqs_iald
theorem e242_1196 (l : List Value) (ls : List Value) (a : Nat) (x0 : Int32) (x1 : Int32) (x2 : Int32) (st : List Value) (w : zH) (hr : zcat st ≤ 8) (hc : zis w a 12) : zrun (some l) (242, 1196, ls, (.int x2 :: .int x1 :: .int x0 :: .ref a :: st), w) = zcl (zrun (some l) (204, 0, [.ref a, .int x0, .int x1, .int x2], [], w)) (fun r => zrun (some l) (242, 1199, ls, r.1.toList ++ st, r.2)) := by
  refine (zEs (i := .invokevirtual 204) (by decide +kernel) _ _ _).trans ?_
  show zresx (some l) (zinv (some l) 204 242 1196 ls (.int x2 :: .int x1 :: .int x0 :: .ref a :: st) w) = _
  unfold zinv
  show zresx (some l) (if zrc (some l) 204 w (.ref a) = true then zcall 204 [.ref a, .int x0, .int x1, .int x2] st 242 1196 ls w else none) = _
  rw [if_pos (zrc_more (zrc_is hc (by decide +kernel)))]
  exact zqs_call hr (Nat.le_of_ble_eq_true rfl) rfl rfl
theorem e242_1199 (l : List Value) (ls : List Value) (a b : Int32) (st : List Value) (w : zH) : zrun (some l) (242, 1199, ls, (.int b :: .int a :: st), w) = if a = b then zrun (some l) (242, 1557, ls, st, w) else zrun (some l) (242, 1202, ls, st, w) := (zEs (i := .if_icmp .eq 358) (by decide +kernel) _ _ _).trans (zqs_ic_eq rfl rfl)
theorem e242_1202 (l : List Value) (ls st : List Value) (w : zH) : zrun (some l) (242, 1202, ls, st, w) = zrun (some l) (242, 1203, ls, (.int 0 :: st), w) := (zEs (i := .iconst 0) (by decide +kernel) _ _ _).trans rfl
theorem e242_1203 (l : List Value) (ls : List Value) (x : Int32) (w : zH) (h : narrow .boolean (.int x) = .int x) : zrun (some l) (242, 1203, ls, [.int x], w) = some (some (.int x), w) := by
  refine (zEs (i := .ireturn) (by decide +kernel) _ _ _).trans ?_
  show zresx (some l) (if narrow .boolean (.int x) = .int x then _ else none) = _
  rw [if_pos h]
  rfl
theorem e242_1204 (l : List Value) (v0 v2 v3 : Value) (x : Nat) (st : List Value) (w : zH) : zrun (some l) (242, 1204, [v0, .ref x, v2, v3], st, w) = zrun (some l) (242, 1205, [v0, .ref x, v2, v3], (.ref x :: st), w) := (zEs (i := .aload_n 1) (by decide +kernel) _ _ _).trans rfl
theorem e242_1204n (l : List Value) (v0 v2 v3 : Value) (st : List Value) (w : zH) : zrun (some l) (242, 1204, [v0, .null, v2, v3], st, w) = zrun (some l) (242, 1205, [v0, .null, v2, v3], (.null :: st), w) := (zEs (i := .aload_n 1) (by decide +kernel) _ _ _).trans rfl
theorem e242_1205 (l : List Value) (v1 v2 v3 : Value) (x : Nat) (st : List Value) (w : zH) : zrun (some l) (242, 1205, [.ref x, v1, v2, v3], st, w) = zrun (some l) (242, 1206, [.ref x, v1, v2, v3], (.ref x :: st), w) := (zEs (i := .aload_n 0) (by decide +kernel) _ _ _).trans rfl
theorem e242_1205n (l : List Value) (v1 v2 v3 : Value) (st : List Value) (w : zH) : zrun (some l) (242, 1205, [.null, v1, v2, v3], st, w) = zrun (some l) (242, 1206, [.null, v1, v2, v3], (.null :: st), w) := (zEs (i := .aload_n 0) (by decide +kernel) _ _ _).trans rfl
theorem e242_1206 (l : List Value) (v0 v1 v2 : Value) (x : Int32) (st : List Value) (w : zH) : zrun (some l) (242, 1206, [v0, v1, v2, .int x], st, w) = zrun (some l) (242, 1207, [v0, v1, v2, .int x], (.int x :: st), w) := (zEs (i := .iload_n 3) (by decide +kernel) _ _ _).trans rfl
theorem e242_1207 (l : List Value) (ls st : List Value) (w : zH) : zrun (some l) (242, 1207, ls, st, w) = zrun (some l) (242, 1208, ls, (.int 1 :: st), w) := (zEs (i := .iconst 1) (by decide +kernel) _ _ _).trans rfl
theorem e242_1208 (l : List Value) (ls : List Value) (a b : Int32) (st : List Value) (w : zH) : zrun (some l) (242, 1208, ls, (.int b :: .int a :: st), w) = zrun (some l) (242, 1209, ls, (.int (a + b) :: st), w) := (zEs (i := .iadd) (by decide +kernel) _ _ _).trans rfl
theorem e242_1209 (l : List Value) (ls : List Value) (j : Int32) (st : List Value) (w : zH) : zrun (some l) (242, 1209, ls, (.int j :: .ref 1000006 :: st), w) = zoi (zsx l j) (fun x => zrun (some l) (242, 1210, ls, (.int x :: st), w)) := (zEs (i := .iaload) (by decide +kernel) _ _ _).trans zqs_iald
theorem e242_1210 (l : List Value) (v1 v2 v3 : Value) (x : Nat) (st : List Value) (w : zH) : zrun (some l) (242, 1210, [.ref x, v1, v2, v3], st, w) = zrun (some l) (242, 1211, [.ref x, v1, v2, v3], (.ref x :: st), w) := (zEs (i := .aload_n 0) (by decide +kernel) _ _ _).trans rfl
theorem e242_1210n (l : List Value) (v1 v2 v3 : Value) (st : List Value) (w : zH) : zrun (some l) (242, 1210, [.null, v1, v2, v3], st, w) = zrun (some l) (242, 1211, [.null, v1, v2, v3], (.null :: st), w) := (zEs (i := .aload_n 0) (by decide +kernel) _ _ _).trans rfl
theorem e242_1211 (l : List Value) (v0 v1 v2 : Value) (x : Int32) (st : List Value) (w : zH) : zrun (some l) (242, 1211, [v0, v1, v2, .int x], st, w) = zrun (some l) (242, 1212, [v0, v1, v2, .int x], (.int x :: st), w) := (zEs (i := .iload_n 3) (by decide +kernel) _ _ _).trans rfl
theorem e242_1212 (l : List Value) (ls st : List Value) (w : zH) : zrun (some l) (242, 1212, ls, st, w) = zrun (some l) (242, 1213, ls, (.int 2 :: st), w) := (zEs (i := .iconst 2) (by decide +kernel) _ _ _).trans rfl
theorem e242_1213 (l : List Value) (ls : List Value) (a b : Int32) (st : List Value) (w : zH) : zrun (some l) (242, 1213, ls, (.int b :: .int a :: st), w) = zrun (some l) (242, 1214, ls, (.int (a + b) :: st), w) := (zEs (i := .iadd) (by decide +kernel) _ _ _).trans rfl
theorem e242_1214 (l : List Value) (ls : List Value) (j : Int32) (st : List Value) (w : zH) : zrun (some l) (242, 1214, ls, (.int j :: .ref 1000006 :: st), w) = zoi (zsx l j) (fun x => zrun (some l) (242, 1215, ls, (.int x :: st), w)) := (zEs (i := .iaload) (by decide +kernel) _ _ _).trans zqs_iald
theorem e242_1215 (l : List Value) (ls : List Value) (a : Nat) (x0 : Int32) (x1 : Int32) (st : List Value) (w : zH) (hr : zcat st ≤ 8) (hc : zis w a 11) : zrun (some l) (242, 1215, ls, (.int x1 :: .int x0 :: .ref a :: st), w) = zcl (zrun (some l) (89, 0, [.ref a, .int x0, .int x1], [], w)) (fun r => zrun (some l) (242, 1218, ls, r.1.toList ++ st, r.2)) := by
  refine (zEs (i := .invokevirtual 89) (by decide +kernel) _ _ _).trans ?_
  show zresx (some l) (zinv (some l) 89 242 1215 ls (.int x1 :: .int x0 :: .ref a :: st) w) = _
  unfold zinv
  show zresx (some l) (if zrc (some l) 89 w (.ref a) = true then zcall 89 [.ref a, .int x0, .int x1] st 242 1215 ls w else none) = _
  rw [if_pos (zrc_more (zrc_is hc (by decide +kernel)))]
  exact zqs_call hr (Nat.le_of_ble_eq_true rfl) rfl rfl
theorem e242_1218 (l : List Value) (v0 v1 v3 : Value) (x : Nat) (st : List Value) (w : zH) : zrun (some l) (242, 1218, [v0, v1, .ref x, v3], st, w) = zrun (some l) (242, 1219, [v0, v1, .ref x, v3], (.ref x :: st), w) := (zEs (i := .aload_n 2) (by decide +kernel) _ _ _).trans rfl
theorem e242_1218n (l : List Value) (v0 v1 v3 : Value) (st : List Value) (w : zH) : zrun (some l) (242, 1218, [v0, v1, .null, v3], st, w) = zrun (some l) (242, 1219, [v0, v1, .null, v3], (.null :: st), w) := (zEs (i := .aload_n 2) (by decide +kernel) _ _ _).trans rfl
theorem e242_1219 (l : List Value) (v1 v2 v3 : Value) (x : Nat) (st : List Value) (w : zH) : zrun (some l) (242, 1219, [.ref x, v1, v2, v3], st, w) = zrun (some l) (242, 1220, [.ref x, v1, v2, v3], (.ref x :: st), w) := (zEs (i := .aload_n 0) (by decide +kernel) _ _ _).trans rfl
theorem e242_1219n (l : List Value) (v1 v2 v3 : Value) (st : List Value) (w : zH) : zrun (some l) (242, 1219, [.null, v1, v2, v3], st, w) = zrun (some l) (242, 1220, [.null, v1, v2, v3], (.null :: st), w) := (zEs (i := .aload_n 0) (by decide +kernel) _ _ _).trans rfl
theorem e242_1220 (l : List Value) (v0 v1 v2 : Value) (x : Int32) (st : List Value) (w : zH) : zrun (some l) (242, 1220, [v0, v1, v2, .int x], st, w) = zrun (some l) (242, 1221, [v0, v1, v2, .int x], (.int x :: st), w) := (zEs (i := .iload_n 3) (by decide +kernel) _ _ _).trans rfl
theorem e242_1221 (l : List Value) (ls st : List Value) (w : zH) : zrun (some l) (242, 1221, ls, st, w) = zrun (some l) (242, 1222, ls, (.int 1 :: st), w) := (zEs (i := .iconst 1) (by decide +kernel) _ _ _).trans rfl
theorem e242_1222 (l : List Value) (ls : List Value) (a b : Int32) (st : List Value) (w : zH) : zrun (some l) (242, 1222, ls, (.int b :: .int a :: st), w) = zrun (some l) (242, 1223, ls, (.int (a + b) :: st), w) := (zEs (i := .iadd) (by decide +kernel) _ _ _).trans rfl
theorem e242_1223 (l : List Value) (ls : List Value) (j : Int32) (st : List Value) (w : zH) : zrun (some l) (242, 1223, ls, (.int j :: .ref 1000006 :: st), w) = zoi (zsx l j) (fun x => zrun (some l) (242, 1224, ls, (.int x :: st), w)) := (zEs (i := .iaload) (by decide +kernel) _ _ _).trans zqs_iald
theorem e242_1224 (l : List Value) (v1 v2 v3 : Value) (x : Nat) (st : List Value) (w : zH) : zrun (some l) (242, 1224, [.ref x, v1, v2, v3], st, w) = zrun (some l) (242, 1225, [.ref x, v1, v2, v3], (.ref x :: st), w) := (zEs (i := .aload_n 0) (by decide +kernel) _ _ _).trans rfl
theorem e242_1224n (l : List Value) (v1 v2 v3 : Value) (st : List Value) (w : zH) : zrun (some l) (242, 1224, [.null, v1, v2, v3], st, w) = zrun (some l) (242, 1225, [.null, v1, v2, v3], (.null :: st), w) := (zEs (i := .aload_n 0) (by decide +kernel) _ _ _).trans rfl
theorem e242_1225 (l : List Value) (v0 v1 v2 : Value) (x : Int32) (st : List Value) (w : zH) : zrun (some l) (242, 1225, [v0, v1, v2, .int x], st, w) = zrun (some l) (242, 1226, [v0, v1, v2, .int x], (.int x :: st), w) := (zEs (i := .iload_n 3) (by decide +kernel) _ _ _).trans rfl
theorem e242_1226 (l : List Value) (ls st : List Value) (w : zH) : zrun (some l) (242, 1226, ls, st, w) = zrun (some l) (242, 1227, ls, (.int 2 :: st), w) := (zEs (i := .iconst 2) (by decide +kernel) _ _ _).trans rfl
theorem e242_1227 (l : List Value) (ls : List Value) (a b : Int32) (st : List Value) (w : zH) : zrun (some l) (242, 1227, ls, (.int b :: .int a :: st), w) = zrun (some l) (242, 1228, ls, (.int (a + b) :: st), w) := (zEs (i := .iadd) (by decide +kernel) _ _ _).trans rfl
theorem e242_1228 (l : List Value) (ls : List Value) (j : Int32) (st : List Value) (w : zH) : zrun (some l) (242, 1228, ls, (.int j :: .ref 1000006 :: st), w) = zoi (zsx l j) (fun x => zrun (some l) (242, 1229, ls, (.int x :: st), w)) := (zEs (i := .iaload) (by decide +kernel) _ _ _).trans zqs_iald
theorem e242_1229 (l : List Value) (ls : List Value) (a : Nat) (x0 : Int32) (x1 : Int32) (st : List Value) (w : zH) (hr : zcat st ≤ 8) (hc : zis w a 12) : zrun (some l) (242, 1229, ls, (.int x1 :: .int x0 :: .ref a :: st), w) = zcl (zrun (some l) (205, 0, [.ref a, .int x0, .int x1, zJ], [], w)) (fun r => zrun (some l) (242, 1232, ls, r.1.toList ++ st, r.2)) := by
  refine (zEs (i := .invokevirtual 205) (by decide +kernel) _ _ _).trans ?_
  show zresx (some l) (zinv (some l) 205 242 1229 ls (.int x1 :: .int x0 :: .ref a :: st) w) = _
  unfold zinv
  show zresx (some l) (if zrc (some l) 205 w (.ref a) = true then zcall 205 [.ref a, .int x0, .int x1] st 242 1229 ls w else none) = _
  rw [if_pos (zrc_more (zrc_is hc (by decide +kernel)))]
  exact zqs_call hr (Nat.le_of_ble_eq_true rfl) rfl rfl
theorem e242_1232 (l : List Value) (ls : List Value) (a b : Int32) (st : List Value) (w : zH) : zrun (some l) (242, 1232, ls, (.int b :: .int a :: st), w) = if a = b then zrun (some l) (242, 1557, ls, st, w) else zrun (some l) (242, 1235, ls, st, w) := (zEs (i := .if_icmp .eq 325) (by decide +kernel) _ _ _).trans (zqs_ic_eq rfl rfl)
theorem e242_1235 (l : List Value) (ls st : List Value) (w : zH) : zrun (some l) (242, 1235, ls, st, w) = zrun (some l) (242, 1236, ls, (.int 0 :: st), w) := (zEs (i := .iconst 0) (by decide +kernel) _ _ _).trans rfl
theorem e242_1236 (l : List Value) (ls : List Value) (x : Int32) (w : zH) (h : narrow .boolean (.int x) = .int x) : zrun (some l) (242, 1236, ls, [.int x], w) = some (some (.int x), w) := by
  refine (zEs (i := .ireturn) (by decide +kernel) _ _ _).trans ?_
  show zresx (some l) (if narrow .boolean (.int x) = .int x then _ else none) = _
  rw [if_pos h]
  rfl
theorem e242_1237 (l : List Value) (v0 v2 v3 : Value) (x : Nat) (st : List Value) (w : zH) : zrun (some l) (242, 1237, [v0, .ref x, v2, v3], st, w) = zrun (some l) (242, 1238, [v0, .ref x, v2, v3], (.ref x :: st), w) := (zEs (i := .aload_n 1) (by decide +kernel) _ _ _).trans rfl
theorem e242_1237n (l : List Value) (v0 v2 v3 : Value) (st : List Value) (w : zH) : zrun (some l) (242, 1237, [v0, .null, v2, v3], st, w) = zrun (some l) (242, 1238, [v0, .null, v2, v3], (.null :: st), w) := (zEs (i := .aload_n 1) (by decide +kernel) _ _ _).trans rfl
theorem e242_1238 (l : List Value) (v1 v2 v3 : Value) (x : Nat) (st : List Value) (w : zH) : zrun (some l) (242, 1238, [.ref x, v1, v2, v3], st, w) = zrun (some l) (242, 1239, [.ref x, v1, v2, v3], (.ref x :: st), w) := (zEs (i := .aload_n 0) (by decide +kernel) _ _ _).trans rfl
theorem e242_1238n (l : List Value) (v1 v2 v3 : Value) (st : List Value) (w : zH) : zrun (some l) (242, 1238, [.null, v1, v2, v3], st, w) = zrun (some l) (242, 1239, [.null, v1, v2, v3], (.null :: st), w) := (zEs (i := .aload_n 0) (by decide +kernel) _ _ _).trans rfl
theorem e242_1239 (l : List Value) (v0 v1 v2 : Value) (x : Int32) (st : List Value) (w : zH) : zrun (some l) (242, 1239, [v0, v1, v2, .int x], st, w) = zrun (some l) (242, 1240, [v0, v1, v2, .int x], (.int x :: st), w) := (zEs (i := .iload_n 3) (by decide +kernel) _ _ _).trans rfl
theorem e242_1240 (l : List Value) (ls st : List Value) (w : zH) : zrun (some l) (242, 1240, ls, st, w) = zrun (some l) (242, 1241, ls, (.int 1 :: st), w) := (zEs (i := .iconst 1) (by decide +kernel) _ _ _).trans rfl
theorem e242_1241 (l : List Value) (ls : List Value) (a b : Int32) (st : List Value) (w : zH) : zrun (some l) (242, 1241, ls, (.int b :: .int a :: st), w) = zrun (some l) (242, 1242, ls, (.int (a + b) :: st), w) := (zEs (i := .iadd) (by decide +kernel) _ _ _).trans rfl
theorem e242_1242 (l : List Value) (ls : List Value) (j : Int32) (st : List Value) (w : zH) : zrun (some l) (242, 1242, ls, (.int j :: .ref 1000006 :: st), w) = zoi (zsx l j) (fun x => zrun (some l) (242, 1243, ls, (.int x :: st), w)) := (zEs (i := .iaload) (by decide +kernel) _ _ _).trans zqs_iald
theorem e242_1243 (l : List Value) (v1 v2 v3 : Value) (x : Nat) (st : List Value) (w : zH) : zrun (some l) (242, 1243, [.ref x, v1, v2, v3], st, w) = zrun (some l) (242, 1244, [.ref x, v1, v2, v3], (.ref x :: st), w) := (zEs (i := .aload_n 0) (by decide +kernel) _ _ _).trans rfl
theorem e242_1243n (l : List Value) (v1 v2 v3 : Value) (st : List Value) (w : zH) : zrun (some l) (242, 1243, [.null, v1, v2, v3], st, w) = zrun (some l) (242, 1244, [.null, v1, v2, v3], (.null :: st), w) := (zEs (i := .aload_n 0) (by decide +kernel) _ _ _).trans rfl
theorem e242_1244 (l : List Value) (v0 v1 v2 : Value) (x : Int32) (st : List Value) (w : zH) : zrun (some l) (242, 1244, [v0, v1, v2, .int x], st, w) = zrun (some l) (242, 1245, [v0, v1, v2, .int x], (.int x :: st), w) := (zEs (i := .iload_n 3) (by decide +kernel) _ _ _).trans rfl
theorem e242_1245 (l : List Value) (ls st : List Value) (w : zH) : zrun (some l) (242, 1245, ls, st, w) = zrun (some l) (242, 1246, ls, (.int 2 :: st), w) := (zEs (i := .iconst 2) (by decide +kernel) _ _ _).trans rfl
theorem e242_1246 (l : List Value) (ls : List Value) (a b : Int32) (st : List Value) (w : zH) : zrun (some l) (242, 1246, ls, (.int b :: .int a :: st), w) = zrun (some l) (242, 1247, ls, (.int (a + b) :: st), w) := (zEs (i := .iadd) (by decide +kernel) _ _ _).trans rfl
theorem e242_1247 (l : List Value) (ls : List Value) (j : Int32) (st : List Value) (w : zH) : zrun (some l) (242, 1247, ls, (.int j :: .ref 1000006 :: st), w) = zoi (zsx l j) (fun x => zrun (some l) (242, 1248, ls, (.int x :: st), w)) := (zEs (i := .iaload) (by decide +kernel) _ _ _).trans zqs_iald
theorem e242_1248 (l : List Value) (v1 v2 v3 : Value) (x : Nat) (st : List Value) (w : zH) : zrun (some l) (242, 1248, [.ref x, v1, v2, v3], st, w) = zrun (some l) (242, 1249, [.ref x, v1, v2, v3], (.ref x :: st), w) := (zEs (i := .aload_n 0) (by decide +kernel) _ _ _).trans rfl
theorem e242_1248n (l : List Value) (v1 v2 v3 : Value) (st : List Value) (w : zH) : zrun (some l) (242, 1248, [.null, v1, v2, v3], st, w) = zrun (some l) (242, 1249, [.null, v1, v2, v3], (.null :: st), w) := (zEs (i := .aload_n 0) (by decide +kernel) _ _ _).trans rfl
theorem e242_1249 (l : List Value) (v0 v1 v2 : Value) (x : Int32) (st : List Value) (w : zH) : zrun (some l) (242, 1249, [v0, v1, v2, .int x], st, w) = zrun (some l) (242, 1250, [v0, v1, v2, .int x], (.int x :: st), w) := (zEs (i := .iload_n 3) (by decide +kernel) _ _ _).trans rfl
theorem e242_1250 (l : List Value) (ls st : List Value) (w : zH) : zrun (some l) (242, 1250, ls, st, w) = zrun (some l) (242, 1251, ls, (.int 3 :: st), w) := (zEs (i := .iconst 3) (by decide +kernel) _ _ _).trans rfl
theorem e242_1251 (l : List Value) (ls : List Value) (a b : Int32) (st : List Value) (w : zH) : zrun (some l) (242, 1251, ls, (.int b :: .int a :: st), w) = zrun (some l) (242, 1252, ls, (.int (a + b) :: st), w) := (zEs (i := .iadd) (by decide +kernel) _ _ _).trans rfl
theorem e242_1252 (l : List Value) (ls : List Value) (j : Int32) (st : List Value) (w : zH) : zrun (some l) (242, 1252, ls, (.int j :: .ref 1000006 :: st), w) = zoi (zsx l j) (fun x => zrun (some l) (242, 1253, ls, (.int x :: st), w)) := (zEs (i := .iaload) (by decide +kernel) _ _ _).trans zqs_iald
theorem e242_1253 (l : List Value) (v1 v2 v3 : Value) (x : Nat) (st : List Value) (w : zH) : zrun (some l) (242, 1253, [.ref x, v1, v2, v3], st, w) = zrun (some l) (242, 1254, [.ref x, v1, v2, v3], (.ref x :: st), w) := (zEs (i := .aload_n 0) (by decide +kernel) _ _ _).trans rfl
theorem e242_1253n (l : List Value) (v1 v2 v3 : Value) (st : List Value) (w : zH) : zrun (some l) (242, 1253, [.null, v1, v2, v3], st, w) = zrun (some l) (242, 1254, [.null, v1, v2, v3], (.null :: st), w) := (zEs (i := .aload_n 0) (by decide +kernel) _ _ _).trans rfl
theorem e242_1254 (l : List Value) (v0 v1 v2 : Value) (x : Int32) (st : List Value) (w : zH) : zrun (some l) (242, 1254, [v0, v1, v2, .int x], st, w) = zrun (some l) (242, 1255, [v0, v1, v2, .int x], (.int x :: st), w) := (zEs (i := .iload_n 3) (by decide +kernel) _ _ _).trans rfl
theorem e242_1255 (l : List Value) (ls st : List Value) (w : zH) : zrun (some l) (242, 1255, ls, st, w) = zrun (some l) (242, 1256, ls, (.int 4 :: st), w) := (zEs (i := .iconst 4) (by decide +kernel) _ _ _).trans rfl
theorem e242_1256 (l : List Value) (ls : List Value) (a b : Int32) (st : List Value) (w : zH) : zrun (some l) (242, 1256, ls, (.int b :: .int a :: st), w) = zrun (some l) (242, 1257, ls, (.int (a + b) :: st), w) := (zEs (i := .iadd) (by decide +kernel) _ _ _).trans rfl
theorem e242_1257 (l : List Value) (ls : List Value) (j : Int32) (st : List Value) (w : zH) : zrun (some l) (242, 1257, ls, (.int j :: .ref 1000006 :: st), w) = zoi (zsx l j) (fun x => zrun (some l) (242, 1258, ls, (.int x :: st), w)) := (zEs (i := .iaload) (by decide +kernel) _ _ _).trans zqs_iald
theorem e242_1258 (l : List Value) (ls : List Value) (a : Nat) (x0 : Int32) (x1 : Int32) (x2 : Int32) (x3 : Int32) (st : List Value) (w : zH) (hr : zcat st ≤ 8) (hc : zis w a 11) : zrun (some l) (242, 1258, ls, (.int x3 :: .int x2 :: .int x1 :: .int x0 :: .ref a :: st), w) = zcl (zrun (some l) (90, 0, [.ref a, .int x0, .int x1, .int x2, .int x3, zJ, zJ], [], w)) (fun r => zrun (some l) (242, 1261, ls, r.1.toList ++ st, r.2)) := by
  refine (zEs (i := .invokevirtual 90) (by decide +kernel) _ _ _).trans ?_
  show zresx (some l) (zinv (some l) 90 242 1258 ls (.int x3 :: .int x2 :: .int x1 :: .int x0 :: .ref a :: st) w) = _
  unfold zinv
  show zresx (some l) (if zrc (some l) 90 w (.ref a) = true then zcall 90 [.ref a, .int x0, .int x1, .int x2, .int x3] st 242 1258 ls w else none) = _
  rw [if_pos (zrc_more (zrc_is hc (by decide +kernel)))]
  exact zqs_call hr (Nat.le_of_ble_eq_true rfl) rfl rfl
theorem e242_1261 (l : List Value) (v0 v1 v3 : Value) (x : Nat) (st : List Value) (w : zH) : zrun (some l) (242, 1261, [v0, v1, .ref x, v3], st, w) = zrun (some l) (242, 1262, [v0, v1, .ref x, v3], (.ref x :: st), w) := (zEs (i := .aload_n 2) (by decide +kernel) _ _ _).trans rfl
theorem e242_1261n (l : List Value) (v0 v1 v3 : Value) (st : List Value) (w : zH) : zrun (some l) (242, 1261, [v0, v1, .null, v3], st, w) = zrun (some l) (242, 1262, [v0, v1, .null, v3], (.null :: st), w) := (zEs (i := .aload_n 2) (by decide +kernel) _ _ _).trans rfl
theorem e242_1262 (l : List Value) (v1 v2 v3 : Value) (x : Nat) (st : List Value) (w : zH) : zrun (some l) (242, 1262, [.ref x, v1, v2, v3], st, w) = zrun (some l) (242, 1263, [.ref x, v1, v2, v3], (.ref x :: st), w) := (zEs (i := .aload_n 0) (by decide +kernel) _ _ _).trans rfl
theorem e242_1262n (l : List Value) (v1 v2 v3 : Value) (st : List Value) (w : zH) : zrun (some l) (242, 1262, [.null, v1, v2, v3], st, w) = zrun (some l) (242, 1263, [.null, v1, v2, v3], (.null :: st), w) := (zEs (i := .aload_n 0) (by decide +kernel) _ _ _).trans rfl
theorem e242_1263 (l : List Value) (v0 v1 v2 : Value) (x : Int32) (st : List Value) (w : zH) : zrun (some l) (242, 1263, [v0, v1, v2, .int x], st, w) = zrun (some l) (242, 1264, [v0, v1, v2, .int x], (.int x :: st), w) := (zEs (i := .iload_n 3) (by decide +kernel) _ _ _).trans rfl
theorem e242_1264 (l : List Value) (ls st : List Value) (w : zH) : zrun (some l) (242, 1264, ls, st, w) = zrun (some l) (242, 1265, ls, (.int 1 :: st), w) := (zEs (i := .iconst 1) (by decide +kernel) _ _ _).trans rfl
theorem e242_1265 (l : List Value) (ls : List Value) (a b : Int32) (st : List Value) (w : zH) : zrun (some l) (242, 1265, ls, (.int b :: .int a :: st), w) = zrun (some l) (242, 1266, ls, (.int (a + b) :: st), w) := (zEs (i := .iadd) (by decide +kernel) _ _ _).trans rfl
theorem e242_1266 (l : List Value) (ls : List Value) (j : Int32) (st : List Value) (w : zH) : zrun (some l) (242, 1266, ls, (.int j :: .ref 1000006 :: st), w) = zoi (zsx l j) (fun x => zrun (some l) (242, 1267, ls, (.int x :: st), w)) := (zEs (i := .iaload) (by decide +kernel) _ _ _).trans zqs_iald
theorem e242_1267 (l : List Value) (v1 v2 v3 : Value) (x : Nat) (st : List Value) (w : zH) : zrun (some l) (242, 1267, [.ref x, v1, v2, v3], st, w) = zrun (some l) (242, 1268, [.ref x, v1, v2, v3], (.ref x :: st), w) := (zEs (i := .aload_n 0) (by decide +kernel) _ _ _).trans rfl
theorem e242_1267n (l : List Value) (v1 v2 v3 : Value) (st : List Value) (w : zH) : zrun (some l) (242, 1267, [.null, v1, v2, v3], st, w) = zrun (some l) (242, 1268, [.null, v1, v2, v3], (.null :: st), w) := (zEs (i := .aload_n 0) (by decide +kernel) _ _ _).trans rfl
theorem e242_1268 (l : List Value) (v0 v1 v2 : Value) (x : Int32) (st : List Value) (w : zH) : zrun (some l) (242, 1268, [v0, v1, v2, .int x], st, w) = zrun (some l) (242, 1269, [v0, v1, v2, .int x], (.int x :: st), w) := (zEs (i := .iload_n 3) (by decide +kernel) _ _ _).trans rfl
theorem e242_1269 (l : List Value) (ls st : List Value) (w : zH) : zrun (some l) (242, 1269, ls, st, w) = zrun (some l) (242, 1270, ls, (.int 2 :: st), w) := (zEs (i := .iconst 2) (by decide +kernel) _ _ _).trans rfl
theorem e242_1270 (l : List Value) (ls : List Value) (a b : Int32) (st : List Value) (w : zH) : zrun (some l) (242, 1270, ls, (.int b :: .int a :: st), w) = zrun (some l) (242, 1271, ls, (.int (a + b) :: st), w) := (zEs (i := .iadd) (by decide +kernel) _ _ _).trans rfl
theorem e242_1271 (l : List Value) (ls : List Value) (j : Int32) (st : List Value) (w : zH) : zrun (some l) (242, 1271, ls, (.int j :: .ref 1000006 :: st), w) = zoi (zsx l j) (fun x => zrun (some l) (242, 1272, ls, (.int x :: st), w)) := (zEs (i := .iaload) (by decide +kernel) _ _ _).trans zqs_iald
theorem e242_1272 (l : List Value) (v1 v2 v3 : Value) (x : Nat) (st : List Value) (w : zH) : zrun (some l) (242, 1272, [.ref x, v1, v2, v3], st, w) = zrun (some l) (242, 1273, [.ref x, v1, v2, v3], (.ref x :: st), w) := (zEs (i := .aload_n 0) (by decide +kernel) _ _ _).trans rfl
theorem e242_1272n (l : List Value) (v1 v2 v3 : Value) (st : List Value) (w : zH) : zrun (some l) (242, 1272, [.null, v1, v2, v3], st, w) = zrun (some l) (242, 1273, [.null, v1, v2, v3], (.null :: st), w) := (zEs (i := .aload_n 0) (by decide +kernel) _ _ _).trans rfl
theorem e242_1273 (l : List Value) (v0 v1 v2 : Value) (x : Int32) (st : List Value) (w : zH) : zrun (some l) (242, 1273, [v0, v1, v2, .int x], st, w) = zrun (some l) (242, 1274, [v0, v1, v2, .int x], (.int x :: st), w) := (zEs (i := .iload_n 3) (by decide +kernel) _ _ _).trans rfl
theorem e242_1274 (l : List Value) (ls st : List Value) (w : zH) : zrun (some l) (242, 1274, ls, st, w) = zrun (some l) (242, 1275, ls, (.int 3 :: st), w) := (zEs (i := .iconst 3) (by decide +kernel) _ _ _).trans rfl
theorem e242_1275 (l : List Value) (ls : List Value) (a b : Int32) (st : List Value) (w : zH) : zrun (some l) (242, 1275, ls, (.int b :: .int a :: st), w) = zrun (some l) (242, 1276, ls, (.int (a + b) :: st), w) := (zEs (i := .iadd) (by decide +kernel) _ _ _).trans rfl
theorem e242_1276 (l : List Value) (ls : List Value) (j : Int32) (st : List Value) (w : zH) : zrun (some l) (242, 1276, ls, (.int j :: .ref 1000006 :: st), w) = zoi (zsx l j) (fun x => zrun (some l) (242, 1277, ls, (.int x :: st), w)) := (zEs (i := .iaload) (by decide +kernel) _ _ _).trans zqs_iald
theorem e242_1277 (l : List Value) (v1 v2 v3 : Value) (x : Nat) (st : List Value) (w : zH) : zrun (some l) (242, 1277, [.ref x, v1, v2, v3], st, w) = zrun (some l) (242, 1278, [.ref x, v1, v2, v3], (.ref x :: st), w) := (zEs (i := .aload_n 0) (by decide +kernel) _ _ _).trans rfl
theorem e242_1277n (l : List Value) (v1 v2 v3 : Value) (st : List Value) (w : zH) : zrun (some l) (242, 1277, [.null, v1, v2, v3], st, w) = zrun (some l) (242, 1278, [.null, v1, v2, v3], (.null :: st), w) := (zEs (i := .aload_n 0) (by decide +kernel) _ _ _).trans rfl
theorem e242_1278 (l : List Value) (v0 v1 v2 : Value) (x : Int32) (st : List Value) (w : zH) : zrun (some l) (242, 1278, [v0, v1, v2, .int x], st, w) = zrun (some l) (242, 1279, [v0, v1, v2, .int x], (.int x :: st), w) := (zEs (i := .iload_n 3) (by decide +kernel) _ _ _).trans rfl
theorem e242_1279 (l : List Value) (ls st : List Value) (w : zH) : zrun (some l) (242, 1279, ls, st, w) = zrun (some l) (242, 1280, ls, (.int 4 :: st), w) := (zEs (i := .iconst 4) (by decide +kernel) _ _ _).trans rfl
theorem e242_1280 (l : List Value) (ls : List Value) (a b : Int32) (st : List Value) (w : zH) : zrun (some l) (242, 1280, ls, (.int b :: .int a :: st), w) = zrun (some l) (242, 1281, ls, (.int (a + b) :: st), w) := (zEs (i := .iadd) (by decide +kernel) _ _ _).trans rfl
theorem e242_1281 (l : List Value) (ls : List Value) (j : Int32) (st : List Value) (w : zH) : zrun (some l) (242, 1281, ls, (.int j :: .ref 1000006 :: st), w) = zoi (zsx l j) (fun x => zrun (some l) (242, 1282, ls, (.int x :: st), w)) := (zEs (i := .iaload) (by decide +kernel) _ _ _).trans zqs_iald
theorem e242_1282 (l : List Value) (ls : List Value) (a : Nat) (x0 : Int32) (x1 : Int32) (x2 : Int32) (x3 : Int32) (st : List Value) (w : zH) (hr : zcat st ≤ 8) (hc : zis w a 12) : zrun (some l) (242, 1282, ls, (.int x3 :: .int x2 :: .int x1 :: .int x0 :: .ref a :: st), w) = zcl (zrun (some l) (209, 0, [.ref a, .int x0, .int x1, .int x2, .int x3, zJ], [], w)) (fun r => zrun (some l) (242, 1285, ls, r.1.toList ++ st, r.2)) := by
  refine (zEs (i := .invokevirtual 209) (by decide +kernel) _ _ _).trans ?_
  show zresx (some l) (zinv (some l) 209 242 1282 ls (.int x3 :: .int x2 :: .int x1 :: .int x0 :: .ref a :: st) w) = _
  unfold zinv
  show zresx (some l) (if zrc (some l) 209 w (.ref a) = true then zcall 209 [.ref a, .int x0, .int x1, .int x2, .int x3] st 242 1282 ls w else none) = _
  rw [if_pos (zrc_more (zrc_is hc (by decide +kernel)))]
  exact zqs_call hr (Nat.le_of_ble_eq_true rfl) rfl rfl
theorem e242_1285 (l : List Value) (ls : List Value) (a b : Int32) (st : List Value) (w : zH) : zrun (some l) (242, 1285, ls, (.int b :: .int a :: st), w) = if a = b then zrun (some l) (242, 1557, ls, st, w) else zrun (some l) (242, 1288, ls, st, w) := (zEs (i := .if_icmp .eq 272) (by decide +kernel) _ _ _).trans (zqs_ic_eq rfl rfl)
theorem e242_1288 (l : List Value) (ls st : List Value) (w : zH) : zrun (some l) (242, 1288, ls, st, w) = zrun (some l) (242, 1289, ls, (.int 0 :: st), w) := (zEs (i := .iconst 0) (by decide +kernel) _ _ _).trans rfl
theorem e242_1289 (l : List Value) (ls : List Value) (x : Int32) (w : zH) (h : narrow .boolean (.int x) = .int x) : zrun (some l) (242, 1289, ls, [.int x], w) = some (some (.int x), w) := by
  refine (zEs (i := .ireturn) (by decide +kernel) _ _ _).trans ?_
  show zresx (some l) (if narrow .boolean (.int x) = .int x then _ else none) = _
  rw [if_pos h]
  rfl
theorem e242_1290 (l : List Value) (v0 v2 v3 : Value) (x : Nat) (st : List Value) (w : zH) : zrun (some l) (242, 1290, [v0, .ref x, v2, v3], st, w) = zrun (some l) (242, 1291, [v0, .ref x, v2, v3], (.ref x :: st), w) := (zEs (i := .aload_n 1) (by decide +kernel) _ _ _).trans rfl
theorem e242_1290n (l : List Value) (v0 v2 v3 : Value) (st : List Value) (w : zH) : zrun (some l) (242, 1290, [v0, .null, v2, v3], st, w) = zrun (some l) (242, 1291, [v0, .null, v2, v3], (.null :: st), w) := (zEs (i := .aload_n 1) (by decide +kernel) _ _ _).trans rfl
theorem e242_1291 (l : List Value) (v1 v2 v3 : Value) (x : Nat) (st : List Value) (w : zH) : zrun (some l) (242, 1291, [.ref x, v1, v2, v3], st, w) = zrun (some l) (242, 1292, [.ref x, v1, v2, v3], (.ref x :: st), w) := (zEs (i := .aload_n 0) (by decide +kernel) _ _ _).trans rfl
theorem e242_1291n (l : List Value) (v1 v2 v3 : Value) (st : List Value) (w : zH) : zrun (some l) (242, 1291, [.null, v1, v2, v3], st, w) = zrun (some l) (242, 1292, [.null, v1, v2, v3], (.null :: st), w) := (zEs (i := .aload_n 0) (by decide +kernel) _ _ _).trans rfl
theorem e242_1292 (l : List Value) (v0 v1 v2 : Value) (x : Int32) (st : List Value) (w : zH) : zrun (some l) (242, 1292, [v0, v1, v2, .int x], st, w) = zrun (some l) (242, 1293, [v0, v1, v2, .int x], (.int x :: st), w) := (zEs (i := .iload_n 3) (by decide +kernel) _ _ _).trans rfl
theorem e242_1293 (l : List Value) (ls st : List Value) (w : zH) : zrun (some l) (242, 1293, ls, st, w) = zrun (some l) (242, 1294, ls, (.int 1 :: st), w) := (zEs (i := .iconst 1) (by decide +kernel) _ _ _).trans rfl
theorem e242_1294 (l : List Value) (ls : List Value) (a b : Int32) (st : List Value) (w : zH) : zrun (some l) (242, 1294, ls, (.int b :: .int a :: st), w) = zrun (some l) (242, 1295, ls, (.int (a + b) :: st), w) := (zEs (i := .iadd) (by decide +kernel) _ _ _).trans rfl
theorem e242_1295 (l : List Value) (ls : List Value) (j : Int32) (st : List Value) (w : zH) : zrun (some l) (242, 1295, ls, (.int j :: .ref 1000006 :: st), w) = zoi (zsx l j) (fun x => zrun (some l) (242, 1296, ls, (.int x :: st), w)) := (zEs (i := .iaload) (by decide +kernel) _ _ _).trans zqs_iald
theorem e242_1296 (l : List Value) (v1 v2 v3 : Value) (x : Nat) (st : List Value) (w : zH) : zrun (some l) (242, 1296, [.ref x, v1, v2, v3], st, w) = zrun (some l) (242, 1297, [.ref x, v1, v2, v3], (.ref x :: st), w) := (zEs (i := .aload_n 0) (by decide +kernel) _ _ _).trans rfl
theorem e242_1296n (l : List Value) (v1 v2 v3 : Value) (st : List Value) (w : zH) : zrun (some l) (242, 1296, [.null, v1, v2, v3], st, w) = zrun (some l) (242, 1297, [.null, v1, v2, v3], (.null :: st), w) := (zEs (i := .aload_n 0) (by decide +kernel) _ _ _).trans rfl
theorem e242_1297 (l : List Value) (v0 v1 v2 : Value) (x : Int32) (st : List Value) (w : zH) : zrun (some l) (242, 1297, [v0, v1, v2, .int x], st, w) = zrun (some l) (242, 1298, [v0, v1, v2, .int x], (.int x :: st), w) := (zEs (i := .iload_n 3) (by decide +kernel) _ _ _).trans rfl
theorem e242_1298 (l : List Value) (ls st : List Value) (w : zH) : zrun (some l) (242, 1298, ls, st, w) = zrun (some l) (242, 1299, ls, (.int 2 :: st), w) := (zEs (i := .iconst 2) (by decide +kernel) _ _ _).trans rfl
theorem e242_1299 (l : List Value) (ls : List Value) (a b : Int32) (st : List Value) (w : zH) : zrun (some l) (242, 1299, ls, (.int b :: .int a :: st), w) = zrun (some l) (242, 1300, ls, (.int (a + b) :: st), w) := (zEs (i := .iadd) (by decide +kernel) _ _ _).trans rfl
theorem e242_1300 (l : List Value) (ls : List Value) (j : Int32) (st : List Value) (w : zH) : zrun (some l) (242, 1300, ls, (.int j :: .ref 1000006 :: st), w) = zoi (zsx l j) (fun x => zrun (some l) (242, 1301, ls, (.int x :: st), w)) := (zEs (i := .iaload) (by decide +kernel) _ _ _).trans zqs_iald
theorem e242_1301 (l : List Value) (ls : List Value) (a : Nat) (x0 : Int32) (x1 : Int32) (st : List Value) (w : zH) (hr : zcat st ≤ 8) (hc : zis w a 11) : zrun (some l) (242, 1301, ls, (.int x1 :: .int x0 :: .ref a :: st), w) = zcl (zrun (some l) (91, 0, [.ref a, .int x0, .int x1], [], w)) (fun r => zrun (some l) (242, 1304, ls, r.1.toList ++ st, r.2)) := by
  refine (zEs (i := .invokevirtual 91) (by decide +kernel) _ _ _).trans ?_
  show zresx (some l) (zinv (some l) 91 242 1301 ls (.int x1 :: .int x0 :: .ref a :: st) w) = _
  unfold zinv
  show zresx (some l) (if zrc (some l) 91 w (.ref a) = true then zcall 91 [.ref a, .int x0, .int x1] st 242 1301 ls w else none) = _
  rw [if_pos (zrc_more (zrc_is hc (by decide +kernel)))]
  exact zqs_call hr (Nat.le_of_ble_eq_true rfl) rfl rfl
theorem e242_1304 (l : List Value) (v0 v1 v3 : Value) (x : Nat) (st : List Value) (w : zH) : zrun (some l) (242, 1304, [v0, v1, .ref x, v3], st, w) = zrun (some l) (242, 1305, [v0, v1, .ref x, v3], (.ref x :: st), w) := (zEs (i := .aload_n 2) (by decide +kernel) _ _ _).trans rfl
theorem e242_1304n (l : List Value) (v0 v1 v3 : Value) (st : List Value) (w : zH) : zrun (some l) (242, 1304, [v0, v1, .null, v3], st, w) = zrun (some l) (242, 1305, [v0, v1, .null, v3], (.null :: st), w) := (zEs (i := .aload_n 2) (by decide +kernel) _ _ _).trans rfl
theorem e242_1305 (l : List Value) (v1 v2 v3 : Value) (x : Nat) (st : List Value) (w : zH) : zrun (some l) (242, 1305, [.ref x, v1, v2, v3], st, w) = zrun (some l) (242, 1306, [.ref x, v1, v2, v3], (.ref x :: st), w) := (zEs (i := .aload_n 0) (by decide +kernel) _ _ _).trans rfl
theorem e242_1305n (l : List Value) (v1 v2 v3 : Value) (st : List Value) (w : zH) : zrun (some l) (242, 1305, [.null, v1, v2, v3], st, w) = zrun (some l) (242, 1306, [.null, v1, v2, v3], (.null :: st), w) := (zEs (i := .aload_n 0) (by decide +kernel) _ _ _).trans rfl
theorem e242_1306 (l : List Value) (v0 v1 v2 : Value) (x : Int32) (st : List Value) (w : zH) : zrun (some l) (242, 1306, [v0, v1, v2, .int x], st, w) = zrun (some l) (242, 1307, [v0, v1, v2, .int x], (.int x :: st), w) := (zEs (i := .iload_n 3) (by decide +kernel) _ _ _).trans rfl
theorem e242_1307 (l : List Value) (ls st : List Value) (w : zH) : zrun (some l) (242, 1307, ls, st, w) = zrun (some l) (242, 1308, ls, (.int 1 :: st), w) := (zEs (i := .iconst 1) (by decide +kernel) _ _ _).trans rfl
theorem e242_1308 (l : List Value) (ls : List Value) (a b : Int32) (st : List Value) (w : zH) : zrun (some l) (242, 1308, ls, (.int b :: .int a :: st), w) = zrun (some l) (242, 1309, ls, (.int (a + b) :: st), w) := (zEs (i := .iadd) (by decide +kernel) _ _ _).trans rfl
theorem e242_1309 (l : List Value) (ls : List Value) (j : Int32) (st : List Value) (w : zH) : zrun (some l) (242, 1309, ls, (.int j :: .ref 1000006 :: st), w) = zoi (zsx l j) (fun x => zrun (some l) (242, 1310, ls, (.int x :: st), w)) := (zEs (i := .iaload) (by decide +kernel) _ _ _).trans zqs_iald
theorem e242_1310 (l : List Value) (v1 v2 v3 : Value) (x : Nat) (st : List Value) (w : zH) : zrun (some l) (242, 1310, [.ref x, v1, v2, v3], st, w) = zrun (some l) (242, 1311, [.ref x, v1, v2, v3], (.ref x :: st), w) := (zEs (i := .aload_n 0) (by decide +kernel) _ _ _).trans rfl
theorem e242_1310n (l : List Value) (v1 v2 v3 : Value) (st : List Value) (w : zH) : zrun (some l) (242, 1310, [.null, v1, v2, v3], st, w) = zrun (some l) (242, 1311, [.null, v1, v2, v3], (.null :: st), w) := (zEs (i := .aload_n 0) (by decide +kernel) _ _ _).trans rfl
theorem e242_1311 (l : List Value) (v0 v1 v2 : Value) (x : Int32) (st : List Value) (w : zH) : zrun (some l) (242, 1311, [v0, v1, v2, .int x], st, w) = zrun (some l) (242, 1312, [v0, v1, v2, .int x], (.int x :: st), w) := (zEs (i := .iload_n 3) (by decide +kernel) _ _ _).trans rfl
theorem e242_1312 (l : List Value) (ls st : List Value) (w : zH) : zrun (some l) (242, 1312, ls, st, w) = zrun (some l) (242, 1313, ls, (.int 2 :: st), w) := (zEs (i := .iconst 2) (by decide +kernel) _ _ _).trans rfl
theorem e242_1313 (l : List Value) (ls : List Value) (a b : Int32) (st : List Value) (w : zH) : zrun (some l) (242, 1313, ls, (.int b :: .int a :: st), w) = zrun (some l) (242, 1314, ls, (.int (a + b) :: st), w) := (zEs (i := .iadd) (by decide +kernel) _ _ _).trans rfl
theorem e242_1314 (l : List Value) (ls : List Value) (j : Int32) (st : List Value) (w : zH) : zrun (some l) (242, 1314, ls, (.int j :: .ref 1000006 :: st), w) = zoi (zsx l j) (fun x => zrun (some l) (242, 1315, ls, (.int x :: st), w)) := (zEs (i := .iaload) (by decide +kernel) _ _ _).trans zqs_iald
theorem e242_1315 (l : List Value) (ls : List Value) (a : Nat) (x0 : Int32) (x1 : Int32) (st : List Value) (w : zH) (hr : zcat st ≤ 8) (hc : zis w a 12) : zrun (some l) (242, 1315, ls, (.int x1 :: .int x0 :: .ref a :: st), w) = zcl (zrun (some l) (210, 0, [.ref a, .int x0, .int x1, zJ, zJ, zJ], [], w)) (fun r => zrun (some l) (242, 1318, ls, r.1.toList ++ st, r.2)) := by
  refine (zEs (i := .invokevirtual 210) (by decide +kernel) _ _ _).trans ?_
  show zresx (some l) (zinv (some l) 210 242 1315 ls (.int x1 :: .int x0 :: .ref a :: st) w) = _
  unfold zinv
  show zresx (some l) (if zrc (some l) 210 w (.ref a) = true then zcall 210 [.ref a, .int x0, .int x1] st 242 1315 ls w else none) = _
  rw [if_pos (zrc_more (zrc_is hc (by decide +kernel)))]
  exact zqs_call hr (Nat.le_of_ble_eq_true rfl) rfl rfl
theorem e242_1318 (l : List Value) (ls : List Value) (a b : Int32) (st : List Value) (w : zH) : zrun (some l) (242, 1318, ls, (.int b :: .int a :: st), w) = if a = b then zrun (some l) (242, 1557, ls, st, w) else zrun (some l) (242, 1321, ls, st, w) := (zEs (i := .if_icmp .eq 239) (by decide +kernel) _ _ _).trans (zqs_ic_eq rfl rfl)
theorem e242_1321 (l : List Value) (ls st : List Value) (w : zH) : zrun (some l) (242, 1321, ls, st, w) = zrun (some l) (242, 1322, ls, (.int 0 :: st), w) := (zEs (i := .iconst 0) (by decide +kernel) _ _ _).trans rfl
theorem e242_1322 (l : List Value) (ls : List Value) (x : Int32) (w : zH) (h : narrow .boolean (.int x) = .int x) : zrun (some l) (242, 1322, ls, [.int x], w) = some (some (.int x), w) := by
  refine (zEs (i := .ireturn) (by decide +kernel) _ _ _).trans ?_
  show zresx (some l) (if narrow .boolean (.int x) = .int x then _ else none) = _
  rw [if_pos h]
  rfl
theorem e242_1323 (l : List Value) (v0 v2 v3 : Value) (x : Nat) (st : List Value) (w : zH) : zrun (some l) (242, 1323, [v0, .ref x, v2, v3], st, w) = zrun (some l) (242, 1324, [v0, .ref x, v2, v3], (.ref x :: st), w) := (zEs (i := .aload_n 1) (by decide +kernel) _ _ _).trans rfl
theorem e242_1323n (l : List Value) (v0 v2 v3 : Value) (st : List Value) (w : zH) : zrun (some l) (242, 1323, [v0, .null, v2, v3], st, w) = zrun (some l) (242, 1324, [v0, .null, v2, v3], (.null :: st), w) := (zEs (i := .aload_n 1) (by decide +kernel) _ _ _).trans rfl
theorem e242_1324 (l : List Value) (v1 v2 v3 : Value) (x : Nat) (st : List Value) (w : zH) : zrun (some l) (242, 1324, [.ref x, v1, v2, v3], st, w) = zrun (some l) (242, 1325, [.ref x, v1, v2, v3], (.ref x :: st), w) := (zEs (i := .aload_n 0) (by decide +kernel) _ _ _).trans rfl
theorem e242_1324n (l : List Value) (v1 v2 v3 : Value) (st : List Value) (w : zH) : zrun (some l) (242, 1324, [.null, v1, v2, v3], st, w) = zrun (some l) (242, 1325, [.null, v1, v2, v3], (.null :: st), w) := (zEs (i := .aload_n 0) (by decide +kernel) _ _ _).trans rfl
theorem e242_1325 (l : List Value) (v0 v1 v2 : Value) (x : Int32) (st : List Value) (w : zH) : zrun (some l) (242, 1325, [v0, v1, v2, .int x], st, w) = zrun (some l) (242, 1326, [v0, v1, v2, .int x], (.int x :: st), w) := (zEs (i := .iload_n 3) (by decide +kernel) _ _ _).trans rfl
theorem e242_1326 (l : List Value) (ls st : List Value) (w : zH) : zrun (some l) (242, 1326, ls, st, w) = zrun (some l) (242, 1327, ls, (.int 1 :: st), w) := (zEs (i := .iconst 1) (by decide +kernel) _ _ _).trans rfl
theorem e242_1327 (l : List Value) (ls : List Value) (a b : Int32) (st : List Value) (w : zH) : zrun (some l) (242, 1327, ls, (.int b :: .int a :: st), w) = zrun (some l) (242, 1328, ls, (.int (a + b) :: st), w) := (zEs (i := .iadd) (by decide +kernel) _ _ _).trans rfl
theorem e242_1328 (l : List Value) (ls : List Value) (j : Int32) (st : List Value) (w : zH) : zrun (some l) (242, 1328, ls, (.int j :: .ref 1000006 :: st), w) = zoi (zsx l j) (fun x => zrun (some l) (242, 1329, ls, (.int x :: st), w)) := (zEs (i := .iaload) (by decide +kernel) _ _ _).trans zqs_iald
theorem e242_1329 (l : List Value) (v1 v2 v3 : Value) (x : Nat) (st : List Value) (w : zH) : zrun (some l) (242, 1329, [.ref x, v1, v2, v3], st, w) = zrun (some l) (242, 1330, [.ref x, v1, v2, v3], (.ref x :: st), w) := (zEs (i := .aload_n 0) (by decide +kernel) _ _ _).trans rfl
theorem e242_1329n (l : List Value) (v1 v2 v3 : Value) (st : List Value) (w : zH) : zrun (some l) (242, 1329, [.null, v1, v2, v3], st, w) = zrun (some l) (242, 1330, [.null, v1, v2, v3], (.null :: st), w) := (zEs (i := .aload_n 0) (by decide +kernel) _ _ _).trans rfl
theorem e242_1330 (l : List Value) (v0 v1 v2 : Value) (x : Int32) (st : List Value) (w : zH) : zrun (some l) (242, 1330, [v0, v1, v2, .int x], st, w) = zrun (some l) (242, 1331, [v0, v1, v2, .int x], (.int x :: st), w) := (zEs (i := .iload_n 3) (by decide +kernel) _ _ _).trans rfl
theorem e242_1331 (l : List Value) (ls st : List Value) (w : zH) : zrun (some l) (242, 1331, ls, st, w) = zrun (some l) (242, 1332, ls, (.int 2 :: st), w) := (zEs (i := .iconst 2) (by decide +kernel) _ _ _).trans rfl
theorem e242_1332 (l : List Value) (ls : List Value) (a b : Int32) (st : List Value) (w : zH) : zrun (some l) (242, 1332, ls, (.int b :: .int a :: st), w) = zrun (some l) (242, 1333, ls, (.int (a + b) :: st), w) := (zEs (i := .iadd) (by decide +kernel) _ _ _).trans rfl
theorem e242_1333 (l : List Value) (ls : List Value) (j : Int32) (st : List Value) (w : zH) : zrun (some l) (242, 1333, ls, (.int j :: .ref 1000006 :: st), w) = zoi (zsx l j) (fun x => zrun (some l) (242, 1334, ls, (.int x :: st), w)) := (zEs (i := .iaload) (by decide +kernel) _ _ _).trans zqs_iald
theorem e242_1334 (l : List Value) (v1 v2 v3 : Value) (x : Nat) (st : List Value) (w : zH) : zrun (some l) (242, 1334, [.ref x, v1, v2, v3], st, w) = zrun (some l) (242, 1335, [.ref x, v1, v2, v3], (.ref x :: st), w) := (zEs (i := .aload_n 0) (by decide +kernel) _ _ _).trans rfl
theorem e242_1334n (l : List Value) (v1 v2 v3 : Value) (st : List Value) (w : zH) : zrun (some l) (242, 1334, [.null, v1, v2, v3], st, w) = zrun (some l) (242, 1335, [.null, v1, v2, v3], (.null :: st), w) := (zEs (i := .aload_n 0) (by decide +kernel) _ _ _).trans rfl
theorem e242_1335 (l : List Value) (v0 v1 v2 : Value) (x : Int32) (st : List Value) (w : zH) : zrun (some l) (242, 1335, [v0, v1, v2, .int x], st, w) = zrun (some l) (242, 1336, [v0, v1, v2, .int x], (.int x :: st), w) := (zEs (i := .iload_n 3) (by decide +kernel) _ _ _).trans rfl
theorem e242_1336 (l : List Value) (ls st : List Value) (w : zH) : zrun (some l) (242, 1336, ls, st, w) = zrun (some l) (242, 1337, ls, (.int 3 :: st), w) := (zEs (i := .iconst 3) (by decide +kernel) _ _ _).trans rfl
theorem e242_1337 (l : List Value) (ls : List Value) (a b : Int32) (st : List Value) (w : zH) : zrun (some l) (242, 1337, ls, (.int b :: .int a :: st), w) = zrun (some l) (242, 1338, ls, (.int (a + b) :: st), w) := (zEs (i := .iadd) (by decide +kernel) _ _ _).trans rfl
theorem e242_1338 (l : List Value) (ls : List Value) (j : Int32) (st : List Value) (w : zH) : zrun (some l) (242, 1338, ls, (.int j :: .ref 1000006 :: st), w) = zoi (zsx l j) (fun x => zrun (some l) (242, 1339, ls, (.int x :: st), w)) := (zEs (i := .iaload) (by decide +kernel) _ _ _).trans zqs_iald
theorem e242_1339 (l : List Value) (v1 v2 v3 : Value) (x : Nat) (st : List Value) (w : zH) : zrun (some l) (242, 1339, [.ref x, v1, v2, v3], st, w) = zrun (some l) (242, 1340, [.ref x, v1, v2, v3], (.ref x :: st), w) := (zEs (i := .aload_n 0) (by decide +kernel) _ _ _).trans rfl
theorem e242_1339n (l : List Value) (v1 v2 v3 : Value) (st : List Value) (w : zH) : zrun (some l) (242, 1339, [.null, v1, v2, v3], st, w) = zrun (some l) (242, 1340, [.null, v1, v2, v3], (.null :: st), w) := (zEs (i := .aload_n 0) (by decide +kernel) _ _ _).trans rfl
theorem e242_1340 (l : List Value) (v0 v1 v2 : Value) (x : Int32) (st : List Value) (w : zH) : zrun (some l) (242, 1340, [v0, v1, v2, .int x], st, w) = zrun (some l) (242, 1341, [v0, v1, v2, .int x], (.int x :: st), w) := (zEs (i := .iload_n 3) (by decide +kernel) _ _ _).trans rfl
theorem e242_1341 (l : List Value) (ls st : List Value) (w : zH) : zrun (some l) (242, 1341, ls, st, w) = zrun (some l) (242, 1342, ls, (.int 4 :: st), w) := (zEs (i := .iconst 4) (by decide +kernel) _ _ _).trans rfl
theorem e242_1342 (l : List Value) (ls : List Value) (a b : Int32) (st : List Value) (w : zH) : zrun (some l) (242, 1342, ls, (.int b :: .int a :: st), w) = zrun (some l) (242, 1343, ls, (.int (a + b) :: st), w) := (zEs (i := .iadd) (by decide +kernel) _ _ _).trans rfl
theorem e242_1343 (l : List Value) (ls : List Value) (j : Int32) (st : List Value) (w : zH) : zrun (some l) (242, 1343, ls, (.int j :: .ref 1000006 :: st), w) = zoi (zsx l j) (fun x => zrun (some l) (242, 1344, ls, (.int x :: st), w)) := (zEs (i := .iaload) (by decide +kernel) _ _ _).trans zqs_iald
theorem e242_1344 (l : List Value) (v1 v2 v3 : Value) (x : Nat) (st : List Value) (w : zH) : zrun (some l) (242, 1344, [.ref x, v1, v2, v3], st, w) = zrun (some l) (242, 1345, [.ref x, v1, v2, v3], (.ref x :: st), w) := (zEs (i := .aload_n 0) (by decide +kernel) _ _ _).trans rfl
theorem e242_1344n (l : List Value) (v1 v2 v3 : Value) (st : List Value) (w : zH) : zrun (some l) (242, 1344, [.null, v1, v2, v3], st, w) = zrun (some l) (242, 1345, [.null, v1, v2, v3], (.null :: st), w) := (zEs (i := .aload_n 0) (by decide +kernel) _ _ _).trans rfl
theorem e242_1345 (l : List Value) (v0 v1 v2 : Value) (x : Int32) (st : List Value) (w : zH) : zrun (some l) (242, 1345, [v0, v1, v2, .int x], st, w) = zrun (some l) (242, 1346, [v0, v1, v2, .int x], (.int x :: st), w) := (zEs (i := .iload_n 3) (by decide +kernel) _ _ _).trans rfl
theorem e242_1346 (l : List Value) (ls st : List Value) (w : zH) : zrun (some l) (242, 1346, ls, st, w) = zrun (some l) (242, 1347, ls, (.int 5 :: st), w) := (zEs (i := .iconst 5) (by decide +kernel) _ _ _).trans rfl
theorem e242_1347 (l : List Value) (ls : List Value) (a b : Int32) (st : List Value) (w : zH) : zrun (some l) (242, 1347, ls, (.int b :: .int a :: st), w) = zrun (some l) (242, 1348, ls, (.int (a + b) :: st), w) := (zEs (i := .iadd) (by decide +kernel) _ _ _).trans rfl
theorem e242_1348 (l : List Value) (ls : List Value) (j : Int32) (st : List Value) (w : zH) : zrun (some l) (242, 1348, ls, (.int j :: .ref 1000006 :: st), w) = zoi (zsx l j) (fun x => zrun (some l) (242, 1349, ls, (.int x :: st), w)) := (zEs (i := .iaload) (by decide +kernel) _ _ _).trans zqs_iald
theorem e242_1349 (l : List Value) (ls : List Value) (a : Nat) (x0 : Int32) (x1 : Int32) (x2 : Int32) (x3 : Int32) (x4 : Int32) (st : List Value) (w : zH) (hr : zcat st ≤ 8) (hc : zis w a 11) : zrun (some l) (242, 1349, ls, (.int x4 :: .int x3 :: .int x2 :: .int x1 :: .int x0 :: .ref a :: st), w) = zcl (zrun (some l) (92, 0, [.ref a, .int x0, .int x1, .int x2, .int x3, .int x4, zJ, zJ], [], w)) (fun r => zrun (some l) (242, 1352, ls, r.1.toList ++ st, r.2)) := by
  refine (zEs (i := .invokevirtual 92) (by decide +kernel) _ _ _).trans ?_
  show zresx (some l) (zinv (some l) 92 242 1349 ls (.int x4 :: .int x3 :: .int x2 :: .int x1 :: .int x0 :: .ref a :: st) w) = _
  unfold zinv
  show zresx (some l) (if zrc (some l) 92 w (.ref a) = true then zcall 92 [.ref a, .int x0, .int x1, .int x2, .int x3, .int x4] st 242 1349 ls w else none) = _
  rw [if_pos (zrc_more (zrc_is hc (by decide +kernel)))]
  exact zqs_call hr (Nat.le_of_ble_eq_true rfl) rfl rfl
theorem e242_1352 (l : List Value) (v0 v1 v3 : Value) (x : Nat) (st : List Value) (w : zH) : zrun (some l) (242, 1352, [v0, v1, .ref x, v3], st, w) = zrun (some l) (242, 1353, [v0, v1, .ref x, v3], (.ref x :: st), w) := (zEs (i := .aload_n 2) (by decide +kernel) _ _ _).trans rfl
theorem e242_1352n (l : List Value) (v0 v1 v3 : Value) (st : List Value) (w : zH) : zrun (some l) (242, 1352, [v0, v1, .null, v3], st, w) = zrun (some l) (242, 1353, [v0, v1, .null, v3], (.null :: st), w) := (zEs (i := .aload_n 2) (by decide +kernel) _ _ _).trans rfl
theorem e242_1353 (l : List Value) (v1 v2 v3 : Value) (x : Nat) (st : List Value) (w : zH) : zrun (some l) (242, 1353, [.ref x, v1, v2, v3], st, w) = zrun (some l) (242, 1354, [.ref x, v1, v2, v3], (.ref x :: st), w) := (zEs (i := .aload_n 0) (by decide +kernel) _ _ _).trans rfl
theorem e242_1353n (l : List Value) (v1 v2 v3 : Value) (st : List Value) (w : zH) : zrun (some l) (242, 1353, [.null, v1, v2, v3], st, w) = zrun (some l) (242, 1354, [.null, v1, v2, v3], (.null :: st), w) := (zEs (i := .aload_n 0) (by decide +kernel) _ _ _).trans rfl
theorem e242_1354 (l : List Value) (v0 v1 v2 : Value) (x : Int32) (st : List Value) (w : zH) : zrun (some l) (242, 1354, [v0, v1, v2, .int x], st, w) = zrun (some l) (242, 1355, [v0, v1, v2, .int x], (.int x :: st), w) := (zEs (i := .iload_n 3) (by decide +kernel) _ _ _).trans rfl
theorem e242_1355 (l : List Value) (ls st : List Value) (w : zH) : zrun (some l) (242, 1355, ls, st, w) = zrun (some l) (242, 1356, ls, (.int 1 :: st), w) := (zEs (i := .iconst 1) (by decide +kernel) _ _ _).trans rfl
theorem e242_1356 (l : List Value) (ls : List Value) (a b : Int32) (st : List Value) (w : zH) : zrun (some l) (242, 1356, ls, (.int b :: .int a :: st), w) = zrun (some l) (242, 1357, ls, (.int (a + b) :: st), w) := (zEs (i := .iadd) (by decide +kernel) _ _ _).trans rfl
theorem e242_1357 (l : List Value) (ls : List Value) (j : Int32) (st : List Value) (w : zH) : zrun (some l) (242, 1357, ls, (.int j :: .ref 1000006 :: st), w) = zoi (zsx l j) (fun x => zrun (some l) (242, 1358, ls, (.int x :: st), w)) := (zEs (i := .iaload) (by decide +kernel) _ _ _).trans zqs_iald
theorem e242_1358 (l : List Value) (v1 v2 v3 : Value) (x : Nat) (st : List Value) (w : zH) : zrun (some l) (242, 1358, [.ref x, v1, v2, v3], st, w) = zrun (some l) (242, 1359, [.ref x, v1, v2, v3], (.ref x :: st), w) := (zEs (i := .aload_n 0) (by decide +kernel) _ _ _).trans rfl
theorem e242_1358n (l : List Value) (v1 v2 v3 : Value) (st : List Value) (w : zH) : zrun (some l) (242, 1358, [.null, v1, v2, v3], st, w) = zrun (some l) (242, 1359, [.null, v1, v2, v3], (.null :: st), w) := (zEs (i := .aload_n 0) (by decide +kernel) _ _ _).trans rfl
theorem e242_1359 (l : List Value) (v0 v1 v2 : Value) (x : Int32) (st : List Value) (w : zH) : zrun (some l) (242, 1359, [v0, v1, v2, .int x], st, w) = zrun (some l) (242, 1360, [v0, v1, v2, .int x], (.int x :: st), w) := (zEs (i := .iload_n 3) (by decide +kernel) _ _ _).trans rfl
theorem e242_1360 (l : List Value) (ls st : List Value) (w : zH) : zrun (some l) (242, 1360, ls, st, w) = zrun (some l) (242, 1361, ls, (.int 2 :: st), w) := (zEs (i := .iconst 2) (by decide +kernel) _ _ _).trans rfl
theorem e242_1361 (l : List Value) (ls : List Value) (a b : Int32) (st : List Value) (w : zH) : zrun (some l) (242, 1361, ls, (.int b :: .int a :: st), w) = zrun (some l) (242, 1362, ls, (.int (a + b) :: st), w) := (zEs (i := .iadd) (by decide +kernel) _ _ _).trans rfl
theorem e242_1362 (l : List Value) (ls : List Value) (j : Int32) (st : List Value) (w : zH) : zrun (some l) (242, 1362, ls, (.int j :: .ref 1000006 :: st), w) = zoi (zsx l j) (fun x => zrun (some l) (242, 1363, ls, (.int x :: st), w)) := (zEs (i := .iaload) (by decide +kernel) _ _ _).trans zqs_iald
theorem e242_1363 (l : List Value) (v1 v2 v3 : Value) (x : Nat) (st : List Value) (w : zH) : zrun (some l) (242, 1363, [.ref x, v1, v2, v3], st, w) = zrun (some l) (242, 1364, [.ref x, v1, v2, v3], (.ref x :: st), w) := (zEs (i := .aload_n 0) (by decide +kernel) _ _ _).trans rfl
theorem e242_1363n (l : List Value) (v1 v2 v3 : Value) (st : List Value) (w : zH) : zrun (some l) (242, 1363, [.null, v1, v2, v3], st, w) = zrun (some l) (242, 1364, [.null, v1, v2, v3], (.null :: st), w) := (zEs (i := .aload_n 0) (by decide +kernel) _ _ _).trans rfl
theorem e242_1364 (l : List Value) (v0 v1 v2 : Value) (x : Int32) (st : List Value) (w : zH) : zrun (some l) (242, 1364, [v0, v1, v2, .int x], st, w) = zrun (some l) (242, 1365, [v0, v1, v2, .int x], (.int x :: st), w) := (zEs (i := .iload_n 3) (by decide +kernel) _ _ _).trans rfl
theorem e242_1365 (l : List Value) (ls st : List Value) (w : zH) : zrun (some l) (242, 1365, ls, st, w) = zrun (some l) (242, 1366, ls, (.int 3 :: st), w) := (zEs (i := .iconst 3) (by decide +kernel) _ _ _).trans rfl
theorem e242_1366 (l : List Value) (ls : List Value) (a b : Int32) (st : List Value) (w : zH) : zrun (some l) (242, 1366, ls, (.int b :: .int a :: st), w) = zrun (some l) (242, 1367, ls, (.int (a + b) :: st), w) := (zEs (i := .iadd) (by decide +kernel) _ _ _).trans rfl
theorem e242_1367 (l : List Value) (ls : List Value) (j : Int32) (st : List Value) (w : zH) : zrun (some l) (242, 1367, ls, (.int j :: .ref 1000006 :: st), w) = zoi (zsx l j) (fun x => zrun (some l) (242, 1368, ls, (.int x :: st), w)) := (zEs (i := .iaload) (by decide +kernel) _ _ _).trans zqs_iald
theorem e242_1368 (l : List Value) (v1 v2 v3 : Value) (x : Nat) (st : List Value) (w : zH) : zrun (some l) (242, 1368, [.ref x, v1, v2, v3], st, w) = zrun (some l) (242, 1369, [.ref x, v1, v2, v3], (.ref x :: st), w) := (zEs (i := .aload_n 0) (by decide +kernel) _ _ _).trans rfl
theorem e242_1368n (l : List Value) (v1 v2 v3 : Value) (st : List Value) (w : zH) : zrun (some l) (242, 1368, [.null, v1, v2, v3], st, w) = zrun (some l) (242, 1369, [.null, v1, v2, v3], (.null :: st), w) := (zEs (i := .aload_n 0) (by decide +kernel) _ _ _).trans rfl
theorem e242_1369 (l : List Value) (v0 v1 v2 : Value) (x : Int32) (st : List Value) (w : zH) : zrun (some l) (242, 1369, [v0, v1, v2, .int x], st, w) = zrun (some l) (242, 1370, [v0, v1, v2, .int x], (.int x :: st), w) := (zEs (i := .iload_n 3) (by decide +kernel) _ _ _).trans rfl
theorem e242_1370 (l : List Value) (ls st : List Value) (w : zH) : zrun (some l) (242, 1370, ls, st, w) = zrun (some l) (242, 1371, ls, (.int 4 :: st), w) := (zEs (i := .iconst 4) (by decide +kernel) _ _ _).trans rfl
theorem e242_1371 (l : List Value) (ls : List Value) (a b : Int32) (st : List Value) (w : zH) : zrun (some l) (242, 1371, ls, (.int b :: .int a :: st), w) = zrun (some l) (242, 1372, ls, (.int (a + b) :: st), w) := (zEs (i := .iadd) (by decide +kernel) _ _ _).trans rfl
theorem e242_1372 (l : List Value) (ls : List Value) (j : Int32) (st : List Value) (w : zH) : zrun (some l) (242, 1372, ls, (.int j :: .ref 1000006 :: st), w) = zoi (zsx l j) (fun x => zrun (some l) (242, 1373, ls, (.int x :: st), w)) := (zEs (i := .iaload) (by decide +kernel) _ _ _).trans zqs_iald
theorem e242_1373 (l : List Value) (v1 v2 v3 : Value) (x : Nat) (st : List Value) (w : zH) : zrun (some l) (242, 1373, [.ref x, v1, v2, v3], st, w) = zrun (some l) (242, 1374, [.ref x, v1, v2, v3], (.ref x :: st), w) := (zEs (i := .aload_n 0) (by decide +kernel) _ _ _).trans rfl
theorem e242_1373n (l : List Value) (v1 v2 v3 : Value) (st : List Value) (w : zH) : zrun (some l) (242, 1373, [.null, v1, v2, v3], st, w) = zrun (some l) (242, 1374, [.null, v1, v2, v3], (.null :: st), w) := (zEs (i := .aload_n 0) (by decide +kernel) _ _ _).trans rfl
theorem e242_1374 (l : List Value) (v0 v1 v2 : Value) (x : Int32) (st : List Value) (w : zH) : zrun (some l) (242, 1374, [v0, v1, v2, .int x], st, w) = zrun (some l) (242, 1375, [v0, v1, v2, .int x], (.int x :: st), w) := (zEs (i := .iload_n 3) (by decide +kernel) _ _ _).trans rfl
theorem e242_1375 (l : List Value) (ls st : List Value) (w : zH) : zrun (some l) (242, 1375, ls, st, w) = zrun (some l) (242, 1376, ls, (.int 5 :: st), w) := (zEs (i := .iconst 5) (by decide +kernel) _ _ _).trans rfl
theorem e242_1376 (l : List Value) (ls : List Value) (a b : Int32) (st : List Value) (w : zH) : zrun (some l) (242, 1376, ls, (.int b :: .int a :: st), w) = zrun (some l) (242, 1377, ls, (.int (a + b) :: st), w) := (zEs (i := .iadd) (by decide +kernel) _ _ _).trans rfl
theorem e242_1377 (l : List Value) (ls : List Value) (j : Int32) (st : List Value) (w : zH) : zrun (some l) (242, 1377, ls, (.int j :: .ref 1000006 :: st), w) = zoi (zsx l j) (fun x => zrun (some l) (242, 1378, ls, (.int x :: st), w)) := (zEs (i := .iaload) (by decide +kernel) _ _ _).trans zqs_iald
theorem e242_1378 (l : List Value) (ls : List Value) (a : Nat) (x0 : Int32) (x1 : Int32) (x2 : Int32) (x3 : Int32) (x4 : Int32) (st : List Value) (w : zH) (hr : zcat st ≤ 8) (hc : zis w a 12) : zrun (some l) (242, 1378, ls, (.int x4 :: .int x3 :: .int x2 :: .int x1 :: .int x0 :: .ref a :: st), w) = zcl (zrun (some l) (213, 0, [.ref a, .int x0, .int x1, .int x2, .int x3, .int x4, zJ, zJ, zJ, zJ, zJ, zJ, zJ, zJ, zJ], [], w)) (fun r => zrun (some l) (242, 1381, ls, r.1.toList ++ st, r.2)) := by
  refine (zEs (i := .invokevirtual 213) (by decide +kernel) _ _ _).trans ?_
  show zresx (some l) (zinv (some l) 213 242 1378 ls (.int x4 :: .int x3 :: .int x2 :: .int x1 :: .int x0 :: .ref a :: st) w) = _
  unfold zinv
  show zresx (some l) (if zrc (some l) 213 w (.ref a) = true then zcall 213 [.ref a, .int x0, .int x1, .int x2, .int x3, .int x4] st 242 1378 ls w else none) = _
  rw [if_pos (zrc_more (zrc_is hc (by decide +kernel)))]
  exact zqs_call hr (Nat.le_of_ble_eq_true rfl) rfl rfl
theorem e242_1381 (l : List Value) (ls : List Value) (a b : Int32) (st : List Value) (w : zH) : zrun (some l) (242, 1381, ls, (.int b :: .int a :: st), w) = if a = b then zrun (some l) (242, 1557, ls, st, w) else zrun (some l) (242, 1384, ls, st, w) := (zEs (i := .if_icmp .eq 176) (by decide +kernel) _ _ _).trans (zqs_ic_eq rfl rfl)
theorem e242_1384 (l : List Value) (ls st : List Value) (w : zH) : zrun (some l) (242, 1384, ls, st, w) = zrun (some l) (242, 1385, ls, (.int 0 :: st), w) := (zEs (i := .iconst 0) (by decide +kernel) _ _ _).trans rfl
theorem e242_1385 (l : List Value) (ls : List Value) (x : Int32) (w : zH) (h : narrow .boolean (.int x) = .int x) : zrun (some l) (242, 1385, ls, [.int x], w) = some (some (.int x), w) := by
  refine (zEs (i := .ireturn) (by decide +kernel) _ _ _).trans ?_
  show zresx (some l) (if narrow .boolean (.int x) = .int x then _ else none) = _
  rw [if_pos h]
  rfl
theorem e242_1386 (l : List Value) (v0 v2 v3 : Value) (x : Nat) (st : List Value) (w : zH) : zrun (some l) (242, 1386, [v0, .ref x, v2, v3], st, w) = zrun (some l) (242, 1387, [v0, .ref x, v2, v3], (.ref x :: st), w) := (zEs (i := .aload_n 1) (by decide +kernel) _ _ _).trans rfl
theorem e242_1386n (l : List Value) (v0 v2 v3 : Value) (st : List Value) (w : zH) : zrun (some l) (242, 1386, [v0, .null, v2, v3], st, w) = zrun (some l) (242, 1387, [v0, .null, v2, v3], (.null :: st), w) := (zEs (i := .aload_n 1) (by decide +kernel) _ _ _).trans rfl
theorem e242_1387 (l : List Value) (v1 v2 v3 : Value) (x : Nat) (st : List Value) (w : zH) : zrun (some l) (242, 1387, [.ref x, v1, v2, v3], st, w) = zrun (some l) (242, 1388, [.ref x, v1, v2, v3], (.ref x :: st), w) := (zEs (i := .aload_n 0) (by decide +kernel) _ _ _).trans rfl
theorem e242_1387n (l : List Value) (v1 v2 v3 : Value) (st : List Value) (w : zH) : zrun (some l) (242, 1387, [.null, v1, v2, v3], st, w) = zrun (some l) (242, 1388, [.null, v1, v2, v3], (.null :: st), w) := (zEs (i := .aload_n 0) (by decide +kernel) _ _ _).trans rfl
theorem e242_1388 (l : List Value) (v0 v1 v2 : Value) (x : Int32) (st : List Value) (w : zH) : zrun (some l) (242, 1388, [v0, v1, v2, .int x], st, w) = zrun (some l) (242, 1389, [v0, v1, v2, .int x], (.int x :: st), w) := (zEs (i := .iload_n 3) (by decide +kernel) _ _ _).trans rfl
theorem e242_1389 (l : List Value) (ls st : List Value) (w : zH) : zrun (some l) (242, 1389, ls, st, w) = zrun (some l) (242, 1390, ls, (.int 1 :: st), w) := (zEs (i := .iconst 1) (by decide +kernel) _ _ _).trans rfl
theorem e242_1390 (l : List Value) (ls : List Value) (a b : Int32) (st : List Value) (w : zH) : zrun (some l) (242, 1390, ls, (.int b :: .int a :: st), w) = zrun (some l) (242, 1391, ls, (.int (a + b) :: st), w) := (zEs (i := .iadd) (by decide +kernel) _ _ _).trans rfl
theorem e242_1391 (l : List Value) (ls : List Value) (j : Int32) (st : List Value) (w : zH) : zrun (some l) (242, 1391, ls, (.int j :: .ref 1000006 :: st), w) = zoi (zsx l j) (fun x => zrun (some l) (242, 1392, ls, (.int x :: st), w)) := (zEs (i := .iaload) (by decide +kernel) _ _ _).trans zqs_iald
theorem e242_1392 (l : List Value) (ls : List Value) (a : Nat) (x0 : Int32) (st : List Value) (w : zH) (hr : zcat st ≤ 8) (hc : zis w a 11) : zrun (some l) (242, 1392, ls, (.int x0 :: .ref a :: st), w) = zcl (zrun (some l) (93, 0, [.ref a, .int x0, zJ], [], w)) (fun r => zrun (some l) (242, 1395, ls, r.1.toList ++ st, r.2)) := by
  refine (zEs (i := .invokevirtual 93) (by decide +kernel) _ _ _).trans ?_
  show zresx (some l) (zinv (some l) 93 242 1392 ls (.int x0 :: .ref a :: st) w) = _
  unfold zinv
  show zresx (some l) (if zrc (some l) 93 w (.ref a) = true then zcall 93 [.ref a, .int x0] st 242 1392 ls w else none) = _
  rw [if_pos (zrc_more (zrc_is hc (by decide +kernel)))]
  exact zqs_call hr (Nat.le_of_ble_eq_true rfl) rfl rfl
theorem e242_1395 (l : List Value) (v0 v1 v3 : Value) (x : Nat) (st : List Value) (w : zH) : zrun (some l) (242, 1395, [v0, v1, .ref x, v3], st, w) = zrun (some l) (242, 1396, [v0, v1, .ref x, v3], (.ref x :: st), w) := (zEs (i := .aload_n 2) (by decide +kernel) _ _ _).trans rfl
theorem e242_1395n (l : List Value) (v0 v1 v3 : Value) (st : List Value) (w : zH) : zrun (some l) (242, 1395, [v0, v1, .null, v3], st, w) = zrun (some l) (242, 1396, [v0, v1, .null, v3], (.null :: st), w) := (zEs (i := .aload_n 2) (by decide +kernel) _ _ _).trans rfl
theorem e242_1396 (l : List Value) (v1 v2 v3 : Value) (x : Nat) (st : List Value) (w : zH) : zrun (some l) (242, 1396, [.ref x, v1, v2, v3], st, w) = zrun (some l) (242, 1397, [.ref x, v1, v2, v3], (.ref x :: st), w) := (zEs (i := .aload_n 0) (by decide +kernel) _ _ _).trans rfl
theorem e242_1396n (l : List Value) (v1 v2 v3 : Value) (st : List Value) (w : zH) : zrun (some l) (242, 1396, [.null, v1, v2, v3], st, w) = zrun (some l) (242, 1397, [.null, v1, v2, v3], (.null :: st), w) := (zEs (i := .aload_n 0) (by decide +kernel) _ _ _).trans rfl
theorem e242_1397 (l : List Value) (v0 v1 v2 : Value) (x : Int32) (st : List Value) (w : zH) : zrun (some l) (242, 1397, [v0, v1, v2, .int x], st, w) = zrun (some l) (242, 1398, [v0, v1, v2, .int x], (.int x :: st), w) := (zEs (i := .iload_n 3) (by decide +kernel) _ _ _).trans rfl
theorem e242_1398 (l : List Value) (ls st : List Value) (w : zH) : zrun (some l) (242, 1398, ls, st, w) = zrun (some l) (242, 1399, ls, (.int 1 :: st), w) := (zEs (i := .iconst 1) (by decide +kernel) _ _ _).trans rfl
theorem e242_1399 (l : List Value) (ls : List Value) (a b : Int32) (st : List Value) (w : zH) : zrun (some l) (242, 1399, ls, (.int b :: .int a :: st), w) = zrun (some l) (242, 1400, ls, (.int (a + b) :: st), w) := (zEs (i := .iadd) (by decide +kernel) _ _ _).trans rfl
theorem e242_1400 (l : List Value) (ls : List Value) (j : Int32) (st : List Value) (w : zH) : zrun (some l) (242, 1400, ls, (.int j :: .ref 1000006 :: st), w) = zoi (zsx l j) (fun x => zrun (some l) (242, 1401, ls, (.int x :: st), w)) := (zEs (i := .iaload) (by decide +kernel) _ _ _).trans zqs_iald
theorem e242_1401 (l : List Value) (ls : List Value) (a : Nat) (x0 : Int32) (st : List Value) (w : zH) (hr : zcat st ≤ 8) (hc : zis w a 12) : zrun (some l) (242, 1401, ls, (.int x0 :: .ref a :: st), w) = zcl (zrun (some l) (214, 0, [.ref a, .int x0, zJ], [], w)) (fun r => zrun (some l) (242, 1404, ls, r.1.toList ++ st, r.2)) := by
  refine (zEs (i := .invokevirtual 214) (by decide +kernel) _ _ _).trans ?_
  show zresx (some l) (zinv (some l) 214 242 1401 ls (.int x0 :: .ref a :: st) w) = _
  unfold zinv
  show zresx (some l) (if zrc (some l) 214 w (.ref a) = true then zcall 214 [.ref a, .int x0] st 242 1401 ls w else none) = _
  rw [if_pos (zrc_more (zrc_is hc (by decide +kernel)))]
  exact zqs_call hr (Nat.le_of_ble_eq_true rfl) rfl rfl
theorem e242_1404 (l : List Value) (ls : List Value) (a b : Int32) (st : List Value) (w : zH) : zrun (some l) (242, 1404, ls, (.int b :: .int a :: st), w) = if a = b then zrun (some l) (242, 1557, ls, st, w) else zrun (some l) (242, 1407, ls, st, w) := (zEs (i := .if_icmp .eq 153) (by decide +kernel) _ _ _).trans (zqs_ic_eq rfl rfl)
theorem e242_1407 (l : List Value) (ls st : List Value) (w : zH) : zrun (some l) (242, 1407, ls, st, w) = zrun (some l) (242, 1408, ls, (.int 0 :: st), w) := (zEs (i := .iconst 0) (by decide +kernel) _ _ _).trans rfl
theorem e242_1408 (l : List Value) (ls : List Value) (x : Int32) (w : zH) (h : narrow .boolean (.int x) = .int x) : zrun (some l) (242, 1408, ls, [.int x], w) = some (some (.int x), w) := by
  refine (zEs (i := .ireturn) (by decide +kernel) _ _ _).trans ?_
  show zresx (some l) (if narrow .boolean (.int x) = .int x then _ else none) = _
  rw [if_pos h]
  rfl
theorem e242_1409 (l : List Value) (v0 v2 v3 : Value) (x : Nat) (st : List Value) (w : zH) : zrun (some l) (242, 1409, [v0, .ref x, v2, v3], st, w) = zrun (some l) (242, 1410, [v0, .ref x, v2, v3], (.ref x :: st), w) := (zEs (i := .aload_n 1) (by decide +kernel) _ _ _).trans rfl
theorem e242_1409n (l : List Value) (v0 v2 v3 : Value) (st : List Value) (w : zH) : zrun (some l) (242, 1409, [v0, .null, v2, v3], st, w) = zrun (some l) (242, 1410, [v0, .null, v2, v3], (.null :: st), w) := (zEs (i := .aload_n 1) (by decide +kernel) _ _ _).trans rfl
theorem e242_1410 (l : List Value) (v1 v2 v3 : Value) (x : Nat) (st : List Value) (w : zH) : zrun (some l) (242, 1410, [.ref x, v1, v2, v3], st, w) = zrun (some l) (242, 1411, [.ref x, v1, v2, v3], (.ref x :: st), w) := (zEs (i := .aload_n 0) (by decide +kernel) _ _ _).trans rfl
theorem e242_1410n (l : List Value) (v1 v2 v3 : Value) (st : List Value) (w : zH) : zrun (some l) (242, 1410, [.null, v1, v2, v3], st, w) = zrun (some l) (242, 1411, [.null, v1, v2, v3], (.null :: st), w) := (zEs (i := .aload_n 0) (by decide +kernel) _ _ _).trans rfl
theorem e242_1411 (l : List Value) (v0 v1 v2 : Value) (x : Int32) (st : List Value) (w : zH) : zrun (some l) (242, 1411, [v0, v1, v2, .int x], st, w) = zrun (some l) (242, 1412, [v0, v1, v2, .int x], (.int x :: st), w) := (zEs (i := .iload_n 3) (by decide +kernel) _ _ _).trans rfl
theorem e242_1412 (l : List Value) (ls st : List Value) (w : zH) : zrun (some l) (242, 1412, ls, st, w) = zrun (some l) (242, 1413, ls, (.int 1 :: st), w) := (zEs (i := .iconst 1) (by decide +kernel) _ _ _).trans rfl
theorem e242_1413 (l : List Value) (ls : List Value) (a b : Int32) (st : List Value) (w : zH) : zrun (some l) (242, 1413, ls, (.int b :: .int a :: st), w) = zrun (some l) (242, 1414, ls, (.int (a + b) :: st), w) := (zEs (i := .iadd) (by decide +kernel) _ _ _).trans rfl
theorem e242_1414 (l : List Value) (ls : List Value) (j : Int32) (st : List Value) (w : zH) : zrun (some l) (242, 1414, ls, (.int j :: .ref 1000006 :: st), w) = zoi (zsx l j) (fun x => zrun (some l) (242, 1415, ls, (.int x :: st), w)) := (zEs (i := .iaload) (by decide +kernel) _ _ _).trans zqs_iald
theorem e242_1415 (l : List Value) (ls : List Value) (a : Nat) (x0 : Int32) (st : List Value) (w : zH) (hr : zcat st ≤ 8) (hc : zis w a 11) : zrun (some l) (242, 1415, ls, (.int x0 :: .ref a :: st), w) = zcl (zrun (some l) (94, 0, [.ref a, .int x0, zJ], [], w)) (fun r => zrun (some l) (242, 1418, ls, r.1.toList ++ st, r.2)) := by
  refine (zEs (i := .invokevirtual 94) (by decide +kernel) _ _ _).trans ?_
  show zresx (some l) (zinv (some l) 94 242 1415 ls (.int x0 :: .ref a :: st) w) = _
  unfold zinv
  show zresx (some l) (if zrc (some l) 94 w (.ref a) = true then zcall 94 [.ref a, .int x0] st 242 1415 ls w else none) = _
  rw [if_pos (zrc_more (zrc_is hc (by decide +kernel)))]
  exact zqs_call hr (Nat.le_of_ble_eq_true rfl) rfl rfl
theorem e242_1418 (l : List Value) (v0 v1 v3 : Value) (x : Nat) (st : List Value) (w : zH) : zrun (some l) (242, 1418, [v0, v1, .ref x, v3], st, w) = zrun (some l) (242, 1419, [v0, v1, .ref x, v3], (.ref x :: st), w) := (zEs (i := .aload_n 2) (by decide +kernel) _ _ _).trans rfl
theorem e242_1418n (l : List Value) (v0 v1 v3 : Value) (st : List Value) (w : zH) : zrun (some l) (242, 1418, [v0, v1, .null, v3], st, w) = zrun (some l) (242, 1419, [v0, v1, .null, v3], (.null :: st), w) := (zEs (i := .aload_n 2) (by decide +kernel) _ _ _).trans rfl
theorem e242_1419 (l : List Value) (v1 v2 v3 : Value) (x : Nat) (st : List Value) (w : zH) : zrun (some l) (242, 1419, [.ref x, v1, v2, v3], st, w) = zrun (some l) (242, 1420, [.ref x, v1, v2, v3], (.ref x :: st), w) := (zEs (i := .aload_n 0) (by decide +kernel) _ _ _).trans rfl
theorem e242_1419n (l : List Value) (v1 v2 v3 : Value) (st : List Value) (w : zH) : zrun (some l) (242, 1419, [.null, v1, v2, v3], st, w) = zrun (some l) (242, 1420, [.null, v1, v2, v3], (.null :: st), w) := (zEs (i := .aload_n 0) (by decide +kernel) _ _ _).trans rfl
theorem e242_1420 (l : List Value) (v0 v1 v2 : Value) (x : Int32) (st : List Value) (w : zH) : zrun (some l) (242, 1420, [v0, v1, v2, .int x], st, w) = zrun (some l) (242, 1421, [v0, v1, v2, .int x], (.int x :: st), w) := (zEs (i := .iload_n 3) (by decide +kernel) _ _ _).trans rfl
theorem e242_1421 (l : List Value) (ls st : List Value) (w : zH) : zrun (some l) (242, 1421, ls, st, w) = zrun (some l) (242, 1422, ls, (.int 1 :: st), w) := (zEs (i := .iconst 1) (by decide +kernel) _ _ _).trans rfl
theorem e242_1422 (l : List Value) (ls : List Value) (a b : Int32) (st : List Value) (w : zH) : zrun (some l) (242, 1422, ls, (.int b :: .int a :: st), w) = zrun (some l) (242, 1423, ls, (.int (a + b) :: st), w) := (zEs (i := .iadd) (by decide +kernel) _ _ _).trans rfl
theorem e242_1423 (l : List Value) (ls : List Value) (j : Int32) (st : List Value) (w : zH) : zrun (some l) (242, 1423, ls, (.int j :: .ref 1000006 :: st), w) = zoi (zsx l j) (fun x => zrun (some l) (242, 1424, ls, (.int x :: st), w)) := (zEs (i := .iaload) (by decide +kernel) _ _ _).trans zqs_iald
theorem e242_1424 (l : List Value) (ls : List Value) (a : Nat) (x0 : Int32) (st : List Value) (w : zH) (hr : zcat st ≤ 8) (hc : zis w a 12) : zrun (some l) (242, 1424, ls, (.int x0 :: .ref a :: st), w) = zcl (zrun (some l) (216, 0, [.ref a, .int x0], [], w)) (fun r => zrun (some l) (242, 1427, ls, r.1.toList ++ st, r.2)) := by
  refine (zEs (i := .invokevirtual 216) (by decide +kernel) _ _ _).trans ?_
  show zresx (some l) (zinv (some l) 216 242 1424 ls (.int x0 :: .ref a :: st) w) = _
  unfold zinv
  show zresx (some l) (if zrc (some l) 216 w (.ref a) = true then zcall 216 [.ref a, .int x0] st 242 1424 ls w else none) = _
  rw [if_pos (zrc_more (zrc_is hc (by decide +kernel)))]
  exact zqs_call hr (Nat.le_of_ble_eq_true rfl) rfl rfl
theorem e242_1427 (l : List Value) (ls : List Value) (a b : Int32) (st : List Value) (w : zH) : zrun (some l) (242, 1427, ls, (.int b :: .int a :: st), w) = if a = b then zrun (some l) (242, 1557, ls, st, w) else zrun (some l) (242, 1430, ls, st, w) := (zEs (i := .if_icmp .eq 130) (by decide +kernel) _ _ _).trans (zqs_ic_eq rfl rfl)
theorem e242_1430 (l : List Value) (ls st : List Value) (w : zH) : zrun (some l) (242, 1430, ls, st, w) = zrun (some l) (242, 1431, ls, (.int 0 :: st), w) := (zEs (i := .iconst 0) (by decide +kernel) _ _ _).trans rfl
theorem e242_1431 (l : List Value) (ls : List Value) (x : Int32) (w : zH) (h : narrow .boolean (.int x) = .int x) : zrun (some l) (242, 1431, ls, [.int x], w) = some (some (.int x), w) := by
  refine (zEs (i := .ireturn) (by decide +kernel) _ _ _).trans ?_
  show zresx (some l) (if narrow .boolean (.int x) = .int x then _ else none) = _
  rw [if_pos h]
  rfl
theorem e242_1432 (l : List Value) (v0 v2 v3 : Value) (x : Nat) (st : List Value) (w : zH) : zrun (some l) (242, 1432, [v0, .ref x, v2, v3], st, w) = zrun (some l) (242, 1433, [v0, .ref x, v2, v3], (.ref x :: st), w) := (zEs (i := .aload_n 1) (by decide +kernel) _ _ _).trans rfl
theorem e242_1432n (l : List Value) (v0 v2 v3 : Value) (st : List Value) (w : zH) : zrun (some l) (242, 1432, [v0, .null, v2, v3], st, w) = zrun (some l) (242, 1433, [v0, .null, v2, v3], (.null :: st), w) := (zEs (i := .aload_n 1) (by decide +kernel) _ _ _).trans rfl
theorem e242_1433 (l : List Value) (v1 v2 v3 : Value) (x : Nat) (st : List Value) (w : zH) : zrun (some l) (242, 1433, [.ref x, v1, v2, v3], st, w) = zrun (some l) (242, 1434, [.ref x, v1, v2, v3], (.ref x :: st), w) := (zEs (i := .aload_n 0) (by decide +kernel) _ _ _).trans rfl
theorem e242_1433n (l : List Value) (v1 v2 v3 : Value) (st : List Value) (w : zH) : zrun (some l) (242, 1433, [.null, v1, v2, v3], st, w) = zrun (some l) (242, 1434, [.null, v1, v2, v3], (.null :: st), w) := (zEs (i := .aload_n 0) (by decide +kernel) _ _ _).trans rfl
theorem e242_1434 (l : List Value) (v0 v1 v2 : Value) (x : Int32) (st : List Value) (w : zH) : zrun (some l) (242, 1434, [v0, v1, v2, .int x], st, w) = zrun (some l) (242, 1435, [v0, v1, v2, .int x], (.int x :: st), w) := (zEs (i := .iload_n 3) (by decide +kernel) _ _ _).trans rfl
theorem e242_1435 (l : List Value) (ls st : List Value) (w : zH) : zrun (some l) (242, 1435, ls, st, w) = zrun (some l) (242, 1436, ls, (.int 1 :: st), w) := (zEs (i := .iconst 1) (by decide +kernel) _ _ _).trans rfl
theorem e242_1436 (l : List Value) (ls : List Value) (a b : Int32) (st : List Value) (w : zH) : zrun (some l) (242, 1436, ls, (.int b :: .int a :: st), w) = zrun (some l) (242, 1437, ls, (.int (a + b) :: st), w) := (zEs (i := .iadd) (by decide +kernel) _ _ _).trans rfl
theorem e242_1437 (l : List Value) (ls : List Value) (j : Int32) (st : List Value) (w : zH) : zrun (some l) (242, 1437, ls, (.int j :: .ref 1000006 :: st), w) = zoi (zsx l j) (fun x => zrun (some l) (242, 1438, ls, (.int x :: st), w)) := (zEs (i := .iaload) (by decide +kernel) _ _ _).trans zqs_iald
theorem e242_1438 (l : List Value) (v1 v2 v3 : Value) (x : Nat) (st : List Value) (w : zH) : zrun (some l) (242, 1438, [.ref x, v1, v2, v3], st, w) = zrun (some l) (242, 1439, [.ref x, v1, v2, v3], (.ref x :: st), w) := (zEs (i := .aload_n 0) (by decide +kernel) _ _ _).trans rfl
theorem e242_1438n (l : List Value) (v1 v2 v3 : Value) (st : List Value) (w : zH) : zrun (some l) (242, 1438, [.null, v1, v2, v3], st, w) = zrun (some l) (242, 1439, [.null, v1, v2, v3], (.null :: st), w) := (zEs (i := .aload_n 0) (by decide +kernel) _ _ _).trans rfl
theorem e242_1439 (l : List Value) (v0 v1 v2 : Value) (x : Int32) (st : List Value) (w : zH) : zrun (some l) (242, 1439, [v0, v1, v2, .int x], st, w) = zrun (some l) (242, 1440, [v0, v1, v2, .int x], (.int x :: st), w) := (zEs (i := .iload_n 3) (by decide +kernel) _ _ _).trans rfl
theorem e242_1440 (l : List Value) (ls st : List Value) (w : zH) : zrun (some l) (242, 1440, ls, st, w) = zrun (some l) (242, 1441, ls, (.int 2 :: st), w) := (zEs (i := .iconst 2) (by decide +kernel) _ _ _).trans rfl
theorem e242_1441 (l : List Value) (ls : List Value) (a b : Int32) (st : List Value) (w : zH) : zrun (some l) (242, 1441, ls, (.int b :: .int a :: st), w) = zrun (some l) (242, 1442, ls, (.int (a + b) :: st), w) := (zEs (i := .iadd) (by decide +kernel) _ _ _).trans rfl
theorem e242_1442 (l : List Value) (ls : List Value) (j : Int32) (st : List Value) (w : zH) : zrun (some l) (242, 1442, ls, (.int j :: .ref 1000006 :: st), w) = zoi (zsx l j) (fun x => zrun (some l) (242, 1443, ls, (.int x :: st), w)) := (zEs (i := .iaload) (by decide +kernel) _ _ _).trans zqs_iald
theorem e242_1443 (l : List Value) (ls : List Value) (a : Nat) (x0 : Int32) (x1 : Int32) (st : List Value) (w : zH) (hr : zcat st ≤ 8) (hc : zis w a 11) : zrun (some l) (242, 1443, ls, (.int x1 :: .int x0 :: .ref a :: st), w) = zcl (zrun (some l) (95, 0, [.ref a, .int x0, .int x1, zJ], [], w)) (fun r => zrun (some l) (242, 1446, ls, r.1.toList ++ st, r.2)) := by
  refine (zEs (i := .invokevirtual 95) (by decide +kernel) _ _ _).trans ?_
  show zresx (some l) (zinv (some l) 95 242 1443 ls (.int x1 :: .int x0 :: .ref a :: st) w) = _
  unfold zinv
  show zresx (some l) (if zrc (some l) 95 w (.ref a) = true then zcall 95 [.ref a, .int x0, .int x1] st 242 1443 ls w else none) = _
  rw [if_pos (zrc_more (zrc_is hc (by decide +kernel)))]
  exact zqs_call hr (Nat.le_of_ble_eq_true rfl) rfl rfl
theorem e242_1446 (l : List Value) (v0 v1 v3 : Value) (x : Nat) (st : List Value) (w : zH) : zrun (some l) (242, 1446, [v0, v1, .ref x, v3], st, w) = zrun (some l) (242, 1447, [v0, v1, .ref x, v3], (.ref x :: st), w) := (zEs (i := .aload_n 2) (by decide +kernel) _ _ _).trans rfl
theorem e242_1446n (l : List Value) (v0 v1 v3 : Value) (st : List Value) (w : zH) : zrun (some l) (242, 1446, [v0, v1, .null, v3], st, w) = zrun (some l) (242, 1447, [v0, v1, .null, v3], (.null :: st), w) := (zEs (i := .aload_n 2) (by decide +kernel) _ _ _).trans rfl
theorem e242_1447 (l : List Value) (v1 v2 v3 : Value) (x : Nat) (st : List Value) (w : zH) : zrun (some l) (242, 1447, [.ref x, v1, v2, v3], st, w) = zrun (some l) (242, 1448, [.ref x, v1, v2, v3], (.ref x :: st), w) := (zEs (i := .aload_n 0) (by decide +kernel) _ _ _).trans rfl
theorem e242_1447n (l : List Value) (v1 v2 v3 : Value) (st : List Value) (w : zH) : zrun (some l) (242, 1447, [.null, v1, v2, v3], st, w) = zrun (some l) (242, 1448, [.null, v1, v2, v3], (.null :: st), w) := (zEs (i := .aload_n 0) (by decide +kernel) _ _ _).trans rfl
theorem e242_1448 (l : List Value) (v0 v1 v2 : Value) (x : Int32) (st : List Value) (w : zH) : zrun (some l) (242, 1448, [v0, v1, v2, .int x], st, w) = zrun (some l) (242, 1449, [v0, v1, v2, .int x], (.int x :: st), w) := (zEs (i := .iload_n 3) (by decide +kernel) _ _ _).trans rfl
theorem e242_1449 (l : List Value) (ls st : List Value) (w : zH) : zrun (some l) (242, 1449, ls, st, w) = zrun (some l) (242, 1450, ls, (.int 1 :: st), w) := (zEs (i := .iconst 1) (by decide +kernel) _ _ _).trans rfl
theorem e242_1450 (l : List Value) (ls : List Value) (a b : Int32) (st : List Value) (w : zH) : zrun (some l) (242, 1450, ls, (.int b :: .int a :: st), w) = zrun (some l) (242, 1451, ls, (.int (a + b) :: st), w) := (zEs (i := .iadd) (by decide +kernel) _ _ _).trans rfl
theorem e242_1451 (l : List Value) (ls : List Value) (j : Int32) (st : List Value) (w : zH) : zrun (some l) (242, 1451, ls, (.int j :: .ref 1000006 :: st), w) = zoi (zsx l j) (fun x => zrun (some l) (242, 1452, ls, (.int x :: st), w)) := (zEs (i := .iaload) (by decide +kernel) _ _ _).trans zqs_iald
theorem e242_1452 (l : List Value) (v1 v2 v3 : Value) (x : Nat) (st : List Value) (w : zH) : zrun (some l) (242, 1452, [.ref x, v1, v2, v3], st, w) = zrun (some l) (242, 1453, [.ref x, v1, v2, v3], (.ref x :: st), w) := (zEs (i := .aload_n 0) (by decide +kernel) _ _ _).trans rfl
theorem e242_1452n (l : List Value) (v1 v2 v3 : Value) (st : List Value) (w : zH) : zrun (some l) (242, 1452, [.null, v1, v2, v3], st, w) = zrun (some l) (242, 1453, [.null, v1, v2, v3], (.null :: st), w) := (zEs (i := .aload_n 0) (by decide +kernel) _ _ _).trans rfl
theorem e242_1453 (l : List Value) (v0 v1 v2 : Value) (x : Int32) (st : List Value) (w : zH) : zrun (some l) (242, 1453, [v0, v1, v2, .int x], st, w) = zrun (some l) (242, 1454, [v0, v1, v2, .int x], (.int x :: st), w) := (zEs (i := .iload_n 3) (by decide +kernel) _ _ _).trans rfl
theorem e242_1454 (l : List Value) (ls st : List Value) (w : zH) : zrun (some l) (242, 1454, ls, st, w) = zrun (some l) (242, 1455, ls, (.int 2 :: st), w) := (zEs (i := .iconst 2) (by decide +kernel) _ _ _).trans rfl
theorem e242_1455 (l : List Value) (ls : List Value) (a b : Int32) (st : List Value) (w : zH) : zrun (some l) (242, 1455, ls, (.int b :: .int a :: st), w) = zrun (some l) (242, 1456, ls, (.int (a + b) :: st), w) := (zEs (i := .iadd) (by decide +kernel) _ _ _).trans rfl
theorem e242_1456 (l : List Value) (ls : List Value) (j : Int32) (st : List Value) (w : zH) : zrun (some l) (242, 1456, ls, (.int j :: .ref 1000006 :: st), w) = zoi (zsx l j) (fun x => zrun (some l) (242, 1457, ls, (.int x :: st), w)) := (zEs (i := .iaload) (by decide +kernel) _ _ _).trans zqs_iald
theorem e242_1457 (l : List Value) (ls : List Value) (a : Nat) (x0 : Int32) (x1 : Int32) (st : List Value) (w : zH) (hr : zcat st ≤ 8) (hc : zis w a 12) : zrun (some l) (242, 1457, ls, (.int x1 :: .int x0 :: .ref a :: st), w) = zcl (zrun (some l) (217, 0, [.ref a, .int x0, .int x1], [], w)) (fun r => zrun (some l) (242, 1460, ls, r.1.toList ++ st, r.2)) := by
  refine (zEs (i := .invokevirtual 217) (by decide +kernel) _ _ _).trans ?_
  show zresx (some l) (zinv (some l) 217 242 1457 ls (.int x1 :: .int x0 :: .ref a :: st) w) = _
  unfold zinv
  show zresx (some l) (if zrc (some l) 217 w (.ref a) = true then zcall 217 [.ref a, .int x0, .int x1] st 242 1457 ls w else none) = _
  rw [if_pos (zrc_more (zrc_is hc (by decide +kernel)))]
  exact zqs_call hr (Nat.le_of_ble_eq_true rfl) rfl rfl
theorem e242_1460 (l : List Value) (ls : List Value) (a b : Int32) (st : List Value) (w : zH) : zrun (some l) (242, 1460, ls, (.int b :: .int a :: st), w) = if a = b then zrun (some l) (242, 1557, ls, st, w) else zrun (some l) (242, 1463, ls, st, w) := (zEs (i := .if_icmp .eq 97) (by decide +kernel) _ _ _).trans (zqs_ic_eq rfl rfl)
theorem e242_1463 (l : List Value) (ls st : List Value) (w : zH) : zrun (some l) (242, 1463, ls, st, w) = zrun (some l) (242, 1464, ls, (.int 0 :: st), w) := (zEs (i := .iconst 0) (by decide +kernel) _ _ _).trans rfl
theorem e242_1464 (l : List Value) (ls : List Value) (x : Int32) (w : zH) (h : narrow .boolean (.int x) = .int x) : zrun (some l) (242, 1464, ls, [.int x], w) = some (some (.int x), w) := by
  refine (zEs (i := .ireturn) (by decide +kernel) _ _ _).trans ?_
  show zresx (some l) (if narrow .boolean (.int x) = .int x then _ else none) = _
  rw [if_pos h]
  rfl
theorem e242_1465 (l : List Value) (v0 v2 v3 : Value) (x : Nat) (st : List Value) (w : zH) : zrun (some l) (242, 1465, [v0, .ref x, v2, v3], st, w) = zrun (some l) (242, 1466, [v0, .ref x, v2, v3], (.ref x :: st), w) := (zEs (i := .aload_n 1) (by decide +kernel) _ _ _).trans rfl
theorem e242_1465n (l : List Value) (v0 v2 v3 : Value) (st : List Value) (w : zH) : zrun (some l) (242, 1465, [v0, .null, v2, v3], st, w) = zrun (some l) (242, 1466, [v0, .null, v2, v3], (.null :: st), w) := (zEs (i := .aload_n 1) (by decide +kernel) _ _ _).trans rfl
theorem e242_1466 (l : List Value) (v1 v2 v3 : Value) (x : Nat) (st : List Value) (w : zH) : zrun (some l) (242, 1466, [.ref x, v1, v2, v3], st, w) = zrun (some l) (242, 1467, [.ref x, v1, v2, v3], (.ref x :: st), w) := (zEs (i := .aload_n 0) (by decide +kernel) _ _ _).trans rfl
theorem e242_1466n (l : List Value) (v1 v2 v3 : Value) (st : List Value) (w : zH) : zrun (some l) (242, 1466, [.null, v1, v2, v3], st, w) = zrun (some l) (242, 1467, [.null, v1, v2, v3], (.null :: st), w) := (zEs (i := .aload_n 0) (by decide +kernel) _ _ _).trans rfl
theorem e242_1467 (l : List Value) (v0 v1 v2 : Value) (x : Int32) (st : List Value) (w : zH) : zrun (some l) (242, 1467, [v0, v1, v2, .int x], st, w) = zrun (some l) (242, 1468, [v0, v1, v2, .int x], (.int x :: st), w) := (zEs (i := .iload_n 3) (by decide +kernel) _ _ _).trans rfl
theorem e242_1468 (l : List Value) (ls st : List Value) (w : zH) : zrun (some l) (242, 1468, ls, st, w) = zrun (some l) (242, 1469, ls, (.int 1 :: st), w) := (zEs (i := .iconst 1) (by decide +kernel) _ _ _).trans rfl
theorem e242_1469 (l : List Value) (ls : List Value) (a b : Int32) (st : List Value) (w : zH) : zrun (some l) (242, 1469, ls, (.int b :: .int a :: st), w) = zrun (some l) (242, 1470, ls, (.int (a + b) :: st), w) := (zEs (i := .iadd) (by decide +kernel) _ _ _).trans rfl
theorem e242_1470 (l : List Value) (ls : List Value) (j : Int32) (st : List Value) (w : zH) : zrun (some l) (242, 1470, ls, (.int j :: .ref 1000006 :: st), w) = zoi (zsx l j) (fun x => zrun (some l) (242, 1471, ls, (.int x :: st), w)) := (zEs (i := .iaload) (by decide +kernel) _ _ _).trans zqs_iald
theorem e242_1471 (l : List Value) (v1 v2 v3 : Value) (x : Nat) (st : List Value) (w : zH) : zrun (some l) (242, 1471, [.ref x, v1, v2, v3], st, w) = zrun (some l) (242, 1472, [.ref x, v1, v2, v3], (.ref x :: st), w) := (zEs (i := .aload_n 0) (by decide +kernel) _ _ _).trans rfl
theorem e242_1471n (l : List Value) (v1 v2 v3 : Value) (st : List Value) (w : zH) : zrun (some l) (242, 1471, [.null, v1, v2, v3], st, w) = zrun (some l) (242, 1472, [.null, v1, v2, v3], (.null :: st), w) := (zEs (i := .aload_n 0) (by decide +kernel) _ _ _).trans rfl
theorem e242_1472 (l : List Value) (v0 v1 v2 : Value) (x : Int32) (st : List Value) (w : zH) : zrun (some l) (242, 1472, [v0, v1, v2, .int x], st, w) = zrun (some l) (242, 1473, [v0, v1, v2, .int x], (.int x :: st), w) := (zEs (i := .iload_n 3) (by decide +kernel) _ _ _).trans rfl
theorem e242_1473 (l : List Value) (ls st : List Value) (w : zH) : zrun (some l) (242, 1473, ls, st, w) = zrun (some l) (242, 1474, ls, (.int 2 :: st), w) := (zEs (i := .iconst 2) (by decide +kernel) _ _ _).trans rfl
theorem e242_1474 (l : List Value) (ls : List Value) (a b : Int32) (st : List Value) (w : zH) : zrun (some l) (242, 1474, ls, (.int b :: .int a :: st), w) = zrun (some l) (242, 1475, ls, (.int (a + b) :: st), w) := (zEs (i := .iadd) (by decide +kernel) _ _ _).trans rfl
theorem e242_1475 (l : List Value) (ls : List Value) (j : Int32) (st : List Value) (w : zH) : zrun (some l) (242, 1475, ls, (.int j :: .ref 1000006 :: st), w) = zoi (zsx l j) (fun x => zrun (some l) (242, 1476, ls, (.int x :: st), w)) := (zEs (i := .iaload) (by decide +kernel) _ _ _).trans zqs_iald
theorem e242_1476 (l : List Value) (ls : List Value) (a : Nat) (x0 : Int32) (x1 : Int32) (st : List Value) (w : zH) (hr : zcat st ≤ 8) (hc : zis w a 11) : zrun (some l) (242, 1476, ls, (.int x1 :: .int x0 :: .ref a :: st), w) = zcl (zrun (some l) (96, 0, [.ref a, .int x0, .int x1, zJ], [], w)) (fun r => zrun (some l) (242, 1479, ls, r.1.toList ++ st, r.2)) := by
  refine (zEs (i := .invokevirtual 96) (by decide +kernel) _ _ _).trans ?_
  show zresx (some l) (zinv (some l) 96 242 1476 ls (.int x1 :: .int x0 :: .ref a :: st) w) = _
  unfold zinv
  show zresx (some l) (if zrc (some l) 96 w (.ref a) = true then zcall 96 [.ref a, .int x0, .int x1] st 242 1476 ls w else none) = _
  rw [if_pos (zrc_more (zrc_is hc (by decide +kernel)))]
  exact zqs_call hr (Nat.le_of_ble_eq_true rfl) rfl rfl
theorem e242_1479 (l : List Value) (v0 v1 v3 : Value) (x : Nat) (st : List Value) (w : zH) : zrun (some l) (242, 1479, [v0, v1, .ref x, v3], st, w) = zrun (some l) (242, 1480, [v0, v1, .ref x, v3], (.ref x :: st), w) := (zEs (i := .aload_n 2) (by decide +kernel) _ _ _).trans rfl
theorem e242_1479n (l : List Value) (v0 v1 v3 : Value) (st : List Value) (w : zH) : zrun (some l) (242, 1479, [v0, v1, .null, v3], st, w) = zrun (some l) (242, 1480, [v0, v1, .null, v3], (.null :: st), w) := (zEs (i := .aload_n 2) (by decide +kernel) _ _ _).trans rfl
theorem e242_1480 (l : List Value) (v1 v2 v3 : Value) (x : Nat) (st : List Value) (w : zH) : zrun (some l) (242, 1480, [.ref x, v1, v2, v3], st, w) = zrun (some l) (242, 1481, [.ref x, v1, v2, v3], (.ref x :: st), w) := (zEs (i := .aload_n 0) (by decide +kernel) _ _ _).trans rfl
theorem e242_1480n (l : List Value) (v1 v2 v3 : Value) (st : List Value) (w : zH) : zrun (some l) (242, 1480, [.null, v1, v2, v3], st, w) = zrun (some l) (242, 1481, [.null, v1, v2, v3], (.null :: st), w) := (zEs (i := .aload_n 0) (by decide +kernel) _ _ _).trans rfl
theorem e242_1481 (l : List Value) (v0 v1 v2 : Value) (x : Int32) (st : List Value) (w : zH) : zrun (some l) (242, 1481, [v0, v1, v2, .int x], st, w) = zrun (some l) (242, 1482, [v0, v1, v2, .int x], (.int x :: st), w) := (zEs (i := .iload_n 3) (by decide +kernel) _ _ _).trans rfl
theorem e242_1482 (l : List Value) (ls st : List Value) (w : zH) : zrun (some l) (242, 1482, ls, st, w) = zrun (some l) (242, 1483, ls, (.int 1 :: st), w) := (zEs (i := .iconst 1) (by decide +kernel) _ _ _).trans rfl
theorem e242_1483 (l : List Value) (ls : List Value) (a b : Int32) (st : List Value) (w : zH) : zrun (some l) (242, 1483, ls, (.int b :: .int a :: st), w) = zrun (some l) (242, 1484, ls, (.int (a + b) :: st), w) := (zEs (i := .iadd) (by decide +kernel) _ _ _).trans rfl
theorem e242_1484 (l : List Value) (ls : List Value) (j : Int32) (st : List Value) (w : zH) : zrun (some l) (242, 1484, ls, (.int j :: .ref 1000006 :: st), w) = zoi (zsx l j) (fun x => zrun (some l) (242, 1485, ls, (.int x :: st), w)) := (zEs (i := .iaload) (by decide +kernel) _ _ _).trans zqs_iald
theorem e242_1485 (l : List Value) (v1 v2 v3 : Value) (x : Nat) (st : List Value) (w : zH) : zrun (some l) (242, 1485, [.ref x, v1, v2, v3], st, w) = zrun (some l) (242, 1486, [.ref x, v1, v2, v3], (.ref x :: st), w) := (zEs (i := .aload_n 0) (by decide +kernel) _ _ _).trans rfl
theorem e242_1485n (l : List Value) (v1 v2 v3 : Value) (st : List Value) (w : zH) : zrun (some l) (242, 1485, [.null, v1, v2, v3], st, w) = zrun (some l) (242, 1486, [.null, v1, v2, v3], (.null :: st), w) := (zEs (i := .aload_n 0) (by decide +kernel) _ _ _).trans rfl
theorem e242_1486 (l : List Value) (v0 v1 v2 : Value) (x : Int32) (st : List Value) (w : zH) : zrun (some l) (242, 1486, [v0, v1, v2, .int x], st, w) = zrun (some l) (242, 1487, [v0, v1, v2, .int x], (.int x :: st), w) := (zEs (i := .iload_n 3) (by decide +kernel) _ _ _).trans rfl
theorem e242_1487 (l : List Value) (ls st : List Value) (w : zH) : zrun (some l) (242, 1487, ls, st, w) = zrun (some l) (242, 1488, ls, (.int 2 :: st), w) := (zEs (i := .iconst 2) (by decide +kernel) _ _ _).trans rfl
theorem e242_1488 (l : List Value) (ls : List Value) (a b : Int32) (st : List Value) (w : zH) : zrun (some l) (242, 1488, ls, (.int b :: .int a :: st), w) = zrun (some l) (242, 1489, ls, (.int (a + b) :: st), w) := (zEs (i := .iadd) (by decide +kernel) _ _ _).trans rfl
theorem e242_1489 (l : List Value) (ls : List Value) (j : Int32) (st : List Value) (w : zH) : zrun (some l) (242, 1489, ls, (.int j :: .ref 1000006 :: st), w) = zoi (zsx l j) (fun x => zrun (some l) (242, 1490, ls, (.int x :: st), w)) := (zEs (i := .iaload) (by decide +kernel) _ _ _).trans zqs_iald
theorem e242_1490 (l : List Value) (ls : List Value) (a : Nat) (x0 : Int32) (x1 : Int32) (st : List Value) (w : zH) (hr : zcat st ≤ 8) (hc : zis w a 12) : zrun (some l) (242, 1490, ls, (.int x1 :: .int x0 :: .ref a :: st), w) = zcl (zrun (some l) (221, 0, [.ref a, .int x0, .int x1, zJ], [], w)) (fun r => zrun (some l) (242, 1493, ls, r.1.toList ++ st, r.2)) := by
  refine (zEs (i := .invokevirtual 221) (by decide +kernel) _ _ _).trans ?_
  show zresx (some l) (zinv (some l) 221 242 1490 ls (.int x1 :: .int x0 :: .ref a :: st) w) = _
  unfold zinv
  show zresx (some l) (if zrc (some l) 221 w (.ref a) = true then zcall 221 [.ref a, .int x0, .int x1] st 242 1490 ls w else none) = _
  rw [if_pos (zrc_more (zrc_is hc (by decide +kernel)))]
  exact zqs_call hr (Nat.le_of_ble_eq_true rfl) rfl rfl
theorem e242_1493 (l : List Value) (ls : List Value) (a b : Int32) (st : List Value) (w : zH) : zrun (some l) (242, 1493, ls, (.int b :: .int a :: st), w) = if a = b then zrun (some l) (242, 1557, ls, st, w) else zrun (some l) (242, 1496, ls, st, w) := (zEs (i := .if_icmp .eq 64) (by decide +kernel) _ _ _).trans (zqs_ic_eq rfl rfl)
theorem e242_1496 (l : List Value) (ls st : List Value) (w : zH) : zrun (some l) (242, 1496, ls, st, w) = zrun (some l) (242, 1497, ls, (.int 0 :: st), w) := (zEs (i := .iconst 0) (by decide +kernel) _ _ _).trans rfl
theorem e242_1497 (l : List Value) (ls : List Value) (x : Int32) (w : zH) (h : narrow .boolean (.int x) = .int x) : zrun (some l) (242, 1497, ls, [.int x], w) = some (some (.int x), w) := by
  refine (zEs (i := .ireturn) (by decide +kernel) _ _ _).trans ?_
  show zresx (some l) (if narrow .boolean (.int x) = .int x then _ else none) = _
  rw [if_pos h]
  rfl
theorem e242_1498 (l : List Value) (v0 v2 v3 : Value) (x : Nat) (st : List Value) (w : zH) : zrun (some l) (242, 1498, [v0, .ref x, v2, v3], st, w) = zrun (some l) (242, 1499, [v0, .ref x, v2, v3], (.ref x :: st), w) := (zEs (i := .aload_n 1) (by decide +kernel) _ _ _).trans rfl
theorem e242_1498n (l : List Value) (v0 v2 v3 : Value) (st : List Value) (w : zH) : zrun (some l) (242, 1498, [v0, .null, v2, v3], st, w) = zrun (some l) (242, 1499, [v0, .null, v2, v3], (.null :: st), w) := (zEs (i := .aload_n 1) (by decide +kernel) _ _ _).trans rfl
theorem e242_1499 (l : List Value) (v1 v2 v3 : Value) (x : Nat) (st : List Value) (w : zH) : zrun (some l) (242, 1499, [.ref x, v1, v2, v3], st, w) = zrun (some l) (242, 1500, [.ref x, v1, v2, v3], (.ref x :: st), w) := (zEs (i := .aload_n 0) (by decide +kernel) _ _ _).trans rfl
theorem e242_1499n (l : List Value) (v1 v2 v3 : Value) (st : List Value) (w : zH) : zrun (some l) (242, 1499, [.null, v1, v2, v3], st, w) = zrun (some l) (242, 1500, [.null, v1, v2, v3], (.null :: st), w) := (zEs (i := .aload_n 0) (by decide +kernel) _ _ _).trans rfl
theorem e242_1500 (l : List Value) (v0 v1 v2 : Value) (x : Int32) (st : List Value) (w : zH) : zrun (some l) (242, 1500, [v0, v1, v2, .int x], st, w) = zrun (some l) (242, 1501, [v0, v1, v2, .int x], (.int x :: st), w) := (zEs (i := .iload_n 3) (by decide +kernel) _ _ _).trans rfl
theorem e242_1501 (l : List Value) (ls st : List Value) (w : zH) : zrun (some l) (242, 1501, ls, st, w) = zrun (some l) (242, 1502, ls, (.int 1 :: st), w) := (zEs (i := .iconst 1) (by decide +kernel) _ _ _).trans rfl
theorem e242_1502 (l : List Value) (ls : List Value) (a b : Int32) (st : List Value) (w : zH) : zrun (some l) (242, 1502, ls, (.int b :: .int a :: st), w) = zrun (some l) (242, 1503, ls, (.int (a + b) :: st), w) := (zEs (i := .iadd) (by decide +kernel) _ _ _).trans rfl
theorem e242_1503 (l : List Value) (ls : List Value) (j : Int32) (st : List Value) (w : zH) : zrun (some l) (242, 1503, ls, (.int j :: .ref 1000006 :: st), w) = zoi (zsx l j) (fun x => zrun (some l) (242, 1504, ls, (.int x :: st), w)) := (zEs (i := .iaload) (by decide +kernel) _ _ _).trans zqs_iald
theorem e242_1504 (l : List Value) (ls : List Value) (a : Nat) (x0 : Int32) (st : List Value) (w : zH) (hr : zcat st ≤ 8) (hc : zis w a 11) : zrun (some l) (242, 1504, ls, (.int x0 :: .ref a :: st), w) = zcl (zrun (some l) (97, 0, [.ref a, .int x0], [], w)) (fun r => zrun (some l) (242, 1507, ls, r.1.toList ++ st, r.2)) := by
  refine (zEs (i := .invokevirtual 97) (by decide +kernel) _ _ _).trans ?_
  show zresx (some l) (zinv (some l) 97 242 1504 ls (.int x0 :: .ref a :: st) w) = _
  unfold zinv
  show zresx (some l) (if zrc (some l) 97 w (.ref a) = true then zcall 97 [.ref a, .int x0] st 242 1504 ls w else none) = _
  rw [if_pos (zrc_more (zrc_is hc (by decide +kernel)))]
  exact zqs_call hr (Nat.le_of_ble_eq_true rfl) rfl rfl
theorem e242_1507 (l : List Value) (v0 v1 v3 : Value) (x : Nat) (st : List Value) (w : zH) : zrun (some l) (242, 1507, [v0, v1, .ref x, v3], st, w) = zrun (some l) (242, 1508, [v0, v1, .ref x, v3], (.ref x :: st), w) := (zEs (i := .aload_n 2) (by decide +kernel) _ _ _).trans rfl
theorem e242_1507n (l : List Value) (v0 v1 v3 : Value) (st : List Value) (w : zH) : zrun (some l) (242, 1507, [v0, v1, .null, v3], st, w) = zrun (some l) (242, 1508, [v0, v1, .null, v3], (.null :: st), w) := (zEs (i := .aload_n 2) (by decide +kernel) _ _ _).trans rfl
theorem e242_1508 (l : List Value) (v1 v2 v3 : Value) (x : Nat) (st : List Value) (w : zH) : zrun (some l) (242, 1508, [.ref x, v1, v2, v3], st, w) = zrun (some l) (242, 1509, [.ref x, v1, v2, v3], (.ref x :: st), w) := (zEs (i := .aload_n 0) (by decide +kernel) _ _ _).trans rfl
theorem e242_1508n (l : List Value) (v1 v2 v3 : Value) (st : List Value) (w : zH) : zrun (some l) (242, 1508, [.null, v1, v2, v3], st, w) = zrun (some l) (242, 1509, [.null, v1, v2, v3], (.null :: st), w) := (zEs (i := .aload_n 0) (by decide +kernel) _ _ _).trans rfl
theorem e242_1509 (l : List Value) (v0 v1 v2 : Value) (x : Int32) (st : List Value) (w : zH) : zrun (some l) (242, 1509, [v0, v1, v2, .int x], st, w) = zrun (some l) (242, 1510, [v0, v1, v2, .int x], (.int x :: st), w) := (zEs (i := .iload_n 3) (by decide +kernel) _ _ _).trans rfl
theorem e242_1510 (l : List Value) (ls st : List Value) (w : zH) : zrun (some l) (242, 1510, ls, st, w) = zrun (some l) (242, 1511, ls, (.int 1 :: st), w) := (zEs (i := .iconst 1) (by decide +kernel) _ _ _).trans rfl
theorem e242_1511 (l : List Value) (ls : List Value) (a b : Int32) (st : List Value) (w : zH) : zrun (some l) (242, 1511, ls, (.int b :: .int a :: st), w) = zrun (some l) (242, 1512, ls, (.int (a + b) :: st), w) := (zEs (i := .iadd) (by decide +kernel) _ _ _).trans rfl
theorem e242_1512 (l : List Value) (ls : List Value) (j : Int32) (st : List Value) (w : zH) : zrun (some l) (242, 1512, ls, (.int j :: .ref 1000006 :: st), w) = zoi (zsx l j) (fun x => zrun (some l) (242, 1513, ls, (.int x :: st), w)) := (zEs (i := .iaload) (by decide +kernel) _ _ _).trans zqs_iald
theorem e242_1513 (l : List Value) (ls : List Value) (a : Nat) (x0 : Int32) (st : List Value) (w : zH) (hr : zcat st ≤ 8) (hc : zis w a 12) : zrun (some l) (242, 1513, ls, (.int x0 :: .ref a :: st), w) = zcl (zrun (some l) (222, 0, [.ref a, .int x0], [], w)) (fun r => zrun (some l) (242, 1516, ls, r.1.toList ++ st, r.2)) := by
  refine (zEs (i := .invokevirtual 222) (by decide +kernel) _ _ _).trans ?_
  show zresx (some l) (zinv (some l) 222 242 1513 ls (.int x0 :: .ref a :: st) w) = _
  unfold zinv
  show zresx (some l) (if zrc (some l) 222 w (.ref a) = true then zcall 222 [.ref a, .int x0] st 242 1513 ls w else none) = _
  rw [if_pos (zrc_more (zrc_is hc (by decide +kernel)))]
  exact zqs_call hr (Nat.le_of_ble_eq_true rfl) rfl rfl
theorem e242_1516 (l : List Value) (ls : List Value) (a b : Int32) (st : List Value) (w : zH) : zrun (some l) (242, 1516, ls, (.int b :: .int a :: st), w) = if a = b then zrun (some l) (242, 1557, ls, st, w) else zrun (some l) (242, 1519, ls, st, w) := (zEs (i := .if_icmp .eq 41) (by decide +kernel) _ _ _).trans (zqs_ic_eq rfl rfl)
theorem e242_1519 (l : List Value) (ls st : List Value) (w : zH) : zrun (some l) (242, 1519, ls, st, w) = zrun (some l) (242, 1520, ls, (.int 0 :: st), w) := (zEs (i := .iconst 0) (by decide +kernel) _ _ _).trans rfl
theorem e242_1520 (l : List Value) (ls : List Value) (x : Int32) (w : zH) (h : narrow .boolean (.int x) = .int x) : zrun (some l) (242, 1520, ls, [.int x], w) = some (some (.int x), w) := by
  refine (zEs (i := .ireturn) (by decide +kernel) _ _ _).trans ?_
  show zresx (some l) (if narrow .boolean (.int x) = .int x then _ else none) = _
  rw [if_pos h]
  rfl
theorem e242_1521 (l : List Value) (v0 v2 v3 : Value) (x : Nat) (st : List Value) (w : zH) : zrun (some l) (242, 1521, [v0, .ref x, v2, v3], st, w) = zrun (some l) (242, 1522, [v0, .ref x, v2, v3], (.ref x :: st), w) := (zEs (i := .aload_n 1) (by decide +kernel) _ _ _).trans rfl
theorem e242_1521n (l : List Value) (v0 v2 v3 : Value) (st : List Value) (w : zH) : zrun (some l) (242, 1521, [v0, .null, v2, v3], st, w) = zrun (some l) (242, 1522, [v0, .null, v2, v3], (.null :: st), w) := (zEs (i := .aload_n 1) (by decide +kernel) _ _ _).trans rfl
theorem e242_1522 (l : List Value) (v1 v2 v3 : Value) (x : Nat) (st : List Value) (w : zH) : zrun (some l) (242, 1522, [.ref x, v1, v2, v3], st, w) = zrun (some l) (242, 1523, [.ref x, v1, v2, v3], (.ref x :: st), w) := (zEs (i := .aload_n 0) (by decide +kernel) _ _ _).trans rfl
theorem e242_1522n (l : List Value) (v1 v2 v3 : Value) (st : List Value) (w : zH) : zrun (some l) (242, 1522, [.null, v1, v2, v3], st, w) = zrun (some l) (242, 1523, [.null, v1, v2, v3], (.null :: st), w) := (zEs (i := .aload_n 0) (by decide +kernel) _ _ _).trans rfl
theorem e242_1523 (l : List Value) (v0 v1 v2 : Value) (x : Int32) (st : List Value) (w : zH) : zrun (some l) (242, 1523, [v0, v1, v2, .int x], st, w) = zrun (some l) (242, 1524, [v0, v1, v2, .int x], (.int x :: st), w) := (zEs (i := .iload_n 3) (by decide +kernel) _ _ _).trans rfl
theorem e242_1524 (l : List Value) (ls st : List Value) (w : zH) : zrun (some l) (242, 1524, ls, st, w) = zrun (some l) (242, 1525, ls, (.int 1 :: st), w) := (zEs (i := .iconst 1) (by decide +kernel) _ _ _).trans rfl
theorem e242_1525 (l : List Value) (ls : List Value) (a b : Int32) (st : List Value) (w : zH) : zrun (some l) (242, 1525, ls, (.int b :: .int a :: st), w) = zrun (some l) (242, 1526, ls, (.int (a + b) :: st), w) := (zEs (i := .iadd) (by decide +kernel) _ _ _).trans rfl
theorem e242_1526 (l : List Value) (ls : List Value) (j : Int32) (st : List Value) (w : zH) : zrun (some l) (242, 1526, ls, (.int j :: .ref 1000006 :: st), w) = zoi (zsx l j) (fun x => zrun (some l) (242, 1527, ls, (.int x :: st), w)) := (zEs (i := .iaload) (by decide +kernel) _ _ _).trans zqs_iald
theorem e242_1527 (l : List Value) (ls : List Value) (a : Nat) (x0 : Int32) (st : List Value) (w : zH) (hr : zcat st ≤ 8) (hc : zis w a 11) : zrun (some l) (242, 1527, ls, (.int x0 :: .ref a :: st), w) = zcl (zrun (some l) (98, 0, [.ref a, .int x0], [], w)) (fun r => zrun (some l) (242, 1530, ls, r.1.toList ++ st, r.2)) := by
  refine (zEs (i := .invokevirtual 98) (by decide +kernel) _ _ _).trans ?_
  show zresx (some l) (zinv (some l) 98 242 1527 ls (.int x0 :: .ref a :: st) w) = _
  unfold zinv
  show zresx (some l) (if zrc (some l) 98 w (.ref a) = true then zcall 98 [.ref a, .int x0] st 242 1527 ls w else none) = _
  rw [if_pos (zrc_more (zrc_is hc (by decide +kernel)))]
  exact zqs_call hr (Nat.le_of_ble_eq_true rfl) rfl rfl
theorem e242_1530 (l : List Value) (v0 v1 v3 : Value) (x : Nat) (st : List Value) (w : zH) : zrun (some l) (242, 1530, [v0, v1, .ref x, v3], st, w) = zrun (some l) (242, 1531, [v0, v1, .ref x, v3], (.ref x :: st), w) := (zEs (i := .aload_n 2) (by decide +kernel) _ _ _).trans rfl
theorem e242_1530n (l : List Value) (v0 v1 v3 : Value) (st : List Value) (w : zH) : zrun (some l) (242, 1530, [v0, v1, .null, v3], st, w) = zrun (some l) (242, 1531, [v0, v1, .null, v3], (.null :: st), w) := (zEs (i := .aload_n 2) (by decide +kernel) _ _ _).trans rfl
theorem e242_1531 (l : List Value) (v1 v2 v3 : Value) (x : Nat) (st : List Value) (w : zH) : zrun (some l) (242, 1531, [.ref x, v1, v2, v3], st, w) = zrun (some l) (242, 1532, [.ref x, v1, v2, v3], (.ref x :: st), w) := (zEs (i := .aload_n 0) (by decide +kernel) _ _ _).trans rfl
theorem e242_1531n (l : List Value) (v1 v2 v3 : Value) (st : List Value) (w : zH) : zrun (some l) (242, 1531, [.null, v1, v2, v3], st, w) = zrun (some l) (242, 1532, [.null, v1, v2, v3], (.null :: st), w) := (zEs (i := .aload_n 0) (by decide +kernel) _ _ _).trans rfl
theorem e242_1532 (l : List Value) (v0 v1 v2 : Value) (x : Int32) (st : List Value) (w : zH) : zrun (some l) (242, 1532, [v0, v1, v2, .int x], st, w) = zrun (some l) (242, 1533, [v0, v1, v2, .int x], (.int x :: st), w) := (zEs (i := .iload_n 3) (by decide +kernel) _ _ _).trans rfl
theorem e242_1533 (l : List Value) (ls st : List Value) (w : zH) : zrun (some l) (242, 1533, ls, st, w) = zrun (some l) (242, 1534, ls, (.int 1 :: st), w) := (zEs (i := .iconst 1) (by decide +kernel) _ _ _).trans rfl
theorem e242_1534 (l : List Value) (ls : List Value) (a b : Int32) (st : List Value) (w : zH) : zrun (some l) (242, 1534, ls, (.int b :: .int a :: st), w) = zrun (some l) (242, 1535, ls, (.int (a + b) :: st), w) := (zEs (i := .iadd) (by decide +kernel) _ _ _).trans rfl
theorem e242_1535 (l : List Value) (ls : List Value) (j : Int32) (st : List Value) (w : zH) : zrun (some l) (242, 1535, ls, (.int j :: .ref 1000006 :: st), w) = zoi (zsx l j) (fun x => zrun (some l) (242, 1536, ls, (.int x :: st), w)) := (zEs (i := .iaload) (by decide +kernel) _ _ _).trans zqs_iald
theorem e242_1536 (l : List Value) (ls : List Value) (a : Nat) (x0 : Int32) (st : List Value) (w : zH) (hr : zcat st ≤ 8) (hc : zis w a 12) : zrun (some l) (242, 1536, ls, (.int x0 :: .ref a :: st), w) = zcl (zrun (some l) (223, 0, [.ref a, .int x0, zJ, zJ], [], w)) (fun r => zrun (some l) (242, 1539, ls, r.1.toList ++ st, r.2)) := by
  refine (zEs (i := .invokevirtual 223) (by decide +kernel) _ _ _).trans ?_
  show zresx (some l) (zinv (some l) 223 242 1536 ls (.int x0 :: .ref a :: st) w) = _
  unfold zinv
  show zresx (some l) (if zrc (some l) 223 w (.ref a) = true then zcall 223 [.ref a, .int x0] st 242 1536 ls w else none) = _
  rw [if_pos (zrc_more (zrc_is hc (by decide +kernel)))]
  exact zqs_call hr (Nat.le_of_ble_eq_true rfl) rfl rfl
theorem e242_1539 (l : List Value) (ls : List Value) (a b : Int32) (st : List Value) (w : zH) : zrun (some l) (242, 1539, ls, (.int b :: .int a :: st), w) = if a = b then zrun (some l) (242, 1557, ls, st, w) else zrun (some l) (242, 1542, ls, st, w) := (zEs (i := .if_icmp .eq 18) (by decide +kernel) _ _ _).trans (zqs_ic_eq rfl rfl)
theorem e242_1542 (l : List Value) (ls st : List Value) (w : zH) : zrun (some l) (242, 1542, ls, st, w) = zrun (some l) (242, 1543, ls, (.int 0 :: st), w) := (zEs (i := .iconst 0) (by decide +kernel) _ _ _).trans rfl
theorem e242_1543 (l : List Value) (ls : List Value) (x : Int32) (w : zH) (h : narrow .boolean (.int x) = .int x) : zrun (some l) (242, 1543, ls, [.int x], w) = some (some (.int x), w) := by
  refine (zEs (i := .ireturn) (by decide +kernel) _ _ _).trans ?_
  show zresx (some l) (if narrow .boolean (.int x) = .int x then _ else none) = _
  rw [if_pos h]
  rfl
theorem e242_1544 (l : List Value) (v0 v2 v3 : Value) (x : Nat) (st : List Value) (w : zH) : zrun (some l) (242, 1544, [v0, .ref x, v2, v3], st, w) = zrun (some l) (242, 1545, [v0, .ref x, v2, v3], (.ref x :: st), w) := (zEs (i := .aload_n 1) (by decide +kernel) _ _ _).trans rfl
theorem e242_1544n (l : List Value) (v0 v2 v3 : Value) (st : List Value) (w : zH) : zrun (some l) (242, 1544, [v0, .null, v2, v3], st, w) = zrun (some l) (242, 1545, [v0, .null, v2, v3], (.null :: st), w) := (zEs (i := .aload_n 1) (by decide +kernel) _ _ _).trans rfl
theorem e242_1545 (l : List Value) (ls : List Value) (a : Nat) (st : List Value) (w : zH) (hr : zcat st ≤ 8) (hc : zis w a 11) : zrun (some l) (242, 1545, ls, (.ref a :: st), w) = zcl (zrun (some l) (99, 0, [.ref a], [], w)) (fun r => zrun (some l) (242, 1548, ls, r.1.toList ++ st, r.2)) := by
  refine (zEs (i := .invokevirtual 99) (by decide +kernel) _ _ _).trans ?_
  show zresx (some l) (zinv (some l) 99 242 1545 ls (.ref a :: st) w) = _
  unfold zinv
  show zresx (some l) (if zrc (some l) 99 w (.ref a) = true then zcall 99 [.ref a] st 242 1545 ls w else none) = _
  rw [if_pos (zrc_more (zrc_is hc (by decide +kernel)))]
  exact zqs_call hr (Nat.le_of_ble_eq_true rfl) rfl rfl
theorem e242_1548 (l : List Value) (v0 v1 v3 : Value) (x : Nat) (st : List Value) (w : zH) : zrun (some l) (242, 1548, [v0, v1, .ref x, v3], st, w) = zrun (some l) (242, 1549, [v0, v1, .ref x, v3], (.ref x :: st), w) := (zEs (i := .aload_n 2) (by decide +kernel) _ _ _).trans rfl
theorem e242_1548n (l : List Value) (v0 v1 v3 : Value) (st : List Value) (w : zH) : zrun (some l) (242, 1548, [v0, v1, .null, v3], st, w) = zrun (some l) (242, 1549, [v0, v1, .null, v3], (.null :: st), w) := (zEs (i := .aload_n 2) (by decide +kernel) _ _ _).trans rfl
theorem e242_1549 (l : List Value) (ls : List Value) (a : Nat) (st : List Value) (w : zH) (hr : zcat st ≤ 8) (hc : zis w a 12) : zrun (some l) (242, 1549, ls, (.ref a :: st), w) = zcl (zrun (some l) (224, 0, [.ref a], [], w)) (fun r => zrun (some l) (242, 1552, ls, r.1.toList ++ st, r.2)) := by
  refine (zEs (i := .invokevirtual 224) (by decide +kernel) _ _ _).trans ?_
  show zresx (some l) (zinv (some l) 224 242 1549 ls (.ref a :: st) w) = _
  unfold zinv
  show zresx (some l) (if zrc (some l) 224 w (.ref a) = true then zcall 224 [.ref a] st 242 1549 ls w else none) = _
  rw [if_pos (zrc_more (zrc_is hc (by decide +kernel)))]
  exact zqs_call hr (Nat.le_of_ble_eq_true rfl) rfl rfl
theorem e242_1552 (l : List Value) (ls : List Value) (a b : Int32) (st : List Value) (w : zH) : zrun (some l) (242, 1552, ls, (.int b :: .int a :: st), w) = if a = b then zrun (some l) (242, 1557, ls, st, w) else zrun (some l) (242, 1555, ls, st, w) := (zEs (i := .if_icmp .eq 5) (by decide +kernel) _ _ _).trans (zqs_ic_eq rfl rfl)
theorem e242_1555 (l : List Value) (ls st : List Value) (w : zH) : zrun (some l) (242, 1555, ls, st, w) = zrun (some l) (242, 1556, ls, (.int 0 :: st), w) := (zEs (i := .iconst 0) (by decide +kernel) _ _ _).trans rfl
theorem e242_1556 (l : List Value) (ls : List Value) (x : Int32) (w : zH) (h : narrow .boolean (.int x) = .int x) : zrun (some l) (242, 1556, ls, [.int x], w) = some (some (.int x), w) := by
  refine (zEs (i := .ireturn) (by decide +kernel) _ _ _).trans ?_
  show zresx (some l) (if narrow .boolean (.int x) = .int x then _ else none) = _
  rw [if_pos h]
  rfl
theorem e242_1557 (l : List Value) (v0 v1 v2 : Value) (x : Int32) (st : List Value) (w : zH) : zrun (some l) (242, 1557, [v0, v1, v2, .int x], st, w) = zrun (some l) (242, 1560, [v0, v1, v2, .int (x + 8)], st, w) := (zEs (i := .iinc 3 8) (by decide +kernel) _ _ _).trans rfl
theorem e242_1560 (l : List Value) (ls st : List Value) (w : zH) : zrun (some l) (242, 1560, ls, st, w) = zrun (some l) (242, 18, ls, st, w) := (zEs (i := .goto (-1542)) (by decide +kernel) _ _ _).trans rfl
theorem e242_1563 (l : List Value) (ls st : List Value) (w : zH) : zrun (some l) (242, 1563, ls, st, w) = zrun (some l) (242, 1564, ls, (.int 1 :: st), w) := (zEs (i := .iconst 1) (by decide +kernel) _ _ _).trans rfl
theorem e242_1564 (l : List Value) (ls : List Value) (x : Int32) (w : zH) (h : narrow .boolean (.int x) = .int x) : zrun (some l) (242, 1564, ls, [.int x], w) = some (some (.int x), w) := by
  refine (zEs (i := .ireturn) (by decide +kernel) _ _ _).trans ?_
  show zresx (some l) (if narrow .boolean (.int x) = .int x then _ else none) = _
  rw [if_pos h]
  rfl
