/-! the equations of the instructions (gen_rules.py writes this) -/
theorem zne32 {a b : Int32} (h : ¬ a = b) : a.toInt ≠ b.toInt := fun e => h (Int32.toInt_inj.mp e)
theorem zq_if_eq {y pc n t : Nat} {ls st : List Value} {w : zH} {a : Int32} {o : Int} (hn : pc + 3 = n) (ht : zj pc o = some t) : zres (zI none y pc ls (.int a :: st) w (.ifCond .eq o)) = if a = 0 then zrun none (y, t, ls, st, w) else zrun none (y, n, ls, st, w) := by
  subst hn
  simp only [zI]
  by_cases h : a = 0
  · rw [if_pos h]
    have hc : zcmp .eq a 0 = true := by simp [zcmp, h]
    rw [hc]
    simp [zjmp, ht, zgo, zres]
  · rw [if_neg h]
    have hc : zcmp .eq a 0 = false := by simp [zcmp, h]
    rw [hc]
    simp [zjmp, ht, zgo, zres]
theorem zq_if_ne {y pc n t : Nat} {ls st : List Value} {w : zH} {a : Int32} {o : Int} (hn : pc + 3 = n) (ht : zj pc o = some t) : zres (zI none y pc ls (.int a :: st) w (.ifCond .ne o)) = if a = 0 then zrun none (y, n, ls, st, w) else zrun none (y, t, ls, st, w) := by
  subst hn
  simp only [zI]
  by_cases h : a = 0
  · rw [if_pos h]
    have hc : zcmp .ne a 0 = false := by simp [zcmp, h]
    rw [hc]
    simp [zjmp, ht, zgo, zres]
  · rw [if_neg h]
    have hc : zcmp .ne a 0 = true := by simp [zcmp, h]
    rw [hc]
    simp [zjmp, ht, zgo, zres]
theorem zq_if_lt {y pc n t : Nat} {ls st : List Value} {w : zH} {a : Int32} {o : Int} (hn : pc + 3 = n) (ht : zj pc o = some t) : zres (zI none y pc ls (.int a :: st) w (.ifCond .lt o)) = if a < 0 then zrun none (y, t, ls, st, w) else zrun none (y, n, ls, st, w) := by
  subst hn
  simp only [zI]
  by_cases h : a < 0
  · rw [if_pos h]
    have hc : zcmp .lt a 0 = true := by simp [zcmp, h]
    rw [hc]
    simp [zjmp, ht, zgo, zres]
  · rw [if_neg h]
    have hc : zcmp .lt a 0 = false := by simp [zcmp, h]
    rw [hc]
    simp [zjmp, ht, zgo, zres]
theorem zq_if_ge {y pc n t : Nat} {ls st : List Value} {w : zH} {a : Int32} {o : Int} (hn : pc + 3 = n) (ht : zj pc o = some t) : zres (zI none y pc ls (.int a :: st) w (.ifCond .ge o)) = if 0 ≤ a then zrun none (y, t, ls, st, w) else zrun none (y, n, ls, st, w) := by
  subst hn
  simp only [zI]
  by_cases h : 0 ≤ a
  · rw [if_pos h]
    have hc : zcmp .ge a 0 = true := by simp [zcmp, h]
    rw [hc]
    simp [zjmp, ht, zgo, zres]
  · rw [if_neg h]
    have hc : zcmp .ge a 0 = false := by simp [zcmp, h]
    rw [hc]
    simp [zjmp, ht, zgo, zres]
theorem zq_if_gt {y pc n t : Nat} {ls st : List Value} {w : zH} {a : Int32} {o : Int} (hn : pc + 3 = n) (ht : zj pc o = some t) : zres (zI none y pc ls (.int a :: st) w (.ifCond .gt o)) = if 0 < a then zrun none (y, t, ls, st, w) else zrun none (y, n, ls, st, w) := by
  subst hn
  simp only [zI]
  by_cases h : 0 < a
  · rw [if_pos h]
    have hc : zcmp .gt a 0 = true := by simp [zcmp, h]
    rw [hc]
    simp [zjmp, ht, zgo, zres]
  · rw [if_neg h]
    have hc : zcmp .gt a 0 = false := by simp [zcmp, h]
    rw [hc]
    simp [zjmp, ht, zgo, zres]
theorem zq_if_le {y pc n t : Nat} {ls st : List Value} {w : zH} {a : Int32} {o : Int} (hn : pc + 3 = n) (ht : zj pc o = some t) : zres (zI none y pc ls (.int a :: st) w (.ifCond .le o)) = if a ≤ 0 then zrun none (y, t, ls, st, w) else zrun none (y, n, ls, st, w) := by
  subst hn
  simp only [zI]
  by_cases h : a ≤ 0
  · rw [if_pos h]
    have hc : zcmp .le a 0 = true := by simp [zcmp, h]
    rw [hc]
    simp [zjmp, ht, zgo, zres]
  · rw [if_neg h]
    have hc : zcmp .le a 0 = false := by simp [zcmp, h]
    rw [hc]
    simp [zjmp, ht, zgo, zres]
theorem zq_ic_eq {y pc n t : Nat} {ls st : List Value} {w : zH} {a b : Int32} {o : Int} (hn : pc + 3 = n) (ht : zj pc o = some t) : zres (zI none y pc ls (.int b :: .int a :: st) w (.if_icmp .eq o)) = if a = b then zrun none (y, t, ls, st, w) else zrun none (y, n, ls, st, w) := by
  subst hn
  simp only [zI]
  by_cases h : a = b
  · rw [if_pos h]
    have hc : zcmp .eq a b = true := by simp [zcmp, h]
    rw [hc]
    simp [zjmp, ht, zgo, zres]
  · rw [if_neg h]
    have hc : zcmp .eq a b = false := by simp [zcmp, h]
    rw [hc]
    simp [zjmp, ht, zgo, zres]
theorem zq_ic_ne {y pc n t : Nat} {ls st : List Value} {w : zH} {a b : Int32} {o : Int} (hn : pc + 3 = n) (ht : zj pc o = some t) : zres (zI none y pc ls (.int b :: .int a :: st) w (.if_icmp .ne o)) = if a = b then zrun none (y, n, ls, st, w) else zrun none (y, t, ls, st, w) := by
  subst hn
  simp only [zI]
  by_cases h : a = b
  · rw [if_pos h]
    have hc : zcmp .ne a b = false := by simp [zcmp, h]
    rw [hc]
    simp [zjmp, ht, zgo, zres]
  · rw [if_neg h]
    have hc : zcmp .ne a b = true := by simp [zcmp, h]
    rw [hc]
    simp [zjmp, ht, zgo, zres]
theorem zq_ic_lt {y pc n t : Nat} {ls st : List Value} {w : zH} {a b : Int32} {o : Int} (hn : pc + 3 = n) (ht : zj pc o = some t) : zres (zI none y pc ls (.int b :: .int a :: st) w (.if_icmp .lt o)) = if a < b then zrun none (y, t, ls, st, w) else zrun none (y, n, ls, st, w) := by
  subst hn
  simp only [zI]
  by_cases h : a < b
  · rw [if_pos h]
    have hc : zcmp .lt a b = true := by simp [zcmp, h]
    rw [hc]
    simp [zjmp, ht, zgo, zres]
  · rw [if_neg h]
    have hc : zcmp .lt a b = false := by simp [zcmp, h]
    rw [hc]
    simp [zjmp, ht, zgo, zres]
theorem zq_ic_ge {y pc n t : Nat} {ls st : List Value} {w : zH} {a b : Int32} {o : Int} (hn : pc + 3 = n) (ht : zj pc o = some t) : zres (zI none y pc ls (.int b :: .int a :: st) w (.if_icmp .ge o)) = if b ≤ a then zrun none (y, t, ls, st, w) else zrun none (y, n, ls, st, w) := by
  subst hn
  simp only [zI]
  by_cases h : b ≤ a
  · rw [if_pos h]
    have hc : zcmp .ge a b = true := by simp [zcmp, h]
    rw [hc]
    simp [zjmp, ht, zgo, zres]
  · rw [if_neg h]
    have hc : zcmp .ge a b = false := by simp [zcmp, h]
    rw [hc]
    simp [zjmp, ht, zgo, zres]
theorem zq_ic_gt {y pc n t : Nat} {ls st : List Value} {w : zH} {a b : Int32} {o : Int} (hn : pc + 3 = n) (ht : zj pc o = some t) : zres (zI none y pc ls (.int b :: .int a :: st) w (.if_icmp .gt o)) = if b < a then zrun none (y, t, ls, st, w) else zrun none (y, n, ls, st, w) := by
  subst hn
  simp only [zI]
  by_cases h : b < a
  · rw [if_pos h]
    have hc : zcmp .gt a b = true := by simp [zcmp, h]
    rw [hc]
    simp [zjmp, ht, zgo, zres]
  · rw [if_neg h]
    have hc : zcmp .gt a b = false := by simp [zcmp, h]
    rw [hc]
    simp [zjmp, ht, zgo, zres]
theorem zq_ic_le {y pc n t : Nat} {ls st : List Value} {w : zH} {a b : Int32} {o : Int} (hn : pc + 3 = n) (ht : zj pc o = some t) : zres (zI none y pc ls (.int b :: .int a :: st) w (.if_icmp .le o)) = if a ≤ b then zrun none (y, t, ls, st, w) else zrun none (y, n, ls, st, w) := by
  subst hn
  simp only [zI]
  by_cases h : a ≤ b
  · rw [if_pos h]
    have hc : zcmp .le a b = true := by simp [zcmp, h]
    rw [hc]
    simp [zjmp, ht, zgo, zres]
  · rw [if_neg h]
    have hc : zcmp .le a b = false := by simp [zcmp, h]
    rw [hc]
    simp [zjmp, ht, zgo, zres]
theorem e0_0 (v1 v2 v3 v4 v5 v6 : Value) (x : Nat) (st : List Value) (w : zH) : zrun none (0, 0, [.ref x, v1, v2, v3, v4, v5, v6], st, w) = zrun none (0, 1, [.ref x, v1, v2, v3, v4, v5, v6], (.ref x :: st), w) := (zE_ (i := .aload_n 0) (by decide +kernel) _ _ _).trans rfl
theorem e0_1 (ls : List Value) (a : Nat) (st : List Value) (w : zH) (h : a < zX) (hr : zcat st ≤ 8) : zrun none (0, 1, ls, (.ref a :: st), w) = zrun none (0, 4, ls, st, w) := by
  refine (zE_ (i := .invokespecial 998) (by decide +kernel) _ _ _).trans ?_
  simp only [zI, if_true]
  rw [if_pos ⟨hr, h⟩]
  rfl
theorem e0_4 (v1 v2 v3 v4 v5 v6 : Value) (x : Nat) (st : List Value) (w : zH) : zrun none (0, 4, [.ref x, v1, v2, v3, v4, v5, v6], st, w) = zrun none (0, 5, [.ref x, v1, v2, v3, v4, v5, v6], (.ref x :: st), w) := (zE_ (i := .aload_n 0) (by decide +kernel) _ _ _).trans rfl
theorem e0_5 (v0 v2 v3 v4 v5 v6 : Value) (x : Int32) (st : List Value) (w : zH) : zrun none (0, 5, [v0, .int x, v2, v3, v4, v5, v6], st, w) = zrun none (0, 6, [v0, .int x, v2, v3, v4, v5, v6], (.int x :: st), w) := (zE_ (i := .iload_n 1) (by decide +kernel) _ _ _).trans rfl
theorem e0_6 (ls : List Value) (x : Int32) (a : Nat) (st : List Value) (w : zH) : zrun none (0, 6, ls, (.int x :: .ref a :: st), w) = zgd (a < zX ∧ (zf w a 0).isSome = true) (zrun none (0, 9, ls, st, zpf w a 0 (.int x))) := by
  refine (zE_ (i := .putfield 0) (by decide +kernel) _ _ _).trans ?_
  by_cases hg : a < zX ∧ (zf w a 0).isSome = true
  · rw [zgd_pos hg]
    obtain ⟨ha, h⟩ := hg
    exact zq_putf ha h rfl rfl
  · rw [zgd_neg hg]
    exact zq_putf_no (fun h1 h2 h3 => hg ⟨h1, h2⟩)
theorem e0_9 (v1 v2 v3 v4 v5 v6 : Value) (x : Nat) (st : List Value) (w : zH) : zrun none (0, 9, [.ref x, v1, v2, v3, v4, v5, v6], st, w) = zrun none (0, 10, [.ref x, v1, v2, v3, v4, v5, v6], (.ref x :: st), w) := (zE_ (i := .aload_n 0) (by decide +kernel) _ _ _).trans rfl
theorem e0_10 (v0 v1 v3 v4 v5 v6 : Value) (x : Int32) (st : List Value) (w : zH) : zrun none (0, 10, [v0, v1, .int x, v3, v4, v5, v6], st, w) = zrun none (0, 11, [v0, v1, .int x, v3, v4, v5, v6], (.int x :: st), w) := (zE_ (i := .iload_n 2) (by decide +kernel) _ _ _).trans rfl
theorem e0_11 (ls : List Value) (x : Int32) (a : Nat) (st : List Value) (w : zH) : zrun none (0, 11, ls, (.int x :: .ref a :: st), w) = zgd (a < zX ∧ (zf w a 1).isSome = true) (zrun none (0, 14, ls, st, zpf w a 1 (.int x))) := by
  refine (zE_ (i := .putfield 1) (by decide +kernel) _ _ _).trans ?_
  by_cases hg : a < zX ∧ (zf w a 1).isSome = true
  · rw [zgd_pos hg]
    obtain ⟨ha, h⟩ := hg
    exact zq_putf ha h rfl rfl
  · rw [zgd_neg hg]
    exact zq_putf_no (fun h1 h2 h3 => hg ⟨h1, h2⟩)
theorem e0_14 (v1 v2 v3 v4 v5 v6 : Value) (x : Nat) (st : List Value) (w : zH) : zrun none (0, 14, [.ref x, v1, v2, v3, v4, v5, v6], st, w) = zrun none (0, 15, [.ref x, v1, v2, v3, v4, v5, v6], (.ref x :: st), w) := (zE_ (i := .aload_n 0) (by decide +kernel) _ _ _).trans rfl
theorem e0_15 (v0 v1 v2 v4 v5 v6 : Value) (x : Int32) (st : List Value) (w : zH) : zrun none (0, 15, [v0, v1, v2, .int x, v4, v5, v6], st, w) = zrun none (0, 16, [v0, v1, v2, .int x, v4, v5, v6], (.int x :: st), w) := (zE_ (i := .iload_n 3) (by decide +kernel) _ _ _).trans rfl
theorem e0_16 (ls : List Value) (x : Int32) (a : Nat) (st : List Value) (w : zH) : zrun none (0, 16, ls, (.int x :: .ref a :: st), w) = zgd (a < zX ∧ (zf w a 2).isSome = true) (zrun none (0, 19, ls, st, zpf w a 2 (.int x))) := by
  refine (zE_ (i := .putfield 2) (by decide +kernel) _ _ _).trans ?_
  by_cases hg : a < zX ∧ (zf w a 2).isSome = true
  · rw [zgd_pos hg]
    obtain ⟨ha, h⟩ := hg
    exact zq_putf ha h rfl rfl
  · rw [zgd_neg hg]
    exact zq_putf_no (fun h1 h2 h3 => hg ⟨h1, h2⟩)
theorem e0_19 (v1 v2 v3 v4 v5 v6 : Value) (x : Nat) (st : List Value) (w : zH) : zrun none (0, 19, [.ref x, v1, v2, v3, v4, v5, v6], st, w) = zrun none (0, 20, [.ref x, v1, v2, v3, v4, v5, v6], (.ref x :: st), w) := (zE_ (i := .aload_n 0) (by decide +kernel) _ _ _).trans rfl
theorem e0_20 (v0 v1 v2 v3 v5 v6 : Value) (x : Int32) (st : List Value) (w : zH) : zrun none (0, 20, [v0, v1, v2, v3, .int x, v5, v6], st, w) = zrun none (0, 22, [v0, v1, v2, v3, .int x, v5, v6], (.int x :: st), w) := (zE_ (i := .iload 4) (by decide +kernel) _ _ _).trans rfl
theorem e0_22 (ls : List Value) (x : Int32) (a : Nat) (st : List Value) (w : zH) : zrun none (0, 22, ls, (.int x :: .ref a :: st), w) = zgd (a < zX ∧ (zf w a 3).isSome = true) (zrun none (0, 25, ls, st, zpf w a 3 (.int x))) := by
  refine (zE_ (i := .putfield 3) (by decide +kernel) _ _ _).trans ?_
  by_cases hg : a < zX ∧ (zf w a 3).isSome = true
  · rw [zgd_pos hg]
    obtain ⟨ha, h⟩ := hg
    exact zq_putf ha h rfl rfl
  · rw [zgd_neg hg]
    exact zq_putf_no (fun h1 h2 h3 => hg ⟨h1, h2⟩)
theorem e0_25 (v1 v2 v3 v4 v5 v6 : Value) (x : Nat) (st : List Value) (w : zH) : zrun none (0, 25, [.ref x, v1, v2, v3, v4, v5, v6], st, w) = zrun none (0, 26, [.ref x, v1, v2, v3, v4, v5, v6], (.ref x :: st), w) := (zE_ (i := .aload_n 0) (by decide +kernel) _ _ _).trans rfl
theorem e0_26 (v0 v1 v2 v3 v4 v6 : Value) (x : Int32) (st : List Value) (w : zH) : zrun none (0, 26, [v0, v1, v2, v3, v4, .int x, v6], st, w) = zrun none (0, 28, [v0, v1, v2, v3, v4, .int x, v6], (.int x :: st), w) := (zE_ (i := .iload 5) (by decide +kernel) _ _ _).trans rfl
theorem e0_28 (ls : List Value) (x : Int32) (a : Nat) (st : List Value) (w : zH) : zrun none (0, 28, ls, (.int x :: .ref a :: st), w) = zgd (a < zX ∧ (zf w a 4).isSome = true) (zrun none (0, 31, ls, st, zpf w a 4 (.int x))) := by
  refine (zE_ (i := .putfield 4) (by decide +kernel) _ _ _).trans ?_
  by_cases hg : a < zX ∧ (zf w a 4).isSome = true
  · rw [zgd_pos hg]
    obtain ⟨ha, h⟩ := hg
    exact zq_putf ha h rfl rfl
  · rw [zgd_neg hg]
    exact zq_putf_no (fun h1 h2 h3 => hg ⟨h1, h2⟩)
theorem e0_31 (v1 v2 v3 v4 v5 v6 : Value) (x : Nat) (st : List Value) (w : zH) : zrun none (0, 31, [.ref x, v1, v2, v3, v4, v5, v6], st, w) = zrun none (0, 32, [.ref x, v1, v2, v3, v4, v5, v6], (.ref x :: st), w) := (zE_ (i := .aload_n 0) (by decide +kernel) _ _ _).trans rfl
theorem e0_32 (v0 v1 v2 v3 v4 v5 : Value) (x : Int32) (st : List Value) (w : zH) : zrun none (0, 32, [v0, v1, v2, v3, v4, v5, .int x], st, w) = zrun none (0, 34, [v0, v1, v2, v3, v4, v5, .int x], (.int x :: st), w) := (zE_ (i := .iload 6) (by decide +kernel) _ _ _).trans rfl
theorem e0_34 (ls : List Value) (x : Int32) (a : Nat) (st : List Value) (w : zH) : zrun none (0, 34, ls, (.int x :: .ref a :: st), w) = zgd (a < zX ∧ (zf w a 5).isSome = true ∧ (x = 0 ∨ x = 1)) (zrun none (0, 37, ls, st, zpf w a 5 (.int x))) := by
  refine (zE_ (i := .putfield 5) (by decide +kernel) _ _ _).trans ?_
  by_cases hg : a < zX ∧ (zf w a 5).isSome = true ∧ (x = 0 ∨ x = 1)
  · rw [zgd_pos hg]
    obtain ⟨ha, h, hb⟩ := hg
    exact zq_putf ha h (by rcases hb with rfl | rfl <;> rfl) (by rcases hb with rfl | rfl <;> rfl)
  · rw [zgd_neg hg]
    exact zq_putf_no (fun h1 h2 h3 => hg ⟨h1, h2, zbit h3⟩)
theorem e0_37 (ls : List Value) (w : zH) : zrun none (0, 37, ls, [], w) = some (none, w) := (zE_ (i := .return_) (by decide +kernel) _ _ _).trans rfl
theorem e1_0 (v1 v2 v3 : Value) (x : Nat) (st : List Value) (w : zH) : zrun none (1, 0, [.ref x, v1, v2, v3], st, w) = zrun none (1, 1, [.ref x, v1, v2, v3], (.ref x :: st), w) := (zE_ (i := .aload_n 0) (by decide +kernel) _ _ _).trans rfl
theorem e1_1 (ls : List Value) (a : Nat) (st : List Value) (w : zH) : zrun none (1, 1, ls, (.ref a :: st), w) = zo (zf w a 2) (fun x => zrun none (1, 4, ls, (x :: st), w)) := (zE_ (i := .getfield 2) (by decide +kernel) _ _ _).trans zq_getf
theorem e1_4 (ls st : List Value) (w : zH) : zrun none (1, 4, ls, st, w) = zrun none (1, 5, ls, (.int 5 :: st), w) := (zE_ (i := .iconst 5) (by decide +kernel) _ _ _).trans rfl
theorem e1_5 (ls : List Value) (a b : Int32) (st : List Value) (w : zH) : zrun none (1, 5, ls, (.int b :: .int a :: st), w) = if a = b then zrun none (1, 19, ls, st, w) else zrun none (1, 8, ls, st, w) := (zE_ (i := .if_icmp .eq 14) (by decide +kernel) _ _ _).trans (zq_ic_eq rfl rfl)
theorem e1_8 (v1 v2 v3 : Value) (x : Nat) (st : List Value) (w : zH) : zrun none (1, 8, [.ref x, v1, v2, v3], st, w) = zrun none (1, 9, [.ref x, v1, v2, v3], (.ref x :: st), w) := (zE_ (i := .aload_n 0) (by decide +kernel) _ _ _).trans rfl
theorem e1_9 (ls : List Value) (a : Nat) (st : List Value) (w : zH) : zrun none (1, 9, ls, (.ref a :: st), w) = zo (zf w a 2) (fun x => zrun none (1, 12, ls, (x :: st), w)) := (zE_ (i := .getfield 2) (by decide +kernel) _ _ _).trans zq_getf
theorem e1_12 (v0 v2 v3 : Value) (x : Nat) (st : List Value) (w : zH) : zrun none (1, 12, [v0, .ref x, v2, v3], st, w) = zrun none (1, 13, [v0, .ref x, v2, v3], (.ref x :: st), w) := (zE_ (i := .aload_n 1) (by decide +kernel) _ _ _).trans rfl
theorem e1_12n (v0 v2 v3 : Value) (st : List Value) (w : zH) : zrun none (1, 12, [v0, .null, v2, v3], st, w) = zrun none (1, 13, [v0, .null, v2, v3], (.null :: st), w) := (zE_ (i := .aload_n 1) (by decide +kernel) _ _ _).trans rfl
theorem e1_13 (ls : List Value) (a : Nat) (st : List Value) (w : zH) : zrun none (1, 13, ls, (.ref a :: st), w) = zo (zf w a 701) (fun x => zrun none (1, 16, ls, (x :: st), w)) := (zE_ (i := .getfield 701) (by decide +kernel) _ _ _).trans zq_getf
theorem e1_16 (ls : List Value) (a b : Int32) (st : List Value) (w : zH) : zrun none (1, 16, ls, (.int b :: .int a :: st), w) = if a = b then zrun none (1, 19, ls, st, w) else zrun none (1, 43, ls, st, w) := (zE_ (i := .if_icmp .ne 27) (by decide +kernel) _ _ _).trans (zq_ic_ne rfl rfl)
theorem e1_19 (v1 v2 v3 : Value) (x : Nat) (st : List Value) (w : zH) : zrun none (1, 19, [.ref x, v1, v2, v3], st, w) = zrun none (1, 20, [.ref x, v1, v2, v3], (.ref x :: st), w) := (zE_ (i := .aload_n 0) (by decide +kernel) _ _ _).trans rfl
theorem e1_20 (ls : List Value) (a : Nat) (st : List Value) (w : zH) : zrun none (1, 20, ls, (.ref a :: st), w) = zo (zf w a 3) (fun x => zrun none (1, 23, ls, (x :: st), w)) := (zE_ (i := .getfield 3) (by decide +kernel) _ _ _).trans zq_getf
theorem e1_23 (v0 v1 v3 : Value) (x : Int32) (st : List Value) (w : zH) : zrun none (1, 23, [v0, v1, .int x, v3], st, w) = zrun none (1, 24, [v0, v1, .int x, v3], (.int x :: st), w) := (zE_ (i := .iload_n 2) (by decide +kernel) _ _ _).trans rfl
theorem e1_24 (ls : List Value) (a b : Int32) (st : List Value) (w : zH) : zrun none (1, 24, ls, (.int b :: .int a :: st), w) = if a = b then zrun none (1, 27, ls, st, w) else zrun none (1, 43, ls, st, w) := (zE_ (i := .if_icmp .ne 19) (by decide +kernel) _ _ _).trans (zq_ic_ne rfl rfl)
theorem e1_27 (v0 v2 v3 : Value) (x : Nat) (st : List Value) (w : zH) : zrun none (1, 27, [v0, .ref x, v2, v3], st, w) = zrun none (1, 28, [v0, .ref x, v2, v3], (.ref x :: st), w) := (zE_ (i := .aload_n 1) (by decide +kernel) _ _ _).trans rfl
theorem e1_27n (v0 v2 v3 : Value) (st : List Value) (w : zH) : zrun none (1, 27, [v0, .null, v2, v3], st, w) = zrun none (1, 28, [v0, .null, v2, v3], (.null :: st), w) := (zE_ (i := .aload_n 1) (by decide +kernel) _ _ _).trans rfl
theorem e1_28 (v0 v1 v2 : Value) (x : Int32) (st : List Value) (w : zH) : zrun none (1, 28, [v0, v1, v2, .int x], st, w) = zrun none (1, 29, [v0, v1, v2, .int x], (.int x :: st), w) := (zE_ (i := .iload_n 3) (by decide +kernel) _ _ _).trans rfl
theorem e1_29 (ls : List Value) (a : Nat) (x0 : Int32) (st : List Value) (w : zH) (hr : zcat st ≤ 8) : zrun none (1, 29, ls, (.int x0 :: .ref a :: st), w) = zgd (zis w a 7) (zcl (zrun none (33, 0, [.ref a, .int x0], [], w)) (fun r => zrun none (1, 32, ls, r.1.toList ++ st, r.2))) := by
  refine (zE_ (i := .invokevirtual 33) (by decide +kernel) _ _ _).trans ?_
  show zres (zinv none 33 1 29 ls (.int x0 :: .ref a :: st) w) = _
  unfold zinv
  show zres (if zrc none 33 w (.ref a) = true then zcall 33 [.ref a, .int x0] st 1 29 ls w else none) = _
  by_cases hc : zis w a 7
  · rw [if_pos (zrc_is hc (by decide +kernel)), zgd_pos hc]
    exact zq_call hr (Nat.le_of_ble_eq_true rfl) rfl rfl
  · rw [zgd_neg hc, if_neg (fun q => hc (zrc_of q (by decide +kernel)))]
    rfl
theorem e1_32 (v1 v2 v3 : Value) (x : Nat) (st : List Value) (w : zH) : zrun none (1, 32, [.ref x, v1, v2, v3], st, w) = zrun none (1, 33, [.ref x, v1, v2, v3], (.ref x :: st), w) := (zE_ (i := .aload_n 0) (by decide +kernel) _ _ _).trans rfl
theorem e1_33 (ls : List Value) (a : Nat) (st : List Value) (w : zH) : zrun none (1, 33, ls, (.ref a :: st), w) = zo (zf w a 4) (fun x => zrun none (1, 36, ls, (x :: st), w)) := (zE_ (i := .getfield 4) (by decide +kernel) _ _ _).trans zq_getf
theorem e1_36 (ls : List Value) (a b : Int32) (st : List Value) (w : zH) : zrun none (1, 36, ls, (.int b :: .int a :: st), w) = if a < b then zrun none (1, 43, ls, st, w) else zrun none (1, 39, ls, st, w) := (zE_ (i := .if_icmp .lt 7) (by decide +kernel) _ _ _).trans (zq_ic_lt rfl rfl)
theorem e1_39 (ls st : List Value) (w : zH) : zrun none (1, 39, ls, st, w) = zrun none (1, 40, ls, (.int 1 :: st), w) := (zE_ (i := .iconst 1) (by decide +kernel) _ _ _).trans rfl
theorem e1_40 (ls st : List Value) (w : zH) : zrun none (1, 40, ls, st, w) = zrun none (1, 44, ls, st, w) := (zE_ (i := .goto 4) (by decide +kernel) _ _ _).trans rfl
theorem e1_43 (ls st : List Value) (w : zH) : zrun none (1, 43, ls, st, w) = zrun none (1, 44, ls, (.int 0 :: st), w) := (zE_ (i := .iconst 0) (by decide +kernel) _ _ _).trans rfl
theorem e1_44 (ls : List Value) (x : Int32) (w : zH) (h : narrow .boolean (.int x) = .int x) : zrun none (1, 44, ls, [.int x], w) = some (some (.int x), w) := by
  refine (zE_ (i := .ireturn) (by decide +kernel) _ _ _).trans ?_
  show zres (if narrow .boolean (.int x) = .int x then _ else none) = _
  rw [if_pos h]
  rfl
theorem e2_0 (v1 v2 v3 : Value) (x : Nat) (st : List Value) (w : zH) : zrun none (2, 0, [.ref x, v1, v2, v3], st, w) = zrun none (2, 1, [.ref x, v1, v2, v3], (.ref x :: st), w) := (zE_ (i := .aload_n 0) (by decide +kernel) _ _ _).trans rfl
theorem e2_1 (ls : List Value) (a : Nat) (st : List Value) (w : zH) (h : a < zX) (hr : zcat st ≤ 8) : zrun none (2, 1, ls, (.ref a :: st), w) = zrun none (2, 4, ls, st, w) := by
  refine (zE_ (i := .invokespecial 998) (by decide +kernel) _ _ _).trans ?_
  simp only [zI, if_true]
  rw [if_pos ⟨hr, h⟩]
  rfl
theorem e2_4 (v1 v2 v3 : Value) (x : Nat) (st : List Value) (w : zH) : zrun none (2, 4, [.ref x, v1, v2, v3], st, w) = zrun none (2, 5, [.ref x, v1, v2, v3], (.ref x :: st), w) := (zE_ (i := .aload_n 0) (by decide +kernel) _ _ _).trans rfl
theorem e2_5 (v0 v2 v3 : Value) (x : Int32) (st : List Value) (w : zH) : zrun none (2, 5, [v0, .int x, v2, v3], st, w) = zrun none (2, 6, [v0, .int x, v2, v3], (.int x :: st), w) := (zE_ (i := .iload_n 1) (by decide +kernel) _ _ _).trans rfl
theorem e2_6 (ls : List Value) (x : Int32) (a : Nat) (st : List Value) (w : zH) : zrun none (2, 6, ls, (.int x :: .ref a :: st), w) = zgd (a < zX ∧ (zf w a 100).isSome = true) (zrun none (2, 9, ls, st, zpf w a 100 (.int x))) := by
  refine (zE_ (i := .putfield 100) (by decide +kernel) _ _ _).trans ?_
  by_cases hg : a < zX ∧ (zf w a 100).isSome = true
  · rw [zgd_pos hg]
    obtain ⟨ha, h⟩ := hg
    exact zq_putf ha h rfl rfl
  · rw [zgd_neg hg]
    exact zq_putf_no (fun h1 h2 h3 => hg ⟨h1, h2⟩)
theorem e2_9 (v1 v2 v3 : Value) (x : Nat) (st : List Value) (w : zH) : zrun none (2, 9, [.ref x, v1, v2, v3], st, w) = zrun none (2, 10, [.ref x, v1, v2, v3], (.ref x :: st), w) := (zE_ (i := .aload_n 0) (by decide +kernel) _ _ _).trans rfl
theorem e2_10 (v0 v1 v3 : Value) (x : Int32) (st : List Value) (w : zH) : zrun none (2, 10, [v0, v1, .int x, v3], st, w) = zrun none (2, 11, [v0, v1, .int x, v3], (.int x :: st), w) := (zE_ (i := .iload_n 2) (by decide +kernel) _ _ _).trans rfl
theorem e2_11 (ls : List Value) (x : Int32) (a : Nat) (st : List Value) (w : zH) : zrun none (2, 11, ls, (.int x :: .ref a :: st), w) = zgd (a < zX ∧ (zf w a 101).isSome = true) (zrun none (2, 14, ls, st, zpf w a 101 (.int x))) := by
  refine (zE_ (i := .putfield 101) (by decide +kernel) _ _ _).trans ?_
  by_cases hg : a < zX ∧ (zf w a 101).isSome = true
  · rw [zgd_pos hg]
    obtain ⟨ha, h⟩ := hg
    exact zq_putf ha h rfl rfl
  · rw [zgd_neg hg]
    exact zq_putf_no (fun h1 h2 h3 => hg ⟨h1, h2⟩)
theorem e2_14 (v1 v2 v3 : Value) (x : Nat) (st : List Value) (w : zH) : zrun none (2, 14, [.ref x, v1, v2, v3], st, w) = zrun none (2, 15, [.ref x, v1, v2, v3], (.ref x :: st), w) := (zE_ (i := .aload_n 0) (by decide +kernel) _ _ _).trans rfl
theorem e2_15 (v0 v1 v2 : Value) (x : Int32) (st : List Value) (w : zH) : zrun none (2, 15, [v0, v1, v2, .int x], st, w) = zrun none (2, 16, [v0, v1, v2, .int x], (.int x :: st), w) := (zE_ (i := .iload_n 3) (by decide +kernel) _ _ _).trans rfl
theorem e2_16 (ls : List Value) (x : Int32) (a : Nat) (st : List Value) (w : zH) : zrun none (2, 16, ls, (.int x :: .ref a :: st), w) = zgd (a < zX ∧ (zf w a 102).isSome = true) (zrun none (2, 19, ls, st, zpf w a 102 (.int x))) := by
  refine (zE_ (i := .putfield 102) (by decide +kernel) _ _ _).trans ?_
  by_cases hg : a < zX ∧ (zf w a 102).isSome = true
  · rw [zgd_pos hg]
    obtain ⟨ha, h⟩ := hg
    exact zq_putf ha h rfl rfl
  · rw [zgd_neg hg]
    exact zq_putf_no (fun h1 h2 h3 => hg ⟨h1, h2⟩)
theorem e2_19 (ls : List Value) (w : zH) : zrun none (2, 19, ls, [], w) = some (none, w) := (zE_ (i := .return_) (by decide +kernel) _ _ _).trans rfl
theorem e3_0 (x : Nat) (st : List Value) (w : zH) : zrun none (3, 0, [.ref x], st, w) = zrun none (3, 1, [.ref x], (.ref x :: st), w) := (zE_ (i := .aload_n 0) (by decide +kernel) _ _ _).trans rfl
theorem e3_1 (ls : List Value) (a : Nat) (st : List Value) (w : zH) (h : a < zX) (hr : zcat st ≤ 8) : zrun none (3, 1, ls, (.ref a :: st), w) = zrun none (3, 4, ls, st, w) := by
  refine (zE_ (i := .invokespecial 998) (by decide +kernel) _ _ _).trans ?_
  simp only [zI, if_true]
  rw [if_pos ⟨hr, h⟩]
  rfl
theorem e3_4 (x : Nat) (st : List Value) (w : zH) : zrun none (3, 4, [.ref x], st, w) = zrun none (3, 5, [.ref x], (.ref x :: st), w) := (zE_ (i := .aload_n 0) (by decide +kernel) _ _ _).trans rfl
theorem e3_5 (ls st : List Value) (w : zH) : zrun none (3, 5, ls, st, w) = zrun none (3, 7, ls, (.int 16 :: st), w) := (zE_ (i := .bipush 16) (by decide +kernel) _ _ _).trans rfl
theorem e3_7 (ls : List Value) (n : Int32) (st : List Value) (w : zH) (h0 : ¬ n < 0 ∧ n ≤ 65536) (h : w.length + 1 < zX) : zrun none (3, 7, ls, (.int n :: st), w) = zrun none (3, 10, ls, (.ref w.length :: st), w ++ [(201, List.replicate n.toNatClampNeg (.null))]) := by
  refine (zE_ (i := .anewarray 201) (by decide +kernel) _ _ _).trans ?_
  simp only [zI]
  rw [if_pos (by decide)]
  unfold znwa
  dsimp only
  rw [if_pos h0]
  unfold znw
  rw [if_pos h]
  rfl
theorem e3_10 (ls : List Value) (x : Nat) (a : Nat) (st : List Value) (w : zH) : zrun none (3, 10, ls, (.ref x :: .ref a :: st), w) = zgd (a < zX ∧ (zf w a 200).isSome = true) (zrun none (3, 13, ls, st, zpf w a 200 (.ref x))) := by
  refine (zE_ (i := .putfield 200) (by decide +kernel) _ _ _).trans ?_
  by_cases hg : a < zX ∧ (zf w a 200).isSome = true
  · rw [zgd_pos hg]
    obtain ⟨ha, h⟩ := hg
    exact zq_putf ha h rfl rfl
  · rw [zgd_neg hg]
    exact zq_putf_no (fun h1 h2 h3 => hg ⟨h1, h2⟩)
theorem e3_13 (x : Nat) (st : List Value) (w : zH) : zrun none (3, 13, [.ref x], st, w) = zrun none (3, 14, [.ref x], (.ref x :: st), w) := (zE_ (i := .aload_n 0) (by decide +kernel) _ _ _).trans rfl
theorem e3_14 (ls st : List Value) (w : zH) : zrun none (3, 14, ls, st, w) = zrun none (3, 16, ls, (.int 12 :: st), w) := (zE_ (i := .bipush 12) (by decide +kernel) _ _ _).trans rfl
theorem e3_16 (ls : List Value) (n : Int32) (st : List Value) (w : zH) (h0 : ¬ n < 0 ∧ n ≤ 65536) (h : w.length + 1 < zX) : zrun none (3, 16, ls, (.int n :: st), w) = zrun none (3, 18, ls, (.ref w.length :: st), w ++ [(100, List.replicate n.toNatClampNeg (.int 0))]) := by
  refine (zE_ (i := .newarray .int) (by decide +kernel) _ _ _).trans ?_
  simp only [zI]
  unfold znwa
  dsimp only
  rw [if_pos h0]
  unfold znw
  rw [if_pos h]
  rfl
theorem e3_18 (ls : List Value) (x : Nat) (a : Nat) (st : List Value) (w : zH) : zrun none (3, 18, ls, (.ref x :: .ref a :: st), w) = zgd (a < zX ∧ (zf w a 201).isSome = true) (zrun none (3, 21, ls, st, zpf w a 201 (.ref x))) := by
  refine (zE_ (i := .putfield 201) (by decide +kernel) _ _ _).trans ?_
  by_cases hg : a < zX ∧ (zf w a 201).isSome = true
  · rw [zgd_pos hg]
    obtain ⟨ha, h⟩ := hg
    exact zq_putf ha h rfl rfl
  · rw [zgd_neg hg]
    exact zq_putf_no (fun h1 h2 h3 => hg ⟨h1, h2⟩)
theorem e3_21 (x : Nat) (st : List Value) (w : zH) : zrun none (3, 21, [.ref x], st, w) = zrun none (3, 22, [.ref x], (.ref x :: st), w) := (zE_ (i := .aload_n 0) (by decide +kernel) _ _ _).trans rfl
theorem e3_22 (ls : List Value) (a : Nat) (st : List Value) (w : zH) : zrun none (3, 22, ls, (.ref a :: st), w) = zo (zf w a 201) (fun x => zrun none (3, 25, ls, (x :: st), w)) := (zE_ (i := .getfield 201) (by decide +kernel) _ _ _).trans zq_getf
theorem e3_25 (ls st : List Value) (w : zH) : zrun none (3, 25, ls, st, w) = zrun none (3, 26, ls, (.int 1 :: st), w) := (zE_ (i := .iconst 1) (by decide +kernel) _ _ _).trans rfl
theorem e3_26 (ls : List Value) (x0 : Nat) (x1 : Int32) (st : List Value) (w : zH) (hr : zcat st ≤ 8) : zrun none (3, 26, ls, (.int x1 :: .ref x0 :: st), w) = zcl (zrun none (240, 0, [.ref x0, .int x1, zJ, zJ], [], w)) (fun r => zrun none (3, 29, ls, r.1.toList ++ st, r.2)) := by
  refine (zE_ (i := .invokestatic 240) (by decide +kernel) _ _ _).trans ?_
  show zres (if (99 : Nat) = 99 ∧ 2 ≤ ((.int x1 :: .ref x0 :: st) : List Value).length then zcall 240 [.ref x0, .int x1] st 3 26 ls w else none) = _
  rw [if_pos ⟨rfl, by simp⟩]
  exact zq_call hr (Nat.le_of_ble_eq_true rfl) rfl rfl
theorem e3_29 (ls : List Value) (w : zH) : zrun none (3, 29, ls, [], w) = some (none, w) := (zE_ (i := .return_) (by decide +kernel) _ _ _).trans rfl
theorem e4_0 (v1 : Value) (x : Nat) (st : List Value) (w : zH) : zrun none (4, 0, [.ref x, v1], st, w) = zrun none (4, 1, [.ref x, v1], (.ref x :: st), w) := (zE_ (i := .aload_n 0) (by decide +kernel) _ _ _).trans rfl
theorem e4_1 (ls : List Value) (a : Nat) (st : List Value) (w : zH) : zrun none (4, 1, ls, (.ref a :: st), w) = zo (zf w a 202) (fun x => zrun none (4, 4, ls, (x :: st), w)) := (zE_ (i := .getfield 202) (by decide +kernel) _ _ _).trans zq_getf
theorem e4_4 (ls st : List Value) (w : zH) : zrun none (4, 4, ls, st, w) = zrun none (4, 6, ls, (.int 16 :: st), w) := (zE_ (i := .bipush 16) (by decide +kernel) _ _ _).trans rfl
theorem e4_6 (ls : List Value) (a b : Int32) (st : List Value) (w : zH) : zrun none (4, 6, ls, (.int b :: .int a :: st), w) = if a < b then zrun none (4, 12, ls, st, w) else zrun none (4, 9, ls, st, w) := (zE_ (i := .if_icmp .lt 6) (by decide +kernel) _ _ _).trans (zq_ic_lt rfl rfl)
theorem e4_9 (ls st : List Value) (w : zH) : zrun none (4, 9, ls, st, w) = zrun none (4, 11, ls, (.int (-1000003) :: st), w) := (zE_ (i := .bipush (-1000003)) (by decide +kernel) _ _ _).trans rfl
theorem e4_11 (ls : List Value) (x : Int32) (w : zH) : zrun none (4, 11, ls, [.int x], w) = some (some (.int x), w) := by
  refine (zE_ (i := .ireturn) (by decide +kernel) _ _ _).trans ?_
  show zres (if narrow .int (.int x) = .int x then _ else none) = _
  rw [if_pos (show narrow .int (.int x) = .int x from rfl)]
  rfl
theorem e4_12 (v1 : Value) (x : Nat) (st : List Value) (w : zH) : zrun none (4, 12, [.ref x, v1], st, w) = zrun none (4, 13, [.ref x, v1], (.ref x :: st), w) := (zE_ (i := .aload_n 0) (by decide +kernel) _ _ _).trans rfl
theorem e4_13 (ls : List Value) (a : Nat) (st : List Value) (w : zH) : zrun none (4, 13, ls, (.ref a :: st), w) = zo (zf w a 200) (fun x => zrun none (4, 16, ls, (x :: st), w)) := (zE_ (i := .getfield 200) (by decide +kernel) _ _ _).trans zq_getf
theorem e4_16 (v1 : Value) (x : Nat) (st : List Value) (w : zH) : zrun none (4, 16, [.ref x, v1], st, w) = zrun none (4, 17, [.ref x, v1], (.ref x :: st), w) := (zE_ (i := .aload_n 0) (by decide +kernel) _ _ _).trans rfl
theorem e4_17 (ls : List Value) (a : Nat) (st : List Value) (w : zH) : zrun none (4, 17, ls, (.ref a :: st), w) = zo (zf w a 202) (fun x => zrun none (4, 20, ls, (x :: st), w)) := (zE_ (i := .getfield 202) (by decide +kernel) _ _ _).trans zq_getf
theorem e4_20 (v0 : Value) (x : Nat) (st : List Value) (w : zH) : zrun none (4, 20, [v0, .ref x], st, w) = zrun none (4, 21, [v0, .ref x], (.ref x :: st), w) := (zE_ (i := .aload_n 1) (by decide +kernel) _ _ _).trans rfl
theorem e4_20n (v0 : Value) (st : List Value) (w : zH) : zrun none (4, 20, [v0, .null], st, w) = zrun none (4, 21, [v0, .null], (.null :: st), w) := (zE_ (i := .aload_n 1) (by decide +kernel) _ _ _).trans rfl
theorem e4_21 (ls : List Value) (v : Value) (j : Int32) (a : Nat) (st : List Value) (w : zH) : zrun none (4, 21, ls, (v :: .int j :: .ref a :: st), w) = zgd (zaq w a j v) (zrun none (4, 22, ls, st, zas w a j v)) := by
  refine (zE_ (i := .aastore) (by decide +kernel) _ _ _).trans ?_
  by_cases hg : zaq w a j v
  · rw [zgd_pos hg]
    obtain ⟨k, h1, h2⟩ := hg
    exact zq_aast h1 h2
  · rw [zgd_neg hg]
    exact zq_aast_no hg
theorem e4_22 (v1 : Value) (x : Nat) (st : List Value) (w : zH) : zrun none (4, 22, [.ref x, v1], st, w) = zrun none (4, 23, [.ref x, v1], (.ref x :: st), w) := (zE_ (i := .aload_n 0) (by decide +kernel) _ _ _).trans rfl
theorem e4_23 (ls : List Value) (x : Int32) (st : List Value) (w : zH) : zrun none (4, 23, ls, (.int x :: st), w) = zrun none (4, 24, ls, (.int x :: .int x :: st), w) := (zE_ (i := .dup) (by decide +kernel) _ _ _).trans rfl
theorem e4_23r (ls : List Value) (x : Nat) (st : List Value) (w : zH) : zrun none (4, 23, ls, (.ref x :: st), w) = zrun none (4, 24, ls, (.ref x :: .ref x :: st), w) := (zE_ (i := .dup) (by decide +kernel) _ _ _).trans rfl
theorem e4_24 (ls : List Value) (a : Nat) (st : List Value) (w : zH) : zrun none (4, 24, ls, (.ref a :: st), w) = zo (zf w a 202) (fun x => zrun none (4, 27, ls, (x :: st), w)) := (zE_ (i := .getfield 202) (by decide +kernel) _ _ _).trans zq_getf
theorem e4_27 (ls : List Value) (x : Int32) (a : Nat) (st : List Value) (w : zH) : zrun none (4, 27, ls, (.int x :: .ref a :: st), w) = zrun none (4, 28, ls, (.int x :: .ref a :: .int x :: st), w) := (zE_ (i := .dup_x1) (by decide +kernel) _ _ _).trans rfl
theorem e4_28 (ls st : List Value) (w : zH) : zrun none (4, 28, ls, st, w) = zrun none (4, 29, ls, (.int 1 :: st), w) := (zE_ (i := .iconst 1) (by decide +kernel) _ _ _).trans rfl
theorem e4_29 (ls : List Value) (a b : Int32) (st : List Value) (w : zH) : zrun none (4, 29, ls, (.int b :: .int a :: st), w) = zrun none (4, 30, ls, (.int (a + b) :: st), w) := (zE_ (i := .iadd) (by decide +kernel) _ _ _).trans rfl
theorem e4_30 (ls : List Value) (x : Int32) (a : Nat) (st : List Value) (w : zH) : zrun none (4, 30, ls, (.int x :: .ref a :: st), w) = zgd (a < zX ∧ (zf w a 202).isSome = true) (zrun none (4, 33, ls, st, zpf w a 202 (.int x))) := by
  refine (zE_ (i := .putfield 202) (by decide +kernel) _ _ _).trans ?_
  by_cases hg : a < zX ∧ (zf w a 202).isSome = true
  · rw [zgd_pos hg]
    obtain ⟨ha, h⟩ := hg
    exact zq_putf ha h rfl rfl
  · rw [zgd_neg hg]
    exact zq_putf_no (fun h1 h2 h3 => hg ⟨h1, h2⟩)
theorem e4_33 (ls : List Value) (x : Int32) (w : zH) : zrun none (4, 33, ls, [.int x], w) = some (some (.int x), w) := by
  refine (zE_ (i := .ireturn) (by decide +kernel) _ _ _).trans ?_
  show zres (if narrow .int (.int x) = .int x then _ else none) = _
  rw [if_pos (show narrow .int (.int x) = .int x from rfl)]
  rfl
theorem e5_0 (v0 v2 v3 : Value) (x : Int32) (st : List Value) (w : zH) : zrun none (5, 0, [v0, .int x, v2, v3], st, w) = zrun none (5, 1, [v0, .int x, v2, v3], (.int x :: st), w) := (zE_ (i := .iload_n 1) (by decide +kernel) _ _ _).trans rfl
theorem e5_1 (ls st : List Value) (w : zH) : zrun none (5, 1, ls, st, w) = zrun none (5, 2, ls, (.int 0 :: st), w) := (zE_ (i := .iconst 0) (by decide +kernel) _ _ _).trans rfl
theorem e5_2 (ls st : List Value) (w : zH) : zrun none (5, 2, ls, st, w) = zrun none (5, 4, ls, (.int 11 :: st), w) := (zE_ (i := .bipush 11) (by decide +kernel) _ _ _).trans rfl
theorem e5_4 (ls : List Value) (x0 : Int32) (x1 : Int32) (x2 : Int32) (st : List Value) (w : zH) (hr : zcat st ≤ 8) : zrun none (5, 4, ls, (.int x2 :: .int x1 :: .int x0 :: st), w) = zcl (zrun none (100, 0, [.int x0, .int x1, .int x2], [], w)) (fun r => zrun none (5, 7, ls, r.1.toList ++ st, r.2)) := by
  refine (zE_ (i := .invokestatic 100) (by decide +kernel) _ _ _).trans ?_
  show zres (if (99 : Nat) = 99 ∧ 3 ≤ ((.int x2 :: .int x1 :: .int x0 :: st) : List Value).length then zcall 100 [.int x0, .int x1, .int x2] st 5 4 ls w else none) = _
  rw [if_pos ⟨rfl, by simp⟩]
  exact zq_call hr (Nat.le_of_ble_eq_true rfl) rfl rfl
theorem e5_7 (ls : List Value) (a : Int32) (st : List Value) (w : zH) : zrun none (5, 7, ls, (.int a :: st), w) = if a = 0 then zrun none (5, 20, ls, st, w) else zrun none (5, 10, ls, st, w) := (zE_ (i := .ifCond .eq 13) (by decide +kernel) _ _ _).trans (zq_if_eq rfl rfl)
theorem e5_10 (v0 v1 v3 : Value) (x : Int32) (st : List Value) (w : zH) : zrun none (5, 10, [v0, v1, .int x, v3], st, w) = zrun none (5, 11, [v0, v1, .int x, v3], (.int x :: st), w) := (zE_ (i := .iload_n 2) (by decide +kernel) _ _ _).trans rfl
theorem e5_11 (ls st : List Value) (w : zH) : zrun none (5, 11, ls, st, w) = zrun none (5, 12, ls, (.int 1 :: st), w) := (zE_ (i := .iconst 1) (by decide +kernel) _ _ _).trans rfl
theorem e5_12 (ls st : List Value) (w : zH) : zrun none (5, 12, ls, st, w) = zrun none (5, 14, ls, (.int 9 :: st), w) := (zE_ (i := .bipush 9) (by decide +kernel) _ _ _).trans rfl
theorem e5_14 (ls : List Value) (x0 : Int32) (x1 : Int32) (x2 : Int32) (st : List Value) (w : zH) (hr : zcat st ≤ 8) : zrun none (5, 14, ls, (.int x2 :: .int x1 :: .int x0 :: st), w) = zcl (zrun none (100, 0, [.int x0, .int x1, .int x2], [], w)) (fun r => zrun none (5, 17, ls, r.1.toList ++ st, r.2)) := by
  refine (zE_ (i := .invokestatic 100) (by decide +kernel) _ _ _).trans ?_
  show zres (if (99 : Nat) = 99 ∧ 3 ≤ ((.int x2 :: .int x1 :: .int x0 :: st) : List Value).length then zcall 100 [.int x0, .int x1, .int x2] st 5 14 ls w else none) = _
  rw [if_pos ⟨rfl, by simp⟩]
  exact zq_call hr (Nat.le_of_ble_eq_true rfl) rfl rfl
theorem e5_17 (ls : List Value) (a : Int32) (st : List Value) (w : zH) : zrun none (5, 17, ls, (.int a :: st), w) = if a = 0 then zrun none (5, 20, ls, st, w) else zrun none (5, 23, ls, st, w) := (zE_ (i := .ifCond .ne 6) (by decide +kernel) _ _ _).trans (zq_if_ne rfl rfl)
theorem e5_20 (ls st : List Value) (w : zH) : zrun none (5, 20, ls, st, w) = zrun none (5, 22, ls, (.int (-1000001) :: st), w) := (zE_ (i := .bipush (-1000001)) (by decide +kernel) _ _ _).trans rfl
theorem e5_22 (ls : List Value) (x : Int32) (w : zH) : zrun none (5, 22, ls, [.int x], w) = some (some (.int x), w) := by
  refine (zE_ (i := .ireturn) (by decide +kernel) _ _ _).trans ?_
  show zres (if narrow .int (.int x) = .int x then _ else none) = _
  rw [if_pos (show narrow .int (.int x) = .int x from rfl)]
  rfl
theorem e5_23 (v1 v2 v3 : Value) (x : Nat) (st : List Value) (w : zH) : zrun none (5, 23, [.ref x, v1, v2, v3], st, w) = zrun none (5, 24, [.ref x, v1, v2, v3], (.ref x :: st), w) := (zE_ (i := .aload_n 0) (by decide +kernel) _ _ _).trans rfl
theorem e5_24 (ls : List Value) (a : Nat) (st : List Value) (w : zH) : zrun none (5, 24, ls, (.ref a :: st), w) = zo (zf w a 201) (fun x => zrun none (5, 27, ls, (x :: st), w)) := (zE_ (i := .getfield 201) (by decide +kernel) _ _ _).trans zq_getf
theorem e5_27 (v0 v2 v3 : Value) (x : Int32) (st : List Value) (w : zH) : zrun none (5, 27, [v0, .int x, v2, v3], st, w) = zrun none (5, 28, [v0, .int x, v2, v3], (.int x :: st), w) := (zE_ (i := .iload_n 1) (by decide +kernel) _ _ _).trans rfl
theorem e5_28 (ls : List Value) (j : Int32) (a : Nat) (st : List Value) (w : zH) : zrun none (5, 28, ls, (.int j :: .ref a :: st), w) = zoi (zai w a 100 j) (fun x => zrun none (5, 29, ls, (.int x :: st), w)) := (zE_ (i := .iaload) (by decide +kernel) _ _ _).trans zq_iald
theorem e5_29 (v0 v1 v2 v3 : Value) (x : Int32) (st : List Value) (w : zH) (h : v2.category = 1) : zrun none (5, 29, [v0, v1, v2, v3], (.int x :: st), w) = zrun none (5, 30, [v0, v1, v2, .int x], st, w) := by
  refine (zE_ (i := .istore_n 3) (by decide +kernel) _ _ _).trans ?_
  have hz : zfree [v0, v1, v2, v3] 3 = true := by show decide (v2.category = 1) = true; exact decide_eq_true h
  show zres (zst zint 3 1 5 29 [v0, v1, v2, v3] (.int x :: st) w) = _
  unfold zst
  dsimp only
  rw [if_pos ⟨rfl, Nat.le_of_ble_eq_true rfl, hz⟩]
  rfl
theorem e5_30 (v1 v2 v3 : Value) (x : Nat) (st : List Value) (w : zH) : zrun none (5, 30, [.ref x, v1, v2, v3], st, w) = zrun none (5, 31, [.ref x, v1, v2, v3], (.ref x :: st), w) := (zE_ (i := .aload_n 0) (by decide +kernel) _ _ _).trans rfl
theorem e5_31 (ls : List Value) (a : Nat) (st : List Value) (w : zH) : zrun none (5, 31, ls, (.ref a :: st), w) = zo (zf w a 201) (fun x => zrun none (5, 34, ls, (x :: st), w)) := (zE_ (i := .getfield 201) (by decide +kernel) _ _ _).trans zq_getf
theorem e5_34 (v0 v2 v3 : Value) (x : Int32) (st : List Value) (w : zH) : zrun none (5, 34, [v0, .int x, v2, v3], st, w) = zrun none (5, 35, [v0, .int x, v2, v3], (.int x :: st), w) := (zE_ (i := .iload_n 1) (by decide +kernel) _ _ _).trans rfl
theorem e5_35 (v0 v1 v3 : Value) (x : Int32) (st : List Value) (w : zH) : zrun none (5, 35, [v0, v1, .int x, v3], st, w) = zrun none (5, 36, [v0, v1, .int x, v3], (.int x :: st), w) := (zE_ (i := .iload_n 2) (by decide +kernel) _ _ _).trans rfl
theorem e5_36 (ls : List Value) (x j : Int32) (a : Nat) (st : List Value) (w : zH) : zrun none (5, 36, ls, (.int x :: .int j :: .ref a :: st), w) = zgd (zin? w a 100 j) (zrun none (5, 37, ls, st, zas w a j (.int x))) := by
  refine (zE_ (i := .iastore) (by decide +kernel) _ _ _).trans ?_
  by_cases hg : zin? w a 100 j
  · rw [zgd_pos hg]
    exact zq_iast hg
  · rw [zgd_neg hg]
    exact zq_iast_no hg
theorem e5_37 (v0 v1 v2 : Value) (x : Int32) (st : List Value) (w : zH) : zrun none (5, 37, [v0, v1, v2, .int x], st, w) = zrun none (5, 38, [v0, v1, v2, .int x], (.int x :: st), w) := (zE_ (i := .iload_n 3) (by decide +kernel) _ _ _).trans rfl
theorem e5_38 (ls : List Value) (x : Int32) (w : zH) : zrun none (5, 38, ls, [.int x], w) = some (some (.int x), w) := by
  refine (zE_ (i := .ireturn) (by decide +kernel) _ _ _).trans ?_
  show zres (if narrow .int (.int x) = .int x then _ else none) = _
  rw [if_pos (show narrow .int (.int x) = .int x from rfl)]
  rfl
theorem e6_0 (v0 : Value) (x : Int32) (st : List Value) (w : zH) : zrun none (6, 0, [v0, .int x], st, w) = zrun none (6, 1, [v0, .int x], (.int x :: st), w) := (zE_ (i := .iload_n 1) (by decide +kernel) _ _ _).trans rfl
theorem e6_1 (ls : List Value) (a : Int32) (st : List Value) (w : zH) : zrun none (6, 1, ls, (.int a :: st), w) = if a < 0 then zrun none (6, 27, ls, st, w) else zrun none (6, 4, ls, st, w) := (zE_ (i := .ifCond .lt 26) (by decide +kernel) _ _ _).trans (zq_if_lt rfl rfl)
theorem e6_4 (v0 : Value) (x : Int32) (st : List Value) (w : zH) : zrun none (6, 4, [v0, .int x], st, w) = zrun none (6, 5, [v0, .int x], (.int x :: st), w) := (zE_ (i := .iload_n 1) (by decide +kernel) _ _ _).trans rfl
theorem e6_5 (v1 : Value) (x : Nat) (st : List Value) (w : zH) : zrun none (6, 5, [.ref x, v1], st, w) = zrun none (6, 6, [.ref x, v1], (.ref x :: st), w) := (zE_ (i := .aload_n 0) (by decide +kernel) _ _ _).trans rfl
theorem e6_6 (ls : List Value) (a : Nat) (st : List Value) (w : zH) : zrun none (6, 6, ls, (.ref a :: st), w) = zo (zf w a 202) (fun x => zrun none (6, 9, ls, (x :: st), w)) := (zE_ (i := .getfield 202) (by decide +kernel) _ _ _).trans zq_getf
theorem e6_9 (ls : List Value) (a b : Int32) (st : List Value) (w : zH) : zrun none (6, 9, ls, (.int b :: .int a :: st), w) = if b ≤ a then zrun none (6, 27, ls, st, w) else zrun none (6, 12, ls, st, w) := (zE_ (i := .if_icmp .ge 18) (by decide +kernel) _ _ _).trans (zq_ic_ge rfl rfl)
theorem e6_12 (v0 : Value) (x : Int32) (st : List Value) (w : zH) : zrun none (6, 12, [v0, .int x], st, w) = zrun none (6, 13, [v0, .int x], (.int x :: st), w) := (zE_ (i := .iload_n 1) (by decide +kernel) _ _ _).trans rfl
theorem e6_13 (ls st : List Value) (w : zH) : zrun none (6, 13, ls, st, w) = zrun none (6, 15, ls, (.int 16 :: st), w) := (zE_ (i := .bipush 16) (by decide +kernel) _ _ _).trans rfl
theorem e6_15 (ls : List Value) (a b : Int32) (st : List Value) (w : zH) : zrun none (6, 15, ls, (.int b :: .int a :: st), w) = if b ≤ a then zrun none (6, 27, ls, st, w) else zrun none (6, 18, ls, st, w) := (zE_ (i := .if_icmp .ge 12) (by decide +kernel) _ _ _).trans (zq_ic_ge rfl rfl)
theorem e6_18 (v1 : Value) (x : Nat) (st : List Value) (w : zH) : zrun none (6, 18, [.ref x, v1], st, w) = zrun none (6, 19, [.ref x, v1], (.ref x :: st), w) := (zE_ (i := .aload_n 0) (by decide +kernel) _ _ _).trans rfl
theorem e6_19 (ls : List Value) (a : Nat) (st : List Value) (w : zH) : zrun none (6, 19, ls, (.ref a :: st), w) = zo (zf w a 200) (fun x => zrun none (6, 22, ls, (x :: st), w)) := (zE_ (i := .getfield 200) (by decide +kernel) _ _ _).trans zq_getf
theorem e6_22 (v0 : Value) (x : Int32) (st : List Value) (w : zH) : zrun none (6, 22, [v0, .int x], st, w) = zrun none (6, 23, [v0, .int x], (.int x :: st), w) := (zE_ (i := .iload_n 1) (by decide +kernel) _ _ _).trans rfl
theorem e6_23 (ls : List Value) (j : Int32) (a : Nat) (st : List Value) (w : zH) : zrun none (6, 23, ls, (.int j :: .ref a :: st), w) = zo (zaa w a j) (fun x => zrun none (6, 24, ls, (x :: st), w)) := (zE_ (i := .aaload) (by decide +kernel) _ _ _).trans zq_aald
theorem e6_24 (ls st : List Value) (w : zH) : zrun none (6, 24, ls, st, w) = zrun none (6, 28, ls, st, w) := (zE_ (i := .goto 4) (by decide +kernel) _ _ _).trans rfl
theorem e6_27 (ls st : List Value) (w : zH) : zrun none (6, 27, ls, st, w) = zrun none (6, 28, ls, (.null :: st), w) := (zE_ (i := .aconst_null) (by decide +kernel) _ _ _).trans rfl
theorem e6_28 (ls : List Value) (x : Nat) (w : zH) : zrun none (6, 28, ls, [.ref x], w) = some (some (.ref x), w) := (zE_ (i := .areturn) (by decide +kernel) _ _ _).trans rfl
theorem e6_28n (ls : List Value) (w : zH) : zrun none (6, 28, ls, [.null], w) = some (some (.null), w) := (zE_ (i := .areturn) (by decide +kernel) _ _ _).trans rfl
theorem e7_0 (ls st : List Value) (w : zH) : zrun none (7, 0, ls, st, w) = zrun none (7, 1, ls, (.int 0 :: st), w) := (zE_ (i := .iconst 0) (by decide +kernel) _ _ _).trans rfl
theorem e7_1 (v0 v1 v2 v3 v4 : Value) (x : Int32) (st : List Value) (w : zH) (h : v2.category = 1) : zrun none (7, 1, [v0, v1, v2, v3, v4], (.int x :: st), w) = zrun none (7, 2, [v0, v1, v2, .int x, v4], st, w) := by
  refine (zE_ (i := .istore_n 3) (by decide +kernel) _ _ _).trans ?_
  have hz : zfree [v0, v1, v2, v3, v4] 3 = true := by show decide (v2.category = 1) = true; exact decide_eq_true h
  show zres (zst zint 3 1 7 1 [v0, v1, v2, v3, v4] (.int x :: st) w) = _
  unfold zst
  dsimp only
  rw [if_pos ⟨rfl, Nat.le_of_ble_eq_true rfl, hz⟩]
  rfl
theorem e7_2 (v0 v1 v2 v4 : Value) (x : Int32) (st : List Value) (w : zH) : zrun none (7, 2, [v0, v1, v2, .int x, v4], st, w) = zrun none (7, 3, [v0, v1, v2, .int x, v4], (.int x :: st), w) := (zE_ (i := .iload_n 3) (by decide +kernel) _ _ _).trans rfl
theorem e7_3 (v1 v2 v3 v4 : Value) (x : Nat) (st : List Value) (w : zH) : zrun none (7, 3, [.ref x, v1, v2, v3, v4], st, w) = zrun none (7, 4, [.ref x, v1, v2, v3, v4], (.ref x :: st), w) := (zE_ (i := .aload_n 0) (by decide +kernel) _ _ _).trans rfl
theorem e7_4 (ls : List Value) (a : Nat) (st : List Value) (w : zH) : zrun none (7, 4, ls, (.ref a :: st), w) = zo (zf w a 202) (fun x => zrun none (7, 7, ls, (x :: st), w)) := (zE_ (i := .getfield 202) (by decide +kernel) _ _ _).trans zq_getf
theorem e7_7 (ls : List Value) (a b : Int32) (st : List Value) (w : zH) : zrun none (7, 7, ls, (.int b :: .int a :: st), w) = if b ≤ a then zrun none (7, 63, ls, st, w) else zrun none (7, 10, ls, st, w) := (zE_ (i := .if_icmp .ge 56) (by decide +kernel) _ _ _).trans (zq_ic_ge rfl rfl)
theorem e7_10 (v1 v2 v3 v4 : Value) (x : Nat) (st : List Value) (w : zH) : zrun none (7, 10, [.ref x, v1, v2, v3, v4], st, w) = zrun none (7, 11, [.ref x, v1, v2, v3, v4], (.ref x :: st), w) := (zE_ (i := .aload_n 0) (by decide +kernel) _ _ _).trans rfl
theorem e7_11 (v0 v1 v2 v4 : Value) (x : Int32) (st : List Value) (w : zH) : zrun none (7, 11, [v0, v1, v2, .int x, v4], st, w) = zrun none (7, 12, [v0, v1, v2, .int x, v4], (.int x :: st), w) := (zE_ (i := .iload_n 3) (by decide +kernel) _ _ _).trans rfl
theorem e7_12 (ls : List Value) (a : Nat) (x0 : Int32) (st : List Value) (w : zH) (hr : zcat st ≤ 8) : zrun none (7, 12, ls, (.int x0 :: .ref a :: st), w) = zgd (zis w a 2) (zcl (zrun none (6, 0, [.ref a, .int x0], [], w)) (fun r => zrun none (7, 15, ls, r.1.toList ++ st, r.2))) := by
  refine (zE_ (i := .invokevirtual 6) (by decide +kernel) _ _ _).trans ?_
  show zres (zinv none 6 7 12 ls (.int x0 :: .ref a :: st) w) = _
  unfold zinv
  show zres (if zrc none 6 w (.ref a) = true then zcall 6 [.ref a, .int x0] st 7 12 ls w else none) = _
  by_cases hc : zis w a 2
  · rw [if_pos (zrc_is hc (by decide +kernel)), zgd_pos hc]
    exact zq_call hr (Nat.le_of_ble_eq_true rfl) rfl rfl
  · rw [zgd_neg hc, if_neg (fun q => hc (zrc_of q (by decide +kernel)))]
    rfl
theorem e7_15 (v0 v1 v2 v3 v4 : Value) (x : Nat) (st : List Value) (w : zH) (h : v3.category = 1) : zrun none (7, 15, [v0, v1, v2, v3, v4], (.ref x :: st), w) = zrun none (7, 17, [v0, v1, v2, v3, .ref x], st, w) := by
  refine (zE_ (i := .astore 4) (by decide +kernel) _ _ _).trans ?_
  have hz : zfree [v0, v1, v2, v3, v4] 4 = true := by show decide (v3.category = 1) = true; exact decide_eq_true h
  show zres (zst zref 4 2 7 15 [v0, v1, v2, v3, v4] (.ref x :: st) w) = _
  unfold zst
  dsimp only
  rw [if_pos ⟨rfl, Nat.le_of_ble_eq_true rfl, hz⟩]
  rfl
theorem e7_15n (v0 v1 v2 v3 v4 : Value) (st : List Value) (w : zH) (h : v3.category = 1) : zrun none (7, 15, [v0, v1, v2, v3, v4], (.null :: st), w) = zrun none (7, 17, [v0, v1, v2, v3, .null], st, w) := by
  refine (zE_ (i := .astore 4) (by decide +kernel) _ _ _).trans ?_
  have hz : zfree [v0, v1, v2, v3, v4] 4 = true := by show decide (v3.category = 1) = true; exact decide_eq_true h
  show zres (zst zref 4 2 7 15 [v0, v1, v2, v3, v4] (.null :: st) w) = _
  unfold zst
  dsimp only
  rw [if_pos ⟨rfl, Nat.le_of_ble_eq_true rfl, hz⟩]
  rfl
theorem e7_17 (v0 v1 v2 v3 : Value) (x : Nat) (st : List Value) (w : zH) : zrun none (7, 17, [v0, v1, v2, v3, .ref x], st, w) = zrun none (7, 19, [v0, v1, v2, v3, .ref x], (.ref x :: st), w) := (zE_ (i := .aload 4) (by decide +kernel) _ _ _).trans rfl
theorem e7_17n (v0 v1 v2 v3 : Value) (st : List Value) (w : zH) : zrun none (7, 17, [v0, v1, v2, v3, .null], st, w) = zrun none (7, 19, [v0, v1, v2, v3, .null], (.null :: st), w) := (zE_ (i := .aload 4) (by decide +kernel) _ _ _).trans rfl
theorem e7_19n (ls st : List Value) (w : zH) : zrun none (7, 19, ls, (.null :: st), w) = zrun none (7, 57, ls, st, w) := (zE_ (i := .ifnull 38) (by decide +kernel) _ _ _).trans rfl
theorem e7_19 (ls : List Value) (a : Nat) (st : List Value) (w : zH) (h : a < zX) : zrun none (7, 19, ls, (.ref a :: st), w) = zrun none (7, 22, ls, st, w) := by
  refine (zE_ (i := .ifnull 38) (by decide +kernel) _ _ _).trans ?_
  simp only [zI, if_pos h]
  rfl
theorem e7_22 (v0 v1 v2 v3 : Value) (x : Nat) (st : List Value) (w : zH) : zrun none (7, 22, [v0, v1, v2, v3, .ref x], st, w) = zrun none (7, 24, [v0, v1, v2, v3, .ref x], (.ref x :: st), w) := (zE_ (i := .aload 4) (by decide +kernel) _ _ _).trans rfl
theorem e7_22n (v0 v1 v2 v3 : Value) (st : List Value) (w : zH) : zrun none (7, 22, [v0, v1, v2, v3, .null], st, w) = zrun none (7, 24, [v0, v1, v2, v3, .null], (.null :: st), w) := (zE_ (i := .aload 4) (by decide +kernel) _ _ _).trans rfl
theorem e7_24 (v0 v1 v2 v3 : Value) (x : Nat) (st : List Value) (w : zH) : zrun none (7, 24, [v0, v1, v2, v3, .ref x], st, w) = zrun none (7, 26, [v0, v1, v2, v3, .ref x], (.ref x :: st), w) := (zE_ (i := .aload 4) (by decide +kernel) _ _ _).trans rfl
theorem e7_24n (v0 v1 v2 v3 : Value) (st : List Value) (w : zH) : zrun none (7, 24, [v0, v1, v2, v3, .null], st, w) = zrun none (7, 26, [v0, v1, v2, v3, .null], (.null :: st), w) := (zE_ (i := .aload 4) (by decide +kernel) _ _ _).trans rfl
theorem e7_26 (ls : List Value) (a : Nat) (st : List Value) (w : zH) : zrun none (7, 26, ls, (.ref a :: st), w) = zo (zf w a 102) (fun x => zrun none (7, 29, ls, (x :: st), w)) := (zE_ (i := .getfield 102) (by decide +kernel) _ _ _).trans zq_getf
theorem e7_29 (v0 v1 v3 v4 : Value) (x : Int32) (st : List Value) (w : zH) : zrun none (7, 29, [v0, v1, .int x, v3, v4], st, w) = zrun none (7, 30, [v0, v1, .int x, v3, v4], (.int x :: st), w) := (zE_ (i := .iload_n 2) (by decide +kernel) _ _ _).trans rfl
theorem e7_30 (ls : List Value) (a b : Int32) (st : List Value) (w : zH) : zrun none (7, 30, ls, (.int b :: .int a :: st), w) = if b < a then zrun none (7, 37, ls, st, w) else zrun none (7, 33, ls, st, w) := (zE_ (i := .if_icmp .gt 7) (by decide +kernel) _ _ _).trans (zq_ic_gt rfl rfl)
theorem e7_33 (ls st : List Value) (w : zH) : zrun none (7, 33, ls, st, w) = zrun none (7, 34, ls, (.int 1 :: st), w) := (zE_ (i := .iconst 1) (by decide +kernel) _ _ _).trans rfl
theorem e7_34 (ls st : List Value) (w : zH) : zrun none (7, 34, ls, st, w) = zrun none (7, 38, ls, st, w) := (zE_ (i := .goto 4) (by decide +kernel) _ _ _).trans rfl
theorem e7_37 (ls st : List Value) (w : zH) : zrun none (7, 37, ls, st, w) = zrun none (7, 38, ls, (.int 0 :: st), w) := (zE_ (i := .iconst 0) (by decide +kernel) _ _ _).trans rfl
theorem e7_38 (ls : List Value) (x : Int32) (a : Nat) (st : List Value) (w : zH) : zrun none (7, 38, ls, (.int x :: .ref a :: st), w) = zgd (a < zX ∧ (zf w a 103).isSome = true ∧ (x = 0 ∨ x = 1)) (zrun none (7, 41, ls, st, zpf w a 103 (.int x))) := by
  refine (zE_ (i := .putfield 103) (by decide +kernel) _ _ _).trans ?_
  by_cases hg : a < zX ∧ (zf w a 103).isSome = true ∧ (x = 0 ∨ x = 1)
  · rw [zgd_pos hg]
    obtain ⟨ha, h, hb⟩ := hg
    exact zq_putf ha h (by rcases hb with rfl | rfl <;> rfl) (by rcases hb with rfl | rfl <;> rfl)
  · rw [zgd_neg hg]
    exact zq_putf_no (fun h1 h2 h3 => hg ⟨h1, h2, zbit h3⟩)
theorem e7_41 (v0 v1 v2 v3 : Value) (x : Nat) (st : List Value) (w : zH) : zrun none (7, 41, [v0, v1, v2, v3, .ref x], st, w) = zrun none (7, 43, [v0, v1, v2, v3, .ref x], (.ref x :: st), w) := (zE_ (i := .aload 4) (by decide +kernel) _ _ _).trans rfl
theorem e7_41n (v0 v1 v2 v3 : Value) (st : List Value) (w : zH) : zrun none (7, 41, [v0, v1, v2, v3, .null], st, w) = zrun none (7, 43, [v0, v1, v2, v3, .null], (.null :: st), w) := (zE_ (i := .aload 4) (by decide +kernel) _ _ _).trans rfl
theorem e7_43 (v1 v2 v3 v4 : Value) (x : Nat) (st : List Value) (w : zH) : zrun none (7, 43, [.ref x, v1, v2, v3, v4], st, w) = zrun none (7, 44, [.ref x, v1, v2, v3, v4], (.ref x :: st), w) := (zE_ (i := .aload_n 0) (by decide +kernel) _ _ _).trans rfl
theorem e7_44 (v0 v1 v2 v3 : Value) (x : Nat) (st : List Value) (w : zH) : zrun none (7, 44, [v0, v1, v2, v3, .ref x], st, w) = zrun none (7, 46, [v0, v1, v2, v3, .ref x], (.ref x :: st), w) := (zE_ (i := .aload 4) (by decide +kernel) _ _ _).trans rfl
theorem e7_44n (v0 v1 v2 v3 : Value) (st : List Value) (w : zH) : zrun none (7, 44, [v0, v1, v2, v3, .null], st, w) = zrun none (7, 46, [v0, v1, v2, v3, .null], (.null :: st), w) := (zE_ (i := .aload 4) (by decide +kernel) _ _ _).trans rfl
theorem e7_46 (ls : List Value) (a : Nat) (st : List Value) (w : zH) : zrun none (7, 46, ls, (.ref a :: st), w) = zo (zf w a 100) (fun x => zrun none (7, 49, ls, (x :: st), w)) := (zE_ (i := .getfield 100) (by decide +kernel) _ _ _).trans zq_getf
theorem e7_49 (v0 v2 v3 v4 : Value) (x : Int32) (st : List Value) (w : zH) : zrun none (7, 49, [v0, .int x, v2, v3, v4], st, w) = zrun none (7, 50, [v0, .int x, v2, v3, v4], (.int x :: st), w) := (zE_ (i := .iload_n 1) (by decide +kernel) _ _ _).trans rfl
theorem e7_50 (ls : List Value) (a b : Int32) (st : List Value) (w : zH) : zrun none (7, 50, ls, (.int b :: .int a :: st), w) = zrun none (7, 51, ls, (.int (a ^^^ b) :: st), w) := (zE_ (i := .ixor) (by decide +kernel) _ _ _).trans rfl
theorem e7_51 (ls : List Value) (a : Nat) (x0 : Int32) (st : List Value) (w : zH) (hr : zcat st ≤ 8) : zrun none (7, 51, ls, (.int x0 :: .ref a :: st), w) = zgd (zis w a 2) (zcl (zrun none (8, 0, [.ref a, .int x0, zJ, zJ], [], w)) (fun r => zrun none (7, 54, ls, r.1.toList ++ st, r.2))) := by
  refine (zE_ (i := .invokevirtual 8) (by decide +kernel) _ _ _).trans ?_
  show zres (zinv none 8 7 51 ls (.int x0 :: .ref a :: st) w) = _
  unfold zinv
  show zres (if zrc none 8 w (.ref a) = true then zcall 8 [.ref a, .int x0] st 7 51 ls w else none) = _
  by_cases hc : zis w a 2
  · rw [if_pos (zrc_is hc (by decide +kernel)), zgd_pos hc]
    exact zq_call hr (Nat.le_of_ble_eq_true rfl) rfl rfl
  · rw [zgd_neg hc, if_neg (fun q => hc (zrc_of q (by decide +kernel)))]
    rfl
theorem e7_54 (ls : List Value) (x : Int32) (a : Nat) (st : List Value) (w : zH) : zrun none (7, 54, ls, (.int x :: .ref a :: st), w) = zgd (a < zX ∧ (zf w a 104).isSome = true) (zrun none (7, 57, ls, st, zpf w a 104 (.int x))) := by
  refine (zE_ (i := .putfield 104) (by decide +kernel) _ _ _).trans ?_
  by_cases hg : a < zX ∧ (zf w a 104).isSome = true
  · rw [zgd_pos hg]
    obtain ⟨ha, h⟩ := hg
    exact zq_putf ha h rfl rfl
  · rw [zgd_neg hg]
    exact zq_putf_no (fun h1 h2 h3 => hg ⟨h1, h2⟩)
theorem e7_57 (v0 v1 v2 v4 : Value) (x : Int32) (st : List Value) (w : zH) : zrun none (7, 57, [v0, v1, v2, .int x, v4], st, w) = zrun none (7, 60, [v0, v1, v2, .int (x + 1), v4], st, w) := (zE_ (i := .iinc 3 1) (by decide +kernel) _ _ _).trans rfl
theorem e7_60 (ls st : List Value) (w : zH) : zrun none (7, 60, ls, st, w) = zrun none (7, 2, ls, st, w) := (zE_ (i := .goto (-58)) (by decide +kernel) _ _ _).trans rfl
theorem e7_63 (ls : List Value) (w : zH) : zrun none (7, 63, ls, [], w) = some (none, w) := (zE_ (i := .return_) (by decide +kernel) _ _ _).trans rfl
theorem e8_0 (ls st : List Value) (w : zH) : zrun none (8, 0, ls, st, w) = zrun none (8, 1, ls, (.int 0 :: st), w) := (zE_ (i := .iconst 0) (by decide +kernel) _ _ _).trans rfl
theorem e8_1 (v0 v1 v2 v3 : Value) (x : Int32) (st : List Value) (w : zH) (h : v1.category = 1) : zrun none (8, 1, [v0, v1, v2, v3], (.int x :: st), w) = zrun none (8, 2, [v0, v1, .int x, v3], st, w) := by
  refine (zE_ (i := .istore_n 2) (by decide +kernel) _ _ _).trans ?_
  have hz : zfree [v0, v1, v2, v3] 2 = true := by show decide (v1.category = 1) = true; exact decide_eq_true h
  show zres (zst zint 2 1 8 1 [v0, v1, v2, v3] (.int x :: st) w) = _
  unfold zst
  dsimp only
  rw [if_pos ⟨rfl, Nat.le_of_ble_eq_true rfl, hz⟩]
  rfl
theorem e8_2 (ls st : List Value) (w : zH) : zrun none (8, 2, ls, st, w) = zrun none (8, 3, ls, (.int 0 :: st), w) := (zE_ (i := .iconst 0) (by decide +kernel) _ _ _).trans rfl
theorem e8_3 (v0 v1 v2 v3 : Value) (x : Int32) (st : List Value) (w : zH) (h : v2.category = 1) : zrun none (8, 3, [v0, v1, v2, v3], (.int x :: st), w) = zrun none (8, 4, [v0, v1, v2, .int x], st, w) := by
  refine (zE_ (i := .istore_n 3) (by decide +kernel) _ _ _).trans ?_
  have hz : zfree [v0, v1, v2, v3] 3 = true := by show decide (v2.category = 1) = true; exact decide_eq_true h
  show zres (zst zint 3 1 8 3 [v0, v1, v2, v3] (.int x :: st) w) = _
  unfold zst
  dsimp only
  rw [if_pos ⟨rfl, Nat.le_of_ble_eq_true rfl, hz⟩]
  rfl
theorem e8_4 (v0 v1 v2 : Value) (x : Int32) (st : List Value) (w : zH) : zrun none (8, 4, [v0, v1, v2, .int x], st, w) = zrun none (8, 5, [v0, v1, v2, .int x], (.int x :: st), w) := (zE_ (i := .iload_n 3) (by decide +kernel) _ _ _).trans rfl
theorem e8_5 (ls st : List Value) (w : zH) : zrun none (8, 5, ls, st, w) = zrun none (8, 7, ls, (.int 12 :: st), w) := (zE_ (i := .bipush 12) (by decide +kernel) _ _ _).trans rfl
theorem e8_7 (ls : List Value) (a b : Int32) (st : List Value) (w : zH) : zrun none (8, 7, ls, (.int b :: .int a :: st), w) = if b ≤ a then zrun none (8, 33, ls, st, w) else zrun none (8, 10, ls, st, w) := (zE_ (i := .if_icmp .ge 26) (by decide +kernel) _ _ _).trans (zq_ic_ge rfl rfl)
theorem e8_10 (v0 v2 v3 : Value) (x : Int32) (st : List Value) (w : zH) : zrun none (8, 10, [v0, .int x, v2, v3], st, w) = zrun none (8, 11, [v0, .int x, v2, v3], (.int x :: st), w) := (zE_ (i := .iload_n 1) (by decide +kernel) _ _ _).trans rfl
theorem e8_11 (v0 v1 v2 : Value) (x : Int32) (st : List Value) (w : zH) : zrun none (8, 11, [v0, v1, v2, .int x], st, w) = zrun none (8, 12, [v0, v1, v2, .int x], (.int x :: st), w) := (zE_ (i := .iload_n 3) (by decide +kernel) _ _ _).trans rfl
theorem e8_12 (ls : List Value) (x0 : Int32) (x1 : Int32) (st : List Value) (w : zH) (hr : zcat st ≤ 8) : zrun none (8, 12, ls, (.int x1 :: .int x0 :: st), w) = zcl (zrun none (107, 0, [.int x0, .int x1], [], w)) (fun r => zrun none (8, 15, ls, r.1.toList ++ st, r.2)) := by
  refine (zE_ (i := .invokestatic 107) (by decide +kernel) _ _ _).trans ?_
  show zres (if (99 : Nat) = 99 ∧ 2 ≤ ((.int x1 :: .int x0 :: st) : List Value).length then zcall 107 [.int x0, .int x1] st 8 12 ls w else none) = _
  rw [if_pos ⟨rfl, by simp⟩]
  exact zq_call hr (Nat.le_of_ble_eq_true rfl) rfl rfl
theorem e8_15 (ls : List Value) (a : Int32) (st : List Value) (w : zH) : zrun none (8, 15, ls, (.int a :: st), w) = if a = 0 then zrun none (8, 27, ls, st, w) else zrun none (8, 18, ls, st, w) := (zE_ (i := .ifCond .eq 12) (by decide +kernel) _ _ _).trans (zq_if_eq rfl rfl)
theorem e8_18 (v0 v1 v3 : Value) (x : Int32) (st : List Value) (w : zH) : zrun none (8, 18, [v0, v1, .int x, v3], st, w) = zrun none (8, 19, [v0, v1, .int x, v3], (.int x :: st), w) := (zE_ (i := .iload_n 2) (by decide +kernel) _ _ _).trans rfl
theorem e8_19 (v1 v2 v3 : Value) (x : Nat) (st : List Value) (w : zH) : zrun none (8, 19, [.ref x, v1, v2, v3], st, w) = zrun none (8, 20, [.ref x, v1, v2, v3], (.ref x :: st), w) := (zE_ (i := .aload_n 0) (by decide +kernel) _ _ _).trans rfl
theorem e8_20 (ls : List Value) (a : Nat) (st : List Value) (w : zH) : zrun none (8, 20, ls, (.ref a :: st), w) = zo (zf w a 201) (fun x => zrun none (8, 23, ls, (x :: st), w)) := (zE_ (i := .getfield 201) (by decide +kernel) _ _ _).trans zq_getf
theorem e8_23 (v0 v1 v2 : Value) (x : Int32) (st : List Value) (w : zH) : zrun none (8, 23, [v0, v1, v2, .int x], st, w) = zrun none (8, 24, [v0, v1, v2, .int x], (.int x :: st), w) := (zE_ (i := .iload_n 3) (by decide +kernel) _ _ _).trans rfl
theorem e8_24 (ls : List Value) (j : Int32) (a : Nat) (st : List Value) (w : zH) : zrun none (8, 24, ls, (.int j :: .ref a :: st), w) = zoi (zai w a 100 j) (fun x => zrun none (8, 25, ls, (.int x :: st), w)) := (zE_ (i := .iaload) (by decide +kernel) _ _ _).trans zq_iald
theorem e8_25 (ls : List Value) (a b : Int32) (st : List Value) (w : zH) : zrun none (8, 25, ls, (.int b :: .int a :: st), w) = zrun none (8, 26, ls, (.int (a + b) :: st), w) := (zE_ (i := .iadd) (by decide +kernel) _ _ _).trans rfl
theorem e8_26 (v0 v1 v2 v3 : Value) (x : Int32) (st : List Value) (w : zH) (h : v1.category = 1) : zrun none (8, 26, [v0, v1, v2, v3], (.int x :: st), w) = zrun none (8, 27, [v0, v1, .int x, v3], st, w) := by
  refine (zE_ (i := .istore_n 2) (by decide +kernel) _ _ _).trans ?_
  have hz : zfree [v0, v1, v2, v3] 2 = true := by show decide (v1.category = 1) = true; exact decide_eq_true h
  show zres (zst zint 2 1 8 26 [v0, v1, v2, v3] (.int x :: st) w) = _
  unfold zst
  dsimp only
  rw [if_pos ⟨rfl, Nat.le_of_ble_eq_true rfl, hz⟩]
  rfl
theorem e8_27 (v0 v1 v2 : Value) (x : Int32) (st : List Value) (w : zH) : zrun none (8, 27, [v0, v1, v2, .int x], st, w) = zrun none (8, 30, [v0, v1, v2, .int (x + 1)], st, w) := (zE_ (i := .iinc 3 1) (by decide +kernel) _ _ _).trans rfl
theorem e8_30 (ls st : List Value) (w : zH) : zrun none (8, 30, ls, st, w) = zrun none (8, 4, ls, st, w) := (zE_ (i := .goto (-26)) (by decide +kernel) _ _ _).trans rfl
theorem e8_33 (v0 v1 v3 : Value) (x : Int32) (st : List Value) (w : zH) : zrun none (8, 33, [v0, v1, .int x, v3], st, w) = zrun none (8, 34, [v0, v1, .int x, v3], (.int x :: st), w) := (zE_ (i := .iload_n 2) (by decide +kernel) _ _ _).trans rfl
theorem e8_34 (ls : List Value) (x : Int32) (w : zH) : zrun none (8, 34, ls, [.int x], w) = some (some (.int x), w) := by
  refine (zE_ (i := .ireturn) (by decide +kernel) _ _ _).trans ?_
  show zres (if narrow .int (.int x) = .int x then _ else none) = _
  rw [if_pos (show narrow .int (.int x) = .int x from rfl)]
  rfl
theorem e9_0 (ls st : List Value) (w : zH) : zrun none (9, 0, ls, st, w) = zrun none (9, 1, ls, (.int 0 :: st), w) := (zE_ (i := .iconst 0) (by decide +kernel) _ _ _).trans rfl
theorem e9_1 (v0 v1 v2 v3 : Value) (x : Int32) (st : List Value) (w : zH) (h : v1.category = 1) : zrun none (9, 1, [v0, v1, v2, v3], (.int x :: st), w) = zrun none (9, 2, [v0, v1, .int x, v3], st, w) := by
  refine (zE_ (i := .istore_n 2) (by decide +kernel) _ _ _).trans ?_
  have hz : zfree [v0, v1, v2, v3] 2 = true := by show decide (v1.category = 1) = true; exact decide_eq_true h
  show zres (zst zint 2 1 9 1 [v0, v1, v2, v3] (.int x :: st) w) = _
  unfold zst
  dsimp only
  rw [if_pos ⟨rfl, Nat.le_of_ble_eq_true rfl, hz⟩]
  rfl
theorem e9_2 (v0 v1 v3 : Value) (x : Int32) (st : List Value) (w : zH) : zrun none (9, 2, [v0, v1, .int x, v3], st, w) = zrun none (9, 3, [v0, v1, .int x, v3], (.int x :: st), w) := (zE_ (i := .iload_n 2) (by decide +kernel) _ _ _).trans rfl
theorem e9_3 (v1 v2 v3 : Value) (x : Nat) (st : List Value) (w : zH) : zrun none (9, 3, [.ref x, v1, v2, v3], st, w) = zrun none (9, 4, [.ref x, v1, v2, v3], (.ref x :: st), w) := (zE_ (i := .aload_n 0) (by decide +kernel) _ _ _).trans rfl
theorem e9_4 (ls : List Value) (a : Nat) (st : List Value) (w : zH) : zrun none (9, 4, ls, (.ref a :: st), w) = zo (zf w a 202) (fun x => zrun none (9, 7, ls, (x :: st), w)) := (zE_ (i := .getfield 202) (by decide +kernel) _ _ _).trans zq_getf
theorem e9_7 (ls : List Value) (a b : Int32) (st : List Value) (w : zH) : zrun none (9, 7, ls, (.int b :: .int a :: st), w) = if b ≤ a then zrun none (9, 45, ls, st, w) else zrun none (9, 10, ls, st, w) := (zE_ (i := .if_icmp .ge 38) (by decide +kernel) _ _ _).trans (zq_ic_ge rfl rfl)
theorem e9_10 (v1 v2 v3 : Value) (x : Nat) (st : List Value) (w : zH) : zrun none (9, 10, [.ref x, v1, v2, v3], st, w) = zrun none (9, 11, [.ref x, v1, v2, v3], (.ref x :: st), w) := (zE_ (i := .aload_n 0) (by decide +kernel) _ _ _).trans rfl
theorem e9_11 (v0 v1 v3 : Value) (x : Int32) (st : List Value) (w : zH) : zrun none (9, 11, [v0, v1, .int x, v3], st, w) = zrun none (9, 12, [v0, v1, .int x, v3], (.int x :: st), w) := (zE_ (i := .iload_n 2) (by decide +kernel) _ _ _).trans rfl
theorem e9_12 (ls : List Value) (a : Nat) (x0 : Int32) (st : List Value) (w : zH) (hr : zcat st ≤ 8) : zrun none (9, 12, ls, (.int x0 :: .ref a :: st), w) = zgd (zis w a 2) (zcl (zrun none (6, 0, [.ref a, .int x0], [], w)) (fun r => zrun none (9, 15, ls, r.1.toList ++ st, r.2))) := by
  refine (zE_ (i := .invokevirtual 6) (by decide +kernel) _ _ _).trans ?_
  show zres (zinv none 6 9 12 ls (.int x0 :: .ref a :: st) w) = _
  unfold zinv
  show zres (if zrc none 6 w (.ref a) = true then zcall 6 [.ref a, .int x0] st 9 12 ls w else none) = _
  by_cases hc : zis w a 2
  · rw [if_pos (zrc_is hc (by decide +kernel)), zgd_pos hc]
    exact zq_call hr (Nat.le_of_ble_eq_true rfl) rfl rfl
  · rw [zgd_neg hc, if_neg (fun q => hc (zrc_of q (by decide +kernel)))]
    rfl
theorem e9_15 (v0 v1 v2 v3 : Value) (x : Nat) (st : List Value) (w : zH) (h : v2.category = 1) : zrun none (9, 15, [v0, v1, v2, v3], (.ref x :: st), w) = zrun none (9, 16, [v0, v1, v2, .ref x], st, w) := by
  refine (zE_ (i := .astore_n 3) (by decide +kernel) _ _ _).trans ?_
  have hz : zfree [v0, v1, v2, v3] 3 = true := by show decide (v2.category = 1) = true; exact decide_eq_true h
  show zres (zst zref 3 1 9 15 [v0, v1, v2, v3] (.ref x :: st) w) = _
  unfold zst
  dsimp only
  rw [if_pos ⟨rfl, Nat.le_of_ble_eq_true rfl, hz⟩]
  rfl
theorem e9_15n (v0 v1 v2 v3 : Value) (st : List Value) (w : zH) (h : v2.category = 1) : zrun none (9, 15, [v0, v1, v2, v3], (.null :: st), w) = zrun none (9, 16, [v0, v1, v2, .null], st, w) := by
  refine (zE_ (i := .astore_n 3) (by decide +kernel) _ _ _).trans ?_
  have hz : zfree [v0, v1, v2, v3] 3 = true := by show decide (v2.category = 1) = true; exact decide_eq_true h
  show zres (zst zref 3 1 9 15 [v0, v1, v2, v3] (.null :: st) w) = _
  unfold zst
  dsimp only
  rw [if_pos ⟨rfl, Nat.le_of_ble_eq_true rfl, hz⟩]
  rfl
theorem e9_16 (v0 v1 v2 : Value) (x : Nat) (st : List Value) (w : zH) : zrun none (9, 16, [v0, v1, v2, .ref x], st, w) = zrun none (9, 17, [v0, v1, v2, .ref x], (.ref x :: st), w) := (zE_ (i := .aload_n 3) (by decide +kernel) _ _ _).trans rfl
theorem e9_16n (v0 v1 v2 : Value) (st : List Value) (w : zH) : zrun none (9, 16, [v0, v1, v2, .null], st, w) = zrun none (9, 17, [v0, v1, v2, .null], (.null :: st), w) := (zE_ (i := .aload_n 3) (by decide +kernel) _ _ _).trans rfl
theorem e9_17n (ls st : List Value) (w : zH) : zrun none (9, 17, ls, (.null :: st), w) = zrun none (9, 39, ls, st, w) := (zE_ (i := .ifnull 22) (by decide +kernel) _ _ _).trans rfl
theorem e9_17 (ls : List Value) (a : Nat) (st : List Value) (w : zH) (h : a < zX) : zrun none (9, 17, ls, (.ref a :: st), w) = zrun none (9, 20, ls, st, w) := by
  refine (zE_ (i := .ifnull 22) (by decide +kernel) _ _ _).trans ?_
  simp only [zI, if_pos h]
  rfl
theorem e9_20 (v0 v1 v2 : Value) (x : Nat) (st : List Value) (w : zH) : zrun none (9, 20, [v0, v1, v2, .ref x], st, w) = zrun none (9, 21, [v0, v1, v2, .ref x], (.ref x :: st), w) := (zE_ (i := .aload_n 3) (by decide +kernel) _ _ _).trans rfl
theorem e9_20n (v0 v1 v2 : Value) (st : List Value) (w : zH) : zrun none (9, 20, [v0, v1, v2, .null], st, w) = zrun none (9, 21, [v0, v1, v2, .null], (.null :: st), w) := (zE_ (i := .aload_n 3) (by decide +kernel) _ _ _).trans rfl
theorem e9_21 (ls : List Value) (a : Nat) (st : List Value) (w : zH) : zrun none (9, 21, ls, (.ref a :: st), w) = zo (zf w a 103) (fun x => zrun none (9, 24, ls, (x :: st), w)) := (zE_ (i := .getfield 103) (by decide +kernel) _ _ _).trans zq_getf
theorem e9_24 (ls : List Value) (a : Int32) (st : List Value) (w : zH) : zrun none (9, 24, ls, (.int a :: st), w) = if a = 0 then zrun none (9, 39, ls, st, w) else zrun none (9, 27, ls, st, w) := (zE_ (i := .ifCond .eq 15) (by decide +kernel) _ _ _).trans (zq_if_eq rfl rfl)
theorem e9_27 (v1 v2 v3 : Value) (x : Nat) (st : List Value) (w : zH) : zrun none (9, 27, [.ref x, v1, v2, v3], st, w) = zrun none (9, 28, [.ref x, v1, v2, v3], (.ref x :: st), w) := (zE_ (i := .aload_n 0) (by decide +kernel) _ _ _).trans rfl
theorem e9_28 (v0 v1 v3 : Value) (x : Int32) (st : List Value) (w : zH) : zrun none (9, 28, [v0, v1, .int x, v3], st, w) = zrun none (9, 29, [v0, v1, .int x, v3], (.int x :: st), w) := (zE_ (i := .iload_n 2) (by decide +kernel) _ _ _).trans rfl
theorem e9_29 (v0 v1 v2 : Value) (x : Nat) (st : List Value) (w : zH) : zrun none (9, 29, [v0, v1, v2, .ref x], st, w) = zrun none (9, 30, [v0, v1, v2, .ref x], (.ref x :: st), w) := (zE_ (i := .aload_n 3) (by decide +kernel) _ _ _).trans rfl
theorem e9_29n (v0 v1 v2 : Value) (st : List Value) (w : zH) : zrun none (9, 29, [v0, v1, v2, .null], st, w) = zrun none (9, 30, [v0, v1, v2, .null], (.null :: st), w) := (zE_ (i := .aload_n 3) (by decide +kernel) _ _ _).trans rfl
theorem e9_30 (ls : List Value) (a : Nat) (x0 : Int32) (x1 : Nat) (st : List Value) (w : zH) (hr : zcat st ≤ 8) : zrun none (9, 30, ls, (.ref x1 :: .int x0 :: .ref a :: st), w) = zgd (zis w a 2) (zcl (zrun none (10, 0, [.ref a, .int x0, .ref x1, zJ, zJ, zJ], [], w)) (fun r => zrun none (9, 33, ls, r.1.toList ++ st, r.2))) := by
  refine (zE_ (i := .invokevirtual 10) (by decide +kernel) _ _ _).trans ?_
  show zres (zinv none 10 9 30 ls (.ref x1 :: .int x0 :: .ref a :: st) w) = _
  unfold zinv
  show zres (if zrc none 10 w (.ref a) = true then zcall 10 [.ref a, .int x0, .ref x1] st 9 30 ls w else none) = _
  by_cases hc : zis w a 2
  · rw [if_pos (zrc_is hc (by decide +kernel)), zgd_pos hc]
    exact zq_call hr (Nat.le_of_ble_eq_true rfl) rfl rfl
  · rw [zgd_neg hc, if_neg (fun q => hc (zrc_of q (by decide +kernel)))]
    rfl
theorem e9_33 (v0 v2 v3 : Value) (x : Int32) (st : List Value) (w : zH) : zrun none (9, 33, [v0, .int x, v2, v3], st, w) = zrun none (9, 34, [v0, .int x, v2, v3], (.int x :: st), w) := (zE_ (i := .iload_n 1) (by decide +kernel) _ _ _).trans rfl
theorem e9_34 (ls : List Value) (a b : Int32) (st : List Value) (w : zH) : zrun none (9, 34, ls, (.int b :: .int a :: st), w) = if a = b then zrun none (9, 37, ls, st, w) else zrun none (9, 39, ls, st, w) := (zE_ (i := .if_icmp .ne 5) (by decide +kernel) _ _ _).trans (zq_ic_ne rfl rfl)
theorem e9_37 (v0 v1 v3 : Value) (x : Int32) (st : List Value) (w : zH) : zrun none (9, 37, [v0, v1, .int x, v3], st, w) = zrun none (9, 38, [v0, v1, .int x, v3], (.int x :: st), w) := (zE_ (i := .iload_n 2) (by decide +kernel) _ _ _).trans rfl
theorem e9_38 (ls : List Value) (x : Int32) (w : zH) : zrun none (9, 38, ls, [.int x], w) = some (some (.int x), w) := by
  refine (zE_ (i := .ireturn) (by decide +kernel) _ _ _).trans ?_
  show zres (if narrow .int (.int x) = .int x then _ else none) = _
  rw [if_pos (show narrow .int (.int x) = .int x from rfl)]
  rfl
theorem e9_39 (v0 v1 v3 : Value) (x : Int32) (st : List Value) (w : zH) : zrun none (9, 39, [v0, v1, .int x, v3], st, w) = zrun none (9, 42, [v0, v1, .int (x + 1), v3], st, w) := (zE_ (i := .iinc 2 1) (by decide +kernel) _ _ _).trans rfl
theorem e9_42 (ls st : List Value) (w : zH) : zrun none (9, 42, ls, st, w) = zrun none (9, 2, ls, st, w) := (zE_ (i := .goto (-40)) (by decide +kernel) _ _ _).trans rfl
theorem e9_45 (ls st : List Value) (w : zH) : zrun none (9, 45, ls, st, w) = zrun none (9, 47, ls, (.int (-1000000) :: st), w) := (zE_ (i := .bipush (-1000000)) (by decide +kernel) _ _ _).trans rfl
theorem e9_47 (ls : List Value) (x : Int32) (w : zH) : zrun none (9, 47, ls, [.int x], w) = some (some (.int x), w) := by
  refine (zE_ (i := .ireturn) (by decide +kernel) _ _ _).trans ?_
  show zres (if narrow .int (.int x) = .int x then _ else none) = _
  rw [if_pos (show narrow .int (.int x) = .int x from rfl)]
  rfl
theorem e10_0 (ls st : List Value) (w : zH) : zrun none (10, 0, ls, st, w) = zrun none (10, 1, ls, (.int 0 :: st), w) := (zE_ (i := .iconst 0) (by decide +kernel) _ _ _).trans rfl
theorem e10_1 (v0 v1 v2 v3 v4 v5 : Value) (x : Int32) (st : List Value) (w : zH) (h : v2.category = 1) : zrun none (10, 1, [v0, v1, v2, v3, v4, v5], (.int x :: st), w) = zrun none (10, 2, [v0, v1, v2, .int x, v4, v5], st, w) := by
  refine (zE_ (i := .istore_n 3) (by decide +kernel) _ _ _).trans ?_
  have hz : zfree [v0, v1, v2, v3, v4, v5] 3 = true := by show decide (v2.category = 1) = true; exact decide_eq_true h
  show zres (zst zint 3 1 10 1 [v0, v1, v2, v3, v4, v5] (.int x :: st) w) = _
  unfold zst
  dsimp only
  rw [if_pos ⟨rfl, Nat.le_of_ble_eq_true rfl, hz⟩]
  rfl
theorem e10_2 (ls st : List Value) (w : zH) : zrun none (10, 2, ls, st, w) = zrun none (10, 3, ls, (.int 0 :: st), w) := (zE_ (i := .iconst 0) (by decide +kernel) _ _ _).trans rfl
theorem e10_3 (v0 v1 v2 v3 v4 v5 : Value) (x : Int32) (st : List Value) (w : zH) (h : v3.category = 1) : zrun none (10, 3, [v0, v1, v2, v3, v4, v5], (.int x :: st), w) = zrun none (10, 5, [v0, v1, v2, v3, .int x, v5], st, w) := by
  refine (zE_ (i := .istore 4) (by decide +kernel) _ _ _).trans ?_
  have hz : zfree [v0, v1, v2, v3, v4, v5] 4 = true := by show decide (v3.category = 1) = true; exact decide_eq_true h
  show zres (zst zint 4 2 10 3 [v0, v1, v2, v3, v4, v5] (.int x :: st) w) = _
  unfold zst
  dsimp only
  rw [if_pos ⟨rfl, Nat.le_of_ble_eq_true rfl, hz⟩]
  rfl
theorem e10_5 (v0 v1 v2 v3 v5 : Value) (x : Int32) (st : List Value) (w : zH) : zrun none (10, 5, [v0, v1, v2, v3, .int x, v5], st, w) = zrun none (10, 7, [v0, v1, v2, v3, .int x, v5], (.int x :: st), w) := (zE_ (i := .iload 4) (by decide +kernel) _ _ _).trans rfl
theorem e10_7 (v1 v2 v3 v4 v5 : Value) (x : Nat) (st : List Value) (w : zH) : zrun none (10, 7, [.ref x, v1, v2, v3, v4, v5], st, w) = zrun none (10, 8, [.ref x, v1, v2, v3, v4, v5], (.ref x :: st), w) := (zE_ (i := .aload_n 0) (by decide +kernel) _ _ _).trans rfl
theorem e10_8 (ls : List Value) (a : Nat) (st : List Value) (w : zH) : zrun none (10, 8, ls, (.ref a :: st), w) = zo (zf w a 202) (fun x => zrun none (10, 11, ls, (x :: st), w)) := (zE_ (i := .getfield 202) (by decide +kernel) _ _ _).trans zq_getf
theorem e10_11 (ls : List Value) (a b : Int32) (st : List Value) (w : zH) : zrun none (10, 11, ls, (.int b :: .int a :: st), w) = if b ≤ a then zrun none (10, 64, ls, st, w) else zrun none (10, 14, ls, st, w) := (zE_ (i := .if_icmp .ge 53) (by decide +kernel) _ _ _).trans (zq_ic_ge rfl rfl)
theorem e10_14 (v1 v2 v3 v4 v5 : Value) (x : Nat) (st : List Value) (w : zH) : zrun none (10, 14, [.ref x, v1, v2, v3, v4, v5], st, w) = zrun none (10, 15, [.ref x, v1, v2, v3, v4, v5], (.ref x :: st), w) := (zE_ (i := .aload_n 0) (by decide +kernel) _ _ _).trans rfl
theorem e10_15 (v0 v1 v2 v3 v5 : Value) (x : Int32) (st : List Value) (w : zH) : zrun none (10, 15, [v0, v1, v2, v3, .int x, v5], st, w) = zrun none (10, 17, [v0, v1, v2, v3, .int x, v5], (.int x :: st), w) := (zE_ (i := .iload 4) (by decide +kernel) _ _ _).trans rfl
theorem e10_17 (ls : List Value) (a : Nat) (x0 : Int32) (st : List Value) (w : zH) (hr : zcat st ≤ 8) : zrun none (10, 17, ls, (.int x0 :: .ref a :: st), w) = zgd (zis w a 2) (zcl (zrun none (6, 0, [.ref a, .int x0], [], w)) (fun r => zrun none (10, 20, ls, r.1.toList ++ st, r.2))) := by
  refine (zE_ (i := .invokevirtual 6) (by decide +kernel) _ _ _).trans ?_
  show zres (zinv none 6 10 17 ls (.int x0 :: .ref a :: st) w) = _
  unfold zinv
  show zres (if zrc none 6 w (.ref a) = true then zcall 6 [.ref a, .int x0] st 10 17 ls w else none) = _
  by_cases hc : zis w a 2
  · rw [if_pos (zrc_is hc (by decide +kernel)), zgd_pos hc]
    exact zq_call hr (Nat.le_of_ble_eq_true rfl) rfl rfl
  · rw [zgd_neg hc, if_neg (fun q => hc (zrc_of q (by decide +kernel)))]
    rfl
theorem e10_20 (v0 v1 v2 v3 v4 v5 : Value) (x : Nat) (st : List Value) (w : zH) (h : v4.category = 1) : zrun none (10, 20, [v0, v1, v2, v3, v4, v5], (.ref x :: st), w) = zrun none (10, 22, [v0, v1, v2, v3, v4, .ref x], st, w) := by
  refine (zE_ (i := .astore 5) (by decide +kernel) _ _ _).trans ?_
  have hz : zfree [v0, v1, v2, v3, v4, v5] 5 = true := by show decide (v4.category = 1) = true; exact decide_eq_true h
  show zres (zst zref 5 2 10 20 [v0, v1, v2, v3, v4, v5] (.ref x :: st) w) = _
  unfold zst
  dsimp only
  rw [if_pos ⟨rfl, Nat.le_of_ble_eq_true rfl, hz⟩]
  rfl
theorem e10_20n (v0 v1 v2 v3 v4 v5 : Value) (st : List Value) (w : zH) (h : v4.category = 1) : zrun none (10, 20, [v0, v1, v2, v3, v4, v5], (.null :: st), w) = zrun none (10, 22, [v0, v1, v2, v3, v4, .null], st, w) := by
  refine (zE_ (i := .astore 5) (by decide +kernel) _ _ _).trans ?_
  have hz : zfree [v0, v1, v2, v3, v4, v5] 5 = true := by show decide (v4.category = 1) = true; exact decide_eq_true h
  show zres (zst zref 5 2 10 20 [v0, v1, v2, v3, v4, v5] (.null :: st) w) = _
  unfold zst
  dsimp only
  rw [if_pos ⟨rfl, Nat.le_of_ble_eq_true rfl, hz⟩]
  rfl
theorem e10_22 (v0 v1 v2 v3 v4 : Value) (x : Nat) (st : List Value) (w : zH) : zrun none (10, 22, [v0, v1, v2, v3, v4, .ref x], st, w) = zrun none (10, 24, [v0, v1, v2, v3, v4, .ref x], (.ref x :: st), w) := (zE_ (i := .aload 5) (by decide +kernel) _ _ _).trans rfl
theorem e10_22n (v0 v1 v2 v3 v4 : Value) (st : List Value) (w : zH) : zrun none (10, 22, [v0, v1, v2, v3, v4, .null], st, w) = zrun none (10, 24, [v0, v1, v2, v3, v4, .null], (.null :: st), w) := (zE_ (i := .aload 5) (by decide +kernel) _ _ _).trans rfl
theorem e10_24n (ls st : List Value) (w : zH) : zrun none (10, 24, ls, (.null :: st), w) = zrun none (10, 58, ls, st, w) := (zE_ (i := .ifnull 34) (by decide +kernel) _ _ _).trans rfl
theorem e10_24 (ls : List Value) (a : Nat) (st : List Value) (w : zH) (h : a < zX) : zrun none (10, 24, ls, (.ref a :: st), w) = zrun none (10, 27, ls, st, w) := by
  refine (zE_ (i := .ifnull 34) (by decide +kernel) _ _ _).trans ?_
  simp only [zI, if_pos h]
  rfl
theorem e10_27 (v0 v1 v2 v3 v4 : Value) (x : Nat) (st : List Value) (w : zH) : zrun none (10, 27, [v0, v1, v2, v3, v4, .ref x], st, w) = zrun none (10, 29, [v0, v1, v2, v3, v4, .ref x], (.ref x :: st), w) := (zE_ (i := .aload 5) (by decide +kernel) _ _ _).trans rfl
theorem e10_27n (v0 v1 v2 v3 v4 : Value) (st : List Value) (w : zH) : zrun none (10, 27, [v0, v1, v2, v3, v4, .null], st, w) = zrun none (10, 29, [v0, v1, v2, v3, v4, .null], (.null :: st), w) := (zE_ (i := .aload 5) (by decide +kernel) _ _ _).trans rfl
theorem e10_29 (ls : List Value) (a : Nat) (st : List Value) (w : zH) : zrun none (10, 29, ls, (.ref a :: st), w) = zo (zf w a 103) (fun x => zrun none (10, 32, ls, (x :: st), w)) := (zE_ (i := .getfield 103) (by decide +kernel) _ _ _).trans zq_getf
theorem e10_32 (ls : List Value) (a : Int32) (st : List Value) (w : zH) : zrun none (10, 32, ls, (.int a :: st), w) = if a = 0 then zrun none (10, 58, ls, st, w) else zrun none (10, 35, ls, st, w) := (zE_ (i := .ifCond .eq 26) (by decide +kernel) _ _ _).trans (zq_if_eq rfl rfl)
theorem e10_35 (v0 v1 v2 v3 v4 : Value) (x : Nat) (st : List Value) (w : zH) : zrun none (10, 35, [v0, v1, v2, v3, v4, .ref x], st, w) = zrun none (10, 37, [v0, v1, v2, v3, v4, .ref x], (.ref x :: st), w) := (zE_ (i := .aload 5) (by decide +kernel) _ _ _).trans rfl
theorem e10_35n (v0 v1 v2 v3 v4 : Value) (st : List Value) (w : zH) : zrun none (10, 35, [v0, v1, v2, v3, v4, .null], st, w) = zrun none (10, 37, [v0, v1, v2, v3, v4, .null], (.null :: st), w) := (zE_ (i := .aload 5) (by decide +kernel) _ _ _).trans rfl
theorem e10_37 (v0 v1 v3 v4 v5 : Value) (x : Nat) (st : List Value) (w : zH) : zrun none (10, 37, [v0, v1, .ref x, v3, v4, v5], st, w) = zrun none (10, 38, [v0, v1, .ref x, v3, v4, v5], (.ref x :: st), w) := (zE_ (i := .aload_n 2) (by decide +kernel) _ _ _).trans rfl
theorem e10_37n (v0 v1 v3 v4 v5 : Value) (st : List Value) (w : zH) : zrun none (10, 37, [v0, v1, .null, v3, v4, v5], st, w) = zrun none (10, 38, [v0, v1, .null, v3, v4, v5], (.null :: st), w) := (zE_ (i := .aload_n 2) (by decide +kernel) _ _ _).trans rfl
theorem e10_38 (v0 v1 v2 v3 v5 : Value) (x : Int32) (st : List Value) (w : zH) : zrun none (10, 38, [v0, v1, v2, v3, .int x, v5], st, w) = zrun none (10, 40, [v0, v1, v2, v3, .int x, v5], (.int x :: st), w) := (zE_ (i := .iload 4) (by decide +kernel) _ _ _).trans rfl
theorem e10_40 (v0 v2 v3 v4 v5 : Value) (x : Int32) (st : List Value) (w : zH) : zrun none (10, 40, [v0, .int x, v2, v3, v4, v5], st, w) = zrun none (10, 41, [v0, .int x, v2, v3, v4, v5], (.int x :: st), w) := (zE_ (i := .iload_n 1) (by decide +kernel) _ _ _).trans rfl
theorem e10_41 (ls : List Value) (a b : Int32) (st : List Value) (w : zH) : zrun none (10, 41, ls, (.int b :: .int a :: st), w) = if a ≤ b then zrun none (10, 48, ls, st, w) else zrun none (10, 44, ls, st, w) := (zE_ (i := .if_icmp .le 7) (by decide +kernel) _ _ _).trans (zq_ic_le rfl rfl)
theorem e10_44 (ls st : List Value) (w : zH) : zrun none (10, 44, ls, st, w) = zrun none (10, 45, ls, (.int 1 :: st), w) := (zE_ (i := .iconst 1) (by decide +kernel) _ _ _).trans rfl
theorem e10_45 (ls st : List Value) (w : zH) : zrun none (10, 45, ls, st, w) = zrun none (10, 49, ls, st, w) := (zE_ (i := .goto 4) (by decide +kernel) _ _ _).trans rfl
theorem e10_48 (ls st : List Value) (w : zH) : zrun none (10, 48, ls, st, w) = zrun none (10, 49, ls, (.int 0 :: st), w) := (zE_ (i := .iconst 0) (by decide +kernel) _ _ _).trans rfl
theorem e10_49 (ls : List Value) (x0 : Nat) (x1 : Nat) (x2 : Int32) (st : List Value) (w : zH) (hr : zcat st ≤ 8) : zrun none (10, 49, ls, (.int x2 :: .ref x1 :: .ref x0 :: st), w) = zcl (zrun none (11, 0, [.ref x0, .ref x1, .int x2], [], w)) (fun r => zrun none (10, 52, ls, r.1.toList ++ st, r.2)) := by
  refine (zE_ (i := .invokestatic 11) (by decide +kernel) _ _ _).trans ?_
  show zres (if (99 : Nat) = 99 ∧ 3 ≤ ((.int x2 :: .ref x1 :: .ref x0 :: st) : List Value).length then zcall 11 [.ref x0, .ref x1, .int x2] st 10 49 ls w else none) = _
  rw [if_pos ⟨rfl, by simp⟩]
  exact zq_call hr (Nat.le_of_ble_eq_true rfl) rfl rfl
theorem e10_52 (ls : List Value) (a : Int32) (st : List Value) (w : zH) : zrun none (10, 52, ls, (.int a :: st), w) = if a = 0 then zrun none (10, 58, ls, st, w) else zrun none (10, 55, ls, st, w) := (zE_ (i := .ifCond .eq 6) (by decide +kernel) _ _ _).trans (zq_if_eq rfl rfl)
theorem e10_55 (v0 v1 v2 v4 v5 : Value) (x : Int32) (st : List Value) (w : zH) : zrun none (10, 55, [v0, v1, v2, .int x, v4, v5], st, w) = zrun none (10, 58, [v0, v1, v2, .int (x + 1), v4, v5], st, w) := (zE_ (i := .iinc 3 1) (by decide +kernel) _ _ _).trans rfl
theorem e10_58 (v0 v1 v2 v3 v5 : Value) (x : Int32) (st : List Value) (w : zH) : zrun none (10, 58, [v0, v1, v2, v3, .int x, v5], st, w) = zrun none (10, 61, [v0, v1, v2, v3, .int (x + 1), v5], st, w) := (zE_ (i := .iinc 4 1) (by decide +kernel) _ _ _).trans rfl
theorem e10_61 (ls st : List Value) (w : zH) : zrun none (10, 61, ls, st, w) = zrun none (10, 5, ls, st, w) := (zE_ (i := .goto (-56)) (by decide +kernel) _ _ _).trans rfl
theorem e10_64 (v0 v1 v2 v4 v5 : Value) (x : Int32) (st : List Value) (w : zH) : zrun none (10, 64, [v0, v1, v2, .int x, v4, v5], st, w) = zrun none (10, 65, [v0, v1, v2, .int x, v4, v5], (.int x :: st), w) := (zE_ (i := .iload_n 3) (by decide +kernel) _ _ _).trans rfl
theorem e10_65 (ls : List Value) (x : Int32) (w : zH) : zrun none (10, 65, ls, [.int x], w) = some (some (.int x), w) := by
  refine (zE_ (i := .ireturn) (by decide +kernel) _ _ _).trans ?_
  show zres (if narrow .int (.int x) = .int x then _ else none) = _
  rw [if_pos (show narrow .int (.int x) = .int x from rfl)]
  rfl
theorem e11_0 (v1 v2 : Value) (x : Nat) (st : List Value) (w : zH) : zrun none (11, 0, [.ref x, v1, v2], st, w) = zrun none (11, 1, [.ref x, v1, v2], (.ref x :: st), w) := (zE_ (i := .aload_n 0) (by decide +kernel) _ _ _).trans rfl
theorem e11_0n (v1 v2 : Value) (st : List Value) (w : zH) : zrun none (11, 0, [.null, v1, v2], st, w) = zrun none (11, 1, [.null, v1, v2], (.null :: st), w) := (zE_ (i := .aload_n 0) (by decide +kernel) _ _ _).trans rfl
theorem e11_1 (ls : List Value) (a : Nat) (st : List Value) (w : zH) : zrun none (11, 1, ls, (.ref a :: st), w) = zo (zf w a 104) (fun x => zrun none (11, 4, ls, (x :: st), w)) := (zE_ (i := .getfield 104) (by decide +kernel) _ _ _).trans zq_getf
theorem e11_4 (v0 v2 : Value) (x : Nat) (st : List Value) (w : zH) : zrun none (11, 4, [v0, .ref x, v2], st, w) = zrun none (11, 5, [v0, .ref x, v2], (.ref x :: st), w) := (zE_ (i := .aload_n 1) (by decide +kernel) _ _ _).trans rfl
theorem e11_4n (v0 v2 : Value) (st : List Value) (w : zH) : zrun none (11, 4, [v0, .null, v2], st, w) = zrun none (11, 5, [v0, .null, v2], (.null :: st), w) := (zE_ (i := .aload_n 1) (by decide +kernel) _ _ _).trans rfl
theorem e11_5 (ls : List Value) (a : Nat) (st : List Value) (w : zH) : zrun none (11, 5, ls, (.ref a :: st), w) = zo (zf w a 104) (fun x => zrun none (11, 8, ls, (x :: st), w)) := (zE_ (i := .getfield 104) (by decide +kernel) _ _ _).trans zq_getf
theorem e11_8 (ls : List Value) (a b : Int32) (st : List Value) (w : zH) : zrun none (11, 8, ls, (.int b :: .int a :: st), w) = if a = b then zrun none (11, 28, ls, st, w) else zrun none (11, 11, ls, st, w) := (zE_ (i := .if_icmp .eq 20) (by decide +kernel) _ _ _).trans (zq_ic_eq rfl rfl)
theorem e11_11 (v1 v2 : Value) (x : Nat) (st : List Value) (w : zH) : zrun none (11, 11, [.ref x, v1, v2], st, w) = zrun none (11, 12, [.ref x, v1, v2], (.ref x :: st), w) := (zE_ (i := .aload_n 0) (by decide +kernel) _ _ _).trans rfl
theorem e11_11n (v1 v2 : Value) (st : List Value) (w : zH) : zrun none (11, 11, [.null, v1, v2], st, w) = zrun none (11, 12, [.null, v1, v2], (.null :: st), w) := (zE_ (i := .aload_n 0) (by decide +kernel) _ _ _).trans rfl
theorem e11_12 (ls : List Value) (a : Nat) (st : List Value) (w : zH) : zrun none (11, 12, ls, (.ref a :: st), w) = zo (zf w a 104) (fun x => zrun none (11, 15, ls, (x :: st), w)) := (zE_ (i := .getfield 104) (by decide +kernel) _ _ _).trans zq_getf
theorem e11_15 (v0 v2 : Value) (x : Nat) (st : List Value) (w : zH) : zrun none (11, 15, [v0, .ref x, v2], st, w) = zrun none (11, 16, [v0, .ref x, v2], (.ref x :: st), w) := (zE_ (i := .aload_n 1) (by decide +kernel) _ _ _).trans rfl
theorem e11_15n (v0 v2 : Value) (st : List Value) (w : zH) : zrun none (11, 15, [v0, .null, v2], st, w) = zrun none (11, 16, [v0, .null, v2], (.null :: st), w) := (zE_ (i := .aload_n 1) (by decide +kernel) _ _ _).trans rfl
theorem e11_16 (ls : List Value) (a : Nat) (st : List Value) (w : zH) : zrun none (11, 16, ls, (.ref a :: st), w) = zo (zf w a 104) (fun x => zrun none (11, 19, ls, (x :: st), w)) := (zE_ (i := .getfield 104) (by decide +kernel) _ _ _).trans zq_getf
theorem e11_19 (ls : List Value) (a b : Int32) (st : List Value) (w : zH) : zrun none (11, 19, ls, (.int b :: .int a :: st), w) = if b ≤ a then zrun none (11, 26, ls, st, w) else zrun none (11, 22, ls, st, w) := (zE_ (i := .if_icmp .ge 7) (by decide +kernel) _ _ _).trans (zq_ic_ge rfl rfl)
theorem e11_22 (ls st : List Value) (w : zH) : zrun none (11, 22, ls, st, w) = zrun none (11, 23, ls, (.int 1 :: st), w) := (zE_ (i := .iconst 1) (by decide +kernel) _ _ _).trans rfl
theorem e11_23 (ls st : List Value) (w : zH) : zrun none (11, 23, ls, st, w) = zrun none (11, 27, ls, st, w) := (zE_ (i := .goto 4) (by decide +kernel) _ _ _).trans rfl
theorem e11_26 (ls st : List Value) (w : zH) : zrun none (11, 26, ls, st, w) = zrun none (11, 27, ls, (.int 0 :: st), w) := (zE_ (i := .iconst 0) (by decide +kernel) _ _ _).trans rfl
theorem e11_27 (ls : List Value) (x : Int32) (w : zH) (h : narrow .boolean (.int x) = .int x) : zrun none (11, 27, ls, [.int x], w) = some (some (.int x), w) := by
  refine (zE_ (i := .ireturn) (by decide +kernel) _ _ _).trans ?_
  show zres (if narrow .boolean (.int x) = .int x then _ else none) = _
  rw [if_pos h]
  rfl
theorem e11_28 (v1 v2 : Value) (x : Nat) (st : List Value) (w : zH) : zrun none (11, 28, [.ref x, v1, v2], st, w) = zrun none (11, 29, [.ref x, v1, v2], (.ref x :: st), w) := (zE_ (i := .aload_n 0) (by decide +kernel) _ _ _).trans rfl
theorem e11_28n (v1 v2 : Value) (st : List Value) (w : zH) : zrun none (11, 28, [.null, v1, v2], st, w) = zrun none (11, 29, [.null, v1, v2], (.null :: st), w) := (zE_ (i := .aload_n 0) (by decide +kernel) _ _ _).trans rfl
theorem e11_29 (ls : List Value) (a : Nat) (st : List Value) (w : zH) : zrun none (11, 29, ls, (.ref a :: st), w) = zo (zf w a 102) (fun x => zrun none (11, 32, ls, (x :: st), w)) := (zE_ (i := .getfield 102) (by decide +kernel) _ _ _).trans zq_getf
theorem e11_32 (v0 v2 : Value) (x : Nat) (st : List Value) (w : zH) : zrun none (11, 32, [v0, .ref x, v2], st, w) = zrun none (11, 33, [v0, .ref x, v2], (.ref x :: st), w) := (zE_ (i := .aload_n 1) (by decide +kernel) _ _ _).trans rfl
theorem e11_32n (v0 v2 : Value) (st : List Value) (w : zH) : zrun none (11, 32, [v0, .null, v2], st, w) = zrun none (11, 33, [v0, .null, v2], (.null :: st), w) := (zE_ (i := .aload_n 1) (by decide +kernel) _ _ _).trans rfl
theorem e11_33 (ls : List Value) (a : Nat) (st : List Value) (w : zH) : zrun none (11, 33, ls, (.ref a :: st), w) = zo (zf w a 102) (fun x => zrun none (11, 36, ls, (x :: st), w)) := (zE_ (i := .getfield 102) (by decide +kernel) _ _ _).trans zq_getf
theorem e11_36 (ls : List Value) (a b : Int32) (st : List Value) (w : zH) : zrun none (11, 36, ls, (.int b :: .int a :: st), w) = if a = b then zrun none (11, 58, ls, st, w) else zrun none (11, 39, ls, st, w) := (zE_ (i := .if_icmp .eq 22) (by decide +kernel) _ _ _).trans (zq_ic_eq rfl rfl)
theorem e11_39 (v1 v2 : Value) (x : Nat) (st : List Value) (w : zH) : zrun none (11, 39, [.ref x, v1, v2], st, w) = zrun none (11, 40, [.ref x, v1, v2], (.ref x :: st), w) := (zE_ (i := .aload_n 0) (by decide +kernel) _ _ _).trans rfl
theorem e11_39n (v1 v2 : Value) (st : List Value) (w : zH) : zrun none (11, 39, [.null, v1, v2], st, w) = zrun none (11, 40, [.null, v1, v2], (.null :: st), w) := (zE_ (i := .aload_n 0) (by decide +kernel) _ _ _).trans rfl
theorem e11_40 (ls : List Value) (a : Nat) (st : List Value) (w : zH) : zrun none (11, 40, ls, (.ref a :: st), w) = zo (zf w a 102) (fun x => zrun none (11, 43, ls, (x :: st), w)) := (zE_ (i := .getfield 102) (by decide +kernel) _ _ _).trans zq_getf
theorem e11_43 (v0 v2 : Value) (x : Nat) (st : List Value) (w : zH) : zrun none (11, 43, [v0, .ref x, v2], st, w) = zrun none (11, 44, [v0, .ref x, v2], (.ref x :: st), w) := (zE_ (i := .aload_n 1) (by decide +kernel) _ _ _).trans rfl
theorem e11_43n (v0 v2 : Value) (st : List Value) (w : zH) : zrun none (11, 43, [v0, .null, v2], st, w) = zrun none (11, 44, [v0, .null, v2], (.null :: st), w) := (zE_ (i := .aload_n 1) (by decide +kernel) _ _ _).trans rfl
theorem e11_44 (ls : List Value) (a : Nat) (st : List Value) (w : zH) : zrun none (11, 44, ls, (.ref a :: st), w) = zo (zf w a 102) (fun x => zrun none (11, 47, ls, (x :: st), w)) := (zE_ (i := .getfield 102) (by decide +kernel) _ _ _).trans zq_getf
theorem e11_47 (ls : List Value) (a b : Int32) (st : List Value) (w : zH) : zrun none (11, 47, ls, (.int b :: .int a :: st), w) = if a ≤ b then zrun none (11, 54, ls, st, w) else zrun none (11, 50, ls, st, w) := (zE_ (i := .if_icmp .le 7) (by decide +kernel) _ _ _).trans (zq_ic_le rfl rfl)
theorem e11_50 (ls st : List Value) (w : zH) : zrun none (11, 50, ls, st, w) = zrun none (11, 51, ls, (.int 1 :: st), w) := (zE_ (i := .iconst 1) (by decide +kernel) _ _ _).trans rfl
theorem e11_51 (ls st : List Value) (w : zH) : zrun none (11, 51, ls, st, w) = zrun none (11, 59, ls, st, w) := (zE_ (i := .goto 8) (by decide +kernel) _ _ _).trans rfl
theorem e11_54 (ls st : List Value) (w : zH) : zrun none (11, 54, ls, st, w) = zrun none (11, 55, ls, (.int 0 :: st), w) := (zE_ (i := .iconst 0) (by decide +kernel) _ _ _).trans rfl
theorem e11_55 (ls st : List Value) (w : zH) : zrun none (11, 55, ls, st, w) = zrun none (11, 59, ls, st, w) := (zE_ (i := .goto 4) (by decide +kernel) _ _ _).trans rfl
theorem e11_58 (v0 v1 : Value) (x : Int32) (st : List Value) (w : zH) : zrun none (11, 58, [v0, v1, .int x], st, w) = zrun none (11, 59, [v0, v1, .int x], (.int x :: st), w) := (zE_ (i := .iload_n 2) (by decide +kernel) _ _ _).trans rfl
theorem e11_59 (ls : List Value) (x : Int32) (w : zH) (h : narrow .boolean (.int x) = .int x) : zrun none (11, 59, ls, [.int x], w) = some (some (.int x), w) := by
  refine (zE_ (i := .ireturn) (by decide +kernel) _ _ _).trans ?_
  show zres (if narrow .boolean (.int x) = .int x then _ else none) = _
  rw [if_pos h]
  rfl
theorem e12_0 (v1 v2 v3 v4 : Value) (x : Nat) (st : List Value) (w : zH) : zrun none (12, 0, [.ref x, v1, v2, v3, v4], st, w) = zrun none (12, 1, [.ref x, v1, v2, v3, v4], (.ref x :: st), w) := (zE_ (i := .aload_n 0) (by decide +kernel) _ _ _).trans rfl
theorem e12_1 (v1 v2 v3 v4 : Value) (x : Nat) (st : List Value) (w : zH) : zrun none (12, 1, [.ref x, v1, v2, v3, v4], st, w) = zrun none (12, 2, [.ref x, v1, v2, v3, v4], (.ref x :: st), w) := (zE_ (i := .aload_n 0) (by decide +kernel) _ _ _).trans rfl
theorem e12_2 (ls st : List Value) (w : zH) : zrun none (12, 2, ls, st, w) = zrun none (12, 3, ls, (.int 0 :: st), w) := (zE_ (i := .iconst 0) (by decide +kernel) _ _ _).trans rfl
theorem e12_3 (ls : List Value) (a : Nat) (x0 : Int32) (st : List Value) (w : zH) (hr : zcat st ≤ 8) : zrun none (12, 3, ls, (.int x0 :: .ref a :: st), w) = zgd (zis w a 2) (zcl (zrun none (9, 0, [.ref a, .int x0, zJ, zJ], [], w)) (fun r => zrun none (12, 6, ls, r.1.toList ++ st, r.2))) := by
  refine (zE_ (i := .invokevirtual 9) (by decide +kernel) _ _ _).trans ?_
  show zres (zinv none 9 12 3 ls (.int x0 :: .ref a :: st) w) = _
  unfold zinv
  show zres (if zrc none 9 w (.ref a) = true then zcall 9 [.ref a, .int x0] st 12 3 ls w else none) = _
  by_cases hc : zis w a 2
  · rw [if_pos (zrc_is hc (by decide +kernel)), zgd_pos hc]
    exact zq_call hr (Nat.le_of_ble_eq_true rfl) rfl rfl
  · rw [zgd_neg hc, if_neg (fun q => hc (zrc_of q (by decide +kernel)))]
    rfl
theorem e12_6 (ls : List Value) (a : Nat) (x0 : Int32) (st : List Value) (w : zH) (hr : zcat st ≤ 8) : zrun none (12, 6, ls, (.int x0 :: .ref a :: st), w) = zgd (zis w a 2) (zcl (zrun none (6, 0, [.ref a, .int x0], [], w)) (fun r => zrun none (12, 9, ls, r.1.toList ++ st, r.2))) := by
  refine (zE_ (i := .invokevirtual 6) (by decide +kernel) _ _ _).trans ?_
  show zres (zinv none 6 12 6 ls (.int x0 :: .ref a :: st) w) = _
  unfold zinv
  show zres (if zrc none 6 w (.ref a) = true then zcall 6 [.ref a, .int x0] st 12 6 ls w else none) = _
  by_cases hc : zis w a 2
  · rw [if_pos (zrc_is hc (by decide +kernel)), zgd_pos hc]
    exact zq_call hr (Nat.le_of_ble_eq_true rfl) rfl rfl
  · rw [zgd_neg hc, if_neg (fun q => hc (zrc_of q (by decide +kernel)))]
    rfl
theorem e12_9 (v0 v1 v2 v3 v4 : Value) (x : Nat) (st : List Value) (w : zH) (h : v0.category = 1) : zrun none (12, 9, [v0, v1, v2, v3, v4], (.ref x :: st), w) = zrun none (12, 10, [v0, .ref x, v2, v3, v4], st, w) := by
  refine (zE_ (i := .astore_n 1) (by decide +kernel) _ _ _).trans ?_
  have hz : zfree [v0, v1, v2, v3, v4] 1 = true := by show decide (v0.category = 1) = true; exact decide_eq_true h
  show zres (zst zref 1 1 12 9 [v0, v1, v2, v3, v4] (.ref x :: st) w) = _
  unfold zst
  dsimp only
  rw [if_pos ⟨rfl, Nat.le_of_ble_eq_true rfl, hz⟩]
  rfl
theorem e12_9n (v0 v1 v2 v3 v4 : Value) (st : List Value) (w : zH) (h : v0.category = 1) : zrun none (12, 9, [v0, v1, v2, v3, v4], (.null :: st), w) = zrun none (12, 10, [v0, .null, v2, v3, v4], st, w) := by
  refine (zE_ (i := .astore_n 1) (by decide +kernel) _ _ _).trans ?_
  have hz : zfree [v0, v1, v2, v3, v4] 1 = true := by show decide (v0.category = 1) = true; exact decide_eq_true h
  show zres (zst zref 1 1 12 9 [v0, v1, v2, v3, v4] (.null :: st) w) = _
  unfold zst
  dsimp only
  rw [if_pos ⟨rfl, Nat.le_of_ble_eq_true rfl, hz⟩]
  rfl
theorem e12_10 (v0 v2 v3 v4 : Value) (x : Nat) (st : List Value) (w : zH) : zrun none (12, 10, [v0, .ref x, v2, v3, v4], st, w) = zrun none (12, 11, [v0, .ref x, v2, v3, v4], (.ref x :: st), w) := (zE_ (i := .aload_n 1) (by decide +kernel) _ _ _).trans rfl
theorem e12_10n (v0 v2 v3 v4 : Value) (st : List Value) (w : zH) : zrun none (12, 10, [v0, .null, v2, v3, v4], st, w) = zrun none (12, 11, [v0, .null, v2, v3, v4], (.null :: st), w) := (zE_ (i := .aload_n 1) (by decide +kernel) _ _ _).trans rfl
theorem e12_11n (ls st : List Value) (w : zH) : zrun none (12, 11, ls, (.null :: st), w) = zrun none (12, 14, ls, st, w) := (zE_ (i := .ifnonnull 6) (by decide +kernel) _ _ _).trans rfl
theorem e12_11 (ls : List Value) (a : Nat) (st : List Value) (w : zH) (h : a < zX) : zrun none (12, 11, ls, (.ref a :: st), w) = zrun none (12, 17, ls, st, w) := by
  refine (zE_ (i := .ifnonnull 6) (by decide +kernel) _ _ _).trans ?_
  simp only [zI, if_pos h]
  rfl
theorem e12_14 (ls st : List Value) (w : zH) : zrun none (12, 14, ls, st, w) = zrun none (12, 16, ls, (.int (-1000000) :: st), w) := (zE_ (i := .bipush (-1000000)) (by decide +kernel) _ _ _).trans rfl
theorem e12_16 (ls : List Value) (x : Int32) (w : zH) : zrun none (12, 16, ls, [.int x], w) = some (some (.int x), w) := by
  refine (zE_ (i := .ireturn) (by decide +kernel) _ _ _).trans ?_
  show zres (if narrow .int (.int x) = .int x then _ else none) = _
  rw [if_pos (show narrow .int (.int x) = .int x from rfl)]
  rfl
theorem e12_17 (ls st : List Value) (w : zH) : zrun none (12, 17, ls, st, w) = zrun none (12, 18, ls, (.int 0 :: st), w) := (zE_ (i := .iconst 0) (by decide +kernel) _ _ _).trans rfl
theorem e12_18 (v0 v1 v2 v3 v4 : Value) (x : Int32) (st : List Value) (w : zH) (h : v1.category = 1) : zrun none (12, 18, [v0, v1, v2, v3, v4], (.int x :: st), w) = zrun none (12, 19, [v0, v1, .int x, v3, v4], st, w) := by
  refine (zE_ (i := .istore_n 2) (by decide +kernel) _ _ _).trans ?_
  have hz : zfree [v0, v1, v2, v3, v4] 2 = true := by show decide (v1.category = 1) = true; exact decide_eq_true h
  show zres (zst zint 2 1 12 18 [v0, v1, v2, v3, v4] (.int x :: st) w) = _
  unfold zst
  dsimp only
  rw [if_pos ⟨rfl, Nat.le_of_ble_eq_true rfl, hz⟩]
  rfl
theorem e12_19 (ls st : List Value) (w : zH) : zrun none (12, 19, ls, st, w) = zrun none (12, 20, ls, (.int 0 :: st), w) := (zE_ (i := .iconst 0) (by decide +kernel) _ _ _).trans rfl
theorem e12_20 (v0 v1 v2 v3 v4 : Value) (x : Int32) (st : List Value) (w : zH) (h : v2.category = 1) : zrun none (12, 20, [v0, v1, v2, v3, v4], (.int x :: st), w) = zrun none (12, 21, [v0, v1, v2, .int x, v4], st, w) := by
  refine (zE_ (i := .istore_n 3) (by decide +kernel) _ _ _).trans ?_
  have hz : zfree [v0, v1, v2, v3, v4] 3 = true := by show decide (v2.category = 1) = true; exact decide_eq_true h
  show zres (zst zint 3 1 12 20 [v0, v1, v2, v3, v4] (.int x :: st) w) = _
  unfold zst
  dsimp only
  rw [if_pos ⟨rfl, Nat.le_of_ble_eq_true rfl, hz⟩]
  rfl
theorem e12_21 (v0 v1 v2 v4 : Value) (x : Int32) (st : List Value) (w : zH) : zrun none (12, 21, [v0, v1, v2, .int x, v4], st, w) = zrun none (12, 22, [v0, v1, v2, .int x, v4], (.int x :: st), w) := (zE_ (i := .iload_n 3) (by decide +kernel) _ _ _).trans rfl
theorem e12_22 (v1 v2 v3 v4 : Value) (x : Nat) (st : List Value) (w : zH) : zrun none (12, 22, [.ref x, v1, v2, v3, v4], st, w) = zrun none (12, 23, [.ref x, v1, v2, v3, v4], (.ref x :: st), w) := (zE_ (i := .aload_n 0) (by decide +kernel) _ _ _).trans rfl
theorem e12_23 (ls : List Value) (a : Nat) (st : List Value) (w : zH) : zrun none (12, 23, ls, (.ref a :: st), w) = zo (zf w a 202) (fun x => zrun none (12, 26, ls, (x :: st), w)) := (zE_ (i := .getfield 202) (by decide +kernel) _ _ _).trans zq_getf
theorem e12_26 (ls : List Value) (a b : Int32) (st : List Value) (w : zH) : zrun none (12, 26, ls, (.int b :: .int a :: st), w) = if b ≤ a then zrun none (12, 87, ls, st, w) else zrun none (12, 29, ls, st, w) := (zE_ (i := .if_icmp .ge 61) (by decide +kernel) _ _ _).trans (zq_ic_ge rfl rfl)
theorem e12_29 (v1 v2 v3 v4 : Value) (x : Nat) (st : List Value) (w : zH) : zrun none (12, 29, [.ref x, v1, v2, v3, v4], st, w) = zrun none (12, 30, [.ref x, v1, v2, v3, v4], (.ref x :: st), w) := (zE_ (i := .aload_n 0) (by decide +kernel) _ _ _).trans rfl
theorem e12_30 (v0 v1 v2 v4 : Value) (x : Int32) (st : List Value) (w : zH) : zrun none (12, 30, [v0, v1, v2, .int x, v4], st, w) = zrun none (12, 31, [v0, v1, v2, .int x, v4], (.int x :: st), w) := (zE_ (i := .iload_n 3) (by decide +kernel) _ _ _).trans rfl
theorem e12_31 (ls : List Value) (a : Nat) (x0 : Int32) (st : List Value) (w : zH) (hr : zcat st ≤ 8) : zrun none (12, 31, ls, (.int x0 :: .ref a :: st), w) = zgd (zis w a 2) (zcl (zrun none (6, 0, [.ref a, .int x0], [], w)) (fun r => zrun none (12, 34, ls, r.1.toList ++ st, r.2))) := by
  refine (zE_ (i := .invokevirtual 6) (by decide +kernel) _ _ _).trans ?_
  show zres (zinv none 6 12 31 ls (.int x0 :: .ref a :: st) w) = _
  unfold zinv
  show zres (if zrc none 6 w (.ref a) = true then zcall 6 [.ref a, .int x0] st 12 31 ls w else none) = _
  by_cases hc : zis w a 2
  · rw [if_pos (zrc_is hc (by decide +kernel)), zgd_pos hc]
    exact zq_call hr (Nat.le_of_ble_eq_true rfl) rfl rfl
  · rw [zgd_neg hc, if_neg (fun q => hc (zrc_of q (by decide +kernel)))]
    rfl
theorem e12_34 (v0 v1 v2 v3 v4 : Value) (x : Nat) (st : List Value) (w : zH) (h : v3.category = 1) : zrun none (12, 34, [v0, v1, v2, v3, v4], (.ref x :: st), w) = zrun none (12, 36, [v0, v1, v2, v3, .ref x], st, w) := by
  refine (zE_ (i := .astore 4) (by decide +kernel) _ _ _).trans ?_
  have hz : zfree [v0, v1, v2, v3, v4] 4 = true := by show decide (v3.category = 1) = true; exact decide_eq_true h
  show zres (zst zref 4 2 12 34 [v0, v1, v2, v3, v4] (.ref x :: st) w) = _
  unfold zst
  dsimp only
  rw [if_pos ⟨rfl, Nat.le_of_ble_eq_true rfl, hz⟩]
  rfl
theorem e12_34n (v0 v1 v2 v3 v4 : Value) (st : List Value) (w : zH) (h : v3.category = 1) : zrun none (12, 34, [v0, v1, v2, v3, v4], (.null :: st), w) = zrun none (12, 36, [v0, v1, v2, v3, .null], st, w) := by
  refine (zE_ (i := .astore 4) (by decide +kernel) _ _ _).trans ?_
  have hz : zfree [v0, v1, v2, v3, v4] 4 = true := by show decide (v3.category = 1) = true; exact decide_eq_true h
  show zres (zst zref 4 2 12 34 [v0, v1, v2, v3, v4] (.null :: st) w) = _
  unfold zst
  dsimp only
  rw [if_pos ⟨rfl, Nat.le_of_ble_eq_true rfl, hz⟩]
  rfl
theorem e12_36 (v0 v1 v2 v3 : Value) (x : Nat) (st : List Value) (w : zH) : zrun none (12, 36, [v0, v1, v2, v3, .ref x], st, w) = zrun none (12, 38, [v0, v1, v2, v3, .ref x], (.ref x :: st), w) := (zE_ (i := .aload 4) (by decide +kernel) _ _ _).trans rfl
theorem e12_36n (v0 v1 v2 v3 : Value) (st : List Value) (w : zH) : zrun none (12, 36, [v0, v1, v2, v3, .null], st, w) = zrun none (12, 38, [v0, v1, v2, v3, .null], (.null :: st), w) := (zE_ (i := .aload 4) (by decide +kernel) _ _ _).trans rfl
theorem e12_38n (ls st : List Value) (w : zH) : zrun none (12, 38, ls, (.null :: st), w) = zrun none (12, 81, ls, st, w) := (zE_ (i := .ifnull 43) (by decide +kernel) _ _ _).trans rfl
theorem e12_38 (ls : List Value) (a : Nat) (st : List Value) (w : zH) (h : a < zX) : zrun none (12, 38, ls, (.ref a :: st), w) = zrun none (12, 41, ls, st, w) := by
  refine (zE_ (i := .ifnull 43) (by decide +kernel) _ _ _).trans ?_
  simp only [zI, if_pos h]
  rfl
theorem e12_41 (v0 v1 v2 v3 : Value) (x : Nat) (st : List Value) (w : zH) : zrun none (12, 41, [v0, v1, v2, v3, .ref x], st, w) = zrun none (12, 43, [v0, v1, v2, v3, .ref x], (.ref x :: st), w) := (zE_ (i := .aload 4) (by decide +kernel) _ _ _).trans rfl
theorem e12_41n (v0 v1 v2 v3 : Value) (st : List Value) (w : zH) : zrun none (12, 41, [v0, v1, v2, v3, .null], st, w) = zrun none (12, 43, [v0, v1, v2, v3, .null], (.null :: st), w) := (zE_ (i := .aload 4) (by decide +kernel) _ _ _).trans rfl
theorem e12_43 (ls : List Value) (a : Nat) (st : List Value) (w : zH) : zrun none (12, 43, ls, (.ref a :: st), w) = zo (zf w a 103) (fun x => zrun none (12, 46, ls, (x :: st), w)) := (zE_ (i := .getfield 103) (by decide +kernel) _ _ _).trans zq_getf
theorem e12_46 (ls : List Value) (a : Int32) (st : List Value) (w : zH) : zrun none (12, 46, ls, (.int a :: st), w) = if a = 0 then zrun none (12, 81, ls, st, w) else zrun none (12, 49, ls, st, w) := (zE_ (i := .ifCond .eq 35) (by decide +kernel) _ _ _).trans (zq_if_eq rfl rfl)
theorem e12_49 (v0 v1 v2 v3 : Value) (x : Nat) (st : List Value) (w : zH) : zrun none (12, 49, [v0, v1, v2, v3, .ref x], st, w) = zrun none (12, 51, [v0, v1, v2, v3, .ref x], (.ref x :: st), w) := (zE_ (i := .aload 4) (by decide +kernel) _ _ _).trans rfl
theorem e12_49n (v0 v1 v2 v3 : Value) (st : List Value) (w : zH) : zrun none (12, 49, [v0, v1, v2, v3, .null], st, w) = zrun none (12, 51, [v0, v1, v2, v3, .null], (.null :: st), w) := (zE_ (i := .aload 4) (by decide +kernel) _ _ _).trans rfl
theorem e12_51 (ls : List Value) (a : Nat) (st : List Value) (w : zH) : zrun none (12, 51, ls, (.ref a :: st), w) = zo (zf w a 104) (fun x => zrun none (12, 54, ls, (x :: st), w)) := (zE_ (i := .getfield 104) (by decide +kernel) _ _ _).trans zq_getf
theorem e12_54 (v0 v2 v3 v4 : Value) (x : Nat) (st : List Value) (w : zH) : zrun none (12, 54, [v0, .ref x, v2, v3, v4], st, w) = zrun none (12, 55, [v0, .ref x, v2, v3, v4], (.ref x :: st), w) := (zE_ (i := .aload_n 1) (by decide +kernel) _ _ _).trans rfl
theorem e12_54n (v0 v2 v3 v4 : Value) (st : List Value) (w : zH) : zrun none (12, 54, [v0, .null, v2, v3, v4], st, w) = zrun none (12, 55, [v0, .null, v2, v3, v4], (.null :: st), w) := (zE_ (i := .aload_n 1) (by decide +kernel) _ _ _).trans rfl
theorem e12_55 (ls : List Value) (a : Nat) (st : List Value) (w : zH) : zrun none (12, 55, ls, (.ref a :: st), w) = zo (zf w a 104) (fun x => zrun none (12, 58, ls, (x :: st), w)) := (zE_ (i := .getfield 104) (by decide +kernel) _ _ _).trans zq_getf
theorem e12_58 (ls : List Value) (a b : Int32) (st : List Value) (w : zH) : zrun none (12, 58, ls, (.int b :: .int a :: st), w) = if a = b then zrun none (12, 61, ls, st, w) else zrun none (12, 81, ls, st, w) := (zE_ (i := .if_icmp .ne 23) (by decide +kernel) _ _ _).trans (zq_ic_ne rfl rfl)
theorem e12_61 (v0 v1 v3 v4 : Value) (x : Int32) (st : List Value) (w : zH) : zrun none (12, 61, [v0, v1, .int x, v3, v4], st, w) = zrun none (12, 62, [v0, v1, .int x, v3, v4], (.int x :: st), w) := (zE_ (i := .iload_n 2) (by decide +kernel) _ _ _).trans rfl
theorem e12_62 (v0 v1 v2 v3 : Value) (x : Nat) (st : List Value) (w : zH) : zrun none (12, 62, [v0, v1, v2, v3, .ref x], st, w) = zrun none (12, 64, [v0, v1, v2, v3, .ref x], (.ref x :: st), w) := (zE_ (i := .aload 4) (by decide +kernel) _ _ _).trans rfl
theorem e12_62n (v0 v1 v2 v3 : Value) (st : List Value) (w : zH) : zrun none (12, 62, [v0, v1, v2, v3, .null], st, w) = zrun none (12, 64, [v0, v1, v2, v3, .null], (.null :: st), w) := (zE_ (i := .aload 4) (by decide +kernel) _ _ _).trans rfl
theorem e12_64 (ls : List Value) (a : Nat) (st : List Value) (w : zH) : zrun none (12, 64, ls, (.ref a :: st), w) = zo (zf w a 101) (fun x => zrun none (12, 67, ls, (x :: st), w)) := (zE_ (i := .getfield 101) (by decide +kernel) _ _ _).trans zq_getf
theorem e12_67 (v0 v2 v3 v4 : Value) (x : Nat) (st : List Value) (w : zH) : zrun none (12, 67, [v0, .ref x, v2, v3, v4], st, w) = zrun none (12, 68, [v0, .ref x, v2, v3, v4], (.ref x :: st), w) := (zE_ (i := .aload_n 1) (by decide +kernel) _ _ _).trans rfl
theorem e12_67n (v0 v2 v3 v4 : Value) (st : List Value) (w : zH) : zrun none (12, 67, [v0, .null, v2, v3, v4], st, w) = zrun none (12, 68, [v0, .null, v2, v3, v4], (.null :: st), w) := (zE_ (i := .aload_n 1) (by decide +kernel) _ _ _).trans rfl
theorem e12_68 (ls : List Value) (a : Nat) (st : List Value) (w : zH) : zrun none (12, 68, ls, (.ref a :: st), w) = zo (zf w a 101) (fun x => zrun none (12, 71, ls, (x :: st), w)) := (zE_ (i := .getfield 101) (by decide +kernel) _ _ _).trans zq_getf
theorem e12_71 (ls : List Value) (a b : Int32) (st : List Value) (w : zH) : zrun none (12, 71, ls, (.int b :: .int a :: st), w) = if a = b then zrun none (12, 74, ls, st, w) else zrun none (12, 78, ls, st, w) := (zE_ (i := .if_icmp .ne 7) (by decide +kernel) _ _ _).trans (zq_ic_ne rfl rfl)
theorem e12_74 (ls st : List Value) (w : zH) : zrun none (12, 74, ls, st, w) = zrun none (12, 75, ls, (.int 1 :: st), w) := (zE_ (i := .iconst 1) (by decide +kernel) _ _ _).trans rfl
theorem e12_75 (ls st : List Value) (w : zH) : zrun none (12, 75, ls, st, w) = zrun none (12, 79, ls, st, w) := (zE_ (i := .goto 4) (by decide +kernel) _ _ _).trans rfl
theorem e12_78 (ls st : List Value) (w : zH) : zrun none (12, 78, ls, st, w) = zrun none (12, 79, ls, (.int (-1) :: st), w) := (zE_ (i := .iconst (-1)) (by decide +kernel) _ _ _).trans rfl
theorem e12_79 (ls : List Value) (a b : Int32) (st : List Value) (w : zH) : zrun none (12, 79, ls, (.int b :: .int a :: st), w) = zrun none (12, 80, ls, (.int (a + b) :: st), w) := (zE_ (i := .iadd) (by decide +kernel) _ _ _).trans rfl
theorem e12_80 (v0 v1 v2 v3 v4 : Value) (x : Int32) (st : List Value) (w : zH) (h : v1.category = 1) : zrun none (12, 80, [v0, v1, v2, v3, v4], (.int x :: st), w) = zrun none (12, 81, [v0, v1, .int x, v3, v4], st, w) := by
  refine (zE_ (i := .istore_n 2) (by decide +kernel) _ _ _).trans ?_
  have hz : zfree [v0, v1, v2, v3, v4] 2 = true := by show decide (v1.category = 1) = true; exact decide_eq_true h
  show zres (zst zint 2 1 12 80 [v0, v1, v2, v3, v4] (.int x :: st) w) = _
  unfold zst
  dsimp only
  rw [if_pos ⟨rfl, Nat.le_of_ble_eq_true rfl, hz⟩]
  rfl
theorem e12_81 (v0 v1 v2 v4 : Value) (x : Int32) (st : List Value) (w : zH) : zrun none (12, 81, [v0, v1, v2, .int x, v4], st, w) = zrun none (12, 84, [v0, v1, v2, .int (x + 1), v4], st, w) := (zE_ (i := .iinc 3 1) (by decide +kernel) _ _ _).trans rfl
theorem e12_84 (ls st : List Value) (w : zH) : zrun none (12, 84, ls, st, w) = zrun none (12, 21, ls, st, w) := (zE_ (i := .goto (-63)) (by decide +kernel) _ _ _).trans rfl
theorem e12_87 (v0 v1 v3 v4 : Value) (x : Int32) (st : List Value) (w : zH) : zrun none (12, 87, [v0, v1, .int x, v3, v4], st, w) = zrun none (12, 88, [v0, v1, .int x, v3, v4], (.int x :: st), w) := (zE_ (i := .iload_n 2) (by decide +kernel) _ _ _).trans rfl
theorem e12_88 (ls : List Value) (a : Int32) (st : List Value) (w : zH) : zrun none (12, 88, ls, (.int a :: st), w) = if a < 0 then zrun none (12, 98, ls, st, w) else zrun none (12, 91, ls, st, w) := (zE_ (i := .ifCond .lt 10) (by decide +kernel) _ _ _).trans (zq_if_lt rfl rfl)
theorem e12_91 (v0 v2 v3 v4 : Value) (x : Nat) (st : List Value) (w : zH) : zrun none (12, 91, [v0, .ref x, v2, v3, v4], st, w) = zrun none (12, 92, [v0, .ref x, v2, v3, v4], (.ref x :: st), w) := (zE_ (i := .aload_n 1) (by decide +kernel) _ _ _).trans rfl
theorem e12_91n (v0 v2 v3 v4 : Value) (st : List Value) (w : zH) : zrun none (12, 91, [v0, .null, v2, v3, v4], st, w) = zrun none (12, 92, [v0, .null, v2, v3, v4], (.null :: st), w) := (zE_ (i := .aload_n 1) (by decide +kernel) _ _ _).trans rfl
theorem e12_92 (ls : List Value) (a : Nat) (st : List Value) (w : zH) : zrun none (12, 92, ls, (.ref a :: st), w) = zo (zf w a 101) (fun x => zrun none (12, 95, ls, (x :: st), w)) := (zE_ (i := .getfield 101) (by decide +kernel) _ _ _).trans zq_getf
theorem e12_95 (ls st : List Value) (w : zH) : zrun none (12, 95, ls, st, w) = zrun none (12, 104, ls, st, w) := (zE_ (i := .goto 9) (by decide +kernel) _ _ _).trans rfl
theorem e12_98 (ls st : List Value) (w : zH) : zrun none (12, 98, ls, st, w) = zrun none (12, 99, ls, (.int 1 :: st), w) := (zE_ (i := .iconst 1) (by decide +kernel) _ _ _).trans rfl
theorem e12_99 (v0 v2 v3 v4 : Value) (x : Nat) (st : List Value) (w : zH) : zrun none (12, 99, [v0, .ref x, v2, v3, v4], st, w) = zrun none (12, 100, [v0, .ref x, v2, v3, v4], (.ref x :: st), w) := (zE_ (i := .aload_n 1) (by decide +kernel) _ _ _).trans rfl
theorem e12_99n (v0 v2 v3 v4 : Value) (st : List Value) (w : zH) : zrun none (12, 99, [v0, .null, v2, v3, v4], st, w) = zrun none (12, 100, [v0, .null, v2, v3, v4], (.null :: st), w) := (zE_ (i := .aload_n 1) (by decide +kernel) _ _ _).trans rfl
theorem e12_100 (ls : List Value) (a : Nat) (st : List Value) (w : zH) : zrun none (12, 100, ls, (.ref a :: st), w) = zo (zf w a 101) (fun x => zrun none (12, 103, ls, (x :: st), w)) := (zE_ (i := .getfield 101) (by decide +kernel) _ _ _).trans zq_getf
theorem e12_103 (ls : List Value) (a b : Int32) (st : List Value) (w : zH) : zrun none (12, 103, ls, (.int b :: .int a :: st), w) = zrun none (12, 104, ls, (.int (a - b) :: st), w) := (zE_ (i := .isub) (by decide +kernel) _ _ _).trans rfl
theorem e12_104 (ls : List Value) (x : Int32) (w : zH) : zrun none (12, 104, ls, [.int x], w) = some (some (.int x), w) := by
  refine (zE_ (i := .ireturn) (by decide +kernel) _ _ _).trans ?_
  show zres (if narrow .int (.int x) = .int x then _ else none) = _
  rw [if_pos (show narrow .int (.int x) = .int x from rfl)]
  rfl
theorem e13_0 (x : Nat) (st : List Value) (w : zH) : zrun none (13, 0, [.ref x], st, w) = zrun none (13, 1, [.ref x], (.ref x :: st), w) := (zE_ (i := .aload_n 0) (by decide +kernel) _ _ _).trans rfl
theorem e13_1 (ls : List Value) (a : Nat) (st : List Value) (w : zH) (h : a < zX) (hr : zcat st ≤ 8) : zrun none (13, 1, ls, (.ref a :: st), w) = zrun none (13, 4, ls, st, w) := by
  refine (zE_ (i := .invokespecial 998) (by decide +kernel) _ _ _).trans ?_
  simp only [zI, if_true]
  rw [if_pos ⟨hr, h⟩]
  rfl
theorem e13_4 (x : Nat) (st : List Value) (w : zH) : zrun none (13, 4, [.ref x], st, w) = zrun none (13, 5, [.ref x], (.ref x :: st), w) := (zE_ (i := .aload_n 0) (by decide +kernel) _ _ _).trans rfl
theorem e13_5 (ls st : List Value) (w : zH) : zrun none (13, 5, ls, st, w) = zrun none (13, 7, ls, (.int 30 :: st), w) := (zE_ (i := .bipush 30) (by decide +kernel) _ _ _).trans rfl
theorem e13_7 (ls : List Value) (n : Int32) (st : List Value) (w : zH) (h0 : ¬ n < 0 ∧ n ≤ 65536) (h : w.length + 1 < zX) : zrun none (13, 7, ls, (.int n :: st), w) = zrun none (13, 10, ls, (.ref w.length :: st), w ++ [(205, List.replicate n.toNatClampNeg (.null))]) := by
  refine (zE_ (i := .anewarray 205) (by decide +kernel) _ _ _).trans ?_
  simp only [zI]
  rw [if_pos (by decide)]
  unfold znwa
  dsimp only
  rw [if_pos h0]
  unfold znw
  rw [if_pos h]
  rfl
theorem e13_10 (ls : List Value) (x : Nat) (a : Nat) (st : List Value) (w : zH) : zrun none (13, 10, ls, (.ref x :: .ref a :: st), w) = zgd (a < zX ∧ (zf w a 300).isSome = true) (zrun none (13, 13, ls, st, zpf w a 300 (.ref x))) := by
  refine (zE_ (i := .putfield 300) (by decide +kernel) _ _ _).trans ?_
  by_cases hg : a < zX ∧ (zf w a 300).isSome = true
  · rw [zgd_pos hg]
    obtain ⟨ha, h⟩ := hg
    exact zq_putf ha h rfl rfl
  · rw [zgd_neg hg]
    exact zq_putf_no (fun h1 h2 h3 => hg ⟨h1, h2⟩)
theorem e13_13 (ls : List Value) (w : zH) : zrun none (13, 13, ls, [], w) = some (none, w) := (zE_ (i := .return_) (by decide +kernel) _ _ _).trans rfl
theorem e14_0 (v0 : Value) (x : Int32) (st : List Value) (w : zH) : zrun none (14, 0, [v0, .int x], st, w) = zrun none (14, 1, [v0, .int x], (.int x :: st), w) := (zE_ (i := .iload_n 1) (by decide +kernel) _ _ _).trans rfl
theorem e14_1 (ls : List Value) (a : Int32) (st : List Value) (w : zH) : zrun none (14, 1, ls, (.int a :: st), w) = if a < 0 then zrun none (14, 16, ls, st, w) else zrun none (14, 4, ls, st, w) := (zE_ (i := .ifCond .lt 15) (by decide +kernel) _ _ _).trans (zq_if_lt rfl rfl)
theorem e14_4 (v0 : Value) (x : Int32) (st : List Value) (w : zH) : zrun none (14, 4, [v0, .int x], st, w) = zrun none (14, 5, [v0, .int x], (.int x :: st), w) := (zE_ (i := .iload_n 1) (by decide +kernel) _ _ _).trans rfl
theorem e14_5 (v1 : Value) (x : Nat) (st : List Value) (w : zH) : zrun none (14, 5, [.ref x, v1], st, w) = zrun none (14, 6, [.ref x, v1], (.ref x :: st), w) := (zE_ (i := .aload_n 0) (by decide +kernel) _ _ _).trans rfl
theorem e14_6 (ls : List Value) (a : Nat) (st : List Value) (w : zH) : zrun none (14, 6, ls, (.ref a :: st), w) = zo (zf w a 302) (fun x => zrun none (14, 9, ls, (x :: st), w)) := (zE_ (i := .getfield 302) (by decide +kernel) _ _ _).trans zq_getf
theorem e14_9 (ls : List Value) (a b : Int32) (st : List Value) (w : zH) : zrun none (14, 9, ls, (.int b :: .int a :: st), w) = if b ≤ a then zrun none (14, 16, ls, st, w) else zrun none (14, 12, ls, st, w) := (zE_ (i := .if_icmp .ge 7) (by decide +kernel) _ _ _).trans (zq_ic_ge rfl rfl)
theorem e14_12 (ls st : List Value) (w : zH) : zrun none (14, 12, ls, st, w) = zrun none (14, 13, ls, (.int 1 :: st), w) := (zE_ (i := .iconst 1) (by decide +kernel) _ _ _).trans rfl
theorem e14_13 (ls st : List Value) (w : zH) : zrun none (14, 13, ls, st, w) = zrun none (14, 17, ls, st, w) := (zE_ (i := .goto 4) (by decide +kernel) _ _ _).trans rfl
theorem e14_16 (ls st : List Value) (w : zH) : zrun none (14, 16, ls, st, w) = zrun none (14, 17, ls, (.int 0 :: st), w) := (zE_ (i := .iconst 0) (by decide +kernel) _ _ _).trans rfl
theorem e14_17 (ls : List Value) (x : Int32) (w : zH) (h : narrow .boolean (.int x) = .int x) : zrun none (14, 17, ls, [.int x], w) = some (some (.int x), w) := by
  refine (zE_ (i := .ireturn) (by decide +kernel) _ _ _).trans ?_
  show zres (if narrow .boolean (.int x) = .int x then _ else none) = _
  rw [if_pos h]
  rfl
theorem e15_0 (x : Nat) (st : List Value) (w : zH) : zrun none (15, 0, [.ref x], st, w) = zrun none (15, 1, [.ref x], (.ref x :: st), w) := (zE_ (i := .aload_n 0) (by decide +kernel) _ _ _).trans rfl
theorem e15_1 (ls : List Value) (a : Nat) (st : List Value) (w : zH) : zrun none (15, 1, ls, (.ref a :: st), w) = zo (zf w a 302) (fun x => zrun none (15, 4, ls, (x :: st), w)) := (zE_ (i := .getfield 302) (by decide +kernel) _ _ _).trans zq_getf
theorem e15_4 (ls st : List Value) (w : zH) : zrun none (15, 4, ls, st, w) = zrun none (15, 6, ls, (.int 6 :: st), w) := (zE_ (i := .bipush 6) (by decide +kernel) _ _ _).trans rfl
theorem e15_6 (ls : List Value) (a b : Int32) (st : List Value) (w : zH) : zrun none (15, 6, ls, (.int b :: .int a :: st), w) = if a < b then zrun none (15, 12, ls, st, w) else zrun none (15, 9, ls, st, w) := (zE_ (i := .if_icmp .lt 6) (by decide +kernel) _ _ _).trans (zq_ic_lt rfl rfl)
theorem e15_9 (ls st : List Value) (w : zH) : zrun none (15, 9, ls, st, w) = zrun none (15, 11, ls, (.int (-1000003) :: st), w) := (zE_ (i := .bipush (-1000003)) (by decide +kernel) _ _ _).trans rfl
theorem e15_11 (ls : List Value) (x : Int32) (w : zH) : zrun none (15, 11, ls, [.int x], w) = some (some (.int x), w) := by
  refine (zE_ (i := .ireturn) (by decide +kernel) _ _ _).trans ?_
  show zres (if narrow .int (.int x) = .int x then _ else none) = _
  rw [if_pos (show narrow .int (.int x) = .int x from rfl)]
  rfl
theorem e15_12 (x : Nat) (st : List Value) (w : zH) : zrun none (15, 12, [.ref x], st, w) = zrun none (15, 13, [.ref x], (.ref x :: st), w) := (zE_ (i := .aload_n 0) (by decide +kernel) _ _ _).trans rfl
theorem e15_13 (ls : List Value) (x : Int32) (st : List Value) (w : zH) : zrun none (15, 13, ls, (.int x :: st), w) = zrun none (15, 14, ls, (.int x :: .int x :: st), w) := (zE_ (i := .dup) (by decide +kernel) _ _ _).trans rfl
theorem e15_13r (ls : List Value) (x : Nat) (st : List Value) (w : zH) : zrun none (15, 13, ls, (.ref x :: st), w) = zrun none (15, 14, ls, (.ref x :: .ref x :: st), w) := (zE_ (i := .dup) (by decide +kernel) _ _ _).trans rfl
theorem e15_14 (ls : List Value) (a : Nat) (st : List Value) (w : zH) : zrun none (15, 14, ls, (.ref a :: st), w) = zo (zf w a 302) (fun x => zrun none (15, 17, ls, (x :: st), w)) := (zE_ (i := .getfield 302) (by decide +kernel) _ _ _).trans zq_getf
theorem e15_17 (ls : List Value) (x : Int32) (a : Nat) (st : List Value) (w : zH) : zrun none (15, 17, ls, (.int x :: .ref a :: st), w) = zrun none (15, 18, ls, (.int x :: .ref a :: .int x :: st), w) := (zE_ (i := .dup_x1) (by decide +kernel) _ _ _).trans rfl
theorem e15_18 (ls st : List Value) (w : zH) : zrun none (15, 18, ls, st, w) = zrun none (15, 19, ls, (.int 1 :: st), w) := (zE_ (i := .iconst 1) (by decide +kernel) _ _ _).trans rfl
theorem e15_19 (ls : List Value) (a b : Int32) (st : List Value) (w : zH) : zrun none (15, 19, ls, (.int b :: .int a :: st), w) = zrun none (15, 20, ls, (.int (a + b) :: st), w) := (zE_ (i := .iadd) (by decide +kernel) _ _ _).trans rfl
theorem e15_20 (ls : List Value) (x : Int32) (a : Nat) (st : List Value) (w : zH) : zrun none (15, 20, ls, (.int x :: .ref a :: st), w) = zgd (a < zX ∧ (zf w a 302).isSome = true) (zrun none (15, 23, ls, st, zpf w a 302 (.int x))) := by
  refine (zE_ (i := .putfield 302) (by decide +kernel) _ _ _).trans ?_
  by_cases hg : a < zX ∧ (zf w a 302).isSome = true
  · rw [zgd_pos hg]
    obtain ⟨ha, h⟩ := hg
    exact zq_putf ha h rfl rfl
  · rw [zgd_neg hg]
    exact zq_putf_no (fun h1 h2 h3 => hg ⟨h1, h2⟩)
theorem e15_23 (ls : List Value) (x : Int32) (w : zH) : zrun none (15, 23, ls, [.int x], w) = some (some (.int x), w) := by
  refine (zE_ (i := .ireturn) (by decide +kernel) _ _ _).trans ?_
  show zres (if narrow .int (.int x) = .int x then _ else none) = _
  rw [if_pos (show narrow .int (.int x) = .int x from rfl)]
  rfl
theorem e16_0 (v1 : Value) (x : Nat) (st : List Value) (w : zH) : zrun none (16, 0, [.ref x, v1], st, w) = zrun none (16, 1, [.ref x, v1], (.ref x :: st), w) := (zE_ (i := .aload_n 0) (by decide +kernel) _ _ _).trans rfl
theorem e16_1 (ls : List Value) (a : Nat) (st : List Value) (w : zH) : zrun none (16, 1, ls, (.ref a :: st), w) = zo (zf w a 301) (fun x => zrun none (16, 4, ls, (x :: st), w)) := (zE_ (i := .getfield 301) (by decide +kernel) _ _ _).trans zq_getf
theorem e16_4 (ls st : List Value) (w : zH) : zrun none (16, 4, ls, st, w) = zrun none (16, 6, ls, (.int 30 :: st), w) := (zE_ (i := .bipush 30) (by decide +kernel) _ _ _).trans rfl
theorem e16_6 (ls : List Value) (a b : Int32) (st : List Value) (w : zH) : zrun none (16, 6, ls, (.int b :: .int a :: st), w) = if a < b then zrun none (16, 12, ls, st, w) else zrun none (16, 9, ls, st, w) := (zE_ (i := .if_icmp .lt 6) (by decide +kernel) _ _ _).trans (zq_ic_lt rfl rfl)
theorem e16_9 (ls st : List Value) (w : zH) : zrun none (16, 9, ls, st, w) = zrun none (16, 11, ls, (.int (-1000003) :: st), w) := (zE_ (i := .bipush (-1000003)) (by decide +kernel) _ _ _).trans rfl
theorem e16_11 (ls : List Value) (x : Int32) (w : zH) : zrun none (16, 11, ls, [.int x], w) = some (some (.int x), w) := by
  refine (zE_ (i := .ireturn) (by decide +kernel) _ _ _).trans ?_
  show zres (if narrow .int (.int x) = .int x then _ else none) = _
  rw [if_pos (show narrow .int (.int x) = .int x from rfl)]
  rfl
theorem e16_12 (v1 : Value) (x : Nat) (st : List Value) (w : zH) : zrun none (16, 12, [.ref x, v1], st, w) = zrun none (16, 13, [.ref x, v1], (.ref x :: st), w) := (zE_ (i := .aload_n 0) (by decide +kernel) _ _ _).trans rfl
theorem e16_13 (ls : List Value) (a : Nat) (st : List Value) (w : zH) : zrun none (16, 13, ls, (.ref a :: st), w) = zo (zf w a 300) (fun x => zrun none (16, 16, ls, (x :: st), w)) := (zE_ (i := .getfield 300) (by decide +kernel) _ _ _).trans zq_getf
theorem e16_16 (v1 : Value) (x : Nat) (st : List Value) (w : zH) : zrun none (16, 16, [.ref x, v1], st, w) = zrun none (16, 17, [.ref x, v1], (.ref x :: st), w) := (zE_ (i := .aload_n 0) (by decide +kernel) _ _ _).trans rfl
theorem e16_17 (ls : List Value) (a : Nat) (st : List Value) (w : zH) : zrun none (16, 17, ls, (.ref a :: st), w) = zo (zf w a 301) (fun x => zrun none (16, 20, ls, (x :: st), w)) := (zE_ (i := .getfield 301) (by decide +kernel) _ _ _).trans zq_getf
theorem e16_20 (v0 : Value) (x : Nat) (st : List Value) (w : zH) : zrun none (16, 20, [v0, .ref x], st, w) = zrun none (16, 21, [v0, .ref x], (.ref x :: st), w) := (zE_ (i := .aload_n 1) (by decide +kernel) _ _ _).trans rfl
theorem e16_20n (v0 : Value) (st : List Value) (w : zH) : zrun none (16, 20, [v0, .null], st, w) = zrun none (16, 21, [v0, .null], (.null :: st), w) := (zE_ (i := .aload_n 1) (by decide +kernel) _ _ _).trans rfl
theorem e16_21 (ls : List Value) (v : Value) (j : Int32) (a : Nat) (st : List Value) (w : zH) : zrun none (16, 21, ls, (v :: .int j :: .ref a :: st), w) = zgd (zaq w a j v) (zrun none (16, 22, ls, st, zas w a j v)) := by
  refine (zE_ (i := .aastore) (by decide +kernel) _ _ _).trans ?_
  by_cases hg : zaq w a j v
  · rw [zgd_pos hg]
    obtain ⟨k, h1, h2⟩ := hg
    exact zq_aast h1 h2
  · rw [zgd_neg hg]
    exact zq_aast_no hg
theorem e16_22 (v1 : Value) (x : Nat) (st : List Value) (w : zH) : zrun none (16, 22, [.ref x, v1], st, w) = zrun none (16, 23, [.ref x, v1], (.ref x :: st), w) := (zE_ (i := .aload_n 0) (by decide +kernel) _ _ _).trans rfl
theorem e16_23 (ls : List Value) (x : Int32) (st : List Value) (w : zH) : zrun none (16, 23, ls, (.int x :: st), w) = zrun none (16, 24, ls, (.int x :: .int x :: st), w) := (zE_ (i := .dup) (by decide +kernel) _ _ _).trans rfl
theorem e16_23r (ls : List Value) (x : Nat) (st : List Value) (w : zH) : zrun none (16, 23, ls, (.ref x :: st), w) = zrun none (16, 24, ls, (.ref x :: .ref x :: st), w) := (zE_ (i := .dup) (by decide +kernel) _ _ _).trans rfl
theorem e16_24 (ls : List Value) (a : Nat) (st : List Value) (w : zH) : zrun none (16, 24, ls, (.ref a :: st), w) = zo (zf w a 301) (fun x => zrun none (16, 27, ls, (x :: st), w)) := (zE_ (i := .getfield 301) (by decide +kernel) _ _ _).trans zq_getf
theorem e16_27 (ls st : List Value) (w : zH) : zrun none (16, 27, ls, st, w) = zrun none (16, 28, ls, (.int 1 :: st), w) := (zE_ (i := .iconst 1) (by decide +kernel) _ _ _).trans rfl
theorem e16_28 (ls : List Value) (a b : Int32) (st : List Value) (w : zH) : zrun none (16, 28, ls, (.int b :: .int a :: st), w) = zrun none (16, 29, ls, (.int (a + b) :: st), w) := (zE_ (i := .iadd) (by decide +kernel) _ _ _).trans rfl
theorem e16_29 (ls : List Value) (x : Int32) (a : Nat) (st : List Value) (w : zH) : zrun none (16, 29, ls, (.int x :: .ref a :: st), w) = zgd (a < zX ∧ (zf w a 301).isSome = true) (zrun none (16, 32, ls, st, zpf w a 301 (.int x))) := by
  refine (zE_ (i := .putfield 301) (by decide +kernel) _ _ _).trans ?_
  by_cases hg : a < zX ∧ (zf w a 301).isSome = true
  · rw [zgd_pos hg]
    obtain ⟨ha, h⟩ := hg
    exact zq_putf ha h rfl rfl
  · rw [zgd_neg hg]
    exact zq_putf_no (fun h1 h2 h3 => hg ⟨h1, h2⟩)
theorem e16_32 (v1 : Value) (x : Nat) (st : List Value) (w : zH) : zrun none (16, 32, [.ref x, v1], st, w) = zrun none (16, 33, [.ref x, v1], (.ref x :: st), w) := (zE_ (i := .aload_n 0) (by decide +kernel) _ _ _).trans rfl
theorem e16_33 (ls : List Value) (a : Nat) (st : List Value) (w : zH) : zrun none (16, 33, ls, (.ref a :: st), w) = zo (zf w a 301) (fun x => zrun none (16, 36, ls, (x :: st), w)) := (zE_ (i := .getfield 301) (by decide +kernel) _ _ _).trans zq_getf
theorem e16_36 (ls : List Value) (x : Int32) (w : zH) : zrun none (16, 36, ls, [.int x], w) = some (some (.int x), w) := by
  refine (zE_ (i := .ireturn) (by decide +kernel) _ _ _).trans ?_
  show zres (if narrow .int (.int x) = .int x then _ else none) = _
  rw [if_pos (show narrow .int (.int x) = .int x from rfl)]
  rfl
theorem e17_0 (ls st : List Value) (w : zH) : zrun none (17, 0, ls, st, w) = zrun none (17, 1, ls, (.int (-1) :: st), w) := (zE_ (i := .iconst (-1)) (by decide +kernel) _ _ _).trans rfl
theorem e17_1 (v0 v1 v2 v3 v4 v5 v6 v7 : Value) (x : Int32) (st : List Value) (w : zH) (h : v3.category = 1) : zrun none (17, 1, [v0, v1, v2, v3, v4, v5, v6, v7], (.int x :: st), w) = zrun none (17, 3, [v0, v1, v2, v3, .int x, v5, v6, v7], st, w) := by
  refine (zE_ (i := .istore 4) (by decide +kernel) _ _ _).trans ?_
  have hz : zfree [v0, v1, v2, v3, v4, v5, v6, v7] 4 = true := by show decide (v3.category = 1) = true; exact decide_eq_true h
  show zres (zst zint 4 2 17 1 [v0, v1, v2, v3, v4, v5, v6, v7] (.int x :: st) w) = _
  unfold zst
  dsimp only
  rw [if_pos ⟨rfl, Nat.le_of_ble_eq_true rfl, hz⟩]
  rfl
theorem e17_3 (ls st : List Value) (w : zH) : zrun none (17, 3, ls, st, w) = zrun none (17, 4, ls, (.int 0 :: st), w) := (zE_ (i := .iconst 0) (by decide +kernel) _ _ _).trans rfl
theorem e17_4 (v0 v1 v2 v3 v4 v5 v6 v7 : Value) (x : Int32) (st : List Value) (w : zH) (h : v4.category = 1) : zrun none (17, 4, [v0, v1, v2, v3, v4, v5, v6, v7], (.int x :: st), w) = zrun none (17, 6, [v0, v1, v2, v3, v4, .int x, v6, v7], st, w) := by
  refine (zE_ (i := .istore 5) (by decide +kernel) _ _ _).trans ?_
  have hz : zfree [v0, v1, v2, v3, v4, v5, v6, v7] 5 = true := by show decide (v4.category = 1) = true; exact decide_eq_true h
  show zres (zst zint 5 2 17 4 [v0, v1, v2, v3, v4, v5, v6, v7] (.int x :: st) w) = _
  unfold zst
  dsimp only
  rw [if_pos ⟨rfl, Nat.le_of_ble_eq_true rfl, hz⟩]
  rfl
theorem e17_6 (ls st : List Value) (w : zH) : zrun none (17, 6, ls, st, w) = zrun none (17, 7, ls, (.int 0 :: st), w) := (zE_ (i := .iconst 0) (by decide +kernel) _ _ _).trans rfl
theorem e17_7 (v0 v1 v2 v3 v4 v5 v6 v7 : Value) (x : Int32) (st : List Value) (w : zH) (h : v5.category = 1) : zrun none (17, 7, [v0, v1, v2, v3, v4, v5, v6, v7], (.int x :: st), w) = zrun none (17, 9, [v0, v1, v2, v3, v4, v5, .int x, v7], st, w) := by
  refine (zE_ (i := .istore 6) (by decide +kernel) _ _ _).trans ?_
  have hz : zfree [v0, v1, v2, v3, v4, v5, v6, v7] 6 = true := by show decide (v5.category = 1) = true; exact decide_eq_true h
  show zres (zst zint 6 2 17 7 [v0, v1, v2, v3, v4, v5, v6, v7] (.int x :: st) w) = _
  unfold zst
  dsimp only
  rw [if_pos ⟨rfl, Nat.le_of_ble_eq_true rfl, hz⟩]
  rfl
theorem e17_9 (v0 v1 v2 v3 v4 v5 v7 : Value) (x : Int32) (st : List Value) (w : zH) : zrun none (17, 9, [v0, v1, v2, v3, v4, v5, .int x, v7], st, w) = zrun none (17, 11, [v0, v1, v2, v3, v4, v5, .int x, v7], (.int x :: st), w) := (zE_ (i := .iload 6) (by decide +kernel) _ _ _).trans rfl
theorem e17_11 (v1 v2 v3 v4 v5 v6 v7 : Value) (x : Nat) (st : List Value) (w : zH) : zrun none (17, 11, [.ref x, v1, v2, v3, v4, v5, v6, v7], st, w) = zrun none (17, 12, [.ref x, v1, v2, v3, v4, v5, v6, v7], (.ref x :: st), w) := (zE_ (i := .aload_n 0) (by decide +kernel) _ _ _).trans rfl
theorem e17_12 (ls : List Value) (a : Nat) (st : List Value) (w : zH) : zrun none (17, 12, ls, (.ref a :: st), w) = zo (zf w a 301) (fun x => zrun none (17, 15, ls, (x :: st), w)) := (zE_ (i := .getfield 301) (by decide +kernel) _ _ _).trans zq_getf
theorem e17_15 (ls : List Value) (a b : Int32) (st : List Value) (w : zH) : zrun none (17, 15, ls, (.int b :: .int a :: st), w) = if b ≤ a then zrun none (17, 96, ls, st, w) else zrun none (17, 18, ls, st, w) := (zE_ (i := .if_icmp .ge 81) (by decide +kernel) _ _ _).trans (zq_ic_ge rfl rfl)
theorem e17_18 (v0 v1 v2 v3 v4 v5 v7 : Value) (x : Int32) (st : List Value) (w : zH) : zrun none (17, 18, [v0, v1, v2, v3, v4, v5, .int x, v7], st, w) = zrun none (17, 20, [v0, v1, v2, v3, v4, v5, .int x, v7], (.int x :: st), w) := (zE_ (i := .iload 6) (by decide +kernel) _ _ _).trans rfl
theorem e17_20 (ls st : List Value) (w : zH) : zrun none (17, 20, ls, st, w) = zrun none (17, 22, ls, (.int 30 :: st), w) := (zE_ (i := .bipush 30) (by decide +kernel) _ _ _).trans rfl
theorem e17_22 (ls : List Value) (a b : Int32) (st : List Value) (w : zH) : zrun none (17, 22, ls, (.int b :: .int a :: st), w) = if b ≤ a then zrun none (17, 96, ls, st, w) else zrun none (17, 25, ls, st, w) := (zE_ (i := .if_icmp .ge 74) (by decide +kernel) _ _ _).trans (zq_ic_ge rfl rfl)
theorem e17_25 (v1 v2 v3 v4 v5 v6 v7 : Value) (x : Nat) (st : List Value) (w : zH) : zrun none (17, 25, [.ref x, v1, v2, v3, v4, v5, v6, v7], st, w) = zrun none (17, 26, [.ref x, v1, v2, v3, v4, v5, v6, v7], (.ref x :: st), w) := (zE_ (i := .aload_n 0) (by decide +kernel) _ _ _).trans rfl
theorem e17_26 (ls : List Value) (a : Nat) (st : List Value) (w : zH) : zrun none (17, 26, ls, (.ref a :: st), w) = zo (zf w a 300) (fun x => zrun none (17, 29, ls, (x :: st), w)) := (zE_ (i := .getfield 300) (by decide +kernel) _ _ _).trans zq_getf
theorem e17_29 (v0 v1 v2 v3 v4 v5 v7 : Value) (x : Int32) (st : List Value) (w : zH) : zrun none (17, 29, [v0, v1, v2, v3, v4, v5, .int x, v7], st, w) = zrun none (17, 31, [v0, v1, v2, v3, v4, v5, .int x, v7], (.int x :: st), w) := (zE_ (i := .iload 6) (by decide +kernel) _ _ _).trans rfl
theorem e17_31 (ls : List Value) (j : Int32) (a : Nat) (st : List Value) (w : zH) : zrun none (17, 31, ls, (.int j :: .ref a :: st), w) = zo (zaa w a j) (fun x => zrun none (17, 32, ls, (x :: st), w)) := (zE_ (i := .aaload) (by decide +kernel) _ _ _).trans zq_aald
theorem e17_32 (v0 v1 v2 v3 v4 v5 v6 v7 : Value) (x : Nat) (st : List Value) (w : zH) (h : v6.category = 1) : zrun none (17, 32, [v0, v1, v2, v3, v4, v5, v6, v7], (.ref x :: st), w) = zrun none (17, 34, [v0, v1, v2, v3, v4, v5, v6, .ref x], st, w) := by
  refine (zE_ (i := .astore 7) (by decide +kernel) _ _ _).trans ?_
  have hz : zfree [v0, v1, v2, v3, v4, v5, v6, v7] 7 = true := by show decide (v6.category = 1) = true; exact decide_eq_true h
  show zres (zst zref 7 2 17 32 [v0, v1, v2, v3, v4, v5, v6, v7] (.ref x :: st) w) = _
  unfold zst
  dsimp only
  rw [if_pos ⟨rfl, Nat.le_of_ble_eq_true rfl, hz⟩]
  rfl
theorem e17_32n (v0 v1 v2 v3 v4 v5 v6 v7 : Value) (st : List Value) (w : zH) (h : v6.category = 1) : zrun none (17, 32, [v0, v1, v2, v3, v4, v5, v6, v7], (.null :: st), w) = zrun none (17, 34, [v0, v1, v2, v3, v4, v5, v6, .null], st, w) := by
  refine (zE_ (i := .astore 7) (by decide +kernel) _ _ _).trans ?_
  have hz : zfree [v0, v1, v2, v3, v4, v5, v6, v7] 7 = true := by show decide (v6.category = 1) = true; exact decide_eq_true h
  show zres (zst zref 7 2 17 32 [v0, v1, v2, v3, v4, v5, v6, v7] (.null :: st) w) = _
  unfold zst
  dsimp only
  rw [if_pos ⟨rfl, Nat.le_of_ble_eq_true rfl, hz⟩]
  rfl
theorem e17_34 (v0 v1 v2 v3 v4 v5 v6 : Value) (x : Nat) (st : List Value) (w : zH) : zrun none (17, 34, [v0, v1, v2, v3, v4, v5, v6, .ref x], st, w) = zrun none (17, 36, [v0, v1, v2, v3, v4, v5, v6, .ref x], (.ref x :: st), w) := (zE_ (i := .aload 7) (by decide +kernel) _ _ _).trans rfl
theorem e17_34n (v0 v1 v2 v3 v4 v5 v6 : Value) (st : List Value) (w : zH) : zrun none (17, 34, [v0, v1, v2, v3, v4, v5, v6, .null], st, w) = zrun none (17, 36, [v0, v1, v2, v3, v4, v5, v6, .null], (.null :: st), w) := (zE_ (i := .aload 7) (by decide +kernel) _ _ _).trans rfl
theorem e17_36n (ls st : List Value) (w : zH) : zrun none (17, 36, ls, (.null :: st), w) = zrun none (17, 90, ls, st, w) := (zE_ (i := .ifnull 54) (by decide +kernel) _ _ _).trans rfl
theorem e17_36 (ls : List Value) (a : Nat) (st : List Value) (w : zH) (h : a < zX) : zrun none (17, 36, ls, (.ref a :: st), w) = zrun none (17, 39, ls, st, w) := by
  refine (zE_ (i := .ifnull 54) (by decide +kernel) _ _ _).trans ?_
  simp only [zI, if_pos h]
  rfl
theorem e17_39 (v0 v1 v2 v3 v4 v5 v6 : Value) (x : Nat) (st : List Value) (w : zH) : zrun none (17, 39, [v0, v1, v2, v3, v4, v5, v6, .ref x], st, w) = zrun none (17, 41, [v0, v1, v2, v3, v4, v5, v6, .ref x], (.ref x :: st), w) := (zE_ (i := .aload 7) (by decide +kernel) _ _ _).trans rfl
theorem e17_39n (v0 v1 v2 v3 v4 v5 v6 : Value) (st : List Value) (w : zH) : zrun none (17, 39, [v0, v1, v2, v3, v4, v5, v6, .null], st, w) = zrun none (17, 41, [v0, v1, v2, v3, v4, v5, v6, .null], (.null :: st), w) := (zE_ (i := .aload 7) (by decide +kernel) _ _ _).trans rfl
theorem e17_41 (ls : List Value) (a : Nat) (st : List Value) (w : zH) : zrun none (17, 41, ls, (.ref a :: st), w) = zo (zf w a 500) (fun x => zrun none (17, 44, ls, (x :: st), w)) := (zE_ (i := .getfield 500) (by decide +kernel) _ _ _).trans zq_getf
theorem e17_44 (v0 v2 v3 v4 v5 v6 v7 : Value) (x : Int32) (st : List Value) (w : zH) : zrun none (17, 44, [v0, .int x, v2, v3, v4, v5, v6, v7], st, w) = zrun none (17, 45, [v0, .int x, v2, v3, v4, v5, v6, v7], (.int x :: st), w) := (zE_ (i := .iload_n 1) (by decide +kernel) _ _ _).trans rfl
theorem e17_45 (ls : List Value) (a b : Int32) (st : List Value) (w : zH) : zrun none (17, 45, ls, (.int b :: .int a :: st), w) = if a = b then zrun none (17, 48, ls, st, w) else zrun none (17, 90, ls, st, w) := (zE_ (i := .if_icmp .ne 45) (by decide +kernel) _ _ _).trans (zq_ic_ne rfl rfl)
theorem e17_48 (v0 v1 v2 v3 v4 v5 v6 : Value) (x : Nat) (st : List Value) (w : zH) : zrun none (17, 48, [v0, v1, v2, v3, v4, v5, v6, .ref x], st, w) = zrun none (17, 50, [v0, v1, v2, v3, v4, v5, v6, .ref x], (.ref x :: st), w) := (zE_ (i := .aload 7) (by decide +kernel) _ _ _).trans rfl
theorem e17_48n (v0 v1 v2 v3 v4 v5 v6 : Value) (st : List Value) (w : zH) : zrun none (17, 48, [v0, v1, v2, v3, v4, v5, v6, .null], st, w) = zrun none (17, 50, [v0, v1, v2, v3, v4, v5, v6, .null], (.null :: st), w) := (zE_ (i := .aload 7) (by decide +kernel) _ _ _).trans rfl
theorem e17_50 (ls : List Value) (a : Nat) (st : List Value) (w : zH) : zrun none (17, 50, ls, (.ref a :: st), w) = zo (zf w a 503) (fun x => zrun none (17, 53, ls, (x :: st), w)) := (zE_ (i := .getfield 503) (by decide +kernel) _ _ _).trans zq_getf
theorem e17_53 (v0 v1 v2 v4 v5 v6 v7 : Value) (x : Int32) (st : List Value) (w : zH) : zrun none (17, 53, [v0, v1, v2, .int x, v4, v5, v6, v7], st, w) = zrun none (17, 54, [v0, v1, v2, .int x, v4, v5, v6, v7], (.int x :: st), w) := (zE_ (i := .iload_n 3) (by decide +kernel) _ _ _).trans rfl
theorem e17_54 (ls : List Value) (a b : Int32) (st : List Value) (w : zH) : zrun none (17, 54, ls, (.int b :: .int a :: st), w) = if b < a then zrun none (17, 90, ls, st, w) else zrun none (17, 57, ls, st, w) := (zE_ (i := .if_icmp .gt 36) (by decide +kernel) _ _ _).trans (zq_ic_gt rfl rfl)
theorem e17_57 (v0 v1 v2 v3 v4 v5 v6 : Value) (x : Nat) (st : List Value) (w : zH) : zrun none (17, 57, [v0, v1, v2, v3, v4, v5, v6, .ref x], st, w) = zrun none (17, 59, [v0, v1, v2, v3, v4, v5, v6, .ref x], (.ref x :: st), w) := (zE_ (i := .aload 7) (by decide +kernel) _ _ _).trans rfl
theorem e17_57n (v0 v1 v2 v3 v4 v5 v6 : Value) (st : List Value) (w : zH) : zrun none (17, 57, [v0, v1, v2, v3, v4, v5, v6, .null], st, w) = zrun none (17, 59, [v0, v1, v2, v3, v4, v5, v6, .null], (.null :: st), w) := (zE_ (i := .aload 7) (by decide +kernel) _ _ _).trans rfl
theorem e17_59 (ls : List Value) (a : Nat) (st : List Value) (w : zH) : zrun none (17, 59, ls, (.ref a :: st), w) = zo (zf w a 502) (fun x => zrun none (17, 62, ls, (x :: st), w)) := (zE_ (i := .getfield 502) (by decide +kernel) _ _ _).trans zq_getf
theorem e17_62 (v0 v1 v3 v4 v5 v6 v7 : Value) (x : Int32) (st : List Value) (w : zH) : zrun none (17, 62, [v0, v1, .int x, v3, v4, v5, v6, v7], st, w) = zrun none (17, 63, [v0, v1, .int x, v3, v4, v5, v6, v7], (.int x :: st), w) := (zE_ (i := .iload_n 2) (by decide +kernel) _ _ _).trans rfl
theorem e17_63 (ls : List Value) (a b : Int32) (st : List Value) (w : zH) : zrun none (17, 63, ls, (.int b :: .int a :: st), w) = if b < a then zrun none (17, 90, ls, st, w) else zrun none (17, 66, ls, st, w) := (zE_ (i := .if_icmp .gt 27) (by decide +kernel) _ _ _).trans (zq_ic_gt rfl rfl)
theorem e17_66 (v0 v1 v2 v3 v4 v5 v6 : Value) (x : Nat) (st : List Value) (w : zH) : zrun none (17, 66, [v0, v1, v2, v3, v4, v5, v6, .ref x], st, w) = zrun none (17, 68, [v0, v1, v2, v3, v4, v5, v6, .ref x], (.ref x :: st), w) := (zE_ (i := .aload 7) (by decide +kernel) _ _ _).trans rfl
theorem e17_66n (v0 v1 v2 v3 v4 v5 v6 : Value) (st : List Value) (w : zH) : zrun none (17, 66, [v0, v1, v2, v3, v4, v5, v6, .null], st, w) = zrun none (17, 68, [v0, v1, v2, v3, v4, v5, v6, .null], (.null :: st), w) := (zE_ (i := .aload 7) (by decide +kernel) _ _ _).trans rfl
theorem e17_68 (ls : List Value) (a : Nat) (st : List Value) (w : zH) : zrun none (17, 68, ls, (.ref a :: st), w) = zo (zf w a 502) (fun x => zrun none (17, 71, ls, (x :: st), w)) := (zE_ (i := .getfield 502) (by decide +kernel) _ _ _).trans zq_getf
theorem e17_71 (v0 v1 v2 v3 v5 v6 v7 : Value) (x : Int32) (st : List Value) (w : zH) : zrun none (17, 71, [v0, v1, v2, v3, .int x, v5, v6, v7], st, w) = zrun none (17, 73, [v0, v1, v2, v3, .int x, v5, v6, v7], (.int x :: st), w) := (zE_ (i := .iload 4) (by decide +kernel) _ _ _).trans rfl
theorem e17_73 (ls : List Value) (a b : Int32) (st : List Value) (w : zH) : zrun none (17, 73, ls, (.int b :: .int a :: st), w) = if a < b then zrun none (17, 90, ls, st, w) else zrun none (17, 76, ls, st, w) := (zE_ (i := .if_icmp .lt 17) (by decide +kernel) _ _ _).trans (zq_ic_lt rfl rfl)
theorem e17_76 (v0 v1 v2 v3 v4 v5 v6 : Value) (x : Nat) (st : List Value) (w : zH) : zrun none (17, 76, [v0, v1, v2, v3, v4, v5, v6, .ref x], st, w) = zrun none (17, 78, [v0, v1, v2, v3, v4, v5, v6, .ref x], (.ref x :: st), w) := (zE_ (i := .aload 7) (by decide +kernel) _ _ _).trans rfl
theorem e17_76n (v0 v1 v2 v3 v4 v5 v6 : Value) (st : List Value) (w : zH) : zrun none (17, 76, [v0, v1, v2, v3, v4, v5, v6, .null], st, w) = zrun none (17, 78, [v0, v1, v2, v3, v4, v5, v6, .null], (.null :: st), w) := (zE_ (i := .aload 7) (by decide +kernel) _ _ _).trans rfl
theorem e17_78 (ls : List Value) (a : Nat) (st : List Value) (w : zH) : zrun none (17, 78, ls, (.ref a :: st), w) = zo (zf w a 502) (fun x => zrun none (17, 81, ls, (x :: st), w)) := (zE_ (i := .getfield 502) (by decide +kernel) _ _ _).trans zq_getf
theorem e17_81 (v0 v1 v2 v3 v4 v5 v6 v7 : Value) (x : Int32) (st : List Value) (w : zH) (h : v3.category = 1) : zrun none (17, 81, [v0, v1, v2, v3, v4, v5, v6, v7], (.int x :: st), w) = zrun none (17, 83, [v0, v1, v2, v3, .int x, v5, v6, v7], st, w) := by
  refine (zE_ (i := .istore 4) (by decide +kernel) _ _ _).trans ?_
  have hz : zfree [v0, v1, v2, v3, v4, v5, v6, v7] 4 = true := by show decide (v3.category = 1) = true; exact decide_eq_true h
  show zres (zst zint 4 2 17 81 [v0, v1, v2, v3, v4, v5, v6, v7] (.int x :: st) w) = _
  unfold zst
  dsimp only
  rw [if_pos ⟨rfl, Nat.le_of_ble_eq_true rfl, hz⟩]
  rfl
theorem e17_83 (v0 v1 v2 v3 v4 v5 v6 : Value) (x : Nat) (st : List Value) (w : zH) : zrun none (17, 83, [v0, v1, v2, v3, v4, v5, v6, .ref x], st, w) = zrun none (17, 85, [v0, v1, v2, v3, v4, v5, v6, .ref x], (.ref x :: st), w) := (zE_ (i := .aload 7) (by decide +kernel) _ _ _).trans rfl
theorem e17_83n (v0 v1 v2 v3 v4 v5 v6 : Value) (st : List Value) (w : zH) : zrun none (17, 83, [v0, v1, v2, v3, v4, v5, v6, .null], st, w) = zrun none (17, 85, [v0, v1, v2, v3, v4, v5, v6, .null], (.null :: st), w) := (zE_ (i := .aload 7) (by decide +kernel) _ _ _).trans rfl
theorem e17_85 (ls : List Value) (a : Nat) (st : List Value) (w : zH) : zrun none (17, 85, ls, (.ref a :: st), w) = zo (zf w a 501) (fun x => zrun none (17, 88, ls, (x :: st), w)) := (zE_ (i := .getfield 501) (by decide +kernel) _ _ _).trans zq_getf
theorem e17_88 (v0 v1 v2 v3 v4 v5 v6 v7 : Value) (x : Int32) (st : List Value) (w : zH) (h : v4.category = 1) : zrun none (17, 88, [v0, v1, v2, v3, v4, v5, v6, v7], (.int x :: st), w) = zrun none (17, 90, [v0, v1, v2, v3, v4, .int x, v6, v7], st, w) := by
  refine (zE_ (i := .istore 5) (by decide +kernel) _ _ _).trans ?_
  have hz : zfree [v0, v1, v2, v3, v4, v5, v6, v7] 5 = true := by show decide (v4.category = 1) = true; exact decide_eq_true h
  show zres (zst zint 5 2 17 88 [v0, v1, v2, v3, v4, v5, v6, v7] (.int x :: st) w) = _
  unfold zst
  dsimp only
  rw [if_pos ⟨rfl, Nat.le_of_ble_eq_true rfl, hz⟩]
  rfl
theorem e17_90 (v0 v1 v2 v3 v4 v5 v7 : Value) (x : Int32) (st : List Value) (w : zH) : zrun none (17, 90, [v0, v1, v2, v3, v4, v5, .int x, v7], st, w) = zrun none (17, 93, [v0, v1, v2, v3, v4, v5, .int (x + 1), v7], st, w) := (zE_ (i := .iinc 6 1) (by decide +kernel) _ _ _).trans rfl
theorem e17_93 (ls st : List Value) (w : zH) : zrun none (17, 93, ls, st, w) = zrun none (17, 9, ls, st, w) := (zE_ (i := .goto (-84)) (by decide +kernel) _ _ _).trans rfl
theorem e17_96 (v0 v1 v2 v3 v4 v6 v7 : Value) (x : Int32) (st : List Value) (w : zH) : zrun none (17, 96, [v0, v1, v2, v3, v4, .int x, v6, v7], st, w) = zrun none (17, 98, [v0, v1, v2, v3, v4, .int x, v6, v7], (.int x :: st), w) := (zE_ (i := .iload 5) (by decide +kernel) _ _ _).trans rfl
theorem e17_98 (ls : List Value) (x : Int32) (w : zH) : zrun none (17, 98, ls, [.int x], w) = some (some (.int x), w) := by
  refine (zE_ (i := .ireturn) (by decide +kernel) _ _ _).trans ?_
  show zres (if narrow .int (.int x) = .int x then _ else none) = _
  rw [if_pos (show narrow .int (.int x) = .int x from rfl)]
  rfl
theorem e18_0 (v1 v2 v3 v4 v5 : Value) (x : Nat) (st : List Value) (w : zH) : zrun none (18, 0, [.ref x, v1, v2, v3, v4, v5], st, w) = zrun none (18, 1, [.ref x, v1, v2, v3, v4, v5], (.ref x :: st), w) := (zE_ (i := .aload_n 0) (by decide +kernel) _ _ _).trans rfl
theorem e18_1 (ls : List Value) (a : Nat) (st : List Value) (w : zH) (h : a < zX) (hr : zcat st ≤ 8) : zrun none (18, 1, ls, (.ref a :: st), w) = zrun none (18, 4, ls, st, w) := by
  refine (zE_ (i := .invokespecial 998) (by decide +kernel) _ _ _).trans ?_
  simp only [zI, if_true]
  rw [if_pos ⟨hr, h⟩]
  rfl
theorem e18_4 (v1 v2 v3 v4 v5 : Value) (x : Nat) (st : List Value) (w : zH) : zrun none (18, 4, [.ref x, v1, v2, v3, v4, v5], st, w) = zrun none (18, 5, [.ref x, v1, v2, v3, v4, v5], (.ref x :: st), w) := (zE_ (i := .aload_n 0) (by decide +kernel) _ _ _).trans rfl
theorem e18_5 (ls st : List Value) (w : zH) : zrun none (18, 5, ls, st, w) = zrun none (18, 7, ls, (.int 8 :: st), w) := (zE_ (i := .bipush 8) (by decide +kernel) _ _ _).trans rfl
theorem e18_7 (ls : List Value) (n : Int32) (st : List Value) (w : zH) (h0 : ¬ n < 0 ∧ n ≤ 65536) (h : w.length + 1 < zX) : zrun none (18, 7, ls, (.int n :: st), w) = zrun none (18, 9, ls, (.ref w.length :: st), w ++ [(100, List.replicate n.toNatClampNeg (.int 0))]) := by
  refine (zE_ (i := .newarray .int) (by decide +kernel) _ _ _).trans ?_
  simp only [zI]
  unfold znwa
  dsimp only
  rw [if_pos h0]
  unfold znw
  rw [if_pos h]
  rfl
theorem e18_9 (ls : List Value) (x : Nat) (a : Nat) (st : List Value) (w : zH) : zrun none (18, 9, ls, (.ref x :: .ref a :: st), w) = zgd (a < zX ∧ (zf w a 405).isSome = true) (zrun none (18, 12, ls, st, zpf w a 405 (.ref x))) := by
  refine (zE_ (i := .putfield 405) (by decide +kernel) _ _ _).trans ?_
  by_cases hg : a < zX ∧ (zf w a 405).isSome = true
  · rw [zgd_pos hg]
    obtain ⟨ha, h⟩ := hg
    exact zq_putf ha h rfl rfl
  · rw [zgd_neg hg]
    exact zq_putf_no (fun h1 h2 h3 => hg ⟨h1, h2⟩)
theorem e18_12 (v1 v2 v3 v4 v5 : Value) (x : Nat) (st : List Value) (w : zH) : zrun none (18, 12, [.ref x, v1, v2, v3, v4, v5], st, w) = zrun none (18, 13, [.ref x, v1, v2, v3, v4, v5], (.ref x :: st), w) := (zE_ (i := .aload_n 0) (by decide +kernel) _ _ _).trans rfl
theorem e18_13 (v0 v2 v3 v4 v5 : Value) (x : Int32) (st : List Value) (w : zH) : zrun none (18, 13, [v0, .int x, v2, v3, v4, v5], st, w) = zrun none (18, 14, [v0, .int x, v2, v3, v4, v5], (.int x :: st), w) := (zE_ (i := .iload_n 1) (by decide +kernel) _ _ _).trans rfl
theorem e18_14 (ls : List Value) (x : Int32) (a : Nat) (st : List Value) (w : zH) : zrun none (18, 14, ls, (.int x :: .ref a :: st), w) = zgd (a < zX ∧ (zf w a 400).isSome = true) (zrun none (18, 17, ls, st, zpf w a 400 (.int x))) := by
  refine (zE_ (i := .putfield 400) (by decide +kernel) _ _ _).trans ?_
  by_cases hg : a < zX ∧ (zf w a 400).isSome = true
  · rw [zgd_pos hg]
    obtain ⟨ha, h⟩ := hg
    exact zq_putf ha h rfl rfl
  · rw [zgd_neg hg]
    exact zq_putf_no (fun h1 h2 h3 => hg ⟨h1, h2⟩)
theorem e18_17 (v1 v2 v3 v4 v5 : Value) (x : Nat) (st : List Value) (w : zH) : zrun none (18, 17, [.ref x, v1, v2, v3, v4, v5], st, w) = zrun none (18, 18, [.ref x, v1, v2, v3, v4, v5], (.ref x :: st), w) := (zE_ (i := .aload_n 0) (by decide +kernel) _ _ _).trans rfl
theorem e18_18 (v0 v1 v3 v4 v5 : Value) (x : Int32) (st : List Value) (w : zH) : zrun none (18, 18, [v0, v1, .int x, v3, v4, v5], st, w) = zrun none (18, 19, [v0, v1, .int x, v3, v4, v5], (.int x :: st), w) := (zE_ (i := .iload_n 2) (by decide +kernel) _ _ _).trans rfl
theorem e18_19 (ls : List Value) (x : Int32) (a : Nat) (st : List Value) (w : zH) : zrun none (18, 19, ls, (.int x :: .ref a :: st), w) = zgd (a < zX ∧ (zf w a 401).isSome = true) (zrun none (18, 22, ls, st, zpf w a 401 (.int x))) := by
  refine (zE_ (i := .putfield 401) (by decide +kernel) _ _ _).trans ?_
  by_cases hg : a < zX ∧ (zf w a 401).isSome = true
  · rw [zgd_pos hg]
    obtain ⟨ha, h⟩ := hg
    exact zq_putf ha h rfl rfl
  · rw [zgd_neg hg]
    exact zq_putf_no (fun h1 h2 h3 => hg ⟨h1, h2⟩)
theorem e18_22 (v1 v2 v3 v4 v5 : Value) (x : Nat) (st : List Value) (w : zH) : zrun none (18, 22, [.ref x, v1, v2, v3, v4, v5], st, w) = zrun none (18, 23, [.ref x, v1, v2, v3, v4, v5], (.ref x :: st), w) := (zE_ (i := .aload_n 0) (by decide +kernel) _ _ _).trans rfl
theorem e18_23 (v0 v1 v2 v4 v5 : Value) (x : Int32) (st : List Value) (w : zH) : zrun none (18, 23, [v0, v1, v2, .int x, v4, v5], st, w) = zrun none (18, 24, [v0, v1, v2, .int x, v4, v5], (.int x :: st), w) := (zE_ (i := .iload_n 3) (by decide +kernel) _ _ _).trans rfl
theorem e18_24 (ls : List Value) (x : Int32) (a : Nat) (st : List Value) (w : zH) : zrun none (18, 24, ls, (.int x :: .ref a :: st), w) = zgd (a < zX ∧ (zf w a 402).isSome = true) (zrun none (18, 27, ls, st, zpf w a 402 (.int x))) := by
  refine (zE_ (i := .putfield 402) (by decide +kernel) _ _ _).trans ?_
  by_cases hg : a < zX ∧ (zf w a 402).isSome = true
  · rw [zgd_pos hg]
    obtain ⟨ha, h⟩ := hg
    exact zq_putf ha h rfl rfl
  · rw [zgd_neg hg]
    exact zq_putf_no (fun h1 h2 h3 => hg ⟨h1, h2⟩)
theorem e18_27 (v1 v2 v3 v4 v5 : Value) (x : Nat) (st : List Value) (w : zH) : zrun none (18, 27, [.ref x, v1, v2, v3, v4, v5], st, w) = zrun none (18, 28, [.ref x, v1, v2, v3, v4, v5], (.ref x :: st), w) := (zE_ (i := .aload_n 0) (by decide +kernel) _ _ _).trans rfl
theorem e18_28 (v0 v1 v2 v3 v5 : Value) (x : Int32) (st : List Value) (w : zH) : zrun none (18, 28, [v0, v1, v2, v3, .int x, v5], st, w) = zrun none (18, 30, [v0, v1, v2, v3, .int x, v5], (.int x :: st), w) := (zE_ (i := .iload 4) (by decide +kernel) _ _ _).trans rfl
theorem e18_30 (ls : List Value) (x : Int32) (a : Nat) (st : List Value) (w : zH) : zrun none (18, 30, ls, (.int x :: .ref a :: st), w) = zgd (a < zX ∧ (zf w a 403).isSome = true) (zrun none (18, 33, ls, st, zpf w a 403 (.int x))) := by
  refine (zE_ (i := .putfield 403) (by decide +kernel) _ _ _).trans ?_
  by_cases hg : a < zX ∧ (zf w a 403).isSome = true
  · rw [zgd_pos hg]
    obtain ⟨ha, h⟩ := hg
    exact zq_putf ha h rfl rfl
  · rw [zgd_neg hg]
    exact zq_putf_no (fun h1 h2 h3 => hg ⟨h1, h2⟩)
theorem e18_33 (v1 v2 v3 v4 v5 : Value) (x : Nat) (st : List Value) (w : zH) : zrun none (18, 33, [.ref x, v1, v2, v3, v4, v5], st, w) = zrun none (18, 34, [.ref x, v1, v2, v3, v4, v5], (.ref x :: st), w) := (zE_ (i := .aload_n 0) (by decide +kernel) _ _ _).trans rfl
theorem e18_34 (v0 v1 v2 v3 v4 : Value) (x : Int32) (st : List Value) (w : zH) : zrun none (18, 34, [v0, v1, v2, v3, v4, .int x], st, w) = zrun none (18, 36, [v0, v1, v2, v3, v4, .int x], (.int x :: st), w) := (zE_ (i := .iload 5) (by decide +kernel) _ _ _).trans rfl
theorem e18_36 (ls : List Value) (x : Int32) (a : Nat) (st : List Value) (w : zH) : zrun none (18, 36, ls, (.int x :: .ref a :: st), w) = zgd (a < zX ∧ (zf w a 404).isSome = true) (zrun none (18, 39, ls, st, zpf w a 404 (.int x))) := by
  refine (zE_ (i := .putfield 404) (by decide +kernel) _ _ _).trans ?_
  by_cases hg : a < zX ∧ (zf w a 404).isSome = true
  · rw [zgd_pos hg]
    obtain ⟨ha, h⟩ := hg
    exact zq_putf ha h rfl rfl
  · rw [zgd_neg hg]
    exact zq_putf_no (fun h1 h2 h3 => hg ⟨h1, h2⟩)
theorem e18_39 (ls : List Value) (w : zH) : zrun none (18, 39, ls, [], w) = some (none, w) := (zE_ (i := .return_) (by decide +kernel) _ _ _).trans rfl
theorem e19_0 (v0 v2 : Value) (x : Int32) (st : List Value) (w : zH) : zrun none (19, 0, [v0, .int x, v2], st, w) = zrun none (19, 1, [v0, .int x, v2], (.int x :: st), w) := (zE_ (i := .iload_n 1) (by decide +kernel) _ _ _).trans rfl
theorem e19_1 (ls : List Value) (x0 : Int32) (st : List Value) (w : zH) (hr : zcat st ≤ 8) : zrun none (19, 1, ls, (.int x0 :: st), w) = zcl (zrun none (104, 0, [.int x0], [], w)) (fun r => zrun none (19, 4, ls, r.1.toList ++ st, r.2)) := by
  refine (zE_ (i := .invokestatic 104) (by decide +kernel) _ _ _).trans ?_
  show zres (if (99 : Nat) = 99 ∧ 1 ≤ ((.int x0 :: st) : List Value).length then zcall 104 [.int x0] st 19 1 ls w else none) = _
  rw [if_pos ⟨rfl, by simp⟩]
  exact zq_call hr (Nat.le_of_ble_eq_true rfl) rfl rfl
theorem e19_4 (ls : List Value) (a : Int32) (st : List Value) (w : zH) : zrun none (19, 4, ls, (.int a :: st), w) = if a = 0 then zrun none (19, 26, ls, st, w) else zrun none (19, 7, ls, st, w) := (zE_ (i := .ifCond .eq 22) (by decide +kernel) _ _ _).trans (zq_if_eq rfl rfl)
theorem e19_7 (v1 v2 : Value) (x : Nat) (st : List Value) (w : zH) : zrun none (19, 7, [.ref x, v1, v2], st, w) = zrun none (19, 8, [.ref x, v1, v2], (.ref x :: st), w) := (zE_ (i := .aload_n 0) (by decide +kernel) _ _ _).trans rfl
theorem e19_8 (ls : List Value) (a : Nat) (st : List Value) (w : zH) : zrun none (19, 8, ls, (.ref a :: st), w) = zo (zf w a 405) (fun x => zrun none (19, 11, ls, (x :: st), w)) := (zE_ (i := .getfield 405) (by decide +kernel) _ _ _).trans zq_getf
theorem e19_11 (v0 v2 : Value) (x : Int32) (st : List Value) (w : zH) : zrun none (19, 11, [v0, .int x, v2], st, w) = zrun none (19, 12, [v0, .int x, v2], (.int x :: st), w) := (zE_ (i := .iload_n 1) (by decide +kernel) _ _ _).trans rfl
theorem e19_12 (v0 v1 : Value) (x : Int32) (st : List Value) (w : zH) : zrun none (19, 12, [v0, v1, .int x], st, w) = zrun none (19, 13, [v0, v1, .int x], (.int x :: st), w) := (zE_ (i := .iload_n 2) (by decide +kernel) _ _ _).trans rfl
theorem e19_13 (ls : List Value) (x j : Int32) (a : Nat) (st : List Value) (w : zH) : zrun none (19, 13, ls, (.int x :: .int j :: .ref a :: st), w) = zgd (zin? w a 100 j) (zrun none (19, 14, ls, st, zas w a j (.int x))) := by
  refine (zE_ (i := .iastore) (by decide +kernel) _ _ _).trans ?_
  by_cases hg : zin? w a 100 j
  · rw [zgd_pos hg]
    exact zq_iast hg
  · rw [zgd_neg hg]
    exact zq_iast_no hg
theorem e19_14 (v1 v2 : Value) (x : Nat) (st : List Value) (w : zH) : zrun none (19, 14, [.ref x, v1, v2], st, w) = zrun none (19, 15, [.ref x, v1, v2], (.ref x :: st), w) := (zE_ (i := .aload_n 0) (by decide +kernel) _ _ _).trans rfl
theorem e19_15 (ls : List Value) (x : Int32) (st : List Value) (w : zH) : zrun none (19, 15, ls, (.int x :: st), w) = zrun none (19, 16, ls, (.int x :: .int x :: st), w) := (zE_ (i := .dup) (by decide +kernel) _ _ _).trans rfl
theorem e19_15r (ls : List Value) (x : Nat) (st : List Value) (w : zH) : zrun none (19, 15, ls, (.ref x :: st), w) = zrun none (19, 16, ls, (.ref x :: .ref x :: st), w) := (zE_ (i := .dup) (by decide +kernel) _ _ _).trans rfl
theorem e19_16 (ls : List Value) (a : Nat) (st : List Value) (w : zH) : zrun none (19, 16, ls, (.ref a :: st), w) = zo (zf w a 406) (fun x => zrun none (19, 19, ls, (x :: st), w)) := (zE_ (i := .getfield 406) (by decide +kernel) _ _ _).trans zq_getf
theorem e19_19 (ls st : List Value) (w : zH) : zrun none (19, 19, ls, st, w) = zrun none (19, 20, ls, (.int 1 :: st), w) := (zE_ (i := .iconst 1) (by decide +kernel) _ _ _).trans rfl
theorem e19_20 (v0 v2 : Value) (x : Int32) (st : List Value) (w : zH) : zrun none (19, 20, [v0, .int x, v2], st, w) = zrun none (19, 21, [v0, .int x, v2], (.int x :: st), w) := (zE_ (i := .iload_n 1) (by decide +kernel) _ _ _).trans rfl
theorem e19_21 (ls : List Value) (a b : Int32) (st : List Value) (w : zH) : zrun none (19, 21, ls, (.int b :: .int a :: st), w) = zrun none (19, 22, ls, (.int (a <<< (b &&& 31)) :: st), w) := (zE_ (i := .ishl) (by decide +kernel) _ _ _).trans rfl
theorem e19_22 (ls : List Value) (a b : Int32) (st : List Value) (w : zH) : zrun none (19, 22, ls, (.int b :: .int a :: st), w) = zrun none (19, 23, ls, (.int (a ||| b) :: st), w) := (zE_ (i := .ior) (by decide +kernel) _ _ _).trans rfl
theorem e19_23 (ls : List Value) (x : Int32) (a : Nat) (st : List Value) (w : zH) : zrun none (19, 23, ls, (.int x :: .ref a :: st), w) = zgd (a < zX ∧ (zf w a 406).isSome = true) (zrun none (19, 26, ls, st, zpf w a 406 (.int x))) := by
  refine (zE_ (i := .putfield 406) (by decide +kernel) _ _ _).trans ?_
  by_cases hg : a < zX ∧ (zf w a 406).isSome = true
  · rw [zgd_pos hg]
    obtain ⟨ha, h⟩ := hg
    exact zq_putf ha h rfl rfl
  · rw [zgd_neg hg]
    exact zq_putf_no (fun h1 h2 h3 => hg ⟨h1, h2⟩)
theorem e19_26 (ls : List Value) (w : zH) : zrun none (19, 26, ls, [], w) = some (none, w) := (zE_ (i := .return_) (by decide +kernel) _ _ _).trans rfl
theorem e20_0 (v1 v2 : Value) (x : Nat) (st : List Value) (w : zH) : zrun none (20, 0, [.ref x, v1, v2], st, w) = zrun none (20, 1, [.ref x, v1, v2], (.ref x :: st), w) := (zE_ (i := .aload_n 0) (by decide +kernel) _ _ _).trans rfl
theorem e20_1 (ls : List Value) (a : Nat) (st : List Value) (w : zH) : zrun none (20, 1, ls, (.ref a :: st), w) = zo (zf w a 406) (fun x => zrun none (20, 4, ls, (x :: st), w)) := (zE_ (i := .getfield 406) (by decide +kernel) _ _ _).trans zq_getf
theorem e20_4 (v1 v2 : Value) (x : Nat) (st : List Value) (w : zH) : zrun none (20, 4, [.ref x, v1, v2], st, w) = zrun none (20, 5, [.ref x, v1, v2], (.ref x :: st), w) := (zE_ (i := .aload_n 0) (by decide +kernel) _ _ _).trans rfl
theorem e20_5 (ls : List Value) (a : Nat) (st : List Value) (w : zH) : zrun none (20, 5, ls, (.ref a :: st), w) = zo (zf w a 404) (fun x => zrun none (20, 8, ls, (x :: st), w)) := (zE_ (i := .getfield 404) (by decide +kernel) _ _ _).trans zq_getf
theorem e20_8 (ls : List Value) (a b : Int32) (st : List Value) (w : zH) : zrun none (20, 8, ls, (.int b :: .int a :: st), w) = if a = b then zrun none (20, 13, ls, st, w) else zrun none (20, 11, ls, st, w) := (zE_ (i := .if_icmp .eq 5) (by decide +kernel) _ _ _).trans (zq_ic_eq rfl rfl)
theorem e20_11 (ls st : List Value) (w : zH) : zrun none (20, 11, ls, st, w) = zrun none (20, 12, ls, (.int 0 :: st), w) := (zE_ (i := .iconst 0) (by decide +kernel) _ _ _).trans rfl
theorem e20_12 (ls : List Value) (x : Int32) (w : zH) (h : narrow .boolean (.int x) = .int x) : zrun none (20, 12, ls, [.int x], w) = some (some (.int x), w) := by
  refine (zE_ (i := .ireturn) (by decide +kernel) _ _ _).trans ?_
  show zres (if narrow .boolean (.int x) = .int x then _ else none) = _
  rw [if_pos h]
  rfl
theorem e20_13 (ls st : List Value) (w : zH) : zrun none (20, 13, ls, st, w) = zrun none (20, 14, ls, (.int 0 :: st), w) := (zE_ (i := .iconst 0) (by decide +kernel) _ _ _).trans rfl
theorem e20_14 (v0 v1 v2 : Value) (x : Int32) (st : List Value) (w : zH) (h : v1.category = 1) : zrun none (20, 14, [v0, v1, v2], (.int x :: st), w) = zrun none (20, 15, [v0, v1, .int x], st, w) := by
  refine (zE_ (i := .istore_n 2) (by decide +kernel) _ _ _).trans ?_
  have hz : zfree [v0, v1, v2] 2 = true := by show decide (v1.category = 1) = true; exact decide_eq_true h
  show zres (zst zint 2 1 20 14 [v0, v1, v2] (.int x :: st) w) = _
  unfold zst
  dsimp only
  rw [if_pos ⟨rfl, Nat.le_of_ble_eq_true rfl, hz⟩]
  rfl
theorem e20_15 (v0 v1 : Value) (x : Int32) (st : List Value) (w : zH) : zrun none (20, 15, [v0, v1, .int x], st, w) = zrun none (20, 16, [v0, v1, .int x], (.int x :: st), w) := (zE_ (i := .iload_n 2) (by decide +kernel) _ _ _).trans rfl
theorem e20_16 (ls st : List Value) (w : zH) : zrun none (20, 16, ls, st, w) = zrun none (20, 18, ls, (.int 8 :: st), w) := (zE_ (i := .bipush 8) (by decide +kernel) _ _ _).trans rfl
theorem e20_18 (ls : List Value) (a b : Int32) (st : List Value) (w : zH) : zrun none (20, 18, ls, (.int b :: .int a :: st), w) = if b ≤ a then zrun none (20, 50, ls, st, w) else zrun none (20, 21, ls, st, w) := (zE_ (i := .if_icmp .ge 32) (by decide +kernel) _ _ _).trans (zq_ic_ge rfl rfl)
theorem e20_21 (v1 v2 : Value) (x : Nat) (st : List Value) (w : zH) : zrun none (20, 21, [.ref x, v1, v2], st, w) = zrun none (20, 22, [.ref x, v1, v2], (.ref x :: st), w) := (zE_ (i := .aload_n 0) (by decide +kernel) _ _ _).trans rfl
theorem e20_22 (ls : List Value) (a : Nat) (st : List Value) (w : zH) : zrun none (20, 22, ls, (.ref a :: st), w) = zo (zf w a 404) (fun x => zrun none (20, 25, ls, (x :: st), w)) := (zE_ (i := .getfield 404) (by decide +kernel) _ _ _).trans zq_getf
theorem e20_25 (v0 v1 : Value) (x : Int32) (st : List Value) (w : zH) : zrun none (20, 25, [v0, v1, .int x], st, w) = zrun none (20, 26, [v0, v1, .int x], (.int x :: st), w) := (zE_ (i := .iload_n 2) (by decide +kernel) _ _ _).trans rfl
theorem e20_26 (ls : List Value) (x0 : Int32) (x1 : Int32) (st : List Value) (w : zH) (hr : zcat st ≤ 8) : zrun none (20, 26, ls, (.int x1 :: .int x0 :: st), w) = zcl (zrun none (107, 0, [.int x0, .int x1], [], w)) (fun r => zrun none (20, 29, ls, r.1.toList ++ st, r.2)) := by
  refine (zE_ (i := .invokestatic 107) (by decide +kernel) _ _ _).trans ?_
  show zres (if (99 : Nat) = 99 ∧ 2 ≤ ((.int x1 :: .int x0 :: st) : List Value).length then zcall 107 [.int x0, .int x1] st 20 26 ls w else none) = _
  rw [if_pos ⟨rfl, by simp⟩]
  exact zq_call hr (Nat.le_of_ble_eq_true rfl) rfl rfl
theorem e20_29 (ls : List Value) (a : Int32) (st : List Value) (w : zH) : zrun none (20, 29, ls, (.int a :: st), w) = if a = 0 then zrun none (20, 44, ls, st, w) else zrun none (20, 32, ls, st, w) := (zE_ (i := .ifCond .eq 15) (by decide +kernel) _ _ _).trans (zq_if_eq rfl rfl)
theorem e20_32 (v1 v2 : Value) (x : Nat) (st : List Value) (w : zH) : zrun none (20, 32, [.ref x, v1, v2], st, w) = zrun none (20, 33, [.ref x, v1, v2], (.ref x :: st), w) := (zE_ (i := .aload_n 0) (by decide +kernel) _ _ _).trans rfl
theorem e20_33 (ls : List Value) (a : Nat) (st : List Value) (w : zH) : zrun none (20, 33, ls, (.ref a :: st), w) = zo (zf w a 405) (fun x => zrun none (20, 36, ls, (x :: st), w)) := (zE_ (i := .getfield 405) (by decide +kernel) _ _ _).trans zq_getf
theorem e20_36 (v0 v1 : Value) (x : Int32) (st : List Value) (w : zH) : zrun none (20, 36, [v0, v1, .int x], st, w) = zrun none (20, 37, [v0, v1, .int x], (.int x :: st), w) := (zE_ (i := .iload_n 2) (by decide +kernel) _ _ _).trans rfl
theorem e20_37 (ls : List Value) (j : Int32) (a : Nat) (st : List Value) (w : zH) : zrun none (20, 37, ls, (.int j :: .ref a :: st), w) = zoi (zai w a 100 j) (fun x => zrun none (20, 38, ls, (.int x :: st), w)) := (zE_ (i := .iaload) (by decide +kernel) _ _ _).trans zq_iald
theorem e20_38 (v0 v2 : Value) (x : Int32) (st : List Value) (w : zH) : zrun none (20, 38, [v0, .int x, v2], st, w) = zrun none (20, 39, [v0, .int x, v2], (.int x :: st), w) := (zE_ (i := .iload_n 1) (by decide +kernel) _ _ _).trans rfl
theorem e20_39 (ls : List Value) (a b : Int32) (st : List Value) (w : zH) : zrun none (20, 39, ls, (.int b :: .int a :: st), w) = if a ≤ b then zrun none (20, 44, ls, st, w) else zrun none (20, 42, ls, st, w) := (zE_ (i := .if_icmp .le 5) (by decide +kernel) _ _ _).trans (zq_ic_le rfl rfl)
theorem e20_42 (ls st : List Value) (w : zH) : zrun none (20, 42, ls, st, w) = zrun none (20, 43, ls, (.int 0 :: st), w) := (zE_ (i := .iconst 0) (by decide +kernel) _ _ _).trans rfl
theorem e20_43 (ls : List Value) (x : Int32) (w : zH) (h : narrow .boolean (.int x) = .int x) : zrun none (20, 43, ls, [.int x], w) = some (some (.int x), w) := by
  refine (zE_ (i := .ireturn) (by decide +kernel) _ _ _).trans ?_
  show zres (if narrow .boolean (.int x) = .int x then _ else none) = _
  rw [if_pos h]
  rfl
theorem e20_44 (v0 v1 : Value) (x : Int32) (st : List Value) (w : zH) : zrun none (20, 44, [v0, v1, .int x], st, w) = zrun none (20, 47, [v0, v1, .int (x + 1)], st, w) := (zE_ (i := .iinc 2 1) (by decide +kernel) _ _ _).trans rfl
theorem e20_47 (ls st : List Value) (w : zH) : zrun none (20, 47, ls, st, w) = zrun none (20, 15, ls, st, w) := (zE_ (i := .goto (-32)) (by decide +kernel) _ _ _).trans rfl
theorem e20_50 (ls st : List Value) (w : zH) : zrun none (20, 50, ls, st, w) = zrun none (20, 51, ls, (.int 1 :: st), w) := (zE_ (i := .iconst 1) (by decide +kernel) _ _ _).trans rfl
theorem e20_51 (ls : List Value) (x : Int32) (w : zH) (h : narrow .boolean (.int x) = .int x) : zrun none (20, 51, ls, [.int x], w) = some (some (.int x), w) := by
  refine (zE_ (i := .ireturn) (by decide +kernel) _ _ _).trans ?_
  show zres (if narrow .boolean (.int x) = .int x then _ else none) = _
  rw [if_pos h]
  rfl
theorem e21_0 (v0 : Value) (x : Int32) (st : List Value) (w : zH) : zrun none (21, 0, [v0, .int x], st, w) = zrun none (21, 1, [v0, .int x], (.int x :: st), w) := (zE_ (i := .iload_n 1) (by decide +kernel) _ _ _).trans rfl
theorem e21_1 (v1 : Value) (x : Nat) (st : List Value) (w : zH) : zrun none (21, 1, [.ref x, v1], st, w) = zrun none (21, 2, [.ref x, v1], (.ref x :: st), w) := (zE_ (i := .aload_n 0) (by decide +kernel) _ _ _).trans rfl
theorem e21_2 (ls : List Value) (a : Nat) (st : List Value) (w : zH) : zrun none (21, 2, ls, (.ref a :: st), w) = zo (zf w a 403) (fun x => zrun none (21, 5, ls, (x :: st), w)) := (zE_ (i := .getfield 403) (by decide +kernel) _ _ _).trans zq_getf
theorem e21_5 (ls : List Value) (a b : Int32) (st : List Value) (w : zH) : zrun none (21, 5, ls, (.int b :: .int a :: st), w) = if a ≤ b then zrun none (21, 10, ls, st, w) else zrun none (21, 8, ls, st, w) := (zE_ (i := .if_icmp .le 5) (by decide +kernel) _ _ _).trans (zq_ic_le rfl rfl)
theorem e21_8 (ls st : List Value) (w : zH) : zrun none (21, 8, ls, st, w) = zrun none (21, 9, ls, (.int 3 :: st), w) := (zE_ (i := .iconst 3) (by decide +kernel) _ _ _).trans rfl
theorem e21_9 (ls : List Value) (x : Int32) (w : zH) : zrun none (21, 9, ls, [.int x], w) = some (some (.int x), w) := by
  refine (zE_ (i := .ireturn) (by decide +kernel) _ _ _).trans ?_
  show zres (if narrow .int (.int x) = .int x then _ else none) = _
  rw [if_pos (show narrow .int (.int x) = .int x from rfl)]
  rfl
theorem e21_10 (v0 : Value) (x : Int32) (st : List Value) (w : zH) : zrun none (21, 10, [v0, .int x], st, w) = zrun none (21, 11, [v0, .int x], (.int x :: st), w) := (zE_ (i := .iload_n 1) (by decide +kernel) _ _ _).trans rfl
theorem e21_11 (v1 : Value) (x : Nat) (st : List Value) (w : zH) : zrun none (21, 11, [.ref x, v1], st, w) = zrun none (21, 12, [.ref x, v1], (.ref x :: st), w) := (zE_ (i := .aload_n 0) (by decide +kernel) _ _ _).trans rfl
theorem e21_12 (ls : List Value) (a : Nat) (st : List Value) (w : zH) : zrun none (21, 12, ls, (.ref a :: st), w) = zo (zf w a 402) (fun x => zrun none (21, 15, ls, (x :: st), w)) := (zE_ (i := .getfield 402) (by decide +kernel) _ _ _).trans zq_getf
theorem e21_15 (ls : List Value) (a b : Int32) (st : List Value) (w : zH) : zrun none (21, 15, ls, (.int b :: .int a :: st), w) = if b ≤ a then zrun none (21, 20, ls, st, w) else zrun none (21, 18, ls, st, w) := (zE_ (i := .if_icmp .ge 5) (by decide +kernel) _ _ _).trans (zq_ic_ge rfl rfl)
theorem e21_18 (ls st : List Value) (w : zH) : zrun none (21, 18, ls, st, w) = zrun none (21, 19, ls, (.int 4 :: st), w) := (zE_ (i := .iconst 4) (by decide +kernel) _ _ _).trans rfl
theorem e21_19 (ls : List Value) (x : Int32) (w : zH) : zrun none (21, 19, ls, [.int x], w) = some (some (.int x), w) := by
  refine (zE_ (i := .ireturn) (by decide +kernel) _ _ _).trans ?_
  show zres (if narrow .int (.int x) = .int x then _ else none) = _
  rw [if_pos (show narrow .int (.int x) = .int x from rfl)]
  rfl
theorem e21_20 (v1 : Value) (x : Nat) (st : List Value) (w : zH) : zrun none (21, 20, [.ref x, v1], st, w) = zrun none (21, 21, [.ref x, v1], (.ref x :: st), w) := (zE_ (i := .aload_n 0) (by decide +kernel) _ _ _).trans rfl
theorem e21_21 (v0 : Value) (x : Int32) (st : List Value) (w : zH) : zrun none (21, 21, [v0, .int x], st, w) = zrun none (21, 22, [v0, .int x], (.int x :: st), w) := (zE_ (i := .iload_n 1) (by decide +kernel) _ _ _).trans rfl
theorem e21_22 (ls : List Value) (a : Nat) (x0 : Int32) (st : List Value) (w : zH) (hr : zcat st ≤ 8) : zrun none (21, 22, ls, (.int x0 :: .ref a :: st), w) = zgd (zis w a 4) (zcl (zrun none (20, 0, [.ref a, .int x0, zJ], [], w)) (fun r => zrun none (21, 25, ls, r.1.toList ++ st, r.2))) := by
  refine (zE_ (i := .invokevirtual 20) (by decide +kernel) _ _ _).trans ?_
  show zres (zinv none 20 21 22 ls (.int x0 :: .ref a :: st) w) = _
  unfold zinv
  show zres (if zrc none 20 w (.ref a) = true then zcall 20 [.ref a, .int x0] st 21 22 ls w else none) = _
  by_cases hc : zis w a 4
  · rw [if_pos (zrc_is hc (by decide +kernel)), zgd_pos hc]
    exact zq_call hr (Nat.le_of_ble_eq_true rfl) rfl rfl
  · rw [zgd_neg hc, if_neg (fun q => hc (zrc_of q (by decide +kernel)))]
    rfl
theorem e21_25 (ls : List Value) (a : Int32) (st : List Value) (w : zH) : zrun none (21, 25, ls, (.int a :: st), w) = if a = 0 then zrun none (21, 32, ls, st, w) else zrun none (21, 28, ls, st, w) := (zE_ (i := .ifCond .eq 7) (by decide +kernel) _ _ _).trans (zq_if_eq rfl rfl)
theorem e21_28 (ls st : List Value) (w : zH) : zrun none (21, 28, ls, st, w) = zrun none (21, 29, ls, (.int 1 :: st), w) := (zE_ (i := .iconst 1) (by decide +kernel) _ _ _).trans rfl
theorem e21_29 (ls st : List Value) (w : zH) : zrun none (21, 29, ls, st, w) = zrun none (21, 33, ls, st, w) := (zE_ (i := .goto 4) (by decide +kernel) _ _ _).trans rfl
theorem e21_32 (ls st : List Value) (w : zH) : zrun none (21, 32, ls, st, w) = zrun none (21, 33, ls, (.int 2 :: st), w) := (zE_ (i := .iconst 2) (by decide +kernel) _ _ _).trans rfl
theorem e21_33 (ls : List Value) (x : Int32) (w : zH) : zrun none (21, 33, ls, [.int x], w) = some (some (.int x), w) := by
  refine (zE_ (i := .ireturn) (by decide +kernel) _ _ _).trans ?_
  show zres (if narrow .int (.int x) = .int x then _ else none) = _
  rw [if_pos (show narrow .int (.int x) = .int x from rfl)]
  rfl
theorem e22_0 (v1 v2 v3 v4 : Value) (x : Nat) (st : List Value) (w : zH) : zrun none (22, 0, [.ref x, v1, v2, v3, v4], st, w) = zrun none (22, 1, [.ref x, v1, v2, v3, v4], (.ref x :: st), w) := (zE_ (i := .aload_n 0) (by decide +kernel) _ _ _).trans rfl
theorem e22_1 (ls : List Value) (a : Nat) (st : List Value) (w : zH) (h : a < zX) (hr : zcat st ≤ 8) : zrun none (22, 1, ls, (.ref a :: st), w) = zrun none (22, 4, ls, st, w) := by
  refine (zE_ (i := .invokespecial 998) (by decide +kernel) _ _ _).trans ?_
  simp only [zI, if_true]
  rw [if_pos ⟨hr, h⟩]
  rfl
theorem e22_4 (v1 v2 v3 v4 : Value) (x : Nat) (st : List Value) (w : zH) : zrun none (22, 4, [.ref x, v1, v2, v3, v4], st, w) = zrun none (22, 5, [.ref x, v1, v2, v3, v4], (.ref x :: st), w) := (zE_ (i := .aload_n 0) (by decide +kernel) _ _ _).trans rfl
theorem e22_5 (v0 v2 v3 v4 : Value) (x : Int32) (st : List Value) (w : zH) : zrun none (22, 5, [v0, .int x, v2, v3, v4], st, w) = zrun none (22, 6, [v0, .int x, v2, v3, v4], (.int x :: st), w) := (zE_ (i := .iload_n 1) (by decide +kernel) _ _ _).trans rfl
theorem e22_6 (ls : List Value) (x : Int32) (a : Nat) (st : List Value) (w : zH) : zrun none (22, 6, ls, (.int x :: .ref a :: st), w) = zgd (a < zX ∧ (zf w a 500).isSome = true) (zrun none (22, 9, ls, st, zpf w a 500 (.int x))) := by
  refine (zE_ (i := .putfield 500) (by decide +kernel) _ _ _).trans ?_
  by_cases hg : a < zX ∧ (zf w a 500).isSome = true
  · rw [zgd_pos hg]
    obtain ⟨ha, h⟩ := hg
    exact zq_putf ha h rfl rfl
  · rw [zgd_neg hg]
    exact zq_putf_no (fun h1 h2 h3 => hg ⟨h1, h2⟩)
theorem e22_9 (v1 v2 v3 v4 : Value) (x : Nat) (st : List Value) (w : zH) : zrun none (22, 9, [.ref x, v1, v2, v3, v4], st, w) = zrun none (22, 10, [.ref x, v1, v2, v3, v4], (.ref x :: st), w) := (zE_ (i := .aload_n 0) (by decide +kernel) _ _ _).trans rfl
theorem e22_10 (v0 v1 v3 v4 : Value) (x : Int32) (st : List Value) (w : zH) : zrun none (22, 10, [v0, v1, .int x, v3, v4], st, w) = zrun none (22, 11, [v0, v1, .int x, v3, v4], (.int x :: st), w) := (zE_ (i := .iload_n 2) (by decide +kernel) _ _ _).trans rfl
theorem e22_11 (ls : List Value) (x : Int32) (a : Nat) (st : List Value) (w : zH) : zrun none (22, 11, ls, (.int x :: .ref a :: st), w) = zgd (a < zX ∧ (zf w a 501).isSome = true) (zrun none (22, 14, ls, st, zpf w a 501 (.int x))) := by
  refine (zE_ (i := .putfield 501) (by decide +kernel) _ _ _).trans ?_
  by_cases hg : a < zX ∧ (zf w a 501).isSome = true
  · rw [zgd_pos hg]
    obtain ⟨ha, h⟩ := hg
    exact zq_putf ha h rfl rfl
  · rw [zgd_neg hg]
    exact zq_putf_no (fun h1 h2 h3 => hg ⟨h1, h2⟩)
theorem e22_14 (v1 v2 v3 v4 : Value) (x : Nat) (st : List Value) (w : zH) : zrun none (22, 14, [.ref x, v1, v2, v3, v4], st, w) = zrun none (22, 15, [.ref x, v1, v2, v3, v4], (.ref x :: st), w) := (zE_ (i := .aload_n 0) (by decide +kernel) _ _ _).trans rfl
theorem e22_15 (v0 v1 v2 v4 : Value) (x : Int32) (st : List Value) (w : zH) : zrun none (22, 15, [v0, v1, v2, .int x, v4], st, w) = zrun none (22, 16, [v0, v1, v2, .int x, v4], (.int x :: st), w) := (zE_ (i := .iload_n 3) (by decide +kernel) _ _ _).trans rfl
theorem e22_16 (ls : List Value) (x : Int32) (a : Nat) (st : List Value) (w : zH) : zrun none (22, 16, ls, (.int x :: .ref a :: st), w) = zgd (a < zX ∧ (zf w a 502).isSome = true) (zrun none (22, 19, ls, st, zpf w a 502 (.int x))) := by
  refine (zE_ (i := .putfield 502) (by decide +kernel) _ _ _).trans ?_
  by_cases hg : a < zX ∧ (zf w a 502).isSome = true
  · rw [zgd_pos hg]
    obtain ⟨ha, h⟩ := hg
    exact zq_putf ha h rfl rfl
  · rw [zgd_neg hg]
    exact zq_putf_no (fun h1 h2 h3 => hg ⟨h1, h2⟩)
theorem e22_19 (v1 v2 v3 v4 : Value) (x : Nat) (st : List Value) (w : zH) : zrun none (22, 19, [.ref x, v1, v2, v3, v4], st, w) = zrun none (22, 20, [.ref x, v1, v2, v3, v4], (.ref x :: st), w) := (zE_ (i := .aload_n 0) (by decide +kernel) _ _ _).trans rfl
theorem e22_20 (v0 v1 v2 v3 : Value) (x : Int32) (st : List Value) (w : zH) : zrun none (22, 20, [v0, v1, v2, v3, .int x], st, w) = zrun none (22, 22, [v0, v1, v2, v3, .int x], (.int x :: st), w) := (zE_ (i := .iload 4) (by decide +kernel) _ _ _).trans rfl
theorem e22_22 (ls : List Value) (x : Int32) (a : Nat) (st : List Value) (w : zH) : zrun none (22, 22, ls, (.int x :: .ref a :: st), w) = zgd (a < zX ∧ (zf w a 503).isSome = true) (zrun none (22, 25, ls, st, zpf w a 503 (.int x))) := by
  refine (zE_ (i := .putfield 503) (by decide +kernel) _ _ _).trans ?_
  by_cases hg : a < zX ∧ (zf w a 503).isSome = true
  · rw [zgd_pos hg]
    obtain ⟨ha, h⟩ := hg
    exact zq_putf ha h rfl rfl
  · rw [zgd_neg hg]
    exact zq_putf_no (fun h1 h2 h3 => hg ⟨h1, h2⟩)
theorem e22_25 (ls : List Value) (w : zH) : zrun none (22, 25, ls, [], w) = some (none, w) := (zE_ (i := .return_) (by decide +kernel) _ _ _).trans rfl
theorem e23_0 (x : Nat) (st : List Value) (w : zH) : zrun none (23, 0, [.ref x], st, w) = zrun none (23, 1, [.ref x], (.ref x :: st), w) := (zE_ (i := .aload_n 0) (by decide +kernel) _ _ _).trans rfl
theorem e23_1 (ls : List Value) (a : Nat) (st : List Value) (w : zH) (h : a < zX) (hr : zcat st ≤ 8) : zrun none (23, 1, ls, (.ref a :: st), w) = zrun none (23, 4, ls, st, w) := by
  refine (zE_ (i := .invokespecial 998) (by decide +kernel) _ _ _).trans ?_
  simp only [zI, if_true]
  rw [if_pos ⟨hr, h⟩]
  rfl
theorem e23_4 (x : Nat) (st : List Value) (w : zH) : zrun none (23, 4, [.ref x], st, w) = zrun none (23, 5, [.ref x], (.ref x :: st), w) := (zE_ (i := .aload_n 0) (by decide +kernel) _ _ _).trans rfl
theorem e23_5 (ls st : List Value) (w : zH) : zrun none (23, 5, ls, st, w) = zrun none (23, 7, ls, (.int 8 :: st), w) := (zE_ (i := .bipush 8) (by decide +kernel) _ _ _).trans rfl
theorem e23_7 (ls : List Value) (n : Int32) (st : List Value) (w : zH) (h0 : ¬ n < 0 ∧ n ≤ 65536) (h : w.length + 1 < zX) : zrun none (23, 7, ls, (.int n :: st), w) = zrun none (23, 9, ls, (.ref w.length :: st), w ++ [(100, List.replicate n.toNatClampNeg (.int 0))]) := by
  refine (zE_ (i := .newarray .int) (by decide +kernel) _ _ _).trans ?_
  simp only [zI]
  unfold znwa
  dsimp only
  rw [if_pos h0]
  unfold znw
  rw [if_pos h]
  rfl
theorem e23_9 (ls : List Value) (x : Nat) (a : Nat) (st : List Value) (w : zH) : zrun none (23, 9, ls, (.ref x :: .ref a :: st), w) = zgd (a < zX ∧ (zf w a 600).isSome = true) (zrun none (23, 12, ls, st, zpf w a 600 (.ref x))) := by
  refine (zE_ (i := .putfield 600) (by decide +kernel) _ _ _).trans ?_
  by_cases hg : a < zX ∧ (zf w a 600).isSome = true
  · rw [zgd_pos hg]
    obtain ⟨ha, h⟩ := hg
    exact zq_putf ha h rfl rfl
  · rw [zgd_neg hg]
    exact zq_putf_no (fun h1 h2 h3 => hg ⟨h1, h2⟩)
theorem e23_12 (x : Nat) (st : List Value) (w : zH) : zrun none (23, 12, [.ref x], st, w) = zrun none (23, 13, [.ref x], (.ref x :: st), w) := (zE_ (i := .aload_n 0) (by decide +kernel) _ _ _).trans rfl
theorem e23_13 (ls st : List Value) (w : zH) : zrun none (23, 13, ls, st, w) = zrun none (23, 16, ls, (.int 256 :: st), w) := (zE_ (i := .sipush 256) (by decide +kernel) _ _ _).trans rfl
theorem e23_16 (ls : List Value) (n : Int32) (st : List Value) (w : zH) (h0 : ¬ n < 0 ∧ n ≤ 65536) (h : w.length + 1 < zX) : zrun none (23, 16, ls, (.int n :: st), w) = zrun none (23, 18, ls, (.ref w.length :: st), w ++ [(100, List.replicate n.toNatClampNeg (.int 0))]) := by
  refine (zE_ (i := .newarray .int) (by decide +kernel) _ _ _).trans ?_
  simp only [zI]
  unfold znwa
  dsimp only
  rw [if_pos h0]
  unfold znw
  rw [if_pos h]
  rfl
theorem e23_18 (ls : List Value) (x : Nat) (a : Nat) (st : List Value) (w : zH) : zrun none (23, 18, ls, (.ref x :: .ref a :: st), w) = zgd (a < zX ∧ (zf w a 601).isSome = true) (zrun none (23, 21, ls, st, zpf w a 601 (.ref x))) := by
  refine (zE_ (i := .putfield 601) (by decide +kernel) _ _ _).trans ?_
  by_cases hg : a < zX ∧ (zf w a 601).isSome = true
  · rw [zgd_pos hg]
    obtain ⟨ha, h⟩ := hg
    exact zq_putf ha h rfl rfl
  · rw [zgd_neg hg]
    exact zq_putf_no (fun h1 h2 h3 => hg ⟨h1, h2⟩)
theorem e23_21 (ls : List Value) (w : zH) : zrun none (23, 21, ls, [], w) = some (none, w) := (zE_ (i := .return_) (by decide +kernel) _ _ _).trans rfl
theorem e24_0 (v1 v2 : Value) (x : Nat) (st : List Value) (w : zH) : zrun none (24, 0, [.ref x, v1, v2], st, w) = zrun none (24, 1, [.ref x, v1, v2], (.ref x :: st), w) := (zE_ (i := .aload_n 0) (by decide +kernel) _ _ _).trans rfl
theorem e24_1 (ls : List Value) (a : Nat) (st : List Value) (w : zH) : zrun none (24, 1, ls, (.ref a :: st), w) = zo (zf w a 602) (fun x => zrun none (24, 4, ls, (x :: st), w)) := (zE_ (i := .getfield 602) (by decide +kernel) _ _ _).trans zq_getf
theorem e24_4 (ls st : List Value) (w : zH) : zrun none (24, 4, ls, st, w) = zrun none (24, 6, ls, (.int 30 :: st), w) := (zE_ (i := .bipush 30) (by decide +kernel) _ _ _).trans rfl
theorem e24_6 (ls : List Value) (a b : Int32) (st : List Value) (w : zH) : zrun none (24, 6, ls, (.int b :: .int a :: st), w) = if a < b then zrun none (24, 12, ls, st, w) else zrun none (24, 9, ls, st, w) := (zE_ (i := .if_icmp .lt 6) (by decide +kernel) _ _ _).trans (zq_ic_lt rfl rfl)
theorem e24_9 (ls st : List Value) (w : zH) : zrun none (24, 9, ls, st, w) = zrun none (24, 11, ls, (.int (-1000003) :: st), w) := (zE_ (i := .bipush (-1000003)) (by decide +kernel) _ _ _).trans rfl
theorem e24_11 (ls : List Value) (x : Int32) (w : zH) : zrun none (24, 11, ls, [.int x], w) = some (some (.int x), w) := by
  refine (zE_ (i := .ireturn) (by decide +kernel) _ _ _).trans ?_
  show zres (if narrow .int (.int x) = .int x then _ else none) = _
  rw [if_pos (show narrow .int (.int x) = .int x from rfl)]
  rfl
theorem e24_12 (v0 v1 : Value) (x : Int32) (st : List Value) (w : zH) : zrun none (24, 12, [v0, v1, .int x], st, w) = zrun none (24, 13, [v0, v1, .int x], (.int x :: st), w) := (zE_ (i := .iload_n 2) (by decide +kernel) _ _ _).trans rfl
theorem e24_13 (ls : List Value) (x0 : Int32) (st : List Value) (w : zH) (hr : zcat st ≤ 8) : zrun none (24, 13, ls, (.int x0 :: st), w) = zcl (zrun none (104, 0, [.int x0], [], w)) (fun r => zrun none (24, 16, ls, r.1.toList ++ st, r.2)) := by
  refine (zE_ (i := .invokestatic 104) (by decide +kernel) _ _ _).trans ?_
  show zres (if (99 : Nat) = 99 ∧ 1 ≤ ((.int x0 :: st) : List Value).length then zcall 104 [.int x0] st 24 13 ls w else none) = _
  rw [if_pos ⟨rfl, by simp⟩]
  exact zq_call hr (Nat.le_of_ble_eq_true rfl) rfl rfl
theorem e24_16 (ls : List Value) (a : Int32) (st : List Value) (w : zH) : zrun none (24, 16, ls, (.int a :: st), w) = if a = 0 then zrun none (24, 41, ls, st, w) else zrun none (24, 19, ls, st, w) := (zE_ (i := .ifCond .eq 25) (by decide +kernel) _ _ _).trans (zq_if_eq rfl rfl)
theorem e24_19 (v1 v2 : Value) (x : Nat) (st : List Value) (w : zH) : zrun none (24, 19, [.ref x, v1, v2], st, w) = zrun none (24, 20, [.ref x, v1, v2], (.ref x :: st), w) := (zE_ (i := .aload_n 0) (by decide +kernel) _ _ _).trans rfl
theorem e24_20 (ls : List Value) (a : Nat) (st : List Value) (w : zH) : zrun none (24, 20, ls, (.ref a :: st), w) = zo (zf w a 600) (fun x => zrun none (24, 23, ls, (x :: st), w)) := (zE_ (i := .getfield 600) (by decide +kernel) _ _ _).trans zq_getf
theorem e24_23 (v0 v1 : Value) (x : Int32) (st : List Value) (w : zH) : zrun none (24, 23, [v0, v1, .int x], st, w) = zrun none (24, 24, [v0, v1, .int x], (.int x :: st), w) := (zE_ (i := .iload_n 2) (by decide +kernel) _ _ _).trans rfl
theorem e24_24 (ls : List Value) (x : Int32) (a : Nat) (st : List Value) (w : zH) : zrun none (24, 24, ls, (.int x :: .ref a :: st), w) = zrun none (24, 25, ls, (.int x :: .ref a :: .int x :: .ref a :: st), w) := (zE_ (i := .dup2) (by decide +kernel) _ _ _).trans rfl
theorem e24_25 (ls : List Value) (j : Int32) (a : Nat) (st : List Value) (w : zH) : zrun none (24, 25, ls, (.int j :: .ref a :: st), w) = zoi (zai w a 100 j) (fun x => zrun none (24, 26, ls, (.int x :: st), w)) := (zE_ (i := .iaload) (by decide +kernel) _ _ _).trans zq_iald
theorem e24_26 (ls st : List Value) (w : zH) : zrun none (24, 26, ls, st, w) = zrun none (24, 27, ls, (.int 1 :: st), w) := (zE_ (i := .iconst 1) (by decide +kernel) _ _ _).trans rfl
theorem e24_27 (v0 v2 : Value) (x : Int32) (st : List Value) (w : zH) : zrun none (24, 27, [v0, .int x, v2], st, w) = zrun none (24, 28, [v0, .int x, v2], (.int x :: st), w) := (zE_ (i := .iload_n 1) (by decide +kernel) _ _ _).trans rfl
theorem e24_28 (ls : List Value) (a b : Int32) (st : List Value) (w : zH) : zrun none (24, 28, ls, (.int b :: .int a :: st), w) = zrun none (24, 29, ls, (.int (a <<< (b &&& 31)) :: st), w) := (zE_ (i := .ishl) (by decide +kernel) _ _ _).trans rfl
theorem e24_29 (ls : List Value) (a b : Int32) (st : List Value) (w : zH) : zrun none (24, 29, ls, (.int b :: .int a :: st), w) = zrun none (24, 30, ls, (.int (a ||| b) :: st), w) := (zE_ (i := .ior) (by decide +kernel) _ _ _).trans rfl
theorem e24_30 (ls : List Value) (x j : Int32) (a : Nat) (st : List Value) (w : zH) : zrun none (24, 30, ls, (.int x :: .int j :: .ref a :: st), w) = zgd (zin? w a 100 j) (zrun none (24, 31, ls, st, zas w a j (.int x))) := by
  refine (zE_ (i := .iastore) (by decide +kernel) _ _ _).trans ?_
  by_cases hg : zin? w a 100 j
  · rw [zgd_pos hg]
    exact zq_iast hg
  · rw [zgd_neg hg]
    exact zq_iast_no hg
theorem e24_31 (v1 v2 : Value) (x : Nat) (st : List Value) (w : zH) : zrun none (24, 31, [.ref x, v1, v2], st, w) = zrun none (24, 32, [.ref x, v1, v2], (.ref x :: st), w) := (zE_ (i := .aload_n 0) (by decide +kernel) _ _ _).trans rfl
theorem e24_32 (ls : List Value) (x : Int32) (st : List Value) (w : zH) : zrun none (24, 32, ls, (.int x :: st), w) = zrun none (24, 33, ls, (.int x :: .int x :: st), w) := (zE_ (i := .dup) (by decide +kernel) _ _ _).trans rfl
theorem e24_32r (ls : List Value) (x : Nat) (st : List Value) (w : zH) : zrun none (24, 32, ls, (.ref x :: st), w) = zrun none (24, 33, ls, (.ref x :: .ref x :: st), w) := (zE_ (i := .dup) (by decide +kernel) _ _ _).trans rfl
theorem e24_33 (ls : List Value) (a : Nat) (st : List Value) (w : zH) : zrun none (24, 33, ls, (.ref a :: st), w) = zo (zf w a 602) (fun x => zrun none (24, 36, ls, (x :: st), w)) := (zE_ (i := .getfield 602) (by decide +kernel) _ _ _).trans zq_getf
theorem e24_36 (ls st : List Value) (w : zH) : zrun none (24, 36, ls, st, w) = zrun none (24, 37, ls, (.int 1 :: st), w) := (zE_ (i := .iconst 1) (by decide +kernel) _ _ _).trans rfl
theorem e24_37 (ls : List Value) (a b : Int32) (st : List Value) (w : zH) : zrun none (24, 37, ls, (.int b :: .int a :: st), w) = zrun none (24, 38, ls, (.int (a + b) :: st), w) := (zE_ (i := .iadd) (by decide +kernel) _ _ _).trans rfl
theorem e24_38 (ls : List Value) (x : Int32) (a : Nat) (st : List Value) (w : zH) : zrun none (24, 38, ls, (.int x :: .ref a :: st), w) = zgd (a < zX ∧ (zf w a 602).isSome = true) (zrun none (24, 41, ls, st, zpf w a 602 (.int x))) := by
  refine (zE_ (i := .putfield 602) (by decide +kernel) _ _ _).trans ?_
  by_cases hg : a < zX ∧ (zf w a 602).isSome = true
  · rw [zgd_pos hg]
    obtain ⟨ha, h⟩ := hg
    exact zq_putf ha h rfl rfl
  · rw [zgd_neg hg]
    exact zq_putf_no (fun h1 h2 h3 => hg ⟨h1, h2⟩)
theorem e24_41 (v1 v2 : Value) (x : Nat) (st : List Value) (w : zH) : zrun none (24, 41, [.ref x, v1, v2], st, w) = zrun none (24, 42, [.ref x, v1, v2], (.ref x :: st), w) := (zE_ (i := .aload_n 0) (by decide +kernel) _ _ _).trans rfl
theorem e24_42 (ls : List Value) (a : Nat) (st : List Value) (w : zH) : zrun none (24, 42, ls, (.ref a :: st), w) = zo (zf w a 602) (fun x => zrun none (24, 45, ls, (x :: st), w)) := (zE_ (i := .getfield 602) (by decide +kernel) _ _ _).trans zq_getf
theorem e24_45 (ls : List Value) (x : Int32) (w : zH) : zrun none (24, 45, ls, [.int x], w) = some (some (.int x), w) := by
  refine (zE_ (i := .ireturn) (by decide +kernel) _ _ _).trans ?_
  show zres (if narrow .int (.int x) = .int x then _ else none) = _
  rw [if_pos (show narrow .int (.int x) = .int x from rfl)]
  rfl
theorem e25_0 (v0 v1 : Value) (x : Int32) (st : List Value) (w : zH) : zrun none (25, 0, [v0, v1, .int x], st, w) = zrun none (25, 1, [v0, v1, .int x], (.int x :: st), w) := (zE_ (i := .iload_n 2) (by decide +kernel) _ _ _).trans rfl
theorem e25_1 (v0 v2 : Value) (x : Int32) (st : List Value) (w : zH) : zrun none (25, 1, [v0, .int x, v2], st, w) = zrun none (25, 2, [v0, .int x, v2], (.int x :: st), w) := (zE_ (i := .iload_n 1) (by decide +kernel) _ _ _).trans rfl
theorem e25_2 (ls : List Value) (x0 : Int32) (x1 : Int32) (st : List Value) (w : zH) (hr : zcat st ≤ 8) : zrun none (25, 2, ls, (.int x1 :: .int x0 :: st), w) = zcl (zrun none (107, 0, [.int x0, .int x1], [], w)) (fun r => zrun none (25, 5, ls, r.1.toList ++ st, r.2)) := by
  refine (zE_ (i := .invokestatic 107) (by decide +kernel) _ _ _).trans ?_
  show zres (if (99 : Nat) = 99 ∧ 2 ≤ ((.int x1 :: .int x0 :: st) : List Value).length then zcall 107 [.int x0, .int x1] st 25 2 ls w else none) = _
  rw [if_pos ⟨rfl, by simp⟩]
  exact zq_call hr (Nat.le_of_ble_eq_true rfl) rfl rfl
theorem e25_5 (ls : List Value) (a : Int32) (st : List Value) (w : zH) : zrun none (25, 5, ls, (.int a :: st), w) = if a = 0 then zrun none (25, 23, ls, st, w) else zrun none (25, 8, ls, st, w) := (zE_ (i := .ifCond .eq 18) (by decide +kernel) _ _ _).trans (zq_if_eq rfl rfl)
theorem e25_8 (v1 v2 : Value) (x : Nat) (st : List Value) (w : zH) : zrun none (25, 8, [.ref x, v1, v2], st, w) = zrun none (25, 9, [.ref x, v1, v2], (.ref x :: st), w) := (zE_ (i := .aload_n 0) (by decide +kernel) _ _ _).trans rfl
theorem e25_9 (ls : List Value) (a : Nat) (st : List Value) (w : zH) : zrun none (25, 9, ls, (.ref a :: st), w) = zo (zf w a 600) (fun x => zrun none (25, 12, ls, (x :: st), w)) := (zE_ (i := .getfield 600) (by decide +kernel) _ _ _).trans zq_getf
theorem e25_12 (v0 v2 : Value) (x : Int32) (st : List Value) (w : zH) : zrun none (25, 12, [v0, .int x, v2], st, w) = zrun none (25, 13, [v0, .int x, v2], (.int x :: st), w) := (zE_ (i := .iload_n 1) (by decide +kernel) _ _ _).trans rfl
theorem e25_13 (ls : List Value) (j : Int32) (a : Nat) (st : List Value) (w : zH) : zrun none (25, 13, ls, (.int j :: .ref a :: st), w) = zoi (zai w a 100 j) (fun x => zrun none (25, 14, ls, (.int x :: st), w)) := (zE_ (i := .iaload) (by decide +kernel) _ _ _).trans zq_iald
theorem e25_14 (v0 v1 : Value) (x : Int32) (st : List Value) (w : zH) : zrun none (25, 14, [v0, v1, .int x], st, w) = zrun none (25, 15, [v0, v1, .int x], (.int x :: st), w) := (zE_ (i := .iload_n 2) (by decide +kernel) _ _ _).trans rfl
theorem e25_15 (ls : List Value) (a b : Int32) (st : List Value) (w : zH) : zrun none (25, 15, ls, (.int b :: .int a :: st), w) = zrun none (25, 16, ls, (.int (a &&& b) :: st), w) := (zE_ (i := .iand) (by decide +kernel) _ _ _).trans rfl
theorem e25_16 (ls : List Value) (a : Int32) (st : List Value) (w : zH) : zrun none (25, 16, ls, (.int a :: st), w) = if a = 0 then zrun none (25, 19, ls, st, w) else zrun none (25, 23, ls, st, w) := (zE_ (i := .ifCond .ne 7) (by decide +kernel) _ _ _).trans (zq_if_ne rfl rfl)
theorem e25_19 (ls st : List Value) (w : zH) : zrun none (25, 19, ls, st, w) = zrun none (25, 20, ls, (.int 1 :: st), w) := (zE_ (i := .iconst 1) (by decide +kernel) _ _ _).trans rfl
theorem e25_20 (ls st : List Value) (w : zH) : zrun none (25, 20, ls, st, w) = zrun none (25, 24, ls, st, w) := (zE_ (i := .goto 4) (by decide +kernel) _ _ _).trans rfl
theorem e25_23 (ls st : List Value) (w : zH) : zrun none (25, 23, ls, st, w) = zrun none (25, 24, ls, (.int 0 :: st), w) := (zE_ (i := .iconst 0) (by decide +kernel) _ _ _).trans rfl
theorem e25_24 (ls : List Value) (x : Int32) (w : zH) (h : narrow .boolean (.int x) = .int x) : zrun none (25, 24, ls, [.int x], w) = some (some (.int x), w) := by
  refine (zE_ (i := .ireturn) (by decide +kernel) _ _ _).trans ?_
  show zres (if narrow .boolean (.int x) = .int x then _ else none) = _
  rw [if_pos h]
  rfl
theorem e26_0 (ls st : List Value) (w : zH) : zrun none (26, 0, ls, st, w) = zrun none (26, 1, ls, (.int 0 :: st), w) := (zE_ (i := .iconst 0) (by decide +kernel) _ _ _).trans rfl
theorem e26_1 (v0 v1 v2 : Value) (x : Int32) (st : List Value) (w : zH) (h : v1.category = 1) : zrun none (26, 1, [v0, v1, v2], (.int x :: st), w) = zrun none (26, 2, [v0, v1, .int x], st, w) := by
  refine (zE_ (i := .istore_n 2) (by decide +kernel) _ _ _).trans ?_
  have hz : zfree [v0, v1, v2] 2 = true := by show decide (v1.category = 1) = true; exact decide_eq_true h
  show zres (zst zint 2 1 26 1 [v0, v1, v2] (.int x :: st) w) = _
  unfold zst
  dsimp only
  rw [if_pos ⟨rfl, Nat.le_of_ble_eq_true rfl, hz⟩]
  rfl
theorem e26_2 (v0 v1 : Value) (x : Int32) (st : List Value) (w : zH) : zrun none (26, 2, [v0, v1, .int x], st, w) = zrun none (26, 3, [v0, v1, .int x], (.int x :: st), w) := (zE_ (i := .iload_n 2) (by decide +kernel) _ _ _).trans rfl
theorem e26_3 (ls st : List Value) (w : zH) : zrun none (26, 3, ls, st, w) = zrun none (26, 5, ls, (.int 8 :: st), w) := (zE_ (i := .bipush 8) (by decide +kernel) _ _ _).trans rfl
theorem e26_5 (ls : List Value) (a b : Int32) (st : List Value) (w : zH) : zrun none (26, 5, ls, (.int b :: .int a :: st), w) = if b ≤ a then zrun none (26, 25, ls, st, w) else zrun none (26, 8, ls, st, w) := (zE_ (i := .if_icmp .ge 20) (by decide +kernel) _ _ _).trans (zq_ic_ge rfl rfl)
theorem e26_8 (v1 v2 : Value) (x : Nat) (st : List Value) (w : zH) : zrun none (26, 8, [.ref x, v1, v2], st, w) = zrun none (26, 9, [.ref x, v1, v2], (.ref x :: st), w) := (zE_ (i := .aload_n 0) (by decide +kernel) _ _ _).trans rfl
theorem e26_9 (v0 v1 : Value) (x : Int32) (st : List Value) (w : zH) : zrun none (26, 9, [v0, v1, .int x], st, w) = zrun none (26, 10, [v0, v1, .int x], (.int x :: st), w) := (zE_ (i := .iload_n 2) (by decide +kernel) _ _ _).trans rfl
theorem e26_10 (v0 v2 : Value) (x : Int32) (st : List Value) (w : zH) : zrun none (26, 10, [v0, .int x, v2], st, w) = zrun none (26, 11, [v0, .int x, v2], (.int x :: st), w) := (zE_ (i := .iload_n 1) (by decide +kernel) _ _ _).trans rfl
theorem e26_11 (ls : List Value) (a : Nat) (x0 : Int32) (x1 : Int32) (st : List Value) (w : zH) (hr : zcat st ≤ 8) : zrun none (26, 11, ls, (.int x1 :: .int x0 :: .ref a :: st), w) = zgd (zis w a 6) (zcl (zrun none (25, 0, [.ref a, .int x0, .int x1], [], w)) (fun r => zrun none (26, 14, ls, r.1.toList ++ st, r.2))) := by
  refine (zE_ (i := .invokevirtual 25) (by decide +kernel) _ _ _).trans ?_
  show zres (zinv none 25 26 11 ls (.int x1 :: .int x0 :: .ref a :: st) w) = _
  unfold zinv
  show zres (if zrc none 25 w (.ref a) = true then zcall 25 [.ref a, .int x0, .int x1] st 26 11 ls w else none) = _
  by_cases hc : zis w a 6
  · rw [if_pos (zrc_is hc (by decide +kernel)), zgd_pos hc]
    exact zq_call hr (Nat.le_of_ble_eq_true rfl) rfl rfl
  · rw [zgd_neg hc, if_neg (fun q => hc (zrc_of q (by decide +kernel)))]
    rfl
theorem e26_14 (ls : List Value) (a : Int32) (st : List Value) (w : zH) : zrun none (26, 14, ls, (.int a :: st), w) = if a = 0 then zrun none (26, 19, ls, st, w) else zrun none (26, 17, ls, st, w) := (zE_ (i := .ifCond .eq 5) (by decide +kernel) _ _ _).trans (zq_if_eq rfl rfl)
theorem e26_17 (v0 v1 : Value) (x : Int32) (st : List Value) (w : zH) : zrun none (26, 17, [v0, v1, .int x], st, w) = zrun none (26, 18, [v0, v1, .int x], (.int x :: st), w) := (zE_ (i := .iload_n 2) (by decide +kernel) _ _ _).trans rfl
theorem e26_18 (ls : List Value) (x : Int32) (w : zH) : zrun none (26, 18, ls, [.int x], w) = some (some (.int x), w) := by
  refine (zE_ (i := .ireturn) (by decide +kernel) _ _ _).trans ?_
  show zres (if narrow .int (.int x) = .int x then _ else none) = _
  rw [if_pos (show narrow .int (.int x) = .int x from rfl)]
  rfl
theorem e26_19 (v0 v1 : Value) (x : Int32) (st : List Value) (w : zH) : zrun none (26, 19, [v0, v1, .int x], st, w) = zrun none (26, 22, [v0, v1, .int (x + 1)], st, w) := (zE_ (i := .iinc 2 1) (by decide +kernel) _ _ _).trans rfl
theorem e26_22 (ls st : List Value) (w : zH) : zrun none (26, 22, ls, st, w) = zrun none (26, 2, ls, st, w) := (zE_ (i := .goto (-20)) (by decide +kernel) _ _ _).trans rfl
theorem e26_25 (ls st : List Value) (w : zH) : zrun none (26, 25, ls, st, w) = zrun none (26, 27, ls, (.int (-1000000) :: st), w) := (zE_ (i := .bipush (-1000000)) (by decide +kernel) _ _ _).trans rfl
theorem e26_27 (ls : List Value) (x : Int32) (w : zH) : zrun none (26, 27, ls, [.int x], w) = some (some (.int x), w) := by
  refine (zE_ (i := .ireturn) (by decide +kernel) _ _ _).trans ?_
  show zres (if narrow .int (.int x) = .int x then _ else none) = _
  rw [if_pos (show narrow .int (.int x) = .int x from rfl)]
  rfl
theorem e27_0 (v0 v2 v3 v4 : Value) (x : Int32) (st : List Value) (w : zH) : zrun none (27, 0, [v0, .int x, v2, v3, v4], st, w) = zrun none (27, 1, [v0, .int x, v2, v3, v4], (.int x :: st), w) := (zE_ (i := .iload_n 1) (by decide +kernel) _ _ _).trans rfl
theorem e27_1 (v0 v1 v2 v3 v4 : Value) (x : Int32) (st : List Value) (w : zH) (h : v1.category = 1) : zrun none (27, 1, [v0, v1, v2, v3, v4], (.int x :: st), w) = zrun none (27, 2, [v0, v1, .int x, v3, v4], st, w) := by
  refine (zE_ (i := .istore_n 2) (by decide +kernel) _ _ _).trans ?_
  have hz : zfree [v0, v1, v2, v3, v4] 2 = true := by show decide (v1.category = 1) = true; exact decide_eq_true h
  show zres (zst zint 2 1 27 1 [v0, v1, v2, v3, v4] (.int x :: st) w) = _
  unfold zst
  dsimp only
  rw [if_pos ⟨rfl, Nat.le_of_ble_eq_true rfl, hz⟩]
  rfl
theorem e27_2 (ls st : List Value) (w : zH) : zrun none (27, 2, ls, st, w) = zrun none (27, 3, ls, (.int 0 :: st), w) := (zE_ (i := .iconst 0) (by decide +kernel) _ _ _).trans rfl
theorem e27_3 (v0 v1 v2 v3 v4 : Value) (x : Int32) (st : List Value) (w : zH) (h : v2.category = 1) : zrun none (27, 3, [v0, v1, v2, v3, v4], (.int x :: st), w) = zrun none (27, 4, [v0, v1, v2, .int x, v4], st, w) := by
  refine (zE_ (i := .istore_n 3) (by decide +kernel) _ _ _).trans ?_
  have hz : zfree [v0, v1, v2, v3, v4] 3 = true := by show decide (v2.category = 1) = true; exact decide_eq_true h
  show zres (zst zint 3 1 27 3 [v0, v1, v2, v3, v4] (.int x :: st) w) = _
  unfold zst
  dsimp only
  rw [if_pos ⟨rfl, Nat.le_of_ble_eq_true rfl, hz⟩]
  rfl
theorem e27_4 (v0 v1 v2 v4 : Value) (x : Int32) (st : List Value) (w : zH) : zrun none (27, 4, [v0, v1, v2, .int x, v4], st, w) = zrun none (27, 5, [v0, v1, v2, .int x, v4], (.int x :: st), w) := (zE_ (i := .iload_n 3) (by decide +kernel) _ _ _).trans rfl
theorem e27_5 (ls st : List Value) (w : zH) : zrun none (27, 5, ls, st, w) = zrun none (27, 7, ls, (.int 8 :: st), w) := (zE_ (i := .bipush 8) (by decide +kernel) _ _ _).trans rfl
theorem e27_7 (ls : List Value) (a b : Int32) (st : List Value) (w : zH) : zrun none (27, 7, ls, (.int b :: .int a :: st), w) = if b ≤ a then zrun none (27, 41, ls, st, w) else zrun none (27, 10, ls, st, w) := (zE_ (i := .if_icmp .ge 34) (by decide +kernel) _ _ _).trans (zq_ic_ge rfl rfl)
theorem e27_10 (v1 v2 v3 v4 : Value) (x : Nat) (st : List Value) (w : zH) : zrun none (27, 10, [.ref x, v1, v2, v3, v4], st, w) = zrun none (27, 11, [.ref x, v1, v2, v3, v4], (.ref x :: st), w) := (zE_ (i := .aload_n 0) (by decide +kernel) _ _ _).trans rfl
theorem e27_11 (v0 v1 v3 v4 : Value) (x : Int32) (st : List Value) (w : zH) : zrun none (27, 11, [v0, v1, .int x, v3, v4], st, w) = zrun none (27, 12, [v0, v1, .int x, v3, v4], (.int x :: st), w) := (zE_ (i := .iload_n 2) (by decide +kernel) _ _ _).trans rfl
theorem e27_12 (ls : List Value) (a : Nat) (x0 : Int32) (st : List Value) (w : zH) (hr : zcat st ≤ 8) : zrun none (27, 12, ls, (.int x0 :: .ref a :: st), w) = zgd (zis w a 6) (zcl (zrun none (26, 0, [.ref a, .int x0, zJ], [], w)) (fun r => zrun none (27, 15, ls, r.1.toList ++ st, r.2))) := by
  refine (zE_ (i := .invokevirtual 26) (by decide +kernel) _ _ _).trans ?_
  show zres (zinv none 26 27 12 ls (.int x0 :: .ref a :: st) w) = _
  unfold zinv
  show zres (if zrc none 26 w (.ref a) = true then zcall 26 [.ref a, .int x0] st 27 12 ls w else none) = _
  by_cases hc : zis w a 6
  · rw [if_pos (zrc_is hc (by decide +kernel)), zgd_pos hc]
    exact zq_call hr (Nat.le_of_ble_eq_true rfl) rfl rfl
  · rw [zgd_neg hc, if_neg (fun q => hc (zrc_of q (by decide +kernel)))]
    rfl
theorem e27_15 (v0 v1 v2 v3 v4 : Value) (x : Int32) (st : List Value) (w : zH) (h : v3.category = 1) : zrun none (27, 15, [v0, v1, v2, v3, v4], (.int x :: st), w) = zrun none (27, 17, [v0, v1, v2, v3, .int x], st, w) := by
  refine (zE_ (i := .istore 4) (by decide +kernel) _ _ _).trans ?_
  have hz : zfree [v0, v1, v2, v3, v4] 4 = true := by show decide (v3.category = 1) = true; exact decide_eq_true h
  show zres (zst zint 4 2 27 15 [v0, v1, v2, v3, v4] (.int x :: st) w) = _
  unfold zst
  dsimp only
  rw [if_pos ⟨rfl, Nat.le_of_ble_eq_true rfl, hz⟩]
  rfl
theorem e27_17 (v0 v1 v2 v3 : Value) (x : Int32) (st : List Value) (w : zH) : zrun none (27, 17, [v0, v1, v2, v3, .int x], st, w) = zrun none (27, 19, [v0, v1, v2, v3, .int x], (.int x :: st), w) := (zE_ (i := .iload 4) (by decide +kernel) _ _ _).trans rfl
theorem e27_19 (ls st : List Value) (w : zH) : zrun none (27, 19, ls, st, w) = zrun none (27, 21, ls, (.int (-1000000) :: st), w) := (zE_ (i := .bipush (-1000000)) (by decide +kernel) _ _ _).trans rfl
theorem e27_21 (ls : List Value) (a b : Int32) (st : List Value) (w : zH) : zrun none (27, 21, ls, (.int b :: .int a :: st), w) = if a = b then zrun none (27, 24, ls, st, w) else zrun none (27, 26, ls, st, w) := (zE_ (i := .if_icmp .ne 5) (by decide +kernel) _ _ _).trans (zq_ic_ne rfl rfl)
theorem e27_24 (v0 v1 v3 v4 : Value) (x : Int32) (st : List Value) (w : zH) : zrun none (27, 24, [v0, v1, .int x, v3, v4], st, w) = zrun none (27, 25, [v0, v1, .int x, v3, v4], (.int x :: st), w) := (zE_ (i := .iload_n 2) (by decide +kernel) _ _ _).trans rfl
theorem e27_25 (ls : List Value) (x : Int32) (w : zH) : zrun none (27, 25, ls, [.int x], w) = some (some (.int x), w) := by
  refine (zE_ (i := .ireturn) (by decide +kernel) _ _ _).trans ?_
  show zres (if narrow .int (.int x) = .int x then _ else none) = _
  rw [if_pos (show narrow .int (.int x) = .int x from rfl)]
  rfl
theorem e27_26 (v0 v1 v3 v4 : Value) (x : Int32) (st : List Value) (w : zH) : zrun none (27, 26, [v0, v1, .int x, v3, v4], st, w) = zrun none (27, 27, [v0, v1, .int x, v3, v4], (.int x :: st), w) := (zE_ (i := .iload_n 2) (by decide +kernel) _ _ _).trans rfl
theorem e27_27 (ls st : List Value) (w : zH) : zrun none (27, 27, ls, st, w) = zrun none (27, 28, ls, (.int 1 :: st), w) := (zE_ (i := .iconst 1) (by decide +kernel) _ _ _).trans rfl
theorem e27_28 (v0 v1 v2 v3 : Value) (x : Int32) (st : List Value) (w : zH) : zrun none (27, 28, [v0, v1, v2, v3, .int x], st, w) = zrun none (27, 30, [v0, v1, v2, v3, .int x], (.int x :: st), w) := (zE_ (i := .iload 4) (by decide +kernel) _ _ _).trans rfl
theorem e27_30 (ls : List Value) (a b : Int32) (st : List Value) (w : zH) : zrun none (27, 30, ls, (.int b :: .int a :: st), w) = zrun none (27, 31, ls, (.int (a <<< (b &&& 31)) :: st), w) := (zE_ (i := .ishl) (by decide +kernel) _ _ _).trans rfl
theorem e27_31 (ls st : List Value) (w : zH) : zrun none (27, 31, ls, st, w) = zrun none (27, 32, ls, (.int (-1) :: st), w) := (zE_ (i := .iconst (-1)) (by decide +kernel) _ _ _).trans rfl
theorem e27_32 (ls : List Value) (a b : Int32) (st : List Value) (w : zH) : zrun none (27, 32, ls, (.int b :: .int a :: st), w) = zrun none (27, 33, ls, (.int (a ^^^ b) :: st), w) := (zE_ (i := .ixor) (by decide +kernel) _ _ _).trans rfl
theorem e27_33 (ls : List Value) (a b : Int32) (st : List Value) (w : zH) : zrun none (27, 33, ls, (.int b :: .int a :: st), w) = zrun none (27, 34, ls, (.int (a &&& b) :: st), w) := (zE_ (i := .iand) (by decide +kernel) _ _ _).trans rfl
theorem e27_34 (v0 v1 v2 v3 v4 : Value) (x : Int32) (st : List Value) (w : zH) (h : v1.category = 1) : zrun none (27, 34, [v0, v1, v2, v3, v4], (.int x :: st), w) = zrun none (27, 35, [v0, v1, .int x, v3, v4], st, w) := by
  refine (zE_ (i := .istore_n 2) (by decide +kernel) _ _ _).trans ?_
  have hz : zfree [v0, v1, v2, v3, v4] 2 = true := by show decide (v1.category = 1) = true; exact decide_eq_true h
  show zres (zst zint 2 1 27 34 [v0, v1, v2, v3, v4] (.int x :: st) w) = _
  unfold zst
  dsimp only
  rw [if_pos ⟨rfl, Nat.le_of_ble_eq_true rfl, hz⟩]
  rfl
theorem e27_35 (v0 v1 v2 v4 : Value) (x : Int32) (st : List Value) (w : zH) : zrun none (27, 35, [v0, v1, v2, .int x, v4], st, w) = zrun none (27, 38, [v0, v1, v2, .int (x + 1), v4], st, w) := (zE_ (i := .iinc 3 1) (by decide +kernel) _ _ _).trans rfl
theorem e27_38 (ls st : List Value) (w : zH) : zrun none (27, 38, ls, st, w) = zrun none (27, 4, ls, st, w) := (zE_ (i := .goto (-34)) (by decide +kernel) _ _ _).trans rfl
theorem e27_41 (v0 v1 v3 v4 : Value) (x : Int32) (st : List Value) (w : zH) : zrun none (27, 41, [v0, v1, .int x, v3, v4], st, w) = zrun none (27, 42, [v0, v1, .int x, v3, v4], (.int x :: st), w) := (zE_ (i := .iload_n 2) (by decide +kernel) _ _ _).trans rfl
theorem e27_42 (ls : List Value) (x : Int32) (w : zH) : zrun none (27, 42, ls, [.int x], w) = some (some (.int x), w) := by
  refine (zE_ (i := .ireturn) (by decide +kernel) _ _ _).trans ?_
  show zres (if narrow .int (.int x) = .int x then _ else none) = _
  rw [if_pos (show narrow .int (.int x) = .int x from rfl)]
  rfl
theorem e28_0 (v1 v2 v3 : Value) (x : Nat) (st : List Value) (w : zH) : zrun none (28, 0, [.ref x, v1, v2, v3], st, w) = zrun none (28, 1, [.ref x, v1, v2, v3], (.ref x :: st), w) := (zE_ (i := .aload_n 0) (by decide +kernel) _ _ _).trans rfl
theorem e28_1 (v0 v2 v3 : Value) (x : Int32) (st : List Value) (w : zH) : zrun none (28, 1, [v0, .int x, v2, v3], st, w) = zrun none (28, 2, [v0, .int x, v2, v3], (.int x :: st), w) := (zE_ (i := .iload_n 1) (by decide +kernel) _ _ _).trans rfl
theorem e28_2 (ls : List Value) (a : Nat) (x0 : Int32) (st : List Value) (w : zH) (hr : zcat st ≤ 8) : zrun none (28, 2, ls, (.int x0 :: .ref a :: st), w) = zgd (zis w a 6) (zcl (zrun none (27, 0, [.ref a, .int x0, zJ, zJ, zJ], [], w)) (fun r => zrun none (28, 5, ls, r.1.toList ++ st, r.2))) := by
  refine (zE_ (i := .invokevirtual 27) (by decide +kernel) _ _ _).trans ?_
  show zres (zinv none 27 28 2 ls (.int x0 :: .ref a :: st) w) = _
  unfold zinv
  show zres (if zrc none 27 w (.ref a) = true then zcall 27 [.ref a, .int x0] st 28 2 ls w else none) = _
  by_cases hc : zis w a 6
  · rw [if_pos (zrc_is hc (by decide +kernel)), zgd_pos hc]
    exact zq_call hr (Nat.le_of_ble_eq_true rfl) rfl rfl
  · rw [zgd_neg hc, if_neg (fun q => hc (zrc_of q (by decide +kernel)))]
    rfl
theorem e28_5 (v0 v1 v2 v3 : Value) (x : Int32) (st : List Value) (w : zH) (h : v1.category = 1) : zrun none (28, 5, [v0, v1, v2, v3], (.int x :: st), w) = zrun none (28, 6, [v0, v1, .int x, v3], st, w) := by
  refine (zE_ (i := .istore_n 2) (by decide +kernel) _ _ _).trans ?_
  have hz : zfree [v0, v1, v2, v3] 2 = true := by show decide (v1.category = 1) = true; exact decide_eq_true h
  show zres (zst zint 2 1 28 5 [v0, v1, v2, v3] (.int x :: st) w) = _
  unfold zst
  dsimp only
  rw [if_pos ⟨rfl, Nat.le_of_ble_eq_true rfl, hz⟩]
  rfl
theorem e28_6 (ls st : List Value) (w : zH) : zrun none (28, 6, ls, st, w) = zrun none (28, 7, ls, (.int 0 :: st), w) := (zE_ (i := .iconst 0) (by decide +kernel) _ _ _).trans rfl
theorem e28_7 (v0 v1 v2 v3 : Value) (x : Int32) (st : List Value) (w : zH) (h : v2.category = 1) : zrun none (28, 7, [v0, v1, v2, v3], (.int x :: st), w) = zrun none (28, 8, [v0, v1, v2, .int x], st, w) := by
  refine (zE_ (i := .istore_n 3) (by decide +kernel) _ _ _).trans ?_
  have hz : zfree [v0, v1, v2, v3] 3 = true := by show decide (v2.category = 1) = true; exact decide_eq_true h
  show zres (zst zint 3 1 28 7 [v0, v1, v2, v3] (.int x :: st) w) = _
  unfold zst
  dsimp only
  rw [if_pos ⟨rfl, Nat.le_of_ble_eq_true rfl, hz⟩]
  rfl
theorem e28_8 (v0 v1 v2 : Value) (x : Int32) (st : List Value) (w : zH) : zrun none (28, 8, [v0, v1, v2, .int x], st, w) = zrun none (28, 9, [v0, v1, v2, .int x], (.int x :: st), w) := (zE_ (i := .iload_n 3) (by decide +kernel) _ _ _).trans rfl
theorem e28_9 (ls st : List Value) (w : zH) : zrun none (28, 9, ls, st, w) = zrun none (28, 11, ls, (.int 8 :: st), w) := (zE_ (i := .bipush 8) (by decide +kernel) _ _ _).trans rfl
theorem e28_11 (ls : List Value) (a b : Int32) (st : List Value) (w : zH) : zrun none (28, 11, ls, (.int b :: .int a :: st), w) = if b ≤ a then zrun none (28, 30, ls, st, w) else zrun none (28, 14, ls, st, w) := (zE_ (i := .if_icmp .ge 19) (by decide +kernel) _ _ _).trans (zq_ic_ge rfl rfl)
theorem e28_14 (v0 v1 v3 : Value) (x : Int32) (st : List Value) (w : zH) : zrun none (28, 14, [v0, v1, .int x, v3], st, w) = zrun none (28, 15, [v0, v1, .int x, v3], (.int x :: st), w) := (zE_ (i := .iload_n 2) (by decide +kernel) _ _ _).trans rfl
theorem e28_15 (v0 v1 v2 : Value) (x : Int32) (st : List Value) (w : zH) : zrun none (28, 15, [v0, v1, v2, .int x], st, w) = zrun none (28, 16, [v0, v1, v2, .int x], (.int x :: st), w) := (zE_ (i := .iload_n 3) (by decide +kernel) _ _ _).trans rfl
theorem e28_16 (ls : List Value) (x0 : Int32) (x1 : Int32) (st : List Value) (w : zH) (hr : zcat st ≤ 8) : zrun none (28, 16, ls, (.int x1 :: .int x0 :: st), w) = zcl (zrun none (107, 0, [.int x0, .int x1], [], w)) (fun r => zrun none (28, 19, ls, r.1.toList ++ st, r.2)) := by
  refine (zE_ (i := .invokestatic 107) (by decide +kernel) _ _ _).trans ?_
  show zres (if (99 : Nat) = 99 ∧ 2 ≤ ((.int x1 :: .int x0 :: st) : List Value).length then zcall 107 [.int x0, .int x1] st 28 16 ls w else none) = _
  rw [if_pos ⟨rfl, by simp⟩]
  exact zq_call hr (Nat.le_of_ble_eq_true rfl) rfl rfl
theorem e28_19 (ls : List Value) (a : Int32) (st : List Value) (w : zH) : zrun none (28, 19, ls, (.int a :: st), w) = if a = 0 then zrun none (28, 24, ls, st, w) else zrun none (28, 22, ls, st, w) := (zE_ (i := .ifCond .eq 5) (by decide +kernel) _ _ _).trans (zq_if_eq rfl rfl)
theorem e28_22 (v0 v1 v2 : Value) (x : Int32) (st : List Value) (w : zH) : zrun none (28, 22, [v0, v1, v2, .int x], st, w) = zrun none (28, 23, [v0, v1, v2, .int x], (.int x :: st), w) := (zE_ (i := .iload_n 3) (by decide +kernel) _ _ _).trans rfl
theorem e28_23 (ls : List Value) (x : Int32) (w : zH) : zrun none (28, 23, ls, [.int x], w) = some (some (.int x), w) := by
  refine (zE_ (i := .ireturn) (by decide +kernel) _ _ _).trans ?_
  show zres (if narrow .int (.int x) = .int x then _ else none) = _
  rw [if_pos (show narrow .int (.int x) = .int x from rfl)]
  rfl
theorem e28_24 (v0 v1 v2 : Value) (x : Int32) (st : List Value) (w : zH) : zrun none (28, 24, [v0, v1, v2, .int x], st, w) = zrun none (28, 27, [v0, v1, v2, .int (x + 1)], st, w) := (zE_ (i := .iinc 3 1) (by decide +kernel) _ _ _).trans rfl
theorem e28_27 (ls st : List Value) (w : zH) : zrun none (28, 27, ls, st, w) = zrun none (28, 8, ls, st, w) := (zE_ (i := .goto (-19)) (by decide +kernel) _ _ _).trans rfl
theorem e28_30 (ls st : List Value) (w : zH) : zrun none (28, 30, ls, st, w) = zrun none (28, 32, ls, (.int (-1000000) :: st), w) := (zE_ (i := .bipush (-1000000)) (by decide +kernel) _ _ _).trans rfl
theorem e28_32 (ls : List Value) (x : Int32) (w : zH) : zrun none (28, 32, ls, [.int x], w) = some (some (.int x), w) := by
  refine (zE_ (i := .ireturn) (by decide +kernel) _ _ _).trans ?_
  show zres (if narrow .int (.int x) = .int x then _ else none) = _
  rw [if_pos (show narrow .int (.int x) = .int x from rfl)]
  rfl
theorem e29_0 (v1 v2 : Value) (x : Nat) (st : List Value) (w : zH) : zrun none (29, 0, [.ref x, v1, v2], st, w) = zrun none (29, 1, [.ref x, v1, v2], (.ref x :: st), w) := (zE_ (i := .aload_n 0) (by decide +kernel) _ _ _).trans rfl
theorem e29_1 (ls : List Value) (a : Nat) (st : List Value) (w : zH) : zrun none (29, 1, ls, (.ref a :: st), w) = zo (zf w a 601) (fun x => zrun none (29, 4, ls, (x :: st), w)) := (zE_ (i := .getfield 601) (by decide +kernel) _ _ _).trans zq_getf
theorem e29_4 (ls st : List Value) (w : zH) : zrun none (29, 4, ls, st, w) = zrun none (29, 5, ls, (.int 0 :: st), w) := (zE_ (i := .iconst 0) (by decide +kernel) _ _ _).trans rfl
theorem e29_5 (ls st : List Value) (w : zH) : zrun none (29, 5, ls, st, w) = zrun none (29, 6, ls, (.int 1 :: st), w) := (zE_ (i := .iconst 1) (by decide +kernel) _ _ _).trans rfl
theorem e29_6 (ls : List Value) (x j : Int32) (a : Nat) (st : List Value) (w : zH) : zrun none (29, 6, ls, (.int x :: .int j :: .ref a :: st), w) = zgd (zin? w a 100 j) (zrun none (29, 7, ls, st, zas w a j (.int x))) := by
  refine (zE_ (i := .iastore) (by decide +kernel) _ _ _).trans ?_
  by_cases hg : zin? w a 100 j
  · rw [zgd_pos hg]
    exact zq_iast hg
  · rw [zgd_neg hg]
    exact zq_iast_no hg
theorem e29_7 (ls st : List Value) (w : zH) : zrun none (29, 7, ls, st, w) = zrun none (29, 8, ls, (.int 1 :: st), w) := (zE_ (i := .iconst 1) (by decide +kernel) _ _ _).trans rfl
theorem e29_8 (v0 v1 v2 : Value) (x : Int32) (st : List Value) (w : zH) (h : v1.category = 1) : zrun none (29, 8, [v0, v1, v2], (.int x :: st), w) = zrun none (29, 9, [v0, v1, .int x], st, w) := by
  refine (zE_ (i := .istore_n 2) (by decide +kernel) _ _ _).trans ?_
  have hz : zfree [v0, v1, v2] 2 = true := by show decide (v1.category = 1) = true; exact decide_eq_true h
  show zres (zst zint 2 1 29 8 [v0, v1, v2] (.int x :: st) w) = _
  unfold zst
  dsimp only
  rw [if_pos ⟨rfl, Nat.le_of_ble_eq_true rfl, hz⟩]
  rfl
theorem e29_9 (v0 v1 : Value) (x : Int32) (st : List Value) (w : zH) : zrun none (29, 9, [v0, v1, .int x], st, w) = zrun none (29, 10, [v0, v1, .int x], (.int x :: st), w) := (zE_ (i := .iload_n 2) (by decide +kernel) _ _ _).trans rfl
theorem e29_10 (v0 v2 : Value) (x : Int32) (st : List Value) (w : zH) : zrun none (29, 10, [v0, .int x, v2], st, w) = zrun none (29, 11, [v0, .int x, v2], (.int x :: st), w) := (zE_ (i := .iload_n 1) (by decide +kernel) _ _ _).trans rfl
theorem e29_11 (ls : List Value) (a b : Int32) (st : List Value) (w : zH) : zrun none (29, 11, ls, (.int b :: .int a :: st), w) = if b < a then zrun none (29, 46, ls, st, w) else zrun none (29, 14, ls, st, w) := (zE_ (i := .if_icmp .gt 35) (by decide +kernel) _ _ _).trans (zq_ic_gt rfl rfl)
theorem e29_14 (v0 v1 : Value) (x : Int32) (st : List Value) (w : zH) : zrun none (29, 14, [v0, v1, .int x], st, w) = zrun none (29, 15, [v0, v1, .int x], (.int x :: st), w) := (zE_ (i := .iload_n 2) (by decide +kernel) _ _ _).trans rfl
theorem e29_15 (ls st : List Value) (w : zH) : zrun none (29, 15, ls, st, w) = zrun none (29, 18, ls, (.int 256 :: st), w) := (zE_ (i := .sipush 256) (by decide +kernel) _ _ _).trans rfl
theorem e29_18 (ls : List Value) (a b : Int32) (st : List Value) (w : zH) : zrun none (29, 18, ls, (.int b :: .int a :: st), w) = if b ≤ a then zrun none (29, 46, ls, st, w) else zrun none (29, 21, ls, st, w) := (zE_ (i := .if_icmp .ge 28) (by decide +kernel) _ _ _).trans (zq_ic_ge rfl rfl)
theorem e29_21 (v0 v1 : Value) (x : Int32) (st : List Value) (w : zH) : zrun none (29, 21, [v0, v1, .int x], st, w) = zrun none (29, 22, [v0, v1, .int x], (.int x :: st), w) := (zE_ (i := .iload_n 2) (by decide +kernel) _ _ _).trans rfl
theorem e29_22 (v0 v2 : Value) (x : Int32) (st : List Value) (w : zH) : zrun none (29, 22, [v0, .int x, v2], st, w) = zrun none (29, 23, [v0, .int x, v2], (.int x :: st), w) := (zE_ (i := .iload_n 1) (by decide +kernel) _ _ _).trans rfl
theorem e29_23 (ls st : List Value) (w : zH) : zrun none (29, 23, ls, st, w) = zrun none (29, 24, ls, (.int (-1) :: st), w) := (zE_ (i := .iconst (-1)) (by decide +kernel) _ _ _).trans rfl
theorem e29_24 (ls : List Value) (a b : Int32) (st : List Value) (w : zH) : zrun none (29, 24, ls, (.int b :: .int a :: st), w) = zrun none (29, 25, ls, (.int (a ^^^ b) :: st), w) := (zE_ (i := .ixor) (by decide +kernel) _ _ _).trans rfl
theorem e29_25 (ls : List Value) (a b : Int32) (st : List Value) (w : zH) : zrun none (29, 25, ls, (.int b :: .int a :: st), w) = zrun none (29, 26, ls, (.int (a &&& b) :: st), w) := (zE_ (i := .iand) (by decide +kernel) _ _ _).trans rfl
theorem e29_26 (ls : List Value) (a : Int32) (st : List Value) (w : zH) : zrun none (29, 26, ls, (.int a :: st), w) = if a = 0 then zrun none (29, 29, ls, st, w) else zrun none (29, 40, ls, st, w) := (zE_ (i := .ifCond .ne 14) (by decide +kernel) _ _ _).trans (zq_if_ne rfl rfl)
theorem e29_29 (v1 v2 : Value) (x : Nat) (st : List Value) (w : zH) : zrun none (29, 29, [.ref x, v1, v2], st, w) = zrun none (29, 30, [.ref x, v1, v2], (.ref x :: st), w) := (zE_ (i := .aload_n 0) (by decide +kernel) _ _ _).trans rfl
theorem e29_30 (ls : List Value) (a : Nat) (st : List Value) (w : zH) : zrun none (29, 30, ls, (.ref a :: st), w) = zo (zf w a 601) (fun x => zrun none (29, 33, ls, (x :: st), w)) := (zE_ (i := .getfield 601) (by decide +kernel) _ _ _).trans zq_getf
theorem e29_33 (v0 v1 : Value) (x : Int32) (st : List Value) (w : zH) : zrun none (29, 33, [v0, v1, .int x], st, w) = zrun none (29, 34, [v0, v1, .int x], (.int x :: st), w) := (zE_ (i := .iload_n 2) (by decide +kernel) _ _ _).trans rfl
theorem e29_34 (v1 v2 : Value) (x : Nat) (st : List Value) (w : zH) : zrun none (29, 34, [.ref x, v1, v2], st, w) = zrun none (29, 35, [.ref x, v1, v2], (.ref x :: st), w) := (zE_ (i := .aload_n 0) (by decide +kernel) _ _ _).trans rfl
theorem e29_35 (v0 v1 : Value) (x : Int32) (st : List Value) (w : zH) : zrun none (29, 35, [v0, v1, .int x], st, w) = zrun none (29, 36, [v0, v1, .int x], (.int x :: st), w) := (zE_ (i := .iload_n 2) (by decide +kernel) _ _ _).trans rfl
theorem e29_36 (ls : List Value) (a : Nat) (x0 : Int32) (st : List Value) (w : zH) (hr : zcat st ≤ 8) : zrun none (29, 36, ls, (.int x0 :: .ref a :: st), w) = zgd (zis w a 6) (zcl (zrun none (30, 0, [.ref a, .int x0, zJ, zJ], [], w)) (fun r => zrun none (29, 39, ls, r.1.toList ++ st, r.2))) := by
  refine (zE_ (i := .invokevirtual 30) (by decide +kernel) _ _ _).trans ?_
  show zres (zinv none 30 29 36 ls (.int x0 :: .ref a :: st) w) = _
  unfold zinv
  show zres (if zrc none 30 w (.ref a) = true then zcall 30 [.ref a, .int x0] st 29 36 ls w else none) = _
  by_cases hc : zis w a 6
  · rw [if_pos (zrc_is hc (by decide +kernel)), zgd_pos hc]
    exact zq_call hr (Nat.le_of_ble_eq_true rfl) rfl rfl
  · rw [zgd_neg hc, if_neg (fun q => hc (zrc_of q (by decide +kernel)))]
    rfl
theorem e29_39 (ls : List Value) (x j : Int32) (a : Nat) (st : List Value) (w : zH) : zrun none (29, 39, ls, (.int x :: .int j :: .ref a :: st), w) = zgd (zin? w a 100 j) (zrun none (29, 40, ls, st, zas w a j (.int x))) := by
  refine (zE_ (i := .iastore) (by decide +kernel) _ _ _).trans ?_
  by_cases hg : zin? w a 100 j
  · rw [zgd_pos hg]
    exact zq_iast hg
  · rw [zgd_neg hg]
    exact zq_iast_no hg
theorem e29_40 (v0 v1 : Value) (x : Int32) (st : List Value) (w : zH) : zrun none (29, 40, [v0, v1, .int x], st, w) = zrun none (29, 43, [v0, v1, .int (x + 1)], st, w) := (zE_ (i := .iinc 2 1) (by decide +kernel) _ _ _).trans rfl
theorem e29_43 (ls st : List Value) (w : zH) : zrun none (29, 43, ls, st, w) = zrun none (29, 9, ls, st, w) := (zE_ (i := .goto (-34)) (by decide +kernel) _ _ _).trans rfl
theorem e29_46 (v0 v2 : Value) (x : Int32) (st : List Value) (w : zH) : zrun none (29, 46, [v0, .int x, v2], st, w) = zrun none (29, 47, [v0, .int x, v2], (.int x :: st), w) := (zE_ (i := .iload_n 1) (by decide +kernel) _ _ _).trans rfl
theorem e29_47 (ls st : List Value) (w : zH) : zrun none (29, 47, ls, st, w) = zrun none (29, 48, ls, (.int 0 :: st), w) := (zE_ (i := .iconst 0) (by decide +kernel) _ _ _).trans rfl
theorem e29_48 (ls st : List Value) (w : zH) : zrun none (29, 48, ls, st, w) = zrun none (29, 51, ls, (.int 255 :: st), w) := (zE_ (i := .sipush 255) (by decide +kernel) _ _ _).trans rfl
theorem e29_51 (ls : List Value) (x0 : Int32) (x1 : Int32) (x2 : Int32) (st : List Value) (w : zH) (hr : zcat st ≤ 8) : zrun none (29, 51, ls, (.int x2 :: .int x1 :: .int x0 :: st), w) = zcl (zrun none (100, 0, [.int x0, .int x1, .int x2], [], w)) (fun r => zrun none (29, 54, ls, r.1.toList ++ st, r.2)) := by
  refine (zE_ (i := .invokestatic 100) (by decide +kernel) _ _ _).trans ?_
  show zres (if (99 : Nat) = 99 ∧ 3 ≤ ((.int x2 :: .int x1 :: .int x0 :: st) : List Value).length then zcall 100 [.int x0, .int x1, .int x2] st 29 51 ls w else none) = _
  rw [if_pos ⟨rfl, by simp⟩]
  exact zq_call hr (Nat.le_of_ble_eq_true rfl) rfl rfl
theorem e29_54 (ls : List Value) (a : Int32) (st : List Value) (w : zH) : zrun none (29, 54, ls, (.int a :: st), w) = if a = 0 then zrun none (29, 66, ls, st, w) else zrun none (29, 57, ls, st, w) := (zE_ (i := .ifCond .eq 12) (by decide +kernel) _ _ _).trans (zq_if_eq rfl rfl)
theorem e29_57 (v1 v2 : Value) (x : Nat) (st : List Value) (w : zH) : zrun none (29, 57, [.ref x, v1, v2], st, w) = zrun none (29, 58, [.ref x, v1, v2], (.ref x :: st), w) := (zE_ (i := .aload_n 0) (by decide +kernel) _ _ _).trans rfl
theorem e29_58 (ls : List Value) (a : Nat) (st : List Value) (w : zH) : zrun none (29, 58, ls, (.ref a :: st), w) = zo (zf w a 601) (fun x => zrun none (29, 61, ls, (x :: st), w)) := (zE_ (i := .getfield 601) (by decide +kernel) _ _ _).trans zq_getf
theorem e29_61 (v0 v2 : Value) (x : Int32) (st : List Value) (w : zH) : zrun none (29, 61, [v0, .int x, v2], st, w) = zrun none (29, 62, [v0, .int x, v2], (.int x :: st), w) := (zE_ (i := .iload_n 1) (by decide +kernel) _ _ _).trans rfl
theorem e29_62 (ls : List Value) (j : Int32) (a : Nat) (st : List Value) (w : zH) : zrun none (29, 62, ls, (.int j :: .ref a :: st), w) = zoi (zai w a 100 j) (fun x => zrun none (29, 63, ls, (.int x :: st), w)) := (zE_ (i := .iaload) (by decide +kernel) _ _ _).trans zq_iald
theorem e29_63 (ls st : List Value) (w : zH) : zrun none (29, 63, ls, st, w) = zrun none (29, 67, ls, st, w) := (zE_ (i := .goto 4) (by decide +kernel) _ _ _).trans rfl
theorem e29_66 (ls st : List Value) (w : zH) : zrun none (29, 66, ls, st, w) = zrun none (29, 67, ls, (.int 0 :: st), w) := (zE_ (i := .iconst 0) (by decide +kernel) _ _ _).trans rfl
theorem e29_67 (ls : List Value) (x : Int32) (w : zH) : zrun none (29, 67, ls, [.int x], w) = some (some (.int x), w) := by
  refine (zE_ (i := .ireturn) (by decide +kernel) _ _ _).trans ?_
  show zres (if narrow .int (.int x) = .int x then _ else none) = _
  rw [if_pos (show narrow .int (.int x) = .int x from rfl)]
  rfl
theorem e30_0 (ls st : List Value) (w : zH) : zrun none (30, 0, ls, st, w) = zrun none (30, 1, ls, (.int 0 :: st), w) := (zE_ (i := .iconst 0) (by decide +kernel) _ _ _).trans rfl
theorem e30_1 (v0 v1 v2 v3 : Value) (x : Int32) (st : List Value) (w : zH) (h : v1.category = 1) : zrun none (30, 1, [v0, v1, v2, v3], (.int x :: st), w) = zrun none (30, 2, [v0, v1, .int x, v3], st, w) := by
  refine (zE_ (i := .istore_n 2) (by decide +kernel) _ _ _).trans ?_
  have hz : zfree [v0, v1, v2, v3] 2 = true := by show decide (v1.category = 1) = true; exact decide_eq_true h
  show zres (zst zint 2 1 30 1 [v0, v1, v2, v3] (.int x :: st) w) = _
  unfold zst
  dsimp only
  rw [if_pos ⟨rfl, Nat.le_of_ble_eq_true rfl, hz⟩]
  rfl
theorem e30_2 (ls st : List Value) (w : zH) : zrun none (30, 2, ls, st, w) = zrun none (30, 3, ls, (.int 0 :: st), w) := (zE_ (i := .iconst 0) (by decide +kernel) _ _ _).trans rfl
theorem e30_3 (v0 v1 v2 v3 : Value) (x : Int32) (st : List Value) (w : zH) (h : v2.category = 1) : zrun none (30, 3, [v0, v1, v2, v3], (.int x :: st), w) = zrun none (30, 4, [v0, v1, v2, .int x], st, w) := by
  refine (zE_ (i := .istore_n 3) (by decide +kernel) _ _ _).trans ?_
  have hz : zfree [v0, v1, v2, v3] 3 = true := by show decide (v2.category = 1) = true; exact decide_eq_true h
  show zres (zst zint 3 1 30 3 [v0, v1, v2, v3] (.int x :: st) w) = _
  unfold zst
  dsimp only
  rw [if_pos ⟨rfl, Nat.le_of_ble_eq_true rfl, hz⟩]
  rfl
theorem e30_4 (v0 v1 v2 : Value) (x : Int32) (st : List Value) (w : zH) : zrun none (30, 4, [v0, v1, v2, .int x], st, w) = zrun none (30, 5, [v0, v1, v2, .int x], (.int x :: st), w) := (zE_ (i := .iload_n 3) (by decide +kernel) _ _ _).trans rfl
theorem e30_5 (ls st : List Value) (w : zH) : zrun none (30, 5, ls, st, w) = zrun none (30, 7, ls, (.int 8 :: st), w) := (zE_ (i := .bipush 8) (by decide +kernel) _ _ _).trans rfl
theorem e30_7 (ls : List Value) (a b : Int32) (st : List Value) (w : zH) : zrun none (30, 7, ls, (.int b :: .int a :: st), w) = if b ≤ a then zrun none (30, 40, ls, st, w) else zrun none (30, 10, ls, st, w) := (zE_ (i := .if_icmp .ge 33) (by decide +kernel) _ _ _).trans (zq_ic_ge rfl rfl)
theorem e30_10 (v1 v2 v3 : Value) (x : Nat) (st : List Value) (w : zH) : zrun none (30, 10, [.ref x, v1, v2, v3], st, w) = zrun none (30, 11, [.ref x, v1, v2, v3], (.ref x :: st), w) := (zE_ (i := .aload_n 0) (by decide +kernel) _ _ _).trans rfl
theorem e30_11 (v0 v1 v2 : Value) (x : Int32) (st : List Value) (w : zH) : zrun none (30, 11, [v0, v1, v2, .int x], st, w) = zrun none (30, 12, [v0, v1, v2, .int x], (.int x :: st), w) := (zE_ (i := .iload_n 3) (by decide +kernel) _ _ _).trans rfl
theorem e30_12 (v0 v2 v3 : Value) (x : Int32) (st : List Value) (w : zH) : zrun none (30, 12, [v0, .int x, v2, v3], st, w) = zrun none (30, 13, [v0, .int x, v2, v3], (.int x :: st), w) := (zE_ (i := .iload_n 1) (by decide +kernel) _ _ _).trans rfl
theorem e30_13 (ls : List Value) (a : Nat) (x0 : Int32) (x1 : Int32) (st : List Value) (w : zH) (hr : zcat st ≤ 8) : zrun none (30, 13, ls, (.int x1 :: .int x0 :: .ref a :: st), w) = zgd (zis w a 6) (zcl (zrun none (25, 0, [.ref a, .int x0, .int x1], [], w)) (fun r => zrun none (30, 16, ls, r.1.toList ++ st, r.2))) := by
  refine (zE_ (i := .invokevirtual 25) (by decide +kernel) _ _ _).trans ?_
  show zres (zinv none 25 30 13 ls (.int x1 :: .int x0 :: .ref a :: st) w) = _
  unfold zinv
  show zres (if zrc none 25 w (.ref a) = true then zcall 25 [.ref a, .int x0, .int x1] st 30 13 ls w else none) = _
  by_cases hc : zis w a 6
  · rw [if_pos (zrc_is hc (by decide +kernel)), zgd_pos hc]
    exact zq_call hr (Nat.le_of_ble_eq_true rfl) rfl rfl
  · rw [zgd_neg hc, if_neg (fun q => hc (zrc_of q (by decide +kernel)))]
    rfl
theorem e30_16 (ls : List Value) (a : Int32) (st : List Value) (w : zH) : zrun none (30, 16, ls, (.int a :: st), w) = if a = 0 then zrun none (30, 34, ls, st, w) else zrun none (30, 19, ls, st, w) := (zE_ (i := .ifCond .eq 18) (by decide +kernel) _ _ _).trans (zq_if_eq rfl rfl)
theorem e30_19 (v0 v1 v3 : Value) (x : Int32) (st : List Value) (w : zH) : zrun none (30, 19, [v0, v1, .int x, v3], st, w) = zrun none (30, 20, [v0, v1, .int x, v3], (.int x :: st), w) := (zE_ (i := .iload_n 2) (by decide +kernel) _ _ _).trans rfl
theorem e30_20 (v1 v2 v3 : Value) (x : Nat) (st : List Value) (w : zH) : zrun none (30, 20, [.ref x, v1, v2, v3], st, w) = zrun none (30, 21, [.ref x, v1, v2, v3], (.ref x :: st), w) := (zE_ (i := .aload_n 0) (by decide +kernel) _ _ _).trans rfl
theorem e30_21 (ls : List Value) (a : Nat) (st : List Value) (w : zH) : zrun none (30, 21, ls, (.ref a :: st), w) = zo (zf w a 601) (fun x => zrun none (30, 24, ls, (x :: st), w)) := (zE_ (i := .getfield 601) (by decide +kernel) _ _ _).trans zq_getf
theorem e30_24 (v0 v2 v3 : Value) (x : Int32) (st : List Value) (w : zH) : zrun none (30, 24, [v0, .int x, v2, v3], st, w) = zrun none (30, 25, [v0, .int x, v2, v3], (.int x :: st), w) := (zE_ (i := .iload_n 1) (by decide +kernel) _ _ _).trans rfl
theorem e30_25 (ls st : List Value) (w : zH) : zrun none (30, 25, ls, st, w) = zrun none (30, 26, ls, (.int 1 :: st), w) := (zE_ (i := .iconst 1) (by decide +kernel) _ _ _).trans rfl
theorem e30_26 (v0 v1 v2 : Value) (x : Int32) (st : List Value) (w : zH) : zrun none (30, 26, [v0, v1, v2, .int x], st, w) = zrun none (30, 27, [v0, v1, v2, .int x], (.int x :: st), w) := (zE_ (i := .iload_n 3) (by decide +kernel) _ _ _).trans rfl
theorem e30_27 (ls : List Value) (a b : Int32) (st : List Value) (w : zH) : zrun none (30, 27, ls, (.int b :: .int a :: st), w) = zrun none (30, 28, ls, (.int (a <<< (b &&& 31)) :: st), w) := (zE_ (i := .ishl) (by decide +kernel) _ _ _).trans rfl
theorem e30_28 (ls st : List Value) (w : zH) : zrun none (30, 28, ls, st, w) = zrun none (30, 29, ls, (.int (-1) :: st), w) := (zE_ (i := .iconst (-1)) (by decide +kernel) _ _ _).trans rfl
theorem e30_29 (ls : List Value) (a b : Int32) (st : List Value) (w : zH) : zrun none (30, 29, ls, (.int b :: .int a :: st), w) = zrun none (30, 30, ls, (.int (a ^^^ b) :: st), w) := (zE_ (i := .ixor) (by decide +kernel) _ _ _).trans rfl
theorem e30_30 (ls : List Value) (a b : Int32) (st : List Value) (w : zH) : zrun none (30, 30, ls, (.int b :: .int a :: st), w) = zrun none (30, 31, ls, (.int (a &&& b) :: st), w) := (zE_ (i := .iand) (by decide +kernel) _ _ _).trans rfl
theorem e30_31 (ls : List Value) (j : Int32) (a : Nat) (st : List Value) (w : zH) : zrun none (30, 31, ls, (.int j :: .ref a :: st), w) = zoi (zai w a 100 j) (fun x => zrun none (30, 32, ls, (.int x :: st), w)) := (zE_ (i := .iaload) (by decide +kernel) _ _ _).trans zq_iald
theorem e30_32 (ls : List Value) (a b : Int32) (st : List Value) (w : zH) : zrun none (30, 32, ls, (.int b :: .int a :: st), w) = zrun none (30, 33, ls, (.int (a + b) :: st), w) := (zE_ (i := .iadd) (by decide +kernel) _ _ _).trans rfl
theorem e30_33 (v0 v1 v2 v3 : Value) (x : Int32) (st : List Value) (w : zH) (h : v1.category = 1) : zrun none (30, 33, [v0, v1, v2, v3], (.int x :: st), w) = zrun none (30, 34, [v0, v1, .int x, v3], st, w) := by
  refine (zE_ (i := .istore_n 2) (by decide +kernel) _ _ _).trans ?_
  have hz : zfree [v0, v1, v2, v3] 2 = true := by show decide (v1.category = 1) = true; exact decide_eq_true h
  show zres (zst zint 2 1 30 33 [v0, v1, v2, v3] (.int x :: st) w) = _
  unfold zst
  dsimp only
  rw [if_pos ⟨rfl, Nat.le_of_ble_eq_true rfl, hz⟩]
  rfl
theorem e30_34 (v0 v1 v2 : Value) (x : Int32) (st : List Value) (w : zH) : zrun none (30, 34, [v0, v1, v2, .int x], st, w) = zrun none (30, 37, [v0, v1, v2, .int (x + 1)], st, w) := (zE_ (i := .iinc 3 1) (by decide +kernel) _ _ _).trans rfl
theorem e30_37 (ls st : List Value) (w : zH) : zrun none (30, 37, ls, st, w) = zrun none (30, 4, ls, st, w) := (zE_ (i := .goto (-33)) (by decide +kernel) _ _ _).trans rfl
theorem e30_40 (v0 v1 v3 : Value) (x : Int32) (st : List Value) (w : zH) : zrun none (30, 40, [v0, v1, .int x, v3], st, w) = zrun none (30, 41, [v0, v1, .int x, v3], (.int x :: st), w) := (zE_ (i := .iload_n 2) (by decide +kernel) _ _ _).trans rfl
theorem e30_41 (ls : List Value) (x : Int32) (w : zH) : zrun none (30, 41, ls, [.int x], w) = some (some (.int x), w) := by
  refine (zE_ (i := .ireturn) (by decide +kernel) _ _ _).trans ?_
  show zres (if narrow .int (.int x) = .int x then _ else none) = _
  rw [if_pos (show narrow .int (.int x) = .int x from rfl)]
  rfl
theorem e31_0 (v0 v1 v3 v4 : Value) (x : Int32) (st : List Value) (w : zH) : zrun none (31, 0, [v0, v1, .int x, v3, v4], st, w) = zrun none (31, 1, [v0, v1, .int x, v3, v4], (.int x :: st), w) := (zE_ (i := .iload_n 2) (by decide +kernel) _ _ _).trans rfl
theorem e31_1 (ls : List Value) (a : Int32) (st : List Value) (w : zH) : zrun none (31, 1, ls, (.int a :: st), w) = if a < 0 then zrun none (31, 20, ls, st, w) else zrun none (31, 4, ls, st, w) := (zE_ (i := .ifCond .lt 19) (by decide +kernel) _ _ _).trans (zq_if_lt rfl rfl)
theorem e31_4 (v0 v1 v3 v4 : Value) (x : Int32) (st : List Value) (w : zH) : zrun none (31, 4, [v0, v1, .int x, v3, v4], st, w) = zrun none (31, 5, [v0, v1, .int x, v3, v4], (.int x :: st), w) := (zE_ (i := .iload_n 2) (by decide +kernel) _ _ _).trans rfl
theorem e31_5 (v0 v2 v3 v4 : Value) (x : Int32) (st : List Value) (w : zH) : zrun none (31, 5, [v0, .int x, v2, v3, v4], st, w) = zrun none (31, 6, [v0, .int x, v2, v3, v4], (.int x :: st), w) := (zE_ (i := .iload_n 1) (by decide +kernel) _ _ _).trans rfl
theorem e31_6 (ls : List Value) (x0 : Int32) (st : List Value) (w : zH) (hr : zcat st ≤ 8) : zrun none (31, 6, ls, (.int x0 :: st), w) = zcl (zrun none (225, 0, [.int x0], [], w)) (fun r => zrun none (31, 9, ls, r.1.toList ++ st, r.2)) := by
  refine (zE_ (i := .invokestatic 225) (by decide +kernel) _ _ _).trans ?_
  show zres (if (99 : Nat) = 99 ∧ 1 ≤ ((.int x0 :: st) : List Value).length then zcall 225 [.int x0] st 31 6 ls w else none) = _
  rw [if_pos ⟨rfl, by simp⟩]
  exact zq_call hr (Nat.le_of_ble_eq_true rfl) rfl rfl
theorem e31_9 (ls : List Value) (a b : Int32) (st : List Value) (w : zH) : zrun none (31, 9, ls, (.int b :: .int a :: st), w) = if b ≤ a then zrun none (31, 20, ls, st, w) else zrun none (31, 12, ls, st, w) := (zE_ (i := .if_icmp .ge 11) (by decide +kernel) _ _ _).trans (zq_ic_ge rfl rfl)
theorem e31_12 (v1 v2 v3 v4 : Value) (x : Nat) (st : List Value) (w : zH) : zrun none (31, 12, [.ref x, v1, v2, v3, v4], st, w) = zrun none (31, 13, [.ref x, v1, v2, v3, v4], (.ref x :: st), w) := (zE_ (i := .aload_n 0) (by decide +kernel) _ _ _).trans rfl
theorem e31_13 (v0 v2 v3 v4 : Value) (x : Int32) (st : List Value) (w : zH) : zrun none (31, 13, [v0, .int x, v2, v3, v4], st, w) = zrun none (31, 14, [v0, .int x, v2, v3, v4], (.int x :: st), w) := (zE_ (i := .iload_n 1) (by decide +kernel) _ _ _).trans rfl
theorem e31_14 (ls : List Value) (a : Nat) (x0 : Int32) (st : List Value) (w : zH) (hr : zcat st ≤ 8) : zrun none (31, 14, ls, (.int x0 :: .ref a :: st), w) = zgd (zis w a 6) (zcl (zrun none (27, 0, [.ref a, .int x0, zJ, zJ, zJ], [], w)) (fun r => zrun none (31, 17, ls, r.1.toList ++ st, r.2))) := by
  refine (zE_ (i := .invokevirtual 27) (by decide +kernel) _ _ _).trans ?_
  show zres (zinv none 27 31 14 ls (.int x0 :: .ref a :: st) w) = _
  unfold zinv
  show zres (if zrc none 27 w (.ref a) = true then zcall 27 [.ref a, .int x0] st 31 14 ls w else none) = _
  by_cases hc : zis w a 6
  · rw [if_pos (zrc_is hc (by decide +kernel)), zgd_pos hc]
    exact zq_call hr (Nat.le_of_ble_eq_true rfl) rfl rfl
  · rw [zgd_neg hc, if_neg (fun q => hc (zrc_of q (by decide +kernel)))]
    rfl
theorem e31_17 (ls : List Value) (a : Int32) (st : List Value) (w : zH) : zrun none (31, 17, ls, (.int a :: st), w) = if a = 0 then zrun none (31, 23, ls, st, w) else zrun none (31, 20, ls, st, w) := (zE_ (i := .ifCond .eq 6) (by decide +kernel) _ _ _).trans (zq_if_eq rfl rfl)
theorem e31_20 (ls st : List Value) (w : zH) : zrun none (31, 20, ls, st, w) = zrun none (31, 22, ls, (.int (-1000000) :: st), w) := (zE_ (i := .bipush (-1000000)) (by decide +kernel) _ _ _).trans rfl
theorem e31_22 (ls : List Value) (x : Int32) (w : zH) : zrun none (31, 22, ls, [.int x], w) = some (some (.int x), w) := by
  refine (zE_ (i := .ireturn) (by decide +kernel) _ _ _).trans ?_
  show zres (if narrow .int (.int x) = .int x then _ else none) = _
  rw [if_pos (show narrow .int (.int x) = .int x from rfl)]
  rfl
theorem e31_23 (v0 v2 v3 v4 : Value) (x : Int32) (st : List Value) (w : zH) : zrun none (31, 23, [v0, .int x, v2, v3, v4], st, w) = zrun none (31, 24, [v0, .int x, v2, v3, v4], (.int x :: st), w) := (zE_ (i := .iload_n 1) (by decide +kernel) _ _ _).trans rfl
theorem e31_24 (v0 v1 v2 v3 v4 : Value) (x : Int32) (st : List Value) (w : zH) (h : v2.category = 1) : zrun none (31, 24, [v0, v1, v2, v3, v4], (.int x :: st), w) = zrun none (31, 25, [v0, v1, v2, .int x, v4], st, w) := by
  refine (zE_ (i := .istore_n 3) (by decide +kernel) _ _ _).trans ?_
  have hz : zfree [v0, v1, v2, v3, v4] 3 = true := by show decide (v2.category = 1) = true; exact decide_eq_true h
  show zres (zst zint 3 1 31 24 [v0, v1, v2, v3, v4] (.int x :: st) w) = _
  unfold zst
  dsimp only
  rw [if_pos ⟨rfl, Nat.le_of_ble_eq_true rfl, hz⟩]
  rfl
theorem e31_25 (ls st : List Value) (w : zH) : zrun none (31, 25, ls, st, w) = zrun none (31, 26, ls, (.int 0 :: st), w) := (zE_ (i := .iconst 0) (by decide +kernel) _ _ _).trans rfl
theorem e31_26 (v0 v1 v2 v3 v4 : Value) (x : Int32) (st : List Value) (w : zH) (h : v3.category = 1) : zrun none (31, 26, [v0, v1, v2, v3, v4], (.int x :: st), w) = zrun none (31, 28, [v0, v1, v2, v3, .int x], st, w) := by
  refine (zE_ (i := .istore 4) (by decide +kernel) _ _ _).trans ?_
  have hz : zfree [v0, v1, v2, v3, v4] 4 = true := by show decide (v3.category = 1) = true; exact decide_eq_true h
  show zres (zst zint 4 2 31 26 [v0, v1, v2, v3, v4] (.int x :: st) w) = _
  unfold zst
  dsimp only
  rw [if_pos ⟨rfl, Nat.le_of_ble_eq_true rfl, hz⟩]
  rfl
theorem e31_28 (v0 v1 v2 v3 : Value) (x : Int32) (st : List Value) (w : zH) : zrun none (31, 28, [v0, v1, v2, v3, .int x], st, w) = zrun none (31, 30, [v0, v1, v2, v3, .int x], (.int x :: st), w) := (zE_ (i := .iload 4) (by decide +kernel) _ _ _).trans rfl
theorem e31_30 (v0 v1 v3 v4 : Value) (x : Int32) (st : List Value) (w : zH) : zrun none (31, 30, [v0, v1, .int x, v3, v4], st, w) = zrun none (31, 31, [v0, v1, .int x, v3, v4], (.int x :: st), w) := (zE_ (i := .iload_n 2) (by decide +kernel) _ _ _).trans rfl
theorem e31_31 (ls : List Value) (a b : Int32) (st : List Value) (w : zH) : zrun none (31, 31, ls, (.int b :: .int a :: st), w) = if b ≤ a then zrun none (31, 59, ls, st, w) else zrun none (31, 34, ls, st, w) := (zE_ (i := .if_icmp .ge 28) (by decide +kernel) _ _ _).trans (zq_ic_ge rfl rfl)
theorem e31_34 (v0 v1 v2 v3 : Value) (x : Int32) (st : List Value) (w : zH) : zrun none (31, 34, [v0, v1, v2, v3, .int x], st, w) = zrun none (31, 36, [v0, v1, v2, v3, .int x], (.int x :: st), w) := (zE_ (i := .iload 4) (by decide +kernel) _ _ _).trans rfl
theorem e31_36 (ls st : List Value) (w : zH) : zrun none (31, 36, ls, st, w) = zrun none (31, 38, ls, (.int 8 :: st), w) := (zE_ (i := .bipush 8) (by decide +kernel) _ _ _).trans rfl
theorem e31_38 (ls : List Value) (a b : Int32) (st : List Value) (w : zH) : zrun none (31, 38, ls, (.int b :: .int a :: st), w) = if b ≤ a then zrun none (31, 59, ls, st, w) else zrun none (31, 41, ls, st, w) := (zE_ (i := .if_icmp .ge 21) (by decide +kernel) _ _ _).trans (zq_ic_ge rfl rfl)
theorem e31_41 (v0 v1 v2 v4 : Value) (x : Int32) (st : List Value) (w : zH) : zrun none (31, 41, [v0, v1, v2, .int x, v4], st, w) = zrun none (31, 42, [v0, v1, v2, .int x, v4], (.int x :: st), w) := (zE_ (i := .iload_n 3) (by decide +kernel) _ _ _).trans rfl
theorem e31_42 (ls st : List Value) (w : zH) : zrun none (31, 42, ls, st, w) = zrun none (31, 43, ls, (.int 1 :: st), w) := (zE_ (i := .iconst 1) (by decide +kernel) _ _ _).trans rfl
theorem e31_43 (v1 v2 v3 v4 : Value) (x : Nat) (st : List Value) (w : zH) : zrun none (31, 43, [.ref x, v1, v2, v3, v4], st, w) = zrun none (31, 44, [.ref x, v1, v2, v3, v4], (.ref x :: st), w) := (zE_ (i := .aload_n 0) (by decide +kernel) _ _ _).trans rfl
theorem e31_44 (v0 v1 v2 v4 : Value) (x : Int32) (st : List Value) (w : zH) : zrun none (31, 44, [v0, v1, v2, .int x, v4], st, w) = zrun none (31, 45, [v0, v1, v2, .int x, v4], (.int x :: st), w) := (zE_ (i := .iload_n 3) (by decide +kernel) _ _ _).trans rfl
theorem e31_45 (ls : List Value) (a : Nat) (x0 : Int32) (st : List Value) (w : zH) (hr : zcat st ≤ 8) : zrun none (31, 45, ls, (.int x0 :: .ref a :: st), w) = zgd (zis w a 6) (zcl (zrun none (26, 0, [.ref a, .int x0, zJ], [], w)) (fun r => zrun none (31, 48, ls, r.1.toList ++ st, r.2))) := by
  refine (zE_ (i := .invokevirtual 26) (by decide +kernel) _ _ _).trans ?_
  show zres (zinv none 26 31 45 ls (.int x0 :: .ref a :: st) w) = _
  unfold zinv
  show zres (if zrc none 26 w (.ref a) = true then zcall 26 [.ref a, .int x0] st 31 45 ls w else none) = _
  by_cases hc : zis w a 6
  · rw [if_pos (zrc_is hc (by decide +kernel)), zgd_pos hc]
    exact zq_call hr (Nat.le_of_ble_eq_true rfl) rfl rfl
  · rw [zgd_neg hc, if_neg (fun q => hc (zrc_of q (by decide +kernel)))]
    rfl
theorem e31_48 (ls : List Value) (a b : Int32) (st : List Value) (w : zH) : zrun none (31, 48, ls, (.int b :: .int a :: st), w) = zrun none (31, 49, ls, (.int (a <<< (b &&& 31)) :: st), w) := (zE_ (i := .ishl) (by decide +kernel) _ _ _).trans rfl
theorem e31_49 (ls st : List Value) (w : zH) : zrun none (31, 49, ls, st, w) = zrun none (31, 50, ls, (.int (-1) :: st), w) := (zE_ (i := .iconst (-1)) (by decide +kernel) _ _ _).trans rfl
theorem e31_50 (ls : List Value) (a b : Int32) (st : List Value) (w : zH) : zrun none (31, 50, ls, (.int b :: .int a :: st), w) = zrun none (31, 51, ls, (.int (a ^^^ b) :: st), w) := (zE_ (i := .ixor) (by decide +kernel) _ _ _).trans rfl
theorem e31_51 (ls : List Value) (a b : Int32) (st : List Value) (w : zH) : zrun none (31, 51, ls, (.int b :: .int a :: st), w) = zrun none (31, 52, ls, (.int (a &&& b) :: st), w) := (zE_ (i := .iand) (by decide +kernel) _ _ _).trans rfl
theorem e31_52 (v0 v1 v2 v3 v4 : Value) (x : Int32) (st : List Value) (w : zH) (h : v2.category = 1) : zrun none (31, 52, [v0, v1, v2, v3, v4], (.int x :: st), w) = zrun none (31, 53, [v0, v1, v2, .int x, v4], st, w) := by
  refine (zE_ (i := .istore_n 3) (by decide +kernel) _ _ _).trans ?_
  have hz : zfree [v0, v1, v2, v3, v4] 3 = true := by show decide (v2.category = 1) = true; exact decide_eq_true h
  show zres (zst zint 3 1 31 52 [v0, v1, v2, v3, v4] (.int x :: st) w) = _
  unfold zst
  dsimp only
  rw [if_pos ⟨rfl, Nat.le_of_ble_eq_true rfl, hz⟩]
  rfl
theorem e31_53 (v0 v1 v2 v3 : Value) (x : Int32) (st : List Value) (w : zH) : zrun none (31, 53, [v0, v1, v2, v3, .int x], st, w) = zrun none (31, 56, [v0, v1, v2, v3, .int (x + 1)], st, w) := (zE_ (i := .iinc 4 1) (by decide +kernel) _ _ _).trans rfl
theorem e31_56 (ls st : List Value) (w : zH) : zrun none (31, 56, ls, st, w) = zrun none (31, 28, ls, st, w) := (zE_ (i := .goto (-28)) (by decide +kernel) _ _ _).trans rfl
theorem e31_59 (v1 v2 v3 v4 : Value) (x : Nat) (st : List Value) (w : zH) : zrun none (31, 59, [.ref x, v1, v2, v3, v4], st, w) = zrun none (31, 60, [.ref x, v1, v2, v3, v4], (.ref x :: st), w) := (zE_ (i := .aload_n 0) (by decide +kernel) _ _ _).trans rfl
theorem e31_60 (v0 v1 v2 v4 : Value) (x : Int32) (st : List Value) (w : zH) : zrun none (31, 60, [v0, v1, v2, .int x, v4], st, w) = zrun none (31, 61, [v0, v1, v2, .int x, v4], (.int x :: st), w) := (zE_ (i := .iload_n 3) (by decide +kernel) _ _ _).trans rfl
theorem e31_61 (ls : List Value) (a : Nat) (x0 : Int32) (st : List Value) (w : zH) (hr : zcat st ≤ 8) : zrun none (31, 61, ls, (.int x0 :: .ref a :: st), w) = zgd (zis w a 6) (zcl (zrun none (26, 0, [.ref a, .int x0, zJ], [], w)) (fun r => zrun none (31, 64, ls, r.1.toList ++ st, r.2))) := by
  refine (zE_ (i := .invokevirtual 26) (by decide +kernel) _ _ _).trans ?_
  show zres (zinv none 26 31 61 ls (.int x0 :: .ref a :: st) w) = _
  unfold zinv
  show zres (if zrc none 26 w (.ref a) = true then zcall 26 [.ref a, .int x0] st 31 61 ls w else none) = _
  by_cases hc : zis w a 6
  · rw [if_pos (zrc_is hc (by decide +kernel)), zgd_pos hc]
    exact zq_call hr (Nat.le_of_ble_eq_true rfl) rfl rfl
  · rw [zgd_neg hc, if_neg (fun q => hc (zrc_of q (by decide +kernel)))]
    rfl
theorem e31_64 (ls : List Value) (x : Int32) (w : zH) : zrun none (31, 64, ls, [.int x], w) = some (some (.int x), w) := by
  refine (zE_ (i := .ireturn) (by decide +kernel) _ _ _).trans ?_
  show zres (if narrow .int (.int x) = .int x then _ else none) = _
  rw [if_pos (show narrow .int (.int x) = .int x from rfl)]
  rfl
theorem e32_0 (v1 v2 v3 v4 : Value) (x : Nat) (st : List Value) (w : zH) : zrun none (32, 0, [.ref x, v1, v2, v3, v4], st, w) = zrun none (32, 1, [.ref x, v1, v2, v3, v4], (.ref x :: st), w) := (zE_ (i := .aload_n 0) (by decide +kernel) _ _ _).trans rfl
theorem e32_1 (ls : List Value) (a : Nat) (st : List Value) (w : zH) (h : a < zX) (hr : zcat st ≤ 8) : zrun none (32, 1, ls, (.ref a :: st), w) = zrun none (32, 4, ls, st, w) := by
  refine (zE_ (i := .invokespecial 998) (by decide +kernel) _ _ _).trans ?_
  simp only [zI, if_true]
  rw [if_pos ⟨hr, h⟩]
  rfl
theorem e32_4 (v1 v2 v3 v4 : Value) (x : Nat) (st : List Value) (w : zH) : zrun none (32, 4, [.ref x, v1, v2, v3, v4], st, w) = zrun none (32, 5, [.ref x, v1, v2, v3, v4], (.ref x :: st), w) := (zE_ (i := .aload_n 0) (by decide +kernel) _ _ _).trans rfl
theorem e32_5 (v0 v2 v3 v4 : Value) (x : Int32) (st : List Value) (w : zH) : zrun none (32, 5, [v0, .int x, v2, v3, v4], st, w) = zrun none (32, 6, [v0, .int x, v2, v3, v4], (.int x :: st), w) := (zE_ (i := .iload_n 1) (by decide +kernel) _ _ _).trans rfl
theorem e32_6 (ls : List Value) (x : Int32) (a : Nat) (st : List Value) (w : zH) : zrun none (32, 6, ls, (.int x :: .ref a :: st), w) = zgd (a < zX ∧ (zf w a 700).isSome = true) (zrun none (32, 9, ls, st, zpf w a 700 (.int x))) := by
  refine (zE_ (i := .putfield 700) (by decide +kernel) _ _ _).trans ?_
  by_cases hg : a < zX ∧ (zf w a 700).isSome = true
  · rw [zgd_pos hg]
    obtain ⟨ha, h⟩ := hg
    exact zq_putf ha h rfl rfl
  · rw [zgd_neg hg]
    exact zq_putf_no (fun h1 h2 h3 => hg ⟨h1, h2⟩)
theorem e32_9 (v1 v2 v3 v4 : Value) (x : Nat) (st : List Value) (w : zH) : zrun none (32, 9, [.ref x, v1, v2, v3, v4], st, w) = zrun none (32, 10, [.ref x, v1, v2, v3, v4], (.ref x :: st), w) := (zE_ (i := .aload_n 0) (by decide +kernel) _ _ _).trans rfl
theorem e32_10 (v0 v1 v3 v4 : Value) (x : Int32) (st : List Value) (w : zH) : zrun none (32, 10, [v0, v1, .int x, v3, v4], st, w) = zrun none (32, 11, [v0, v1, .int x, v3, v4], (.int x :: st), w) := (zE_ (i := .iload_n 2) (by decide +kernel) _ _ _).trans rfl
theorem e32_11 (ls : List Value) (x : Int32) (a : Nat) (st : List Value) (w : zH) : zrun none (32, 11, ls, (.int x :: .ref a :: st), w) = zgd (a < zX ∧ (zf w a 701).isSome = true) (zrun none (32, 14, ls, st, zpf w a 701 (.int x))) := by
  refine (zE_ (i := .putfield 701) (by decide +kernel) _ _ _).trans ?_
  by_cases hg : a < zX ∧ (zf w a 701).isSome = true
  · rw [zgd_pos hg]
    obtain ⟨ha, h⟩ := hg
    exact zq_putf ha h rfl rfl
  · rw [zgd_neg hg]
    exact zq_putf_no (fun h1 h2 h3 => hg ⟨h1, h2⟩)
theorem e32_14 (v1 v2 v3 v4 : Value) (x : Nat) (st : List Value) (w : zH) : zrun none (32, 14, [.ref x, v1, v2, v3, v4], st, w) = zrun none (32, 15, [.ref x, v1, v2, v3, v4], (.ref x :: st), w) := (zE_ (i := .aload_n 0) (by decide +kernel) _ _ _).trans rfl
theorem e32_15 (v0 v1 v2 v4 : Value) (x : Int32) (st : List Value) (w : zH) : zrun none (32, 15, [v0, v1, v2, .int x, v4], st, w) = zrun none (32, 16, [v0, v1, v2, .int x, v4], (.int x :: st), w) := (zE_ (i := .iload_n 3) (by decide +kernel) _ _ _).trans rfl
theorem e32_16 (ls : List Value) (x : Int32) (a : Nat) (st : List Value) (w : zH) : zrun none (32, 16, ls, (.int x :: .ref a :: st), w) = zgd (a < zX ∧ (zf w a 702).isSome = true) (zrun none (32, 19, ls, st, zpf w a 702 (.int x))) := by
  refine (zE_ (i := .putfield 702) (by decide +kernel) _ _ _).trans ?_
  by_cases hg : a < zX ∧ (zf w a 702).isSome = true
  · rw [zgd_pos hg]
    obtain ⟨ha, h⟩ := hg
    exact zq_putf ha h rfl rfl
  · rw [zgd_neg hg]
    exact zq_putf_no (fun h1 h2 h3 => hg ⟨h1, h2⟩)
theorem e32_19 (v1 v2 v3 v4 : Value) (x : Nat) (st : List Value) (w : zH) : zrun none (32, 19, [.ref x, v1, v2, v3, v4], st, w) = zrun none (32, 20, [.ref x, v1, v2, v3, v4], (.ref x :: st), w) := (zE_ (i := .aload_n 0) (by decide +kernel) _ _ _).trans rfl
theorem e32_20 (v0 v1 v2 v3 : Value) (x : Int32) (st : List Value) (w : zH) : zrun none (32, 20, [v0, v1, v2, v3, .int x], st, w) = zrun none (32, 22, [v0, v1, v2, v3, .int x], (.int x :: st), w) := (zE_ (i := .iload 4) (by decide +kernel) _ _ _).trans rfl
theorem e32_22 (ls : List Value) (x : Int32) (a : Nat) (st : List Value) (w : zH) : zrun none (32, 22, ls, (.int x :: .ref a :: st), w) = zgd (a < zX ∧ (zf w a 703).isSome = true) (zrun none (32, 25, ls, st, zpf w a 703 (.int x))) := by
  refine (zE_ (i := .putfield 703) (by decide +kernel) _ _ _).trans ?_
  by_cases hg : a < zX ∧ (zf w a 703).isSome = true
  · rw [zgd_pos hg]
    obtain ⟨ha, h⟩ := hg
    exact zq_putf ha h rfl rfl
  · rw [zgd_neg hg]
    exact zq_putf_no (fun h1 h2 h3 => hg ⟨h1, h2⟩)
theorem e32_25 (ls : List Value) (w : zH) : zrun none (32, 25, ls, [], w) = some (none, w) := (zE_ (i := .return_) (by decide +kernel) _ _ _).trans rfl
theorem e33_0 (v0 : Value) (x : Int32) (st : List Value) (w : zH) : zrun none (33, 0, [v0, .int x], st, w) = zrun none (33, 1, [v0, .int x], (.int x :: st), w) := (zE_ (i := .iload_n 1) (by decide +kernel) _ _ _).trans rfl
theorem e33_1 (ls : List Value) (x0 : Int32) (st : List Value) (w : zH) (hr : zcat st ≤ 8) : zrun none (33, 1, ls, (.int x0 :: st), w) = zcl (zrun none (109, 0, [.int x0], [], w)) (fun r => zrun none (33, 4, ls, r.1.toList ++ st, r.2)) := by
  refine (zE_ (i := .invokestatic 109) (by decide +kernel) _ _ _).trans ?_
  show zres (if (99 : Nat) = 99 ∧ 1 ≤ ((.int x0 :: st) : List Value).length then zcall 109 [.int x0] st 33 1 ls w else none) = _
  rw [if_pos ⟨rfl, by simp⟩]
  exact zq_call hr (Nat.le_of_ble_eq_true rfl) rfl rfl
theorem e33_4 (v1 : Value) (x : Nat) (st : List Value) (w : zH) : zrun none (33, 4, [.ref x, v1], st, w) = zrun none (33, 5, [.ref x, v1], (.ref x :: st), w) := (zE_ (i := .aload_n 0) (by decide +kernel) _ _ _).trans rfl
theorem e33_5 (ls : List Value) (a : Nat) (st : List Value) (w : zH) : zrun none (33, 5, ls, (.ref a :: st), w) = zo (zf w a 702) (fun x => zrun none (33, 8, ls, (x :: st), w)) := (zE_ (i := .getfield 702) (by decide +kernel) _ _ _).trans zq_getf
theorem e33_8 (ls : List Value) (a b : Int32) (st : List Value) (w : zH) : zrun none (33, 8, ls, (.int b :: .int a :: st), w) = zrun none (33, 9, ls, (.int (a - b) :: st), w) := (zE_ (i := .isub) (by decide +kernel) _ _ _).trans rfl
theorem e33_9 (ls : List Value) (x : Int32) (w : zH) : zrun none (33, 9, ls, [.int x], w) = some (some (.int x), w) := by
  refine (zE_ (i := .ireturn) (by decide +kernel) _ _ _).trans ?_
  show zres (if narrow .int (.int x) = .int x then _ else none) = _
  rw [if_pos (show narrow .int (.int x) = .int x from rfl)]
  rfl
theorem e34_0 (x : Nat) (st : List Value) (w : zH) : zrun none (34, 0, [.ref x], st, w) = zrun none (34, 1, [.ref x], (.ref x :: st), w) := (zE_ (i := .aload_n 0) (by decide +kernel) _ _ _).trans rfl
theorem e34_1 (ls : List Value) (a : Nat) (st : List Value) (w : zH) (h : a < zX) (hr : zcat st ≤ 8) : zrun none (34, 1, ls, (.ref a :: st), w) = zrun none (34, 4, ls, st, w) := by
  refine (zE_ (i := .invokespecial 998) (by decide +kernel) _ _ _).trans ?_
  simp only [zI, if_true]
  rw [if_pos ⟨hr, h⟩]
  rfl
theorem e34_4 (x : Nat) (st : List Value) (w : zH) : zrun none (34, 4, [.ref x], st, w) = zrun none (34, 5, [.ref x], (.ref x :: st), w) := (zE_ (i := .aload_n 0) (by decide +kernel) _ _ _).trans rfl
theorem e34_5 (ls st : List Value) (w : zH) : zrun none (34, 5, ls, st, w) = zrun none (34, 7, ls, (.int 100 :: st), w) := (zE_ (i := .bipush 100) (by decide +kernel) _ _ _).trans rfl
theorem e34_7 (ls : List Value) (n : Int32) (st : List Value) (w : zH) (h0 : ¬ n < 0 ∧ n ≤ 65536) (h : w.length + 1 < zX) : zrun none (34, 7, ls, (.int n :: st), w) = zrun none (34, 9, ls, (.ref w.length :: st), w ++ [(100, List.replicate n.toNatClampNeg (.int 0))]) := by
  refine (zE_ (i := .newarray .int) (by decide +kernel) _ _ _).trans ?_
  simp only [zI]
  unfold znwa
  dsimp only
  rw [if_pos h0]
  unfold znw
  rw [if_pos h]
  rfl
theorem e34_9 (ls : List Value) (x : Nat) (a : Nat) (st : List Value) (w : zH) : zrun none (34, 9, ls, (.ref x :: .ref a :: st), w) = zgd (a < zX ∧ (zf w a 800).isSome = true) (zrun none (34, 12, ls, st, zpf w a 800 (.ref x))) := by
  refine (zE_ (i := .putfield 800) (by decide +kernel) _ _ _).trans ?_
  by_cases hg : a < zX ∧ (zf w a 800).isSome = true
  · rw [zgd_pos hg]
    obtain ⟨ha, h⟩ := hg
    exact zq_putf ha h rfl rfl
  · rw [zgd_neg hg]
    exact zq_putf_no (fun h1 h2 h3 => hg ⟨h1, h2⟩)
theorem e34_12 (ls : List Value) (w : zH) : zrun none (34, 12, ls, [], w) = some (none, w) := (zE_ (i := .return_) (by decide +kernel) _ _ _).trans rfl
theorem e35_0 (v1 v2 : Value) (x : Nat) (st : List Value) (w : zH) : zrun none (35, 0, [.ref x, v1, v2], st, w) = zrun none (35, 1, [.ref x, v1, v2], (.ref x :: st), w) := (zE_ (i := .aload_n 0) (by decide +kernel) _ _ _).trans rfl
theorem e35_1 (ls : List Value) (a : Nat) (st : List Value) (w : zH) : zrun none (35, 1, ls, (.ref a :: st), w) = zo (zf w a 800) (fun x => zrun none (35, 4, ls, (x :: st), w)) := (zE_ (i := .getfield 800) (by decide +kernel) _ _ _).trans zq_getf
theorem e35_4 (ls st : List Value) (w : zH) : zrun none (35, 4, ls, st, w) = zrun none (35, 5, ls, (.int 0 :: st), w) := (zE_ (i := .iconst 0) (by decide +kernel) _ _ _).trans rfl
theorem e35_5 (ls : List Value) (x0 : Nat) (x1 : Int32) (st : List Value) (w : zH) (hr : zcat st ≤ 8) : zrun none (35, 5, ls, (.int x1 :: .ref x0 :: st), w) = zcl (zrun none (240, 0, [.ref x0, .int x1, zJ, zJ], [], w)) (fun r => zrun none (35, 8, ls, r.1.toList ++ st, r.2)) := by
  refine (zE_ (i := .invokestatic 240) (by decide +kernel) _ _ _).trans ?_
  show zres (if (99 : Nat) = 99 ∧ 2 ≤ ((.int x1 :: .ref x0 :: st) : List Value).length then zcall 240 [.ref x0, .int x1] st 35 5 ls w else none) = _
  rw [if_pos ⟨rfl, by simp⟩]
  exact zq_call hr (Nat.le_of_ble_eq_true rfl) rfl rfl
theorem e35_8 (v1 v2 : Value) (x : Nat) (st : List Value) (w : zH) : zrun none (35, 8, [.ref x, v1, v2], st, w) = zrun none (35, 9, [.ref x, v1, v2], (.ref x :: st), w) := (zE_ (i := .aload_n 0) (by decide +kernel) _ _ _).trans rfl
theorem e35_9 (ls st : List Value) (w : zH) : zrun none (35, 9, ls, st, w) = zrun none (35, 10, ls, (.int 1 :: st), w) := (zE_ (i := .iconst 1) (by decide +kernel) _ _ _).trans rfl
theorem e35_10 (ls : List Value) (x : Int32) (a : Nat) (st : List Value) (w : zH) : zrun none (35, 10, ls, (.int x :: .ref a :: st), w) = zgd (a < zX ∧ (zf w a 801).isSome = true ∧ (x = 0 ∨ x = 1)) (zrun none (35, 13, ls, st, zpf w a 801 (.int x))) := by
  refine (zE_ (i := .putfield 801) (by decide +kernel) _ _ _).trans ?_
  by_cases hg : a < zX ∧ (zf w a 801).isSome = true ∧ (x = 0 ∨ x = 1)
  · rw [zgd_pos hg]
    obtain ⟨ha, h, hb⟩ := hg
    exact zq_putf ha h (by rcases hb with rfl | rfl <;> rfl) (by rcases hb with rfl | rfl <;> rfl)
  · rw [zgd_neg hg]
    exact zq_putf_no (fun h1 h2 h3 => hg ⟨h1, h2, zbit h3⟩)
theorem e35_13 (v1 v2 : Value) (x : Nat) (st : List Value) (w : zH) : zrun none (35, 13, [.ref x, v1, v2], st, w) = zrun none (35, 14, [.ref x, v1, v2], (.ref x :: st), w) := (zE_ (i := .aload_n 0) (by decide +kernel) _ _ _).trans rfl
theorem e35_14 (v0 v2 : Value) (x : Int32) (st : List Value) (w : zH) : zrun none (35, 14, [v0, .int x, v2], st, w) = zrun none (35, 15, [v0, .int x, v2], (.int x :: st), w) := (zE_ (i := .iload_n 1) (by decide +kernel) _ _ _).trans rfl
theorem e35_15 (ls : List Value) (x : Int32) (a : Nat) (st : List Value) (w : zH) : zrun none (35, 15, ls, (.int x :: .ref a :: st), w) = zgd (a < zX ∧ (zf w a 802).isSome = true) (zrun none (35, 18, ls, st, zpf w a 802 (.int x))) := by
  refine (zE_ (i := .putfield 802) (by decide +kernel) _ _ _).trans ?_
  by_cases hg : a < zX ∧ (zf w a 802).isSome = true
  · rw [zgd_pos hg]
    obtain ⟨ha, h⟩ := hg
    exact zq_putf ha h rfl rfl
  · rw [zgd_neg hg]
    exact zq_putf_no (fun h1 h2 h3 => hg ⟨h1, h2⟩)
theorem e35_18 (v1 v2 : Value) (x : Nat) (st : List Value) (w : zH) : zrun none (35, 18, [.ref x, v1, v2], st, w) = zrun none (35, 19, [.ref x, v1, v2], (.ref x :: st), w) := (zE_ (i := .aload_n 0) (by decide +kernel) _ _ _).trans rfl
theorem e35_19 (v0 v1 : Value) (x : Int32) (st : List Value) (w : zH) : zrun none (35, 19, [v0, v1, .int x], st, w) = zrun none (35, 20, [v0, v1, .int x], (.int x :: st), w) := (zE_ (i := .iload_n 2) (by decide +kernel) _ _ _).trans rfl
theorem e35_20 (ls : List Value) (x : Int32) (a : Nat) (st : List Value) (w : zH) : zrun none (35, 20, ls, (.int x :: .ref a :: st), w) = zgd (a < zX ∧ (zf w a 803).isSome = true) (zrun none (35, 23, ls, st, zpf w a 803 (.int x))) := by
  refine (zE_ (i := .putfield 803) (by decide +kernel) _ _ _).trans ?_
  by_cases hg : a < zX ∧ (zf w a 803).isSome = true
  · rw [zgd_pos hg]
    obtain ⟨ha, h⟩ := hg
    exact zq_putf ha h rfl rfl
  · rw [zgd_neg hg]
    exact zq_putf_no (fun h1 h2 h3 => hg ⟨h1, h2⟩)
theorem e35_23 (ls : List Value) (w : zH) : zrun none (35, 23, ls, [], w) = some (none, w) := (zE_ (i := .return_) (by decide +kernel) _ _ _).trans rfl
theorem e36_0 (v0 v2 : Value) (x : Int32) (st : List Value) (w : zH) : zrun none (36, 0, [v0, .int x, v2], st, w) = zrun none (36, 1, [v0, .int x, v2], (.int x :: st), w) := (zE_ (i := .iload_n 1) (by decide +kernel) _ _ _).trans rfl
theorem e36_1 (ls : List Value) (a : Int32) (st : List Value) (w : zH) : zrun none (36, 1, ls, (.int a :: st), w) = if a < 0 then zrun none (36, 30, ls, st, w) else zrun none (36, 4, ls, st, w) := (zE_ (i := .ifCond .lt 29) (by decide +kernel) _ _ _).trans (zq_if_lt rfl rfl)
theorem e36_4 (v0 v1 : Value) (x : Int32) (st : List Value) (w : zH) : zrun none (36, 4, [v0, v1, .int x], st, w) = zrun none (36, 5, [v0, v1, .int x], (.int x :: st), w) := (zE_ (i := .iload_n 2) (by decide +kernel) _ _ _).trans rfl
theorem e36_5 (ls : List Value) (a : Int32) (st : List Value) (w : zH) : zrun none (36, 5, ls, (.int a :: st), w) = if a < 0 then zrun none (36, 30, ls, st, w) else zrun none (36, 8, ls, st, w) := (zE_ (i := .ifCond .lt 25) (by decide +kernel) _ _ _).trans (zq_if_lt rfl rfl)
theorem e36_8 (v0 v1 : Value) (x : Int32) (st : List Value) (w : zH) : zrun none (36, 8, [v0, v1, .int x], st, w) = zrun none (36, 9, [v0, v1, .int x], (.int x :: st), w) := (zE_ (i := .iload_n 2) (by decide +kernel) _ _ _).trans rfl
theorem e36_9 (v1 v2 : Value) (x : Nat) (st : List Value) (w : zH) : zrun none (36, 9, [.ref x, v1, v2], st, w) = zrun none (36, 10, [.ref x, v1, v2], (.ref x :: st), w) := (zE_ (i := .aload_n 0) (by decide +kernel) _ _ _).trans rfl
theorem e36_10 (ls : List Value) (a : Nat) (st : List Value) (w : zH) : zrun none (36, 10, ls, (.ref a :: st), w) = zo (zf w a 803) (fun x => zrun none (36, 13, ls, (x :: st), w)) := (zE_ (i := .getfield 803) (by decide +kernel) _ _ _).trans zq_getf
theorem e36_13 (ls : List Value) (a b : Int32) (st : List Value) (w : zH) : zrun none (36, 13, ls, (.int b :: .int a :: st), w) = if b < a then zrun none (36, 30, ls, st, w) else zrun none (36, 16, ls, st, w) := (zE_ (i := .if_icmp .gt 17) (by decide +kernel) _ _ _).trans (zq_ic_gt rfl rfl)
theorem e36_16 (v0 v2 : Value) (x : Int32) (st : List Value) (w : zH) : zrun none (36, 16, [v0, .int x, v2], st, w) = zrun none (36, 17, [v0, .int x, v2], (.int x :: st), w) := (zE_ (i := .iload_n 1) (by decide +kernel) _ _ _).trans rfl
theorem e36_17 (v1 v2 : Value) (x : Nat) (st : List Value) (w : zH) : zrun none (36, 17, [.ref x, v1, v2], st, w) = zrun none (36, 18, [.ref x, v1, v2], (.ref x :: st), w) := (zE_ (i := .aload_n 0) (by decide +kernel) _ _ _).trans rfl
theorem e36_18 (ls : List Value) (a : Nat) (st : List Value) (w : zH) : zrun none (36, 18, ls, (.ref a :: st), w) = zo (zf w a 803) (fun x => zrun none (36, 21, ls, (x :: st), w)) := (zE_ (i := .getfield 803) (by decide +kernel) _ _ _).trans zq_getf
theorem e36_21 (v0 v1 : Value) (x : Int32) (st : List Value) (w : zH) : zrun none (36, 21, [v0, v1, .int x], st, w) = zrun none (36, 22, [v0, v1, .int x], (.int x :: st), w) := (zE_ (i := .iload_n 2) (by decide +kernel) _ _ _).trans rfl
theorem e36_22 (ls : List Value) (a b : Int32) (st : List Value) (w : zH) : zrun none (36, 22, ls, (.int b :: .int a :: st), w) = zrun none (36, 23, ls, (.int (a - b) :: st), w) := (zE_ (i := .isub) (by decide +kernel) _ _ _).trans rfl
theorem e36_23 (ls : List Value) (a b : Int32) (st : List Value) (w : zH) : zrun none (36, 23, ls, (.int b :: .int a :: st), w) = if b < a then zrun none (36, 30, ls, st, w) else zrun none (36, 26, ls, st, w) := (zE_ (i := .if_icmp .gt 7) (by decide +kernel) _ _ _).trans (zq_ic_gt rfl rfl)
theorem e36_26 (ls st : List Value) (w : zH) : zrun none (36, 26, ls, st, w) = zrun none (36, 27, ls, (.int 1 :: st), w) := (zE_ (i := .iconst 1) (by decide +kernel) _ _ _).trans rfl
theorem e36_27 (ls st : List Value) (w : zH) : zrun none (36, 27, ls, st, w) = zrun none (36, 31, ls, st, w) := (zE_ (i := .goto 4) (by decide +kernel) _ _ _).trans rfl
theorem e36_30 (ls st : List Value) (w : zH) : zrun none (36, 30, ls, st, w) = zrun none (36, 31, ls, (.int 0 :: st), w) := (zE_ (i := .iconst 0) (by decide +kernel) _ _ _).trans rfl
theorem e36_31 (ls : List Value) (x : Int32) (w : zH) (h : narrow .boolean (.int x) = .int x) : zrun none (36, 31, ls, [.int x], w) = some (some (.int x), w) := by
  refine (zE_ (i := .ireturn) (by decide +kernel) _ _ _).trans ?_
  show zres (if narrow .boolean (.int x) = .int x then _ else none) = _
  rw [if_pos h]
  rfl
theorem e37_0 (v0 : Value) (x : Int32) (st : List Value) (w : zH) : zrun none (37, 0, [v0, .int x], st, w) = zrun none (37, 1, [v0, .int x], (.int x :: st), w) := (zE_ (i := .iload_n 1) (by decide +kernel) _ _ _).trans rfl
theorem e37_1 (ls : List Value) (a : Int32) (st : List Value) (w : zH) : zrun none (37, 1, ls, (.int a :: st), w) = if a < 0 then zrun none (37, 27, ls, st, w) else zrun none (37, 4, ls, st, w) := (zE_ (i := .ifCond .lt 26) (by decide +kernel) _ _ _).trans (zq_if_lt rfl rfl)
theorem e37_4 (v0 : Value) (x : Int32) (st : List Value) (w : zH) : zrun none (37, 4, [v0, .int x], st, w) = zrun none (37, 5, [v0, .int x], (.int x :: st), w) := (zE_ (i := .iload_n 1) (by decide +kernel) _ _ _).trans rfl
theorem e37_5 (v1 : Value) (x : Nat) (st : List Value) (w : zH) : zrun none (37, 5, [.ref x, v1], st, w) = zrun none (37, 6, [.ref x, v1], (.ref x :: st), w) := (zE_ (i := .aload_n 0) (by decide +kernel) _ _ _).trans rfl
theorem e37_6 (ls : List Value) (a : Nat) (st : List Value) (w : zH) : zrun none (37, 6, ls, (.ref a :: st), w) = zo (zf w a 803) (fun x => zrun none (37, 9, ls, (x :: st), w)) := (zE_ (i := .getfield 803) (by decide +kernel) _ _ _).trans zq_getf
theorem e37_9 (ls : List Value) (a b : Int32) (st : List Value) (w : zH) : zrun none (37, 9, ls, (.int b :: .int a :: st), w) = if b ≤ a then zrun none (37, 27, ls, st, w) else zrun none (37, 12, ls, st, w) := (zE_ (i := .if_icmp .ge 18) (by decide +kernel) _ _ _).trans (zq_ic_ge rfl rfl)
theorem e37_12 (v0 : Value) (x : Int32) (st : List Value) (w : zH) : zrun none (37, 12, [v0, .int x], st, w) = zrun none (37, 13, [v0, .int x], (.int x :: st), w) := (zE_ (i := .iload_n 1) (by decide +kernel) _ _ _).trans rfl
theorem e37_13 (ls st : List Value) (w : zH) : zrun none (37, 13, ls, st, w) = zrun none (37, 15, ls, (.int 100 :: st), w) := (zE_ (i := .bipush 100) (by decide +kernel) _ _ _).trans rfl
theorem e37_15 (ls : List Value) (a b : Int32) (st : List Value) (w : zH) : zrun none (37, 15, ls, (.int b :: .int a :: st), w) = if b ≤ a then zrun none (37, 27, ls, st, w) else zrun none (37, 18, ls, st, w) := (zE_ (i := .if_icmp .ge 12) (by decide +kernel) _ _ _).trans (zq_ic_ge rfl rfl)
theorem e37_18 (v1 : Value) (x : Nat) (st : List Value) (w : zH) : zrun none (37, 18, [.ref x, v1], st, w) = zrun none (37, 19, [.ref x, v1], (.ref x :: st), w) := (zE_ (i := .aload_n 0) (by decide +kernel) _ _ _).trans rfl
theorem e37_19 (ls : List Value) (a : Nat) (st : List Value) (w : zH) : zrun none (37, 19, ls, (.ref a :: st), w) = zo (zf w a 800) (fun x => zrun none (37, 22, ls, (x :: st), w)) := (zE_ (i := .getfield 800) (by decide +kernel) _ _ _).trans zq_getf
theorem e37_22 (v0 : Value) (x : Int32) (st : List Value) (w : zH) : zrun none (37, 22, [v0, .int x], st, w) = zrun none (37, 23, [v0, .int x], (.int x :: st), w) := (zE_ (i := .iload_n 1) (by decide +kernel) _ _ _).trans rfl
theorem e37_23 (ls : List Value) (j : Int32) (a : Nat) (st : List Value) (w : zH) : zrun none (37, 23, ls, (.int j :: .ref a :: st), w) = zoi (zai w a 100 j) (fun x => zrun none (37, 24, ls, (.int x :: st), w)) := (zE_ (i := .iaload) (by decide +kernel) _ _ _).trans zq_iald
theorem e37_24 (ls st : List Value) (w : zH) : zrun none (37, 24, ls, st, w) = zrun none (37, 28, ls, st, w) := (zE_ (i := .goto 4) (by decide +kernel) _ _ _).trans rfl
theorem e37_27 (ls st : List Value) (w : zH) : zrun none (37, 27, ls, st, w) = zrun none (37, 28, ls, (.int 0 :: st), w) := (zE_ (i := .iconst 0) (by decide +kernel) _ _ _).trans rfl
theorem e37_28 (ls : List Value) (x : Int32) (w : zH) : zrun none (37, 28, ls, [.int x], w) = some (some (.int x), w) := by
  refine (zE_ (i := .ireturn) (by decide +kernel) _ _ _).trans ?_
  show zres (if narrow .int (.int x) = .int x then _ else none) = _
  rw [if_pos (show narrow .int (.int x) = .int x from rfl)]
  rfl
theorem e38_0 (v0 v2 : Value) (x : Int32) (st : List Value) (w : zH) : zrun none (38, 0, [v0, .int x, v2], st, w) = zrun none (38, 1, [v0, .int x, v2], (.int x :: st), w) := (zE_ (i := .iload_n 1) (by decide +kernel) _ _ _).trans rfl
theorem e38_1 (ls : List Value) (a : Int32) (st : List Value) (w : zH) : zrun none (38, 1, ls, (.int a :: st), w) = if a < 0 then zrun none (38, 29, ls, st, w) else zrun none (38, 4, ls, st, w) := (zE_ (i := .ifCond .lt 28) (by decide +kernel) _ _ _).trans (zq_if_lt rfl rfl)
theorem e38_4 (v0 v2 : Value) (x : Int32) (st : List Value) (w : zH) : zrun none (38, 4, [v0, .int x, v2], st, w) = zrun none (38, 5, [v0, .int x, v2], (.int x :: st), w) := (zE_ (i := .iload_n 1) (by decide +kernel) _ _ _).trans rfl
theorem e38_5 (v1 v2 : Value) (x : Nat) (st : List Value) (w : zH) : zrun none (38, 5, [.ref x, v1, v2], st, w) = zrun none (38, 6, [.ref x, v1, v2], (.ref x :: st), w) := (zE_ (i := .aload_n 0) (by decide +kernel) _ _ _).trans rfl
theorem e38_6 (ls : List Value) (a : Nat) (st : List Value) (w : zH) : zrun none (38, 6, ls, (.ref a :: st), w) = zo (zf w a 803) (fun x => zrun none (38, 9, ls, (x :: st), w)) := (zE_ (i := .getfield 803) (by decide +kernel) _ _ _).trans zq_getf
theorem e38_9 (ls : List Value) (a b : Int32) (st : List Value) (w : zH) : zrun none (38, 9, ls, (.int b :: .int a :: st), w) = if b ≤ a then zrun none (38, 29, ls, st, w) else zrun none (38, 12, ls, st, w) := (zE_ (i := .if_icmp .ge 20) (by decide +kernel) _ _ _).trans (zq_ic_ge rfl rfl)
theorem e38_12 (v0 v2 : Value) (x : Int32) (st : List Value) (w : zH) : zrun none (38, 12, [v0, .int x, v2], st, w) = zrun none (38, 13, [v0, .int x, v2], (.int x :: st), w) := (zE_ (i := .iload_n 1) (by decide +kernel) _ _ _).trans rfl
theorem e38_13 (ls st : List Value) (w : zH) : zrun none (38, 13, ls, st, w) = zrun none (38, 15, ls, (.int 100 :: st), w) := (zE_ (i := .bipush 100) (by decide +kernel) _ _ _).trans rfl
theorem e38_15 (ls : List Value) (a b : Int32) (st : List Value) (w : zH) : zrun none (38, 15, ls, (.int b :: .int a :: st), w) = if b ≤ a then zrun none (38, 29, ls, st, w) else zrun none (38, 18, ls, st, w) := (zE_ (i := .if_icmp .ge 14) (by decide +kernel) _ _ _).trans (zq_ic_ge rfl rfl)
theorem e38_18 (v1 v2 : Value) (x : Nat) (st : List Value) (w : zH) : zrun none (38, 18, [.ref x, v1, v2], st, w) = zrun none (38, 19, [.ref x, v1, v2], (.ref x :: st), w) := (zE_ (i := .aload_n 0) (by decide +kernel) _ _ _).trans rfl
theorem e38_19 (ls : List Value) (a : Nat) (st : List Value) (w : zH) : zrun none (38, 19, ls, (.ref a :: st), w) = zo (zf w a 800) (fun x => zrun none (38, 22, ls, (x :: st), w)) := (zE_ (i := .getfield 800) (by decide +kernel) _ _ _).trans zq_getf
theorem e38_22 (v0 v2 : Value) (x : Int32) (st : List Value) (w : zH) : zrun none (38, 22, [v0, .int x, v2], st, w) = zrun none (38, 23, [v0, .int x, v2], (.int x :: st), w) := (zE_ (i := .iload_n 1) (by decide +kernel) _ _ _).trans rfl
theorem e38_23 (v1 v2 : Value) (x : Nat) (st : List Value) (w : zH) : zrun none (38, 23, [.ref x, v1, v2], st, w) = zrun none (38, 24, [.ref x, v1, v2], (.ref x :: st), w) := (zE_ (i := .aload_n 0) (by decide +kernel) _ _ _).trans rfl
theorem e38_24 (v0 v1 : Value) (x : Int32) (st : List Value) (w : zH) : zrun none (38, 24, [v0, v1, .int x], st, w) = zrun none (38, 25, [v0, v1, .int x], (.int x :: st), w) := (zE_ (i := .iload_n 2) (by decide +kernel) _ _ _).trans rfl
theorem e38_25 (ls : List Value) (a : Nat) (x0 : Int32) (st : List Value) (w : zH) (hr : zcat st ≤ 8) : zrun none (38, 25, ls, (.int x0 :: .ref a :: st), w) = zgd (zis w a 8) (zcl (zrun none (39, 0, [.ref a, .int x0], [], w)) (fun r => zrun none (38, 28, ls, r.1.toList ++ st, r.2))) := by
  refine (zE_ (i := .invokevirtual 39) (by decide +kernel) _ _ _).trans ?_
  show zres (zinv none 39 38 25 ls (.int x0 :: .ref a :: st) w) = _
  unfold zinv
  show zres (if zrc none 39 w (.ref a) = true then zcall 39 [.ref a, .int x0] st 38 25 ls w else none) = _
  by_cases hc : zis w a 8
  · rw [if_pos (zrc_is hc (by decide +kernel)), zgd_pos hc]
    exact zq_call hr (Nat.le_of_ble_eq_true rfl) rfl rfl
  · rw [zgd_neg hc, if_neg (fun q => hc (zrc_of q (by decide +kernel)))]
    rfl
theorem e38_28 (ls : List Value) (x j : Int32) (a : Nat) (st : List Value) (w : zH) : zrun none (38, 28, ls, (.int x :: .int j :: .ref a :: st), w) = zgd (zin? w a 100 j) (zrun none (38, 29, ls, st, zas w a j (.int x))) := by
  refine (zE_ (i := .iastore) (by decide +kernel) _ _ _).trans ?_
  by_cases hg : zin? w a 100 j
  · rw [zgd_pos hg]
    exact zq_iast hg
  · rw [zgd_neg hg]
    exact zq_iast_no hg
theorem e38_29 (v1 v2 : Value) (x : Nat) (st : List Value) (w : zH) : zrun none (38, 29, [.ref x, v1, v2], st, w) = zrun none (38, 30, [.ref x, v1, v2], (.ref x :: st), w) := (zE_ (i := .aload_n 0) (by decide +kernel) _ _ _).trans rfl
theorem e38_30 (v0 v2 : Value) (x : Int32) (st : List Value) (w : zH) : zrun none (38, 30, [v0, .int x, v2], st, w) = zrun none (38, 31, [v0, .int x, v2], (.int x :: st), w) := (zE_ (i := .iload_n 1) (by decide +kernel) _ _ _).trans rfl
theorem e38_31 (ls : List Value) (a : Nat) (x0 : Int32) (st : List Value) (w : zH) (hr : zcat st ≤ 8) : zrun none (38, 31, ls, (.int x0 :: .ref a :: st), w) = zgd (zis w a 8) (zcl (zrun none (37, 0, [.ref a, .int x0], [], w)) (fun r => zrun none (38, 34, ls, r.1.toList ++ st, r.2))) := by
  refine (zE_ (i := .invokevirtual 37) (by decide +kernel) _ _ _).trans ?_
  show zres (zinv none 37 38 31 ls (.int x0 :: .ref a :: st) w) = _
  unfold zinv
  show zres (if zrc none 37 w (.ref a) = true then zcall 37 [.ref a, .int x0] st 38 31 ls w else none) = _
  by_cases hc : zis w a 8
  · rw [if_pos (zrc_is hc (by decide +kernel)), zgd_pos hc]
    exact zq_call hr (Nat.le_of_ble_eq_true rfl) rfl rfl
  · rw [zgd_neg hc, if_neg (fun q => hc (zrc_of q (by decide +kernel)))]
    rfl
theorem e38_34 (ls : List Value) (x : Int32) (w : zH) : zrun none (38, 34, ls, [.int x], w) = some (some (.int x), w) := by
  refine (zE_ (i := .ireturn) (by decide +kernel) _ _ _).trans ?_
  show zres (if narrow .int (.int x) = .int x then _ else none) = _
  rw [if_pos (show narrow .int (.int x) = .int x from rfl)]
  rfl
theorem e39_0 (v1 : Value) (x : Nat) (st : List Value) (w : zH) : zrun none (39, 0, [.ref x, v1], st, w) = zrun none (39, 1, [.ref x, v1], (.ref x :: st), w) := (zE_ (i := .aload_n 0) (by decide +kernel) _ _ _).trans rfl
theorem e39_1 (ls : List Value) (a : Nat) (st : List Value) (w : zH) : zrun none (39, 1, ls, (.ref a :: st), w) = zo (zf w a 802) (fun x => zrun none (39, 4, ls, (x :: st), w)) := (zE_ (i := .getfield 802) (by decide +kernel) _ _ _).trans zq_getf
theorem e39_4 (ls : List Value) (a : Int32) (st : List Value) (w : zH) : zrun none (39, 4, ls, (.int a :: st), w) = if a = 0 then zrun none (39, 32, ls, st, w) else if a = 1 then zrun none (39, 35, ls, st, w) else zrun none (39, 38, ls, st, w) := by
  refine (zE_ (i := .lookupswitch 34 #[(0, 28), (1, 31)]) (by decide +kernel) _ _ _).trans ?_
  by_cases h1000 : a = 0
  · subst h1000
    rfl
  rw [if_neg h1000]
  by_cases h1001 : a = 1
  · subst h1001
    rfl
  rw [if_neg h1001]
  have e : Op.lookupswitch.offset [(0, 28), (1, 31)] 34 a.toInt = 34 := by
    have k1000 := zne32 h1000
    have j1000 : ((0 : Int32)).toInt = 0 := by decide
    rw [j1000] at k1000
    have k1001 := zne32 h1001
    have j1001 : ((1 : Int32)).toInt = 1 := by decide
    rw [j1001] at k1001
    simp only [Op.lookupswitch.offset]
    simp_all
    rw [if_neg (fun q => k1000 q.symm), if_neg (fun q => k1001 q.symm)]
  simp only [zI]
  rw [if_pos (by decide)]
  rw [e]
  rfl
theorem e39_32 (v0 : Value) (x : Int32) (st : List Value) (w : zH) : zrun none (39, 32, [v0, .int x], st, w) = zrun none (39, 33, [v0, .int x], (.int x :: st), w) := (zE_ (i := .iload_n 1) (by decide +kernel) _ _ _).trans rfl
theorem e39_33 (ls : List Value) (a : Int32) (st : List Value) (w : zH) : zrun none (39, 33, ls, (.int a :: st), w) = zrun none (39, 34, ls, (.int a.toInt8.toInt32 :: st), w) := (zE_ (i := .i2b) (by decide +kernel) _ _ _).trans rfl
theorem e39_34 (ls : List Value) (x : Int32) (w : zH) : zrun none (39, 34, ls, [.int x], w) = some (some (.int x), w) := by
  refine (zE_ (i := .ireturn) (by decide +kernel) _ _ _).trans ?_
  show zres (if narrow .int (.int x) = .int x then _ else none) = _
  rw [if_pos (show narrow .int (.int x) = .int x from rfl)]
  rfl
theorem e39_35 (v0 : Value) (x : Int32) (st : List Value) (w : zH) : zrun none (39, 35, [v0, .int x], st, w) = zrun none (39, 36, [v0, .int x], (.int x :: st), w) := (zE_ (i := .iload_n 1) (by decide +kernel) _ _ _).trans rfl
theorem e39_36 (ls : List Value) (a : Int32) (st : List Value) (w : zH) : zrun none (39, 36, ls, (.int a :: st), w) = zrun none (39, 37, ls, (.int a.toInt16.toInt32 :: st), w) := (zE_ (i := .i2s) (by decide +kernel) _ _ _).trans rfl
theorem e39_37 (ls : List Value) (x : Int32) (w : zH) : zrun none (39, 37, ls, [.int x], w) = some (some (.int x), w) := by
  refine (zE_ (i := .ireturn) (by decide +kernel) _ _ _).trans ?_
  show zres (if narrow .int (.int x) = .int x then _ else none) = _
  rw [if_pos (show narrow .int (.int x) = .int x from rfl)]
  rfl
theorem e39_38 (v0 : Value) (x : Int32) (st : List Value) (w : zH) : zrun none (39, 38, [v0, .int x], st, w) = zrun none (39, 39, [v0, .int x], (.int x :: st), w) := (zE_ (i := .iload_n 1) (by decide +kernel) _ _ _).trans rfl
theorem e39_39 (ls : List Value) (x : Int32) (w : zH) : zrun none (39, 39, ls, [.int x], w) = some (some (.int x), w) := by
  refine (zE_ (i := .ireturn) (by decide +kernel) _ _ _).trans ?_
  show zres (if narrow .int (.int x) = .int x then _ else none) = _
  rw [if_pos (show narrow .int (.int x) = .int x from rfl)]
  rfl
theorem e40_0 (ls st : List Value) (w : zH) : zrun none (40, 0, ls, st, w) = zrun none (40, 1, ls, (.int 0 :: st), w) := (zE_ (i := .iconst 0) (by decide +kernel) _ _ _).trans rfl
theorem e40_1 (v0 v1 v2 v3 v4 : Value) (x : Int32) (st : List Value) (w : zH) (h : v3.category = 1) : zrun none (40, 1, [v0, v1, v2, v3, v4], (.int x :: st), w) = zrun none (40, 3, [v0, v1, v2, v3, .int x], st, w) := by
  refine (zE_ (i := .istore 4) (by decide +kernel) _ _ _).trans ?_
  have hz : zfree [v0, v1, v2, v3, v4] 4 = true := by show decide (v3.category = 1) = true; exact decide_eq_true h
  show zres (zst zint 4 2 40 1 [v0, v1, v2, v3, v4] (.int x :: st) w) = _
  unfold zst
  dsimp only
  rw [if_pos ⟨rfl, Nat.le_of_ble_eq_true rfl, hz⟩]
  rfl
theorem e40_3 (v0 v1 v2 v3 : Value) (x : Int32) (st : List Value) (w : zH) : zrun none (40, 3, [v0, v1, v2, v3, .int x], st, w) = zrun none (40, 5, [v0, v1, v2, v3, .int x], (.int x :: st), w) := (zE_ (i := .iload 4) (by decide +kernel) _ _ _).trans rfl
theorem e40_5 (v0 v1 v3 v4 : Value) (x : Int32) (st : List Value) (w : zH) : zrun none (40, 5, [v0, v1, .int x, v3, v4], st, w) = zrun none (40, 6, [v0, v1, .int x, v3, v4], (.int x :: st), w) := (zE_ (i := .iload_n 2) (by decide +kernel) _ _ _).trans rfl
theorem e40_6 (ls : List Value) (a b : Int32) (st : List Value) (w : zH) : zrun none (40, 6, ls, (.int b :: .int a :: st), w) = if b ≤ a then zrun none (40, 57, ls, st, w) else zrun none (40, 9, ls, st, w) := (zE_ (i := .if_icmp .ge 51) (by decide +kernel) _ _ _).trans (zq_ic_ge rfl rfl)
theorem e40_9 (v1 v2 v3 v4 : Value) (x : Nat) (st : List Value) (w : zH) : zrun none (40, 9, [.ref x, v1, v2, v3, v4], st, w) = zrun none (40, 10, [.ref x, v1, v2, v3, v4], (.ref x :: st), w) := (zE_ (i := .aload_n 0) (by decide +kernel) _ _ _).trans rfl
theorem e40_10 (v0 v2 v3 v4 : Value) (x : Int32) (st : List Value) (w : zH) : zrun none (40, 10, [v0, .int x, v2, v3, v4], st, w) = zrun none (40, 11, [v0, .int x, v2, v3, v4], (.int x :: st), w) := (zE_ (i := .iload_n 1) (by decide +kernel) _ _ _).trans rfl
theorem e40_11 (ls st : List Value) (w : zH) : zrun none (40, 11, ls, st, w) = zrun none (40, 12, ls, (.int 2 :: st), w) := (zE_ (i := .iconst 2) (by decide +kernel) _ _ _).trans rfl
theorem e40_12 (v0 v1 v2 v3 : Value) (x : Int32) (st : List Value) (w : zH) : zrun none (40, 12, [v0, v1, v2, v3, .int x], st, w) = zrun none (40, 14, [v0, v1, v2, v3, .int x], (.int x :: st), w) := (zE_ (i := .iload 4) (by decide +kernel) _ _ _).trans rfl
theorem e40_14 (ls : List Value) (a b : Int32) (st : List Value) (w : zH) : zrun none (40, 14, ls, (.int b :: .int a :: st), w) = zrun none (40, 15, ls, (.int (a * b) :: st), w) := (zE_ (i := .imul) (by decide +kernel) _ _ _).trans rfl
theorem e40_15 (ls : List Value) (a b : Int32) (st : List Value) (w : zH) : zrun none (40, 15, ls, (.int b :: .int a :: st), w) = zrun none (40, 16, ls, (.int (a + b) :: st), w) := (zE_ (i := .iadd) (by decide +kernel) _ _ _).trans rfl
theorem e40_16 (ls : List Value) (a : Nat) (x0 : Int32) (st : List Value) (w : zH) (hr : zcat st ≤ 8) : zrun none (40, 16, ls, (.int x0 :: .ref a :: st), w) = zgd (zis w a 8) (zcl (zrun none (37, 0, [.ref a, .int x0], [], w)) (fun r => zrun none (40, 19, ls, r.1.toList ++ st, r.2))) := by
  refine (zE_ (i := .invokevirtual 37) (by decide +kernel) _ _ _).trans ?_
  show zres (zinv none 37 40 16 ls (.int x0 :: .ref a :: st) w) = _
  unfold zinv
  show zres (if zrc none 37 w (.ref a) = true then zcall 37 [.ref a, .int x0] st 40 16 ls w else none) = _
  by_cases hc : zis w a 8
  · rw [if_pos (zrc_is hc (by decide +kernel)), zgd_pos hc]
    exact zq_call hr (Nat.le_of_ble_eq_true rfl) rfl rfl
  · rw [zgd_neg hc, if_neg (fun q => hc (zrc_of q (by decide +kernel)))]
    rfl
theorem e40_19 (ls st : List Value) (w : zH) : zrun none (40, 19, ls, st, w) = zrun none (40, 20, ls, (.int 1 :: st), w) := (zE_ (i := .iconst 1) (by decide +kernel) _ _ _).trans rfl
theorem e40_20 (v0 v1 v2 v4 : Value) (x : Int32) (st : List Value) (w : zH) : zrun none (40, 20, [v0, v1, v2, .int x, v4], st, w) = zrun none (40, 21, [v0, v1, v2, .int x, v4], (.int x :: st), w) := (zE_ (i := .iload_n 3) (by decide +kernel) _ _ _).trans rfl
theorem e40_21 (ls : List Value) (x0 : Int32) (x1 : Int32) (x2 : Int32) (st : List Value) (w : zH) (hr : zcat st ≤ 8) : zrun none (40, 21, ls, (.int x2 :: .int x1 :: .int x0 :: st), w) = zcl (zrun none (100, 0, [.int x0, .int x1, .int x2], [], w)) (fun r => zrun none (40, 24, ls, r.1.toList ++ st, r.2)) := by
  refine (zE_ (i := .invokestatic 100) (by decide +kernel) _ _ _).trans ?_
  show zres (if (99 : Nat) = 99 ∧ 3 ≤ ((.int x2 :: .int x1 :: .int x0 :: st) : List Value).length then zcall 100 [.int x0, .int x1, .int x2] st 40 21 ls w else none) = _
  rw [if_pos ⟨rfl, by simp⟩]
  exact zq_call hr (Nat.le_of_ble_eq_true rfl) rfl rfl
theorem e40_24 (ls : List Value) (a : Int32) (st : List Value) (w : zH) : zrun none (40, 24, ls, (.int a :: st), w) = if a = 0 then zrun none (40, 49, ls, st, w) else zrun none (40, 27, ls, st, w) := (zE_ (i := .ifCond .eq 25) (by decide +kernel) _ _ _).trans (zq_if_eq rfl rfl)
theorem e40_27 (v1 v2 v3 v4 : Value) (x : Nat) (st : List Value) (w : zH) : zrun none (40, 27, [.ref x, v1, v2, v3, v4], st, w) = zrun none (40, 28, [.ref x, v1, v2, v3, v4], (.ref x :: st), w) := (zE_ (i := .aload_n 0) (by decide +kernel) _ _ _).trans rfl
theorem e40_28 (v0 v2 v3 v4 : Value) (x : Int32) (st : List Value) (w : zH) : zrun none (40, 28, [v0, .int x, v2, v3, v4], st, w) = zrun none (40, 29, [v0, .int x, v2, v3, v4], (.int x :: st), w) := (zE_ (i := .iload_n 1) (by decide +kernel) _ _ _).trans rfl
theorem e40_29 (ls st : List Value) (w : zH) : zrun none (40, 29, ls, st, w) = zrun none (40, 30, ls, (.int 2 :: st), w) := (zE_ (i := .iconst 2) (by decide +kernel) _ _ _).trans rfl
theorem e40_30 (v0 v1 v2 v3 : Value) (x : Int32) (st : List Value) (w : zH) : zrun none (40, 30, [v0, v1, v2, v3, .int x], st, w) = zrun none (40, 32, [v0, v1, v2, v3, .int x], (.int x :: st), w) := (zE_ (i := .iload 4) (by decide +kernel) _ _ _).trans rfl
theorem e40_32 (ls : List Value) (a b : Int32) (st : List Value) (w : zH) : zrun none (40, 32, ls, (.int b :: .int a :: st), w) = zrun none (40, 33, ls, (.int (a * b) :: st), w) := (zE_ (i := .imul) (by decide +kernel) _ _ _).trans rfl
theorem e40_33 (ls : List Value) (a b : Int32) (st : List Value) (w : zH) : zrun none (40, 33, ls, (.int b :: .int a :: st), w) = zrun none (40, 34, ls, (.int (a + b) :: st), w) := (zE_ (i := .iadd) (by decide +kernel) _ _ _).trans rfl
theorem e40_34 (ls st : List Value) (w : zH) : zrun none (40, 34, ls, st, w) = zrun none (40, 35, ls, (.int 1 :: st), w) := (zE_ (i := .iconst 1) (by decide +kernel) _ _ _).trans rfl
theorem e40_35 (ls : List Value) (a b : Int32) (st : List Value) (w : zH) : zrun none (40, 35, ls, (.int b :: .int a :: st), w) = zrun none (40, 36, ls, (.int (a + b) :: st), w) := (zE_ (i := .iadd) (by decide +kernel) _ _ _).trans rfl
theorem e40_36 (ls : List Value) (a : Nat) (x0 : Int32) (st : List Value) (w : zH) (hr : zcat st ≤ 8) : zrun none (40, 36, ls, (.int x0 :: .ref a :: st), w) = zgd (zis w a 8) (zcl (zrun none (37, 0, [.ref a, .int x0], [], w)) (fun r => zrun none (40, 39, ls, r.1.toList ++ st, r.2))) := by
  refine (zE_ (i := .invokevirtual 37) (by decide +kernel) _ _ _).trans ?_
  show zres (zinv none 37 40 36 ls (.int x0 :: .ref a :: st) w) = _
  unfold zinv
  show zres (if zrc none 37 w (.ref a) = true then zcall 37 [.ref a, .int x0] st 40 36 ls w else none) = _
  by_cases hc : zis w a 8
  · rw [if_pos (zrc_is hc (by decide +kernel)), zgd_pos hc]
    exact zq_call hr (Nat.le_of_ble_eq_true rfl) rfl rfl
  · rw [zgd_neg hc, if_neg (fun q => hc (zrc_of q (by decide +kernel)))]
    rfl
theorem e40_39 (ls st : List Value) (w : zH) : zrun none (40, 39, ls, st, w) = zrun none (40, 40, ls, (.int 0 :: st), w) := (zE_ (i := .iconst 0) (by decide +kernel) _ _ _).trans rfl
theorem e40_40 (ls st : List Value) (w : zH) : zrun none (40, 40, ls, st, w) = zrun none (40, 43, ls, (.int 1000 :: st), w) := (zE_ (i := .sipush 1000) (by decide +kernel) _ _ _).trans rfl
theorem e40_43 (ls : List Value) (x0 : Int32) (x1 : Int32) (x2 : Int32) (st : List Value) (w : zH) (hr : zcat st ≤ 8) : zrun none (40, 43, ls, (.int x2 :: .int x1 :: .int x0 :: st), w) = zcl (zrun none (100, 0, [.int x0, .int x1, .int x2], [], w)) (fun r => zrun none (40, 46, ls, r.1.toList ++ st, r.2)) := by
  refine (zE_ (i := .invokestatic 100) (by decide +kernel) _ _ _).trans ?_
  show zres (if (99 : Nat) = 99 ∧ 3 ≤ ((.int x2 :: .int x1 :: .int x0 :: st) : List Value).length then zcall 100 [.int x0, .int x1, .int x2] st 40 43 ls w else none) = _
  rw [if_pos ⟨rfl, by simp⟩]
  exact zq_call hr (Nat.le_of_ble_eq_true rfl) rfl rfl
theorem e40_46 (ls : List Value) (a : Int32) (st : List Value) (w : zH) : zrun none (40, 46, ls, (.int a :: st), w) = if a = 0 then zrun none (40, 49, ls, st, w) else zrun none (40, 51, ls, st, w) := (zE_ (i := .ifCond .ne 5) (by decide +kernel) _ _ _).trans (zq_if_ne rfl rfl)
theorem e40_49 (ls st : List Value) (w : zH) : zrun none (40, 49, ls, st, w) = zrun none (40, 50, ls, (.int 0 :: st), w) := (zE_ (i := .iconst 0) (by decide +kernel) _ _ _).trans rfl
theorem e40_50 (ls : List Value) (x : Int32) (w : zH) (h : narrow .boolean (.int x) = .int x) : zrun none (40, 50, ls, [.int x], w) = some (some (.int x), w) := by
  refine (zE_ (i := .ireturn) (by decide +kernel) _ _ _).trans ?_
  show zres (if narrow .boolean (.int x) = .int x then _ else none) = _
  rw [if_pos h]
  rfl
theorem e40_51 (v0 v1 v2 v3 : Value) (x : Int32) (st : List Value) (w : zH) : zrun none (40, 51, [v0, v1, v2, v3, .int x], st, w) = zrun none (40, 54, [v0, v1, v2, v3, .int (x + 1)], st, w) := (zE_ (i := .iinc 4 1) (by decide +kernel) _ _ _).trans rfl
theorem e40_54 (ls st : List Value) (w : zH) : zrun none (40, 54, ls, st, w) = zrun none (40, 3, ls, st, w) := (zE_ (i := .goto (-51)) (by decide +kernel) _ _ _).trans rfl
theorem e40_57 (ls st : List Value) (w : zH) : zrun none (40, 57, ls, st, w) = zrun none (40, 58, ls, (.int 1 :: st), w) := (zE_ (i := .iconst 1) (by decide +kernel) _ _ _).trans rfl
theorem e40_58 (ls : List Value) (x : Int32) (w : zH) (h : narrow .boolean (.int x) = .int x) : zrun none (40, 58, ls, [.int x], w) = some (some (.int x), w) := by
  refine (zE_ (i := .ireturn) (by decide +kernel) _ _ _).trans ?_
  show zres (if narrow .boolean (.int x) = .int x then _ else none) = _
  rw [if_pos h]
  rfl
theorem e41_0 (ls st : List Value) (w : zH) : zrun none (41, 0, ls, st, w) = zrun none (41, 1, ls, (.int 0 :: st), w) := (zE_ (i := .iconst 0) (by decide +kernel) _ _ _).trans rfl
theorem e41_1 (v0 v1 v2 v3 v4 : Value) (x : Int32) (st : List Value) (w : zH) (h : v2.category = 1) : zrun none (41, 1, [v0, v1, v2, v3, v4], (.int x :: st), w) = zrun none (41, 2, [v0, v1, v2, .int x, v4], st, w) := by
  refine (zE_ (i := .istore_n 3) (by decide +kernel) _ _ _).trans ?_
  have hz : zfree [v0, v1, v2, v3, v4] 3 = true := by show decide (v2.category = 1) = true; exact decide_eq_true h
  show zres (zst zint 3 1 41 1 [v0, v1, v2, v3, v4] (.int x :: st) w) = _
  unfold zst
  dsimp only
  rw [if_pos ⟨rfl, Nat.le_of_ble_eq_true rfl, hz⟩]
  rfl
theorem e41_2 (ls st : List Value) (w : zH) : zrun none (41, 2, ls, st, w) = zrun none (41, 3, ls, (.int 0 :: st), w) := (zE_ (i := .iconst 0) (by decide +kernel) _ _ _).trans rfl
theorem e41_3 (v0 v1 v2 v3 v4 : Value) (x : Int32) (st : List Value) (w : zH) (h : v3.category = 1) : zrun none (41, 3, [v0, v1, v2, v3, v4], (.int x :: st), w) = zrun none (41, 5, [v0, v1, v2, v3, .int x], st, w) := by
  refine (zE_ (i := .istore 4) (by decide +kernel) _ _ _).trans ?_
  have hz : zfree [v0, v1, v2, v3, v4] 4 = true := by show decide (v3.category = 1) = true; exact decide_eq_true h
  show zres (zst zint 4 2 41 3 [v0, v1, v2, v3, v4] (.int x :: st) w) = _
  unfold zst
  dsimp only
  rw [if_pos ⟨rfl, Nat.le_of_ble_eq_true rfl, hz⟩]
  rfl
theorem e41_5 (v0 v1 v2 v3 : Value) (x : Int32) (st : List Value) (w : zH) : zrun none (41, 5, [v0, v1, v2, v3, .int x], st, w) = zrun none (41, 7, [v0, v1, v2, v3, .int x], (.int x :: st), w) := (zE_ (i := .iload 4) (by decide +kernel) _ _ _).trans rfl
theorem e41_7 (ls st : List Value) (w : zH) : zrun none (41, 7, ls, st, w) = zrun none (41, 9, ls, (.int 12 :: st), w) := (zE_ (i := .bipush 12) (by decide +kernel) _ _ _).trans rfl
theorem e41_9 (ls : List Value) (a b : Int32) (st : List Value) (w : zH) : zrun none (41, 9, ls, (.int b :: .int a :: st), w) = if b ≤ a then zrun none (41, 40, ls, st, w) else zrun none (41, 12, ls, st, w) := (zE_ (i := .if_icmp .ge 31) (by decide +kernel) _ _ _).trans (zq_ic_ge rfl rfl)
theorem e41_12 (v0 v2 v3 v4 : Value) (x : Int32) (st : List Value) (w : zH) : zrun none (41, 12, [v0, .int x, v2, v3, v4], st, w) = zrun none (41, 13, [v0, .int x, v2, v3, v4], (.int x :: st), w) := (zE_ (i := .iload_n 1) (by decide +kernel) _ _ _).trans rfl
theorem e41_13 (v0 v1 v2 v3 : Value) (x : Int32) (st : List Value) (w : zH) : zrun none (41, 13, [v0, v1, v2, v3, .int x], st, w) = zrun none (41, 15, [v0, v1, v2, v3, .int x], (.int x :: st), w) := (zE_ (i := .iload 4) (by decide +kernel) _ _ _).trans rfl
theorem e41_15 (ls : List Value) (x0 : Int32) (x1 : Int32) (st : List Value) (w : zH) (hr : zcat st ≤ 8) : zrun none (41, 15, ls, (.int x1 :: .int x0 :: st), w) = zcl (zrun none (107, 0, [.int x0, .int x1], [], w)) (fun r => zrun none (41, 18, ls, r.1.toList ++ st, r.2)) := by
  refine (zE_ (i := .invokestatic 107) (by decide +kernel) _ _ _).trans ?_
  show zres (if (99 : Nat) = 99 ∧ 2 ≤ ((.int x1 :: .int x0 :: st) : List Value).length then zcall 107 [.int x0, .int x1] st 41 15 ls w else none) = _
  rw [if_pos ⟨rfl, by simp⟩]
  exact zq_call hr (Nat.le_of_ble_eq_true rfl) rfl rfl
theorem e41_18 (ls : List Value) (a : Int32) (st : List Value) (w : zH) : zrun none (41, 18, ls, (.int a :: st), w) = if a = 0 then zrun none (41, 34, ls, st, w) else zrun none (41, 21, ls, st, w) := (zE_ (i := .ifCond .eq 16) (by decide +kernel) _ _ _).trans (zq_if_eq rfl rfl)
theorem e41_21 (v0 v1 v2 v4 : Value) (x : Int32) (st : List Value) (w : zH) : zrun none (41, 21, [v0, v1, v2, .int x, v4], st, w) = zrun none (41, 22, [v0, v1, v2, .int x, v4], (.int x :: st), w) := (zE_ (i := .iload_n 3) (by decide +kernel) _ _ _).trans rfl
theorem e41_22 (v1 v2 v3 v4 : Value) (x : Nat) (st : List Value) (w : zH) : zrun none (41, 22, [.ref x, v1, v2, v3, v4], st, w) = zrun none (41, 23, [.ref x, v1, v2, v3, v4], (.ref x :: st), w) := (zE_ (i := .aload_n 0) (by decide +kernel) _ _ _).trans rfl
theorem e41_23 (v0 v1 v3 v4 : Value) (x : Int32) (st : List Value) (w : zH) : zrun none (41, 23, [v0, v1, .int x, v3, v4], st, w) = zrun none (41, 24, [v0, v1, .int x, v3, v4], (.int x :: st), w) := (zE_ (i := .iload_n 2) (by decide +kernel) _ _ _).trans rfl
theorem e41_24 (ls st : List Value) (w : zH) : zrun none (41, 24, ls, st, w) = zrun none (41, 25, ls, (.int 2 :: st), w) := (zE_ (i := .iconst 2) (by decide +kernel) _ _ _).trans rfl
theorem e41_25 (v0 v1 v2 v3 : Value) (x : Int32) (st : List Value) (w : zH) : zrun none (41, 25, [v0, v1, v2, v3, .int x], st, w) = zrun none (41, 27, [v0, v1, v2, v3, .int x], (.int x :: st), w) := (zE_ (i := .iload 4) (by decide +kernel) _ _ _).trans rfl
theorem e41_27 (ls : List Value) (a b : Int32) (st : List Value) (w : zH) : zrun none (41, 27, ls, (.int b :: .int a :: st), w) = zrun none (41, 28, ls, (.int (a * b) :: st), w) := (zE_ (i := .imul) (by decide +kernel) _ _ _).trans rfl
theorem e41_28 (ls : List Value) (a b : Int32) (st : List Value) (w : zH) : zrun none (41, 28, ls, (.int b :: .int a :: st), w) = zrun none (41, 29, ls, (.int (a + b) :: st), w) := (zE_ (i := .iadd) (by decide +kernel) _ _ _).trans rfl
theorem e41_29 (ls : List Value) (a : Nat) (x0 : Int32) (st : List Value) (w : zH) (hr : zcat st ≤ 8) : zrun none (41, 29, ls, (.int x0 :: .ref a :: st), w) = zgd (zis w a 8) (zcl (zrun none (37, 0, [.ref a, .int x0], [], w)) (fun r => zrun none (41, 32, ls, r.1.toList ++ st, r.2))) := by
  refine (zE_ (i := .invokevirtual 37) (by decide +kernel) _ _ _).trans ?_
  show zres (zinv none 37 41 29 ls (.int x0 :: .ref a :: st) w) = _
  unfold zinv
  show zres (if zrc none 37 w (.ref a) = true then zcall 37 [.ref a, .int x0] st 41 29 ls w else none) = _
  by_cases hc : zis w a 8
  · rw [if_pos (zrc_is hc (by decide +kernel)), zgd_pos hc]
    exact zq_call hr (Nat.le_of_ble_eq_true rfl) rfl rfl
  · rw [zgd_neg hc, if_neg (fun q => hc (zrc_of q (by decide +kernel)))]
    rfl
theorem e41_32 (ls : List Value) (a b : Int32) (st : List Value) (w : zH) : zrun none (41, 32, ls, (.int b :: .int a :: st), w) = zrun none (41, 33, ls, (.int (a + b) :: st), w) := (zE_ (i := .iadd) (by decide +kernel) _ _ _).trans rfl
theorem e41_33 (v0 v1 v2 v3 v4 : Value) (x : Int32) (st : List Value) (w : zH) (h : v2.category = 1) : zrun none (41, 33, [v0, v1, v2, v3, v4], (.int x :: st), w) = zrun none (41, 34, [v0, v1, v2, .int x, v4], st, w) := by
  refine (zE_ (i := .istore_n 3) (by decide +kernel) _ _ _).trans ?_
  have hz : zfree [v0, v1, v2, v3, v4] 3 = true := by show decide (v2.category = 1) = true; exact decide_eq_true h
  show zres (zst zint 3 1 41 33 [v0, v1, v2, v3, v4] (.int x :: st) w) = _
  unfold zst
  dsimp only
  rw [if_pos ⟨rfl, Nat.le_of_ble_eq_true rfl, hz⟩]
  rfl
theorem e41_34 (v0 v1 v2 v3 : Value) (x : Int32) (st : List Value) (w : zH) : zrun none (41, 34, [v0, v1, v2, v3, .int x], st, w) = zrun none (41, 37, [v0, v1, v2, v3, .int (x + 1)], st, w) := (zE_ (i := .iinc 4 1) (by decide +kernel) _ _ _).trans rfl
theorem e41_37 (ls st : List Value) (w : zH) : zrun none (41, 37, ls, st, w) = zrun none (41, 5, ls, st, w) := (zE_ (i := .goto (-32)) (by decide +kernel) _ _ _).trans rfl
theorem e41_40 (v0 v1 v2 v4 : Value) (x : Int32) (st : List Value) (w : zH) : zrun none (41, 40, [v0, v1, v2, .int x, v4], st, w) = zrun none (41, 41, [v0, v1, v2, .int x, v4], (.int x :: st), w) := (zE_ (i := .iload_n 3) (by decide +kernel) _ _ _).trans rfl
theorem e41_41 (ls : List Value) (x : Int32) (w : zH) : zrun none (41, 41, ls, [.int x], w) = some (some (.int x), w) := by
  refine (zE_ (i := .ireturn) (by decide +kernel) _ _ _).trans ?_
  show zres (if narrow .int (.int x) = .int x then _ else none) = _
  rw [if_pos (show narrow .int (.int x) = .int x from rfl)]
  rfl
theorem e42_0 (ls st : List Value) (w : zH) : zrun none (42, 0, ls, st, w) = zrun none (42, 1, ls, (.int 0 :: st), w) := (zE_ (i := .iconst 0) (by decide +kernel) _ _ _).trans rfl
theorem e42_1 (v0 v1 : Value) (x : Int32) (st : List Value) (w : zH) (h : v0.category = 1) : zrun none (42, 1, [v0, v1], (.int x :: st), w) = zrun none (42, 2, [v0, .int x], st, w) := by
  refine (zE_ (i := .istore_n 1) (by decide +kernel) _ _ _).trans ?_
  have hz : zfree [v0, v1] 1 = true := by show decide (v0.category = 1) = true; exact decide_eq_true h
  show zres (zst zint 1 1 42 1 [v0, v1] (.int x :: st) w) = _
  unfold zst
  dsimp only
  rw [if_pos ⟨rfl, Nat.le_of_ble_eq_true rfl, hz⟩]
  rfl
theorem e42_2 (v0 : Value) (x : Int32) (st : List Value) (w : zH) : zrun none (42, 2, [v0, .int x], st, w) = zrun none (42, 3, [v0, .int x], (.int x :: st), w) := (zE_ (i := .iload_n 1) (by decide +kernel) _ _ _).trans rfl
theorem e42_3 (ls st : List Value) (w : zH) : zrun none (42, 3, ls, st, w) = zrun none (42, 5, ls, (.int 100 :: st), w) := (zE_ (i := .bipush 100) (by decide +kernel) _ _ _).trans rfl
theorem e42_5 (ls : List Value) (a b : Int32) (st : List Value) (w : zH) : zrun none (42, 5, ls, (.int b :: .int a :: st), w) = if b ≤ a then zrun none (42, 30, ls, st, w) else zrun none (42, 8, ls, st, w) := (zE_ (i := .if_icmp .ge 25) (by decide +kernel) _ _ _).trans (zq_ic_ge rfl rfl)
theorem e42_8 (v1 : Value) (x : Nat) (st : List Value) (w : zH) : zrun none (42, 8, [.ref x, v1], st, w) = zrun none (42, 9, [.ref x, v1], (.ref x :: st), w) := (zE_ (i := .aload_n 0) (by decide +kernel) _ _ _).trans rfl
theorem e42_9 (v0 : Value) (x : Int32) (st : List Value) (w : zH) : zrun none (42, 9, [v0, .int x], st, w) = zrun none (42, 10, [v0, .int x], (.int x :: st), w) := (zE_ (i := .iload_n 1) (by decide +kernel) _ _ _).trans rfl
theorem e42_10 (ls : List Value) (a : Nat) (x0 : Int32) (st : List Value) (w : zH) (hr : zcat st ≤ 8) : zrun none (42, 10, ls, (.int x0 :: .ref a :: st), w) = zgd (zis w a 8) (zcl (zrun none (37, 0, [.ref a, .int x0], [], w)) (fun r => zrun none (42, 13, ls, r.1.toList ++ st, r.2))) := by
  refine (zE_ (i := .invokevirtual 37) (by decide +kernel) _ _ _).trans ?_
  show zres (zinv none 37 42 10 ls (.int x0 :: .ref a :: st) w) = _
  unfold zinv
  show zres (if zrc none 37 w (.ref a) = true then zcall 37 [.ref a, .int x0] st 42 10 ls w else none) = _
  by_cases hc : zis w a 8
  · rw [if_pos (zrc_is hc (by decide +kernel)), zgd_pos hc]
    exact zq_call hr (Nat.le_of_ble_eq_true rfl) rfl rfl
  · rw [zgd_neg hc, if_neg (fun q => hc (zrc_of q (by decide +kernel)))]
    rfl
theorem e42_13 (ls st : List Value) (w : zH) : zrun none (42, 13, ls, st, w) = zrun none (42, 14, ls, (.int 0 :: st), w) := (zE_ (i := .iconst 0) (by decide +kernel) _ _ _).trans rfl
theorem e42_14 (ls st : List Value) (w : zH) : zrun none (42, 14, ls, st, w) = zrun none (42, 16, ls, (.int 100 :: st), w) := (zE_ (i := .bipush 100) (by decide +kernel) _ _ _).trans rfl
theorem e42_16 (ls : List Value) (x0 : Int32) (x1 : Int32) (x2 : Int32) (st : List Value) (w : zH) (hr : zcat st ≤ 8) : zrun none (42, 16, ls, (.int x2 :: .int x1 :: .int x0 :: st), w) = zcl (zrun none (100, 0, [.int x0, .int x1, .int x2], [], w)) (fun r => zrun none (42, 19, ls, r.1.toList ++ st, r.2)) := by
  refine (zE_ (i := .invokestatic 100) (by decide +kernel) _ _ _).trans ?_
  show zres (if (99 : Nat) = 99 ∧ 3 ≤ ((.int x2 :: .int x1 :: .int x0 :: st) : List Value).length then zcall 100 [.int x0, .int x1, .int x2] st 42 16 ls w else none) = _
  rw [if_pos ⟨rfl, by simp⟩]
  exact zq_call hr (Nat.le_of_ble_eq_true rfl) rfl rfl
theorem e42_19 (ls : List Value) (a : Int32) (st : List Value) (w : zH) : zrun none (42, 19, ls, (.int a :: st), w) = if a = 0 then zrun none (42, 22, ls, st, w) else zrun none (42, 24, ls, st, w) := (zE_ (i := .ifCond .ne 5) (by decide +kernel) _ _ _).trans (zq_if_ne rfl rfl)
theorem e42_22 (ls st : List Value) (w : zH) : zrun none (42, 22, ls, st, w) = zrun none (42, 23, ls, (.int 0 :: st), w) := (zE_ (i := .iconst 0) (by decide +kernel) _ _ _).trans rfl
theorem e42_23 (ls : List Value) (x : Int32) (w : zH) (h : narrow .boolean (.int x) = .int x) : zrun none (42, 23, ls, [.int x], w) = some (some (.int x), w) := by
  refine (zE_ (i := .ireturn) (by decide +kernel) _ _ _).trans ?_
  show zres (if narrow .boolean (.int x) = .int x then _ else none) = _
  rw [if_pos h]
  rfl
theorem e42_24 (v0 : Value) (x : Int32) (st : List Value) (w : zH) : zrun none (42, 24, [v0, .int x], st, w) = zrun none (42, 27, [v0, .int (x + 1)], st, w) := (zE_ (i := .iinc 1 1) (by decide +kernel) _ _ _).trans rfl
theorem e42_27 (ls st : List Value) (w : zH) : zrun none (42, 27, ls, st, w) = zrun none (42, 2, ls, st, w) := (zE_ (i := .goto (-25)) (by decide +kernel) _ _ _).trans rfl
theorem e42_30 (ls st : List Value) (w : zH) : zrun none (42, 30, ls, st, w) = zrun none (42, 31, ls, (.int 1 :: st), w) := (zE_ (i := .iconst 1) (by decide +kernel) _ _ _).trans rfl
theorem e42_31 (ls : List Value) (x : Int32) (w : zH) (h : narrow .boolean (.int x) = .int x) : zrun none (42, 31, ls, [.int x], w) = some (some (.int x), w) := by
  refine (zE_ (i := .ireturn) (by decide +kernel) _ _ _).trans ?_
  show zres (if narrow .boolean (.int x) = .int x then _ else none) = _
  rw [if_pos h]
  rfl
theorem e43_0 (v1 v2 : Value) (x : Nat) (st : List Value) (w : zH) : zrun none (43, 0, [.ref x, v1, v2], st, w) = zrun none (43, 1, [.ref x, v1, v2], (.ref x :: st), w) := (zE_ (i := .aload_n 0) (by decide +kernel) _ _ _).trans rfl
theorem e43_1 (v0 v2 : Value) (x : Int32) (st : List Value) (w : zH) : zrun none (43, 1, [v0, .int x, v2], st, w) = zrun none (43, 2, [v0, .int x, v2], (.int x :: st), w) := (zE_ (i := .iload_n 1) (by decide +kernel) _ _ _).trans rfl
theorem e43_2 (ls st : List Value) (w : zH) : zrun none (43, 2, ls, st, w) = zrun none (43, 4, ls, (.int 10 :: st), w) := (zE_ (i := .bipush 10) (by decide +kernel) _ _ _).trans rfl
theorem e43_4 (v0 v1 : Value) (x : Int32) (st : List Value) (w : zH) : zrun none (43, 4, [v0, v1, .int x], st, w) = zrun none (43, 5, [v0, v1, .int x], (.int x :: st), w) := (zE_ (i := .iload_n 2) (by decide +kernel) _ _ _).trans rfl
theorem e43_5 (ls : List Value) (a b : Int32) (st : List Value) (w : zH) : zrun none (43, 5, ls, (.int b :: .int a :: st), w) = zrun none (43, 6, ls, (.int (a * b) :: st), w) := (zE_ (i := .imul) (by decide +kernel) _ _ _).trans rfl
theorem e43_6 (ls : List Value) (a b : Int32) (st : List Value) (w : zH) : zrun none (43, 6, ls, (.int b :: .int a :: st), w) = zrun none (43, 7, ls, (.int (a + b) :: st), w) := (zE_ (i := .iadd) (by decide +kernel) _ _ _).trans rfl
theorem e43_7 (ls : List Value) (a : Nat) (x0 : Int32) (st : List Value) (w : zH) (hr : zcat st ≤ 8) : zrun none (43, 7, ls, (.int x0 :: .ref a :: st), w) = zgd (zis w a 8) (zcl (zrun none (37, 0, [.ref a, .int x0], [], w)) (fun r => zrun none (43, 10, ls, r.1.toList ++ st, r.2))) := by
  refine (zE_ (i := .invokevirtual 37) (by decide +kernel) _ _ _).trans ?_
  show zres (zinv none 37 43 7 ls (.int x0 :: .ref a :: st) w) = _
  unfold zinv
  show zres (if zrc none 37 w (.ref a) = true then zcall 37 [.ref a, .int x0] st 43 7 ls w else none) = _
  by_cases hc : zis w a 8
  · rw [if_pos (zrc_is hc (by decide +kernel)), zgd_pos hc]
    exact zq_call hr (Nat.le_of_ble_eq_true rfl) rfl rfl
  · rw [zgd_neg hc, if_neg (fun q => hc (zrc_of q (by decide +kernel)))]
    rfl
theorem e43_10 (ls : List Value) (x : Int32) (w : zH) : zrun none (43, 10, ls, [.int x], w) = some (some (.int x), w) := by
  refine (zE_ (i := .ireturn) (by decide +kernel) _ _ _).trans ?_
  show zres (if narrow .int (.int x) = .int x then _ else none) = _
  rw [if_pos (show narrow .int (.int x) = .int x from rfl)]
  rfl
theorem e63_0 (v1 v2 v3 : Value) (x : Nat) (st : List Value) (w : zH) : zrun none (63, 0, [.ref x, v1, v2, v3], st, w) = zrun none (63, 1, [.ref x, v1, v2, v3], (.ref x :: st), w) := (zE_ (i := .aload_n 0) (by decide +kernel) _ _ _).trans rfl
theorem e63_1 (ls : List Value) (a : Nat) (st : List Value) (w : zH) (h : a < zX) (hr : zcat st ≤ 8) : zrun none (63, 1, ls, (.ref a :: st), w) = zrun none (63, 4, ls, st, w) := by
  refine (zE_ (i := .invokespecial 998) (by decide +kernel) _ _ _).trans ?_
  simp only [zI, if_true]
  rw [if_pos ⟨hr, h⟩]
  rfl
theorem e63_4 (v1 v2 v3 : Value) (x : Nat) (st : List Value) (w : zH) : zrun none (63, 4, [.ref x, v1, v2, v3], st, w) = zrun none (63, 5, [.ref x, v1, v2, v3], (.ref x :: st), w) := (zE_ (i := .aload_n 0) (by decide +kernel) _ _ _).trans rfl
theorem e63_5 (v0 v2 v3 : Value) (x : Int32) (st : List Value) (w : zH) : zrun none (63, 5, [v0, .int x, v2, v3], st, w) = zrun none (63, 6, [v0, .int x, v2, v3], (.int x :: st), w) := (zE_ (i := .iload_n 1) (by decide +kernel) _ _ _).trans rfl
theorem e63_6 (ls : List Value) (x : Int32) (a : Nat) (st : List Value) (w : zH) : zrun none (63, 6, ls, (.int x :: .ref a :: st), w) = zgd (a < zX ∧ (zf w a 1000).isSome = true) (zrun none (63, 9, ls, st, zpf w a 1000 (.int x))) := by
  refine (zE_ (i := .putfield 1000) (by decide +kernel) _ _ _).trans ?_
  by_cases hg : a < zX ∧ (zf w a 1000).isSome = true
  · rw [zgd_pos hg]
    obtain ⟨ha, h⟩ := hg
    exact zq_putf ha h rfl rfl
  · rw [zgd_neg hg]
    exact zq_putf_no (fun h1 h2 h3 => hg ⟨h1, h2⟩)
theorem e63_9 (v1 v2 v3 : Value) (x : Nat) (st : List Value) (w : zH) : zrun none (63, 9, [.ref x, v1, v2, v3], st, w) = zrun none (63, 10, [.ref x, v1, v2, v3], (.ref x :: st), w) := (zE_ (i := .aload_n 0) (by decide +kernel) _ _ _).trans rfl
theorem e63_10 (v0 v1 v3 : Value) (x : Int32) (st : List Value) (w : zH) : zrun none (63, 10, [v0, v1, .int x, v3], st, w) = zrun none (63, 11, [v0, v1, .int x, v3], (.int x :: st), w) := (zE_ (i := .iload_n 2) (by decide +kernel) _ _ _).trans rfl
theorem e63_11 (ls : List Value) (x : Int32) (a : Nat) (st : List Value) (w : zH) : zrun none (63, 11, ls, (.int x :: .ref a :: st), w) = zgd (a < zX ∧ (zf w a 1001).isSome = true) (zrun none (63, 14, ls, st, zpf w a 1001 (.int x))) := by
  refine (zE_ (i := .putfield 1001) (by decide +kernel) _ _ _).trans ?_
  by_cases hg : a < zX ∧ (zf w a 1001).isSome = true
  · rw [zgd_pos hg]
    obtain ⟨ha, h⟩ := hg
    exact zq_putf ha h rfl rfl
  · rw [zgd_neg hg]
    exact zq_putf_no (fun h1 h2 h3 => hg ⟨h1, h2⟩)
theorem e63_14 (v1 v2 v3 : Value) (x : Nat) (st : List Value) (w : zH) : zrun none (63, 14, [.ref x, v1, v2, v3], st, w) = zrun none (63, 15, [.ref x, v1, v2, v3], (.ref x :: st), w) := (zE_ (i := .aload_n 0) (by decide +kernel) _ _ _).trans rfl
theorem e63_15 (v0 v1 v2 : Value) (x : Int32) (st : List Value) (w : zH) : zrun none (63, 15, [v0, v1, v2, .int x], st, w) = zrun none (63, 16, [v0, v1, v2, .int x], (.int x :: st), w) := (zE_ (i := .iload_n 3) (by decide +kernel) _ _ _).trans rfl
theorem e63_16 (ls : List Value) (x : Int32) (a : Nat) (st : List Value) (w : zH) : zrun none (63, 16, ls, (.int x :: .ref a :: st), w) = zgd (a < zX ∧ (zf w a 1002).isSome = true) (zrun none (63, 19, ls, st, zpf w a 1002 (.int x))) := by
  refine (zE_ (i := .putfield 1002) (by decide +kernel) _ _ _).trans ?_
  by_cases hg : a < zX ∧ (zf w a 1002).isSome = true
  · rw [zgd_pos hg]
    obtain ⟨ha, h⟩ := hg
    exact zq_putf ha h rfl rfl
  · rw [zgd_neg hg]
    exact zq_putf_no (fun h1 h2 h3 => hg ⟨h1, h2⟩)
theorem e63_19 (ls : List Value) (w : zH) : zrun none (63, 19, ls, [], w) = some (none, w) := (zE_ (i := .return_) (by decide +kernel) _ _ _).trans rfl
