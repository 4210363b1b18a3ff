theorem e146_0 (v1 v2 v3 v4 v5 : Value) (x : Int64) (st : List Value) (w : zH) : zrun none (146, 0, [.long x, v1, v2, v3, v4, v5], st, w) = zrun none (146, 1, [.long x, v1, v2, v3, v4, v5], (.long x :: st), w) := (zE_ (i := .lload_n 0) (by decide +kernel) _ _ _).trans rfl
theorem e146_1 (v0 v1 v3 v4 v5 : Value) (x : Int64) (st : List Value) (w : zH) : zrun none (146, 1, [v0, v1, .long x, v3, v4, v5], st, w) = zrun none (146, 2, [v0, v1, .long x, v3, v4, v5], (.long x :: st), w) := (zE_ (i := .lload_n 2) (by decide +kernel) _ _ _).trans rfl
theorem e146_2 (ls : List Value) (a b : Int64) (st : List Value) (w : zH) : zrun none (146, 2, ls, (.long b :: .long a :: st), w) = zrun none (146, 3, ls, (.int (lg_cmp a b) :: st), w) := (zE_ (i := .lcmp) (by decide +kernel) _ _ _).trans rfl
theorem e146_3 (ls : List Value) (a : Int32) (st : List Value) (w : zH) : zrun none (146, 3, ls, (.int a :: st), w) = if a < 0 then zrun none (146, 17, ls, st, w) else zrun none (146, 6, ls, st, w) := (zE_ (i := .ifCond .lt 14) (by decide +kernel) _ _ _).trans (zq_if_lt rfl rfl)
theorem e146_6 (v1 v2 v3 v4 v5 : Value) (x : Int64) (st : List Value) (w : zH) : zrun none (146, 6, [.long x, v1, v2, v3, v4, v5], st, w) = zrun none (146, 7, [.long x, v1, v2, v3, v4, v5], (.long x :: st), w) := (zE_ (i := .lload_n 0) (by decide +kernel) _ _ _).trans rfl
theorem e146_7 (v0 v1 v2 v3 v5 : Value) (x : Int64) (st : List Value) (w : zH) : zrun none (146, 7, [v0, v1, v2, v3, .long x, v5], st, w) = zrun none (146, 9, [v0, v1, v2, v3, .long x, v5], (.long x :: st), w) := (zE_ (i := .lload 4) (by decide +kernel) _ _ _).trans rfl
theorem e146_9 (ls : List Value) (a b : Int64) (st : List Value) (w : zH) : zrun none (146, 9, ls, (.long b :: .long a :: st), w) = zrun none (146, 10, ls, (.int (lg_cmp a b) :: st), w) := (zE_ (i := .lcmp) (by decide +kernel) _ _ _).trans rfl
theorem e146_10 (ls : List Value) (a : Int32) (st : List Value) (w : zH) : zrun none (146, 10, ls, (.int a :: st), w) = if 0 < a then zrun none (146, 17, ls, st, w) else zrun none (146, 13, ls, st, w) := (zE_ (i := .ifCond .gt 7) (by decide +kernel) _ _ _).trans (zq_if_gt rfl rfl)
theorem e146_13 (ls st : List Value) (w : zH) : zrun none (146, 13, ls, st, w) = zrun none (146, 14, ls, (.int 1 :: st), w) := (zE_ (i := .iconst 1) (by decide +kernel) _ _ _).trans rfl
theorem e146_14 (ls st : List Value) (w : zH) : zrun none (146, 14, ls, st, w) = zrun none (146, 18, ls, st, w) := (zE_ (i := .goto 4) (by decide +kernel) _ _ _).trans rfl
theorem e146_17 (ls st : List Value) (w : zH) : zrun none (146, 17, ls, st, w) = zrun none (146, 18, ls, (.int 0 :: st), w) := (zE_ (i := .iconst 0) (by decide +kernel) _ _ _).trans rfl
theorem e146_18 (ls : List Value) (x : Int32) (w : zH) (h : narrow .boolean (.int x) = .int x) : zrun none (146, 18, ls, [.int x], w) = some (some (.int x), w) := by
  refine (zE_ (i := .ireturn) (by decide +kernel) _ _ _).trans ?_
  show zres (if narrow .boolean (.int x) = .int x then _ else none) = _
  rw [if_pos h]
  rfl
theorem e147_0 (v1 : Value) (x : Nat) (st : List Value) (w : zH) : zrun none (147, 0, [.ref x, v1], st, w) = zrun none (147, 1, [.ref x, v1], (.ref x :: st), w) := (zE_ (i := .aload_n 0) (by decide +kernel) _ _ _).trans rfl
theorem e147_1 (v0 : Value) (x : Int32) (st : List Value) (w : zH) : zrun none (147, 1, [v0, .int x], st, w) = zrun none (147, 2, [v0, .int x], (.int x :: st), w) := (zE_ (i := .iload_n 1) (by decide +kernel) _ _ _).trans rfl
theorem e147_2 (ls : List Value) (x : Int32) (a : Nat) (st : List Value) (w : zH) : zrun none (147, 2, ls, (.int x :: .ref a :: st), w) = zgd (a < zX ∧ (zf w a 1201).isSome = true) (zrun none (147, 5, ls, st, zpf w a 1201 (.int x))) := by
  refine (zE_ (i := .putfield 1201) (by decide +kernel) _ _ _).trans ?_
  by_cases hg : a < zX ∧ (zf w a 1201).isSome = true
  · rw [zgd_pos hg]
    obtain ⟨ha, h⟩ := hg
    exact zq_putf ha h rfl rfl
  · rw [zgd_neg hg]
    exact zq_putf_no (fun h1 h2 h3 => hg ⟨h1, h2⟩)
theorem e147_5 (ls st : List Value) (w : zH) : zrun none (147, 5, ls, st, w) = zrun none (147, 7, ls, (.int (-1000010) :: st), w) := (zE_ (i := .bipush (-1000010)) (by decide +kernel) _ _ _).trans rfl
theorem e147_7 (v0 : Value) (x : Int32) (st : List Value) (w : zH) : zrun none (147, 7, [v0, .int x], st, w) = zrun none (147, 8, [v0, .int x], (.int x :: st), w) := (zE_ (i := .iload_n 1) (by decide +kernel) _ _ _).trans rfl
theorem e147_8 (ls : List Value) (a b : Int32) (st : List Value) (w : zH) : zrun none (147, 8, ls, (.int b :: .int a :: st), w) = zrun none (147, 9, ls, (.int (a - b) :: st), w) := (zE_ (i := .isub) (by decide +kernel) _ _ _).trans rfl
theorem e147_9 (ls : List Value) (x : Int32) (w : zH) : zrun none (147, 9, ls, [.int x], w) = some (some (.int x), w) := by
  refine (zE_ (i := .ireturn) (by decide +kernel) _ _ _).trans ?_
  show zres (if narrow .int (.int x) = .int x then _ else none) = _
  rw [if_pos (show narrow .int (.int x) = .int x from rfl)]
  rfl
theorem e148_0 (v1 : Value) (x : Nat) (st : List Value) (w : zH) : zrun none (148, 0, [.ref x, v1], st, w) = zrun none (148, 1, [.ref x, v1], (.ref x :: st), w) := (zE_ (i := .aload_n 0) (by decide +kernel) _ _ _).trans rfl
theorem e148_1 (ls : List Value) (a : Nat) (st : List Value) (w : zH) (h : a < zX) (hr : zcat st ≤ 8) : zrun none (148, 1, ls, (.ref a :: st), w) = zrun none (148, 4, ls, st, w) := by
  refine (zE_ (i := .invokespecial 998) (by decide +kernel) _ _ _).trans ?_
  simp only [zI, if_true]
  rw [if_pos ⟨hr, h⟩]
  rfl
theorem e148_4 (v1 : Value) (x : Nat) (st : List Value) (w : zH) : zrun none (148, 4, [.ref x, v1], st, w) = zrun none (148, 5, [.ref x, v1], (.ref x :: st), w) := (zE_ (i := .aload_n 0) (by decide +kernel) _ _ _).trans rfl
theorem e148_5 (ls st : List Value) (w : zH) : zrun none (148, 5, ls, st, w) = zrun none (148, 7, ls, (.int 8 :: st), w) := (zE_ (i := .bipush 8) (by decide +kernel) _ _ _).trans rfl
theorem e148_7 (ls : List Value) (n : Int32) (st : List Value) (w : zH) (h0 : ¬ n < 0 ∧ n ≤ 65536) (h : w.length + 1 < zX) : zrun none (148, 7, ls, (.int n :: st), w) = zrun none (148, 9, ls, (.ref w.length :: st), w ++ [(100, List.replicate n.toNatClampNeg (.int 0))]) := by
  refine (zE_ (i := .newarray .int) (by decide +kernel) _ _ _).trans ?_
  simp only [zI]
  unfold znwa
  dsimp only
  rw [if_pos h0]
  unfold znw
  rw [if_pos h]
  rfl
theorem e148_9 (ls : List Value) (x : Int32) (st : List Value) (w : zH) : zrun none (148, 9, ls, (.int x :: st), w) = zrun none (148, 10, ls, (.int x :: .int x :: st), w) := (zE_ (i := .dup) (by decide +kernel) _ _ _).trans rfl
theorem e148_9r (ls : List Value) (x : Nat) (st : List Value) (w : zH) : zrun none (148, 9, ls, (.ref x :: st), w) = zrun none (148, 10, ls, (.ref x :: .ref x :: st), w) := (zE_ (i := .dup) (by decide +kernel) _ _ _).trans rfl
theorem e148_10 (ls st : List Value) (w : zH) : zrun none (148, 10, ls, st, w) = zrun none (148, 11, ls, (.int 0 :: st), w) := (zE_ (i := .iconst 0) (by decide +kernel) _ _ _).trans rfl
theorem e148_11 (ls st : List Value) (w : zH) : zrun none (148, 11, ls, st, w) = zrun none (148, 12, ls, (.int (-1) :: st), w) := (zE_ (i := .iconst (-1)) (by decide +kernel) _ _ _).trans rfl
theorem e148_12 (ls : List Value) (x j : Int32) (a : Nat) (st : List Value) (w : zH) : zrun none (148, 12, ls, (.int x :: .int j :: .ref a :: st), w) = zgd (zin? w a 100 j) (zrun none (148, 13, ls, st, zas w a j (.int x))) := by
  refine (zE_ (i := .iastore) (by decide +kernel) _ _ _).trans ?_
  by_cases hg : zin? w a 100 j
  · rw [zgd_pos hg]
    exact zq_iast hg
  · rw [zgd_neg hg]
    exact zq_iast_no hg
theorem e148_13 (ls : List Value) (x : Int32) (st : List Value) (w : zH) : zrun none (148, 13, ls, (.int x :: st), w) = zrun none (148, 14, ls, (.int x :: .int x :: st), w) := (zE_ (i := .dup) (by decide +kernel) _ _ _).trans rfl
theorem e148_13r (ls : List Value) (x : Nat) (st : List Value) (w : zH) : zrun none (148, 13, ls, (.ref x :: st), w) = zrun none (148, 14, ls, (.ref x :: .ref x :: st), w) := (zE_ (i := .dup) (by decide +kernel) _ _ _).trans rfl
theorem e148_14 (ls st : List Value) (w : zH) : zrun none (148, 14, ls, st, w) = zrun none (148, 15, ls, (.int 1 :: st), w) := (zE_ (i := .iconst 1) (by decide +kernel) _ _ _).trans rfl
theorem e148_15 (ls st : List Value) (w : zH) : zrun none (148, 15, ls, st, w) = zrun none (148, 16, ls, (.int (-1) :: st), w) := (zE_ (i := .iconst (-1)) (by decide +kernel) _ _ _).trans rfl
theorem e148_16 (ls : List Value) (x j : Int32) (a : Nat) (st : List Value) (w : zH) : zrun none (148, 16, ls, (.int x :: .int j :: .ref a :: st), w) = zgd (zin? w a 100 j) (zrun none (148, 17, ls, st, zas w a j (.int x))) := by
  refine (zE_ (i := .iastore) (by decide +kernel) _ _ _).trans ?_
  by_cases hg : zin? w a 100 j
  · rw [zgd_pos hg]
    exact zq_iast hg
  · rw [zgd_neg hg]
    exact zq_iast_no hg
theorem e148_17 (ls : List Value) (x : Int32) (st : List Value) (w : zH) : zrun none (148, 17, ls, (.int x :: st), w) = zrun none (148, 18, ls, (.int x :: .int x :: st), w) := (zE_ (i := .dup) (by decide +kernel) _ _ _).trans rfl
theorem e148_17r (ls : List Value) (x : Nat) (st : List Value) (w : zH) : zrun none (148, 17, ls, (.ref x :: st), w) = zrun none (148, 18, ls, (.ref x :: .ref x :: st), w) := (zE_ (i := .dup) (by decide +kernel) _ _ _).trans rfl
theorem e148_18 (ls st : List Value) (w : zH) : zrun none (148, 18, ls, st, w) = zrun none (148, 19, ls, (.int 2 :: st), w) := (zE_ (i := .iconst 2) (by decide +kernel) _ _ _).trans rfl
theorem e148_19 (ls st : List Value) (w : zH) : zrun none (148, 19, ls, st, w) = zrun none (148, 20, ls, (.int (-1) :: st), w) := (zE_ (i := .iconst (-1)) (by decide +kernel) _ _ _).trans rfl
theorem e148_20 (ls : List Value) (x j : Int32) (a : Nat) (st : List Value) (w : zH) : zrun none (148, 20, ls, (.int x :: .int j :: .ref a :: st), w) = zgd (zin? w a 100 j) (zrun none (148, 21, ls, st, zas w a j (.int x))) := by
  refine (zE_ (i := .iastore) (by decide +kernel) _ _ _).trans ?_
  by_cases hg : zin? w a 100 j
  · rw [zgd_pos hg]
    exact zq_iast hg
  · rw [zgd_neg hg]
    exact zq_iast_no hg
theorem e148_21 (ls : List Value) (x : Int32) (st : List Value) (w : zH) : zrun none (148, 21, ls, (.int x :: st), w) = zrun none (148, 22, ls, (.int x :: .int x :: st), w) := (zE_ (i := .dup) (by decide +kernel) _ _ _).trans rfl
theorem e148_21r (ls : List Value) (x : Nat) (st : List Value) (w : zH) : zrun none (148, 21, ls, (.ref x :: st), w) = zrun none (148, 22, ls, (.ref x :: .ref x :: st), w) := (zE_ (i := .dup) (by decide +kernel) _ _ _).trans rfl
theorem e148_22 (ls st : List Value) (w : zH) : zrun none (148, 22, ls, st, w) = zrun none (148, 23, ls, (.int 3 :: st), w) := (zE_ (i := .iconst 3) (by decide +kernel) _ _ _).trans rfl
theorem e148_23 (ls st : List Value) (w : zH) : zrun none (148, 23, ls, st, w) = zrun none (148, 24, ls, (.int (-1) :: st), w) := (zE_ (i := .iconst (-1)) (by decide +kernel) _ _ _).trans rfl
theorem e148_24 (ls : List Value) (x j : Int32) (a : Nat) (st : List Value) (w : zH) : zrun none (148, 24, ls, (.int x :: .int j :: .ref a :: st), w) = zgd (zin? w a 100 j) (zrun none (148, 25, ls, st, zas w a j (.int x))) := by
  refine (zE_ (i := .iastore) (by decide +kernel) _ _ _).trans ?_
  by_cases hg : zin? w a 100 j
  · rw [zgd_pos hg]
    exact zq_iast hg
  · rw [zgd_neg hg]
    exact zq_iast_no hg
theorem e148_25 (ls : List Value) (x : Int32) (st : List Value) (w : zH) : zrun none (148, 25, ls, (.int x :: st), w) = zrun none (148, 26, ls, (.int x :: .int x :: st), w) := (zE_ (i := .dup) (by decide +kernel) _ _ _).trans rfl
theorem e148_25r (ls : List Value) (x : Nat) (st : List Value) (w : zH) : zrun none (148, 25, ls, (.ref x :: st), w) = zrun none (148, 26, ls, (.ref x :: .ref x :: st), w) := (zE_ (i := .dup) (by decide +kernel) _ _ _).trans rfl
theorem e148_26 (ls st : List Value) (w : zH) : zrun none (148, 26, ls, st, w) = zrun none (148, 27, ls, (.int 4 :: st), w) := (zE_ (i := .iconst 4) (by decide +kernel) _ _ _).trans rfl
theorem e148_27 (ls st : List Value) (w : zH) : zrun none (148, 27, ls, st, w) = zrun none (148, 28, ls, (.int (-1) :: st), w) := (zE_ (i := .iconst (-1)) (by decide +kernel) _ _ _).trans rfl
theorem e148_28 (ls : List Value) (x j : Int32) (a : Nat) (st : List Value) (w : zH) : zrun none (148, 28, ls, (.int x :: .int j :: .ref a :: st), w) = zgd (zin? w a 100 j) (zrun none (148, 29, ls, st, zas w a j (.int x))) := by
  refine (zE_ (i := .iastore) (by decide +kernel) _ _ _).trans ?_
  by_cases hg : zin? w a 100 j
  · rw [zgd_pos hg]
    exact zq_iast hg
  · rw [zgd_neg hg]
    exact zq_iast_no hg
theorem e148_29 (ls : List Value) (x : Int32) (st : List Value) (w : zH) : zrun none (148, 29, ls, (.int x :: st), w) = zrun none (148, 30, ls, (.int x :: .int x :: st), w) := (zE_ (i := .dup) (by decide +kernel) _ _ _).trans rfl
theorem e148_29r (ls : List Value) (x : Nat) (st : List Value) (w : zH) : zrun none (148, 29, ls, (.ref x :: st), w) = zrun none (148, 30, ls, (.ref x :: .ref x :: st), w) := (zE_ (i := .dup) (by decide +kernel) _ _ _).trans rfl
theorem e148_30 (ls st : List Value) (w : zH) : zrun none (148, 30, ls, st, w) = zrun none (148, 31, ls, (.int 5 :: st), w) := (zE_ (i := .iconst 5) (by decide +kernel) _ _ _).trans rfl
theorem e148_31 (ls st : List Value) (w : zH) : zrun none (148, 31, ls, st, w) = zrun none (148, 32, ls, (.int (-1) :: st), w) := (zE_ (i := .iconst (-1)) (by decide +kernel) _ _ _).trans rfl
theorem e148_32 (ls : List Value) (x j : Int32) (a : Nat) (st : List Value) (w : zH) : zrun none (148, 32, ls, (.int x :: .int j :: .ref a :: st), w) = zgd (zin? w a 100 j) (zrun none (148, 33, ls, st, zas w a j (.int x))) := by
  refine (zE_ (i := .iastore) (by decide +kernel) _ _ _).trans ?_
  by_cases hg : zin? w a 100 j
  · rw [zgd_pos hg]
    exact zq_iast hg
  · rw [zgd_neg hg]
    exact zq_iast_no hg
theorem e148_33 (ls : List Value) (x : Int32) (st : List Value) (w : zH) : zrun none (148, 33, ls, (.int x :: st), w) = zrun none (148, 34, ls, (.int x :: .int x :: st), w) := (zE_ (i := .dup) (by decide +kernel) _ _ _).trans rfl
theorem e148_33r (ls : List Value) (x : Nat) (st : List Value) (w : zH) : zrun none (148, 33, ls, (.ref x :: st), w) = zrun none (148, 34, ls, (.ref x :: .ref x :: st), w) := (zE_ (i := .dup) (by decide +kernel) _ _ _).trans rfl
theorem e148_34 (ls st : List Value) (w : zH) : zrun none (148, 34, ls, st, w) = zrun none (148, 36, ls, (.int 6 :: st), w) := (zE_ (i := .bipush 6) (by decide +kernel) _ _ _).trans rfl
theorem e148_36 (ls st : List Value) (w : zH) : zrun none (148, 36, ls, st, w) = zrun none (148, 37, ls, (.int (-1) :: st), w) := (zE_ (i := .iconst (-1)) (by decide +kernel) _ _ _).trans rfl
theorem e148_37 (ls : List Value) (x j : Int32) (a : Nat) (st : List Value) (w : zH) : zrun none (148, 37, ls, (.int x :: .int j :: .ref a :: st), w) = zgd (zin? w a 100 j) (zrun none (148, 38, ls, st, zas w a j (.int x))) := by
  refine (zE_ (i := .iastore) (by decide +kernel) _ _ _).trans ?_
  by_cases hg : zin? w a 100 j
  · rw [zgd_pos hg]
    exact zq_iast hg
  · rw [zgd_neg hg]
    exact zq_iast_no hg
theorem e148_38 (ls : List Value) (x : Int32) (st : List Value) (w : zH) : zrun none (148, 38, ls, (.int x :: st), w) = zrun none (148, 39, ls, (.int x :: .int x :: st), w) := (zE_ (i := .dup) (by decide +kernel) _ _ _).trans rfl
theorem e148_38r (ls : List Value) (x : Nat) (st : List Value) (w : zH) : zrun none (148, 38, ls, (.ref x :: st), w) = zrun none (148, 39, ls, (.ref x :: .ref x :: st), w) := (zE_ (i := .dup) (by decide +kernel) _ _ _).trans rfl
theorem e148_39 (ls st : List Value) (w : zH) : zrun none (148, 39, ls, st, w) = zrun none (148, 41, ls, (.int 7 :: st), w) := (zE_ (i := .bipush 7) (by decide +kernel) _ _ _).trans rfl
theorem e148_41 (ls st : List Value) (w : zH) : zrun none (148, 41, ls, st, w) = zrun none (148, 42, ls, (.int (-1) :: st), w) := (zE_ (i := .iconst (-1)) (by decide +kernel) _ _ _).trans rfl
theorem e148_42 (ls : List Value) (x j : Int32) (a : Nat) (st : List Value) (w : zH) : zrun none (148, 42, ls, (.int x :: .int j :: .ref a :: st), w) = zgd (zin? w a 100 j) (zrun none (148, 43, ls, st, zas w a j (.int x))) := by
  refine (zE_ (i := .iastore) (by decide +kernel) _ _ _).trans ?_
  by_cases hg : zin? w a 100 j
  · rw [zgd_pos hg]
    exact zq_iast hg
  · rw [zgd_neg hg]
    exact zq_iast_no hg
theorem e148_43 (ls : List Value) (x : Nat) (a : Nat) (st : List Value) (w : zH) : zrun none (148, 43, ls, (.ref x :: .ref a :: st), w) = zgd (a < zX ∧ (zf w a 1202).isSome = true) (zrun none (148, 46, ls, st, zpf w a 1202 (.ref x))) := by
  refine (zE_ (i := .putfield 1202) (by decide +kernel) _ _ _).trans ?_
  by_cases hg : a < zX ∧ (zf w a 1202).isSome = true
  · rw [zgd_pos hg]
    obtain ⟨ha, h⟩ := hg
    exact zq_putf ha h rfl rfl
  · rw [zgd_neg hg]
    exact zq_putf_no (fun h1 h2 h3 => hg ⟨h1, h2⟩)
theorem e148_46 (v1 : Value) (x : Nat) (st : List Value) (w : zH) : zrun none (148, 46, [.ref x, v1], st, w) = zrun none (148, 47, [.ref x, v1], (.ref x :: st), w) := (zE_ (i := .aload_n 0) (by decide +kernel) _ _ _).trans rfl
theorem e148_47 (ls st : List Value) (w : zH) : zrun none (148, 47, ls, st, w) = zrun none (148, 49, ls, (.int 8 :: st), w) := (zE_ (i := .bipush 8) (by decide +kernel) _ _ _).trans rfl
theorem e148_49 (ls : List Value) (n : Int32) (st : List Value) (w : zH) (h0 : ¬ n < 0 ∧ n ≤ 65536) (h : w.length + 1 < zX) : zrun none (148, 49, ls, (.int n :: st), w) = zrun none (148, 51, ls, (.ref w.length :: st), w ++ [(100, List.replicate n.toNatClampNeg (.int 0))]) := by
  refine (zE_ (i := .newarray .int) (by decide +kernel) _ _ _).trans ?_
  simp only [zI]
  unfold znwa
  dsimp only
  rw [if_pos h0]
  unfold znw
  rw [if_pos h]
  rfl
theorem e148_51 (ls : List Value) (x : Nat) (a : Nat) (st : List Value) (w : zH) : zrun none (148, 51, ls, (.ref x :: .ref a :: st), w) = zgd (a < zX ∧ (zf w a 1203).isSome = true) (zrun none (148, 54, ls, st, zpf w a 1203 (.ref x))) := by
  refine (zE_ (i := .putfield 1203) (by decide +kernel) _ _ _).trans ?_
  by_cases hg : a < zX ∧ (zf w a 1203).isSome = true
  · rw [zgd_pos hg]
    obtain ⟨ha, h⟩ := hg
    exact zq_putf ha h rfl rfl
  · rw [zgd_neg hg]
    exact zq_putf_no (fun h1 h2 h3 => hg ⟨h1, h2⟩)
theorem e148_54 (v1 : Value) (x : Nat) (st : List Value) (w : zH) : zrun none (148, 54, [.ref x, v1], st, w) = zrun none (148, 55, [.ref x, v1], (.ref x :: st), w) := (zE_ (i := .aload_n 0) (by decide +kernel) _ _ _).trans rfl
theorem e148_55 (ls st : List Value) (w : zH) : zrun none (148, 55, ls, st, w) = zrun none (148, 58, ls, (.int 800 :: st), w) := (zE_ (i := .sipush 800) (by decide +kernel) _ _ _).trans rfl
theorem e148_58 (ls : List Value) (n : Int32) (st : List Value) (w : zH) (h0 : ¬ n < 0 ∧ n ≤ 65536) (h : w.length + 1 < zX) : zrun none (148, 58, ls, (.int n :: st), w) = zrun none (148, 60, ls, (.ref w.length :: st), w ++ [(100, List.replicate n.toNatClampNeg (.int 0))]) := by
  refine (zE_ (i := .newarray .int) (by decide +kernel) _ _ _).trans ?_
  simp only [zI]
  unfold znwa
  dsimp only
  rw [if_pos h0]
  unfold znw
  rw [if_pos h]
  rfl
theorem e148_60 (ls : List Value) (x : Nat) (a : Nat) (st : List Value) (w : zH) : zrun none (148, 60, ls, (.ref x :: .ref a :: st), w) = zgd (a < zX ∧ (zf w a 1204).isSome = true) (zrun none (148, 63, ls, st, zpf w a 1204 (.ref x))) := by
  refine (zE_ (i := .putfield 1204) (by decide +kernel) _ _ _).trans ?_
  by_cases hg : a < zX ∧ (zf w a 1204).isSome = true
  · rw [zgd_pos hg]
    obtain ⟨ha, h⟩ := hg
    exact zq_putf ha h rfl rfl
  · rw [zgd_neg hg]
    exact zq_putf_no (fun h1 h2 h3 => hg ⟨h1, h2⟩)
theorem e148_63 (v1 : Value) (x : Nat) (st : List Value) (w : zH) : zrun none (148, 63, [.ref x, v1], st, w) = zrun none (148, 64, [.ref x, v1], (.ref x :: st), w) := (zE_ (i := .aload_n 0) (by decide +kernel) _ _ _).trans rfl
theorem e148_64 (ls st : List Value) (w : zH) : zrun none (148, 64, ls, st, w) = zrun none (148, 66, ls, (.int 30 :: st), w) := (zE_ (i := .bipush 30) (by decide +kernel) _ _ _).trans rfl
theorem e148_66 (ls : List Value) (n : Int32) (st : List Value) (w : zH) (h0 : ¬ n < 0 ∧ n ≤ 65536) (h : w.length + 1 < zX) : zrun none (148, 66, ls, (.int n :: st), w) = zrun none (148, 68, ls, (.ref w.length :: st), w ++ [(100, List.replicate n.toNatClampNeg (.int 0))]) := by
  refine (zE_ (i := .newarray .int) (by decide +kernel) _ _ _).trans ?_
  simp only [zI]
  unfold znwa
  dsimp only
  rw [if_pos h0]
  unfold znw
  rw [if_pos h]
  rfl
theorem e148_68 (ls : List Value) (x : Nat) (a : Nat) (st : List Value) (w : zH) : zrun none (148, 68, ls, (.ref x :: .ref a :: st), w) = zgd (a < zX ∧ (zf w a 1207).isSome = true) (zrun none (148, 71, ls, st, zpf w a 1207 (.ref x))) := by
  refine (zE_ (i := .putfield 1207) (by decide +kernel) _ _ _).trans ?_
  by_cases hg : a < zX ∧ (zf w a 1207).isSome = true
  · rw [zgd_pos hg]
    obtain ⟨ha, h⟩ := hg
    exact zq_putf ha h rfl rfl
  · rw [zgd_neg hg]
    exact zq_putf_no (fun h1 h2 h3 => hg ⟨h1, h2⟩)
theorem e148_71 (v1 : Value) (x : Nat) (st : List Value) (w : zH) : zrun none (148, 71, [.ref x, v1], st, w) = zrun none (148, 72, [.ref x, v1], (.ref x :: st), w) := (zE_ (i := .aload_n 0) (by decide +kernel) _ _ _).trans rfl
theorem e148_72 (ls st : List Value) (w : zH) : zrun none (148, 72, ls, st, w) = zrun none (148, 74, ls, (.int 30 :: st), w) := (zE_ (i := .bipush 30) (by decide +kernel) _ _ _).trans rfl
theorem e148_74 (ls : List Value) (n : Int32) (st : List Value) (w : zH) (h0 : ¬ n < 0 ∧ n ≤ 65536) (h : w.length + 1 < zX) : zrun none (148, 74, ls, (.int n :: st), w) = zrun none (148, 76, ls, (.ref w.length :: st), w ++ [(100, List.replicate n.toNatClampNeg (.int 0))]) := by
  refine (zE_ (i := .newarray .int) (by decide +kernel) _ _ _).trans ?_
  simp only [zI]
  unfold znwa
  dsimp only
  rw [if_pos h0]
  unfold znw
  rw [if_pos h]
  rfl
theorem e148_76 (ls : List Value) (x : Nat) (a : Nat) (st : List Value) (w : zH) : zrun none (148, 76, ls, (.ref x :: .ref a :: st), w) = zgd (a < zX ∧ (zf w a 1208).isSome = true) (zrun none (148, 79, ls, st, zpf w a 1208 (.ref x))) := by
  refine (zE_ (i := .putfield 1208) (by decide +kernel) _ _ _).trans ?_
  by_cases hg : a < zX ∧ (zf w a 1208).isSome = true
  · rw [zgd_pos hg]
    obtain ⟨ha, h⟩ := hg
    exact zq_putf ha h rfl rfl
  · rw [zgd_neg hg]
    exact zq_putf_no (fun h1 h2 h3 => hg ⟨h1, h2⟩)
theorem e148_79 (v1 : Value) (x : Nat) (st : List Value) (w : zH) : zrun none (148, 79, [.ref x, v1], st, w) = zrun none (148, 80, [.ref x, v1], (.ref x :: st), w) := (zE_ (i := .aload_n 0) (by decide +kernel) _ _ _).trans rfl
theorem e148_80 (ls st : List Value) (w : zH) : zrun none (148, 80, ls, st, w) = zrun none (148, 82, ls, (.int 30 :: st), w) := (zE_ (i := .bipush 30) (by decide +kernel) _ _ _).trans rfl
theorem e148_82 (ls : List Value) (n : Int32) (st : List Value) (w : zH) (h0 : ¬ n < 0 ∧ n ≤ 65536) (h : w.length + 1 < zX) : zrun none (148, 82, ls, (.int n :: st), w) = zrun none (148, 84, ls, (.ref w.length :: st), w ++ [(100, List.replicate n.toNatClampNeg (.int 0))]) := by
  refine (zE_ (i := .newarray .int) (by decide +kernel) _ _ _).trans ?_
  simp only [zI]
  unfold znwa
  dsimp only
  rw [if_pos h0]
  unfold znw
  rw [if_pos h]
  rfl
theorem e148_84 (ls : List Value) (x : Nat) (a : Nat) (st : List Value) (w : zH) : zrun none (148, 84, ls, (.ref x :: .ref a :: st), w) = zgd (a < zX ∧ (zf w a 1209).isSome = true) (zrun none (148, 87, ls, st, zpf w a 1209 (.ref x))) := by
  refine (zE_ (i := .putfield 1209) (by decide +kernel) _ _ _).trans ?_
  by_cases hg : a < zX ∧ (zf w a 1209).isSome = true
  · rw [zgd_pos hg]
    obtain ⟨ha, h⟩ := hg
    exact zq_putf ha h rfl rfl
  · rw [zgd_neg hg]
    exact zq_putf_no (fun h1 h2 h3 => hg ⟨h1, h2⟩)
theorem e148_87 (v1 : Value) (x : Nat) (st : List Value) (w : zH) : zrun none (148, 87, [.ref x, v1], st, w) = zrun none (148, 88, [.ref x, v1], (.ref x :: st), w) := (zE_ (i := .aload_n 0) (by decide +kernel) _ _ _).trans rfl
theorem e148_88 (ls st : List Value) (w : zH) : zrun none (148, 88, ls, st, w) = zrun none (148, 90, ls, (.int 30 :: st), w) := (zE_ (i := .bipush 30) (by decide +kernel) _ _ _).trans rfl
theorem e148_90 (ls : List Value) (n : Int32) (st : List Value) (w : zH) (h0 : ¬ n < 0 ∧ n ≤ 65536) (h : w.length + 1 < zX) : zrun none (148, 90, ls, (.int n :: st), w) = zrun none (148, 92, ls, (.ref w.length :: st), w ++ [(100, List.replicate n.toNatClampNeg (.int 0))]) := by
  refine (zE_ (i := .newarray .int) (by decide +kernel) _ _ _).trans ?_
  simp only [zI]
  unfold znwa
  dsimp only
  rw [if_pos h0]
  unfold znw
  rw [if_pos h]
  rfl
theorem e148_92 (ls : List Value) (x : Nat) (a : Nat) (st : List Value) (w : zH) : zrun none (148, 92, ls, (.ref x :: .ref a :: st), w) = zgd (a < zX ∧ (zf w a 1210).isSome = true) (zrun none (148, 95, ls, st, zpf w a 1210 (.ref x))) := by
  refine (zE_ (i := .putfield 1210) (by decide +kernel) _ _ _).trans ?_
  by_cases hg : a < zX ∧ (zf w a 1210).isSome = true
  · rw [zgd_pos hg]
    obtain ⟨ha, h⟩ := hg
    exact zq_putf ha h rfl rfl
  · rw [zgd_neg hg]
    exact zq_putf_no (fun h1 h2 h3 => hg ⟨h1, h2⟩)
theorem e148_95 (v1 : Value) (x : Nat) (st : List Value) (w : zH) : zrun none (148, 95, [.ref x, v1], st, w) = zrun none (148, 96, [.ref x, v1], (.ref x :: st), w) := (zE_ (i := .aload_n 0) (by decide +kernel) _ _ _).trans rfl
theorem e148_96 (ls st : List Value) (w : zH) : zrun none (148, 96, ls, st, w) = zrun none (148, 98, ls, (.int 16 :: st), w) := (zE_ (i := .bipush 16) (by decide +kernel) _ _ _).trans rfl
theorem e148_98 (ls : List Value) (n : Int32) (st : List Value) (w : zH) (h0 : ¬ n < 0 ∧ n ≤ 65536) (h : w.length + 1 < zX) : zrun none (148, 98, ls, (.int n :: st), w) = zrun none (148, 100, ls, (.ref w.length :: st), w ++ [(100, List.replicate n.toNatClampNeg (.int 0))]) := by
  refine (zE_ (i := .newarray .int) (by decide +kernel) _ _ _).trans ?_
  simp only [zI]
  unfold znwa
  dsimp only
  rw [if_pos h0]
  unfold znw
  rw [if_pos h]
  rfl
theorem e148_100 (ls : List Value) (x : Nat) (a : Nat) (st : List Value) (w : zH) : zrun none (148, 100, ls, (.ref x :: .ref a :: st), w) = zgd (a < zX ∧ (zf w a 1212).isSome = true) (zrun none (148, 103, ls, st, zpf w a 1212 (.ref x))) := by
  refine (zE_ (i := .putfield 1212) (by decide +kernel) _ _ _).trans ?_
  by_cases hg : a < zX ∧ (zf w a 1212).isSome = true
  · rw [zgd_pos hg]
    obtain ⟨ha, h⟩ := hg
    exact zq_putf ha h rfl rfl
  · rw [zgd_neg hg]
    exact zq_putf_no (fun h1 h2 h3 => hg ⟨h1, h2⟩)
theorem e148_103 (v1 : Value) (x : Nat) (st : List Value) (w : zH) : zrun none (148, 103, [.ref x, v1], st, w) = zrun none (148, 104, [.ref x, v1], (.ref x :: st), w) := (zE_ (i := .aload_n 0) (by decide +kernel) _ _ _).trans rfl
theorem e148_104 (ls st : List Value) (w : zH) : zrun none (148, 104, ls, st, w) = zrun none (148, 106, ls, (.int 16 :: st), w) := (zE_ (i := .bipush 16) (by decide +kernel) _ _ _).trans rfl
theorem e148_106 (ls : List Value) (n : Int32) (st : List Value) (w : zH) (h0 : ¬ n < 0 ∧ n ≤ 65536) (h : w.length + 1 < zX) : zrun none (148, 106, ls, (.int n :: st), w) = zrun none (148, 108, ls, (.ref w.length :: st), w ++ [(100, List.replicate n.toNatClampNeg (.int 0))]) := by
  refine (zE_ (i := .newarray .int) (by decide +kernel) _ _ _).trans ?_
  simp only [zI]
  unfold znwa
  dsimp only
  rw [if_pos h0]
  unfold znw
  rw [if_pos h]
  rfl
theorem e148_108 (ls : List Value) (x : Nat) (a : Nat) (st : List Value) (w : zH) : zrun none (148, 108, ls, (.ref x :: .ref a :: st), w) = zgd (a < zX ∧ (zf w a 1213).isSome = true) (zrun none (148, 111, ls, st, zpf w a 1213 (.ref x))) := by
  refine (zE_ (i := .putfield 1213) (by decide +kernel) _ _ _).trans ?_
  by_cases hg : a < zX ∧ (zf w a 1213).isSome = true
  · rw [zgd_pos hg]
    obtain ⟨ha, h⟩ := hg
    exact zq_putf ha h rfl rfl
  · rw [zgd_neg hg]
    exact zq_putf_no (fun h1 h2 h3 => hg ⟨h1, h2⟩)
theorem e148_111 (v1 : Value) (x : Nat) (st : List Value) (w : zH) : zrun none (148, 111, [.ref x, v1], st, w) = zrun none (148, 112, [.ref x, v1], (.ref x :: st), w) := (zE_ (i := .aload_n 0) (by decide +kernel) _ _ _).trans rfl
theorem e148_112 (ls st : List Value) (w : zH) : zrun none (148, 112, ls, st, w) = zrun none (148, 114, ls, (.int 16 :: st), w) := (zE_ (i := .bipush 16) (by decide +kernel) _ _ _).trans rfl
theorem e148_114 (ls : List Value) (n : Int32) (st : List Value) (w : zH) (h0 : ¬ n < 0 ∧ n ≤ 65536) (h : w.length + 1 < zX) : zrun none (148, 114, ls, (.int n :: st), w) = zrun none (148, 116, ls, (.ref w.length :: st), w ++ [(100, List.replicate n.toNatClampNeg (.int 0))]) := by
  refine (zE_ (i := .newarray .int) (by decide +kernel) _ _ _).trans ?_
  simp only [zI]
  unfold znwa
  dsimp only
  rw [if_pos h0]
  unfold znw
  rw [if_pos h]
  rfl
theorem e148_116 (ls : List Value) (x : Nat) (a : Nat) (st : List Value) (w : zH) : zrun none (148, 116, ls, (.ref x :: .ref a :: st), w) = zgd (a < zX ∧ (zf w a 1214).isSome = true) (zrun none (148, 119, ls, st, zpf w a 1214 (.ref x))) := by
  refine (zE_ (i := .putfield 1214) (by decide +kernel) _ _ _).trans ?_
  by_cases hg : a < zX ∧ (zf w a 1214).isSome = true
  · rw [zgd_pos hg]
    obtain ⟨ha, h⟩ := hg
    exact zq_putf ha h rfl rfl
  · rw [zgd_neg hg]
    exact zq_putf_no (fun h1 h2 h3 => hg ⟨h1, h2⟩)
theorem e148_119 (v1 : Value) (x : Nat) (st : List Value) (w : zH) : zrun none (148, 119, [.ref x, v1], st, w) = zrun none (148, 120, [.ref x, v1], (.ref x :: st), w) := (zE_ (i := .aload_n 0) (by decide +kernel) _ _ _).trans rfl
theorem e148_120 (ls st : List Value) (w : zH) : zrun none (148, 120, ls, st, w) = zrun none (148, 122, ls, (.int 16 :: st), w) := (zE_ (i := .bipush 16) (by decide +kernel) _ _ _).trans rfl
theorem e148_122 (ls : List Value) (n : Int32) (st : List Value) (w : zH) (h0 : ¬ n < 0 ∧ n ≤ 65536) (h : w.length + 1 < zX) : zrun none (148, 122, ls, (.int n :: st), w) = zrun none (148, 124, ls, (.ref w.length :: st), w ++ [(100, List.replicate n.toNatClampNeg (.int 0))]) := by
  refine (zE_ (i := .newarray .int) (by decide +kernel) _ _ _).trans ?_
  simp only [zI]
  unfold znwa
  dsimp only
  rw [if_pos h0]
  unfold znw
  rw [if_pos h]
  rfl
theorem e148_124 (ls : List Value) (x : Nat) (a : Nat) (st : List Value) (w : zH) : zrun none (148, 124, ls, (.ref x :: .ref a :: st), w) = zgd (a < zX ∧ (zf w a 1215).isSome = true) (zrun none (148, 127, ls, st, zpf w a 1215 (.ref x))) := by
  refine (zE_ (i := .putfield 1215) (by decide +kernel) _ _ _).trans ?_
  by_cases hg : a < zX ∧ (zf w a 1215).isSome = true
  · rw [zgd_pos hg]
    obtain ⟨ha, h⟩ := hg
    exact zq_putf ha h rfl rfl
  · rw [zgd_neg hg]
    exact zq_putf_no (fun h1 h2 h3 => hg ⟨h1, h2⟩)
theorem e148_127 (v1 : Value) (x : Nat) (st : List Value) (w : zH) : zrun none (148, 127, [.ref x, v1], st, w) = zrun none (148, 128, [.ref x, v1], (.ref x :: st), w) := (zE_ (i := .aload_n 0) (by decide +kernel) _ _ _).trans rfl
theorem e148_128 (ls st : List Value) (w : zH) : zrun none (148, 128, ls, st, w) = zrun none (148, 131, ls, (.int 144 :: st), w) := (zE_ (i := .sipush 144) (by decide +kernel) _ _ _).trans rfl
theorem e148_131 (ls : List Value) (n : Int32) (st : List Value) (w : zH) (h0 : ¬ n < 0 ∧ n ≤ 65536) (h : w.length + 1 < zX) : zrun none (148, 131, ls, (.int n :: st), w) = zrun none (148, 133, ls, (.ref w.length :: st), w ++ [(100, List.replicate n.toNatClampNeg (.int 0))]) := by
  refine (zE_ (i := .newarray .int) (by decide +kernel) _ _ _).trans ?_
  simp only [zI]
  unfold znwa
  dsimp only
  rw [if_pos h0]
  unfold znw
  rw [if_pos h]
  rfl
theorem e148_133 (ls : List Value) (x : Nat) (a : Nat) (st : List Value) (w : zH) : zrun none (148, 133, ls, (.ref x :: .ref a :: st), w) = zgd (a < zX ∧ (zf w a 1218).isSome = true) (zrun none (148, 136, ls, st, zpf w a 1218 (.ref x))) := by
  refine (zE_ (i := .putfield 1218) (by decide +kernel) _ _ _).trans ?_
  by_cases hg : a < zX ∧ (zf w a 1218).isSome = true
  · rw [zgd_pos hg]
    obtain ⟨ha, h⟩ := hg
    exact zq_putf ha h rfl rfl
  · rw [zgd_neg hg]
    exact zq_putf_no (fun h1 h2 h3 => hg ⟨h1, h2⟩)
theorem e148_136 (v1 : Value) (x : Nat) (st : List Value) (w : zH) : zrun none (148, 136, [.ref x, v1], st, w) = zrun none (148, 137, [.ref x, v1], (.ref x :: st), w) := (zE_ (i := .aload_n 0) (by decide +kernel) _ _ _).trans rfl
theorem e148_137 (ls st : List Value) (w : zH) : zrun none (148, 137, ls, st, w) = zrun none (148, 140, ls, (.int 500 :: st), w) := (zE_ (i := .sipush 500) (by decide +kernel) _ _ _).trans rfl
theorem e148_140 (ls : List Value) (n : Int32) (st : List Value) (w : zH) (h0 : ¬ n < 0 ∧ n ≤ 65536) (h : w.length + 1 < zX) : zrun none (148, 140, ls, (.int n :: st), w) = zrun none (148, 142, ls, (.ref w.length :: st), w ++ [(100, List.replicate n.toNatClampNeg (.int 0))]) := by
  refine (zE_ (i := .newarray .int) (by decide +kernel) _ _ _).trans ?_
  simp only [zI]
  unfold znwa
  dsimp only
  rw [if_pos h0]
  unfold znw
  rw [if_pos h]
  rfl
theorem e148_142 (ls : List Value) (x : Nat) (a : Nat) (st : List Value) (w : zH) : zrun none (148, 142, ls, (.ref x :: .ref a :: st), w) = zgd (a < zX ∧ (zf w a 1220).isSome = true) (zrun none (148, 145, ls, st, zpf w a 1220 (.ref x))) := by
  refine (zE_ (i := .putfield 1220) (by decide +kernel) _ _ _).trans ?_
  by_cases hg : a < zX ∧ (zf w a 1220).isSome = true
  · rw [zgd_pos hg]
    obtain ⟨ha, h⟩ := hg
    exact zq_putf ha h rfl rfl
  · rw [zgd_neg hg]
    exact zq_putf_no (fun h1 h2 h3 => hg ⟨h1, h2⟩)
theorem e148_145 (v1 : Value) (x : Nat) (st : List Value) (w : zH) : zrun none (148, 145, [.ref x, v1], st, w) = zrun none (148, 146, [.ref x, v1], (.ref x :: st), w) := (zE_ (i := .aload_n 0) (by decide +kernel) _ _ _).trans rfl
theorem e148_146 (ls st : List Value) (w : zH) : zrun none (148, 146, ls, st, w) = zrun none (148, 148, ls, (.int 10 :: st), w) := (zE_ (i := .bipush 10) (by decide +kernel) _ _ _).trans rfl
theorem e148_148 (ls : List Value) (n : Int32) (st : List Value) (w : zH) (h0 : ¬ n < 0 ∧ n ≤ 65536) (h : w.length + 1 < zX) : zrun none (148, 148, ls, (.int n :: st), w) = zrun none (148, 150, ls, (.ref w.length :: st), w ++ [(100, List.replicate n.toNatClampNeg (.int 0))]) := by
  refine (zE_ (i := .newarray .int) (by decide +kernel) _ _ _).trans ?_
  simp only [zI]
  unfold znwa
  dsimp only
  rw [if_pos h0]
  unfold znw
  rw [if_pos h]
  rfl
theorem e148_150 (ls : List Value) (x : Nat) (a : Nat) (st : List Value) (w : zH) : zrun none (148, 150, ls, (.ref x :: .ref a :: st), w) = zgd (a < zX ∧ (zf w a 1231).isSome = true) (zrun none (148, 153, ls, st, zpf w a 1231 (.ref x))) := by
  refine (zE_ (i := .putfield 1231) (by decide +kernel) _ _ _).trans ?_
  by_cases hg : a < zX ∧ (zf w a 1231).isSome = true
  · rw [zgd_pos hg]
    obtain ⟨ha, h⟩ := hg
    exact zq_putf ha h rfl rfl
  · rw [zgd_neg hg]
    exact zq_putf_no (fun h1 h2 h3 => hg ⟨h1, h2⟩)
theorem e148_153 (v1 : Value) (x : Nat) (st : List Value) (w : zH) : zrun none (148, 153, [.ref x, v1], st, w) = zrun none (148, 154, [.ref x, v1], (.ref x :: st), w) := (zE_ (i := .aload_n 0) (by decide +kernel) _ _ _).trans rfl
theorem e148_154 (ls st : List Value) (w : zH) : zrun none (148, 154, ls, st, w) = zrun none (148, 156, ls, (.int 10 :: st), w) := (zE_ (i := .bipush 10) (by decide +kernel) _ _ _).trans rfl
theorem e148_156 (ls : List Value) (n : Int32) (st : List Value) (w : zH) (h0 : ¬ n < 0 ∧ n ≤ 65536) (h : w.length + 1 < zX) : zrun none (148, 156, ls, (.int n :: st), w) = zrun none (148, 158, ls, (.ref w.length :: st), w ++ [(100, List.replicate n.toNatClampNeg (.int 0))]) := by
  refine (zE_ (i := .newarray .int) (by decide +kernel) _ _ _).trans ?_
  simp only [zI]
  unfold znwa
  dsimp only
  rw [if_pos h0]
  unfold znw
  rw [if_pos h]
  rfl
theorem e148_158 (ls : List Value) (x : Nat) (a : Nat) (st : List Value) (w : zH) : zrun none (148, 158, ls, (.ref x :: .ref a :: st), w) = zgd (a < zX ∧ (zf w a 1232).isSome = true) (zrun none (148, 161, ls, st, zpf w a 1232 (.ref x))) := by
  refine (zE_ (i := .putfield 1232) (by decide +kernel) _ _ _).trans ?_
  by_cases hg : a < zX ∧ (zf w a 1232).isSome = true
  · rw [zgd_pos hg]
    obtain ⟨ha, h⟩ := hg
    exact zq_putf ha h rfl rfl
  · rw [zgd_neg hg]
    exact zq_putf_no (fun h1 h2 h3 => hg ⟨h1, h2⟩)
theorem e148_161 (v1 : Value) (x : Nat) (st : List Value) (w : zH) : zrun none (148, 161, [.ref x, v1], st, w) = zrun none (148, 162, [.ref x, v1], (.ref x :: st), w) := (zE_ (i := .aload_n 0) (by decide +kernel) _ _ _).trans rfl
theorem e148_162 (ls st : List Value) (w : zH) : zrun none (148, 162, ls, st, w) = zrun none (148, 164, ls, (.int 10 :: st), w) := (zE_ (i := .bipush 10) (by decide +kernel) _ _ _).trans rfl
theorem e148_164 (ls : List Value) (n : Int32) (st : List Value) (w : zH) (h0 : ¬ n < 0 ∧ n ≤ 65536) (h : w.length + 1 < zX) : zrun none (148, 164, ls, (.int n :: st), w) = zrun none (148, 166, ls, (.ref w.length :: st), w ++ [(100, List.replicate n.toNatClampNeg (.int 0))]) := by
  refine (zE_ (i := .newarray .int) (by decide +kernel) _ _ _).trans ?_
  simp only [zI]
  unfold znwa
  dsimp only
  rw [if_pos h0]
  unfold znw
  rw [if_pos h]
  rfl
theorem e148_166 (ls : List Value) (x : Nat) (a : Nat) (st : List Value) (w : zH) : zrun none (148, 166, ls, (.ref x :: .ref a :: st), w) = zgd (a < zX ∧ (zf w a 1233).isSome = true) (zrun none (148, 169, ls, st, zpf w a 1233 (.ref x))) := by
  refine (zE_ (i := .putfield 1233) (by decide +kernel) _ _ _).trans ?_
  by_cases hg : a < zX ∧ (zf w a 1233).isSome = true
  · rw [zgd_pos hg]
    obtain ⟨ha, h⟩ := hg
    exact zq_putf ha h rfl rfl
  · rw [zgd_neg hg]
    exact zq_putf_no (fun h1 h2 h3 => hg ⟨h1, h2⟩)
theorem e148_169 (v1 : Value) (x : Nat) (st : List Value) (w : zH) : zrun none (148, 169, [.ref x, v1], st, w) = zrun none (148, 170, [.ref x, v1], (.ref x :: st), w) := (zE_ (i := .aload_n 0) (by decide +kernel) _ _ _).trans rfl
theorem e148_170 (ls st : List Value) (w : zH) : zrun none (148, 170, ls, st, w) = zrun none (148, 172, ls, (.int 10 :: st), w) := (zE_ (i := .bipush 10) (by decide +kernel) _ _ _).trans rfl
theorem e148_172 (ls : List Value) (n : Int32) (st : List Value) (w : zH) (h0 : ¬ n < 0 ∧ n ≤ 65536) (h : w.length + 1 < zX) : zrun none (148, 172, ls, (.int n :: st), w) = zrun none (148, 174, ls, (.ref w.length :: st), w ++ [(100, List.replicate n.toNatClampNeg (.int 0))]) := by
  refine (zE_ (i := .newarray .int) (by decide +kernel) _ _ _).trans ?_
  simp only [zI]
  unfold znwa
  dsimp only
  rw [if_pos h0]
  unfold znw
  rw [if_pos h]
  rfl
theorem e148_174 (ls : List Value) (x : Nat) (a : Nat) (st : List Value) (w : zH) : zrun none (148, 174, ls, (.ref x :: .ref a :: st), w) = zgd (a < zX ∧ (zf w a 1234).isSome = true) (zrun none (148, 177, ls, st, zpf w a 1234 (.ref x))) := by
  refine (zE_ (i := .putfield 1234) (by decide +kernel) _ _ _).trans ?_
  by_cases hg : a < zX ∧ (zf w a 1234).isSome = true
  · rw [zgd_pos hg]
    obtain ⟨ha, h⟩ := hg
    exact zq_putf ha h rfl rfl
  · rw [zgd_neg hg]
    exact zq_putf_no (fun h1 h2 h3 => hg ⟨h1, h2⟩)
theorem e148_177 (v1 : Value) (x : Nat) (st : List Value) (w : zH) : zrun none (148, 177, [.ref x, v1], st, w) = zrun none (148, 178, [.ref x, v1], (.ref x :: st), w) := (zE_ (i := .aload_n 0) (by decide +kernel) _ _ _).trans rfl
theorem e148_178 (ls st : List Value) (w : zH) : zrun none (148, 178, ls, st, w) = zrun none (148, 180, ls, (.int 10 :: st), w) := (zE_ (i := .bipush 10) (by decide +kernel) _ _ _).trans rfl
theorem e148_180 (ls : List Value) (n : Int32) (st : List Value) (w : zH) (h0 : ¬ n < 0 ∧ n ≤ 65536) (h : w.length + 1 < zX) : zrun none (148, 180, ls, (.int n :: st), w) = zrun none (148, 182, ls, (.ref w.length :: st), w ++ [(100, List.replicate n.toNatClampNeg (.int 0))]) := by
  refine (zE_ (i := .newarray .int) (by decide +kernel) _ _ _).trans ?_
  simp only [zI]
  unfold znwa
  dsimp only
  rw [if_pos h0]
  unfold znw
  rw [if_pos h]
  rfl
theorem e148_182 (ls : List Value) (x : Nat) (a : Nat) (st : List Value) (w : zH) : zrun none (148, 182, ls, (.ref x :: .ref a :: st), w) = zgd (a < zX ∧ (zf w a 1235).isSome = true) (zrun none (148, 185, ls, st, zpf w a 1235 (.ref x))) := by
  refine (zE_ (i := .putfield 1235) (by decide +kernel) _ _ _).trans ?_
  by_cases hg : a < zX ∧ (zf w a 1235).isSome = true
  · rw [zgd_pos hg]
    obtain ⟨ha, h⟩ := hg
    exact zq_putf ha h rfl rfl
  · rw [zgd_neg hg]
    exact zq_putf_no (fun h1 h2 h3 => hg ⟨h1, h2⟩)
theorem e148_185 (v1 : Value) (x : Nat) (st : List Value) (w : zH) : zrun none (148, 185, [.ref x, v1], st, w) = zrun none (148, 186, [.ref x, v1], (.ref x :: st), w) := (zE_ (i := .aload_n 0) (by decide +kernel) _ _ _).trans rfl
theorem e148_186 (ls st : List Value) (w : zH) : zrun none (148, 186, ls, st, w) = zrun none (148, 188, ls, (.int 80 :: st), w) := (zE_ (i := .bipush 80) (by decide +kernel) _ _ _).trans rfl
theorem e148_188 (ls : List Value) (n : Int32) (st : List Value) (w : zH) (h0 : ¬ n < 0 ∧ n ≤ 65536) (h : w.length + 1 < zX) : zrun none (148, 188, ls, (.int n :: st), w) = zrun none (148, 190, ls, (.ref w.length :: st), w ++ [(100, List.replicate n.toNatClampNeg (.int 0))]) := by
  refine (zE_ (i := .newarray .int) (by decide +kernel) _ _ _).trans ?_
  simp only [zI]
  unfold znwa
  dsimp only
  rw [if_pos h0]
  unfold znw
  rw [if_pos h]
  rfl
theorem e148_190 (ls : List Value) (x : Nat) (a : Nat) (st : List Value) (w : zH) : zrun none (148, 190, ls, (.ref x :: .ref a :: st), w) = zgd (a < zX ∧ (zf w a 1236).isSome = true) (zrun none (148, 193, ls, st, zpf w a 1236 (.ref x))) := by
  refine (zE_ (i := .putfield 1236) (by decide +kernel) _ _ _).trans ?_
  by_cases hg : a < zX ∧ (zf w a 1236).isSome = true
  · rw [zgd_pos hg]
    obtain ⟨ha, h⟩ := hg
    exact zq_putf ha h rfl rfl
  · rw [zgd_neg hg]
    exact zq_putf_no (fun h1 h2 h3 => hg ⟨h1, h2⟩)
theorem e148_193 (v1 : Value) (x : Nat) (st : List Value) (w : zH) : zrun none (148, 193, [.ref x, v1], st, w) = zrun none (148, 194, [.ref x, v1], (.ref x :: st), w) := (zE_ (i := .aload_n 0) (by decide +kernel) _ _ _).trans rfl
theorem e148_194 (ls st : List Value) (w : zH) : zrun none (148, 194, ls, st, w) = zrun none (148, 196, ls, (.int 8 :: st), w) := (zE_ (i := .bipush 8) (by decide +kernel) _ _ _).trans rfl
theorem e148_196 (ls : List Value) (n : Int32) (st : List Value) (w : zH) (h0 : ¬ n < 0 ∧ n ≤ 65536) (h : w.length + 1 < zX) : zrun none (148, 196, ls, (.int n :: st), w) = zrun none (148, 198, ls, (.ref w.length :: st), w ++ [(100, List.replicate n.toNatClampNeg (.int 0))]) := by
  refine (zE_ (i := .newarray .int) (by decide +kernel) _ _ _).trans ?_
  simp only [zI]
  unfold znwa
  dsimp only
  rw [if_pos h0]
  unfold znw
  rw [if_pos h]
  rfl
theorem e148_198 (ls : List Value) (x : Nat) (a : Nat) (st : List Value) (w : zH) : zrun none (148, 198, ls, (.ref x :: .ref a :: st), w) = zgd (a < zX ∧ (zf w a 1238).isSome = true) (zrun none (148, 201, ls, st, zpf w a 1238 (.ref x))) := by
  refine (zE_ (i := .putfield 1238) (by decide +kernel) _ _ _).trans ?_
  by_cases hg : a < zX ∧ (zf w a 1238).isSome = true
  · rw [zgd_pos hg]
    obtain ⟨ha, h⟩ := hg
    exact zq_putf ha h rfl rfl
  · rw [zgd_neg hg]
    exact zq_putf_no (fun h1 h2 h3 => hg ⟨h1, h2⟩)
theorem e148_201 (v1 : Value) (x : Nat) (st : List Value) (w : zH) : zrun none (148, 201, [.ref x, v1], st, w) = zrun none (148, 202, [.ref x, v1], (.ref x :: st), w) := (zE_ (i := .aload_n 0) (by decide +kernel) _ _ _).trans rfl
theorem e148_202 (ls st : List Value) (w : zH) : zrun none (148, 202, ls, st, w) = zrun none (148, 205, ls, (.int 256 :: st), w) := (zE_ (i := .sipush 256) (by decide +kernel) _ _ _).trans rfl
theorem e148_205 (ls : List Value) (n : Int32) (st : List Value) (w : zH) (h0 : ¬ n < 0 ∧ n ≤ 65536) (h : w.length + 1 < zX) : zrun none (148, 205, ls, (.int n :: st), w) = zrun none (148, 207, ls, (.ref w.length :: st), w ++ [(100, List.replicate n.toNatClampNeg (.int 0))]) := by
  refine (zE_ (i := .newarray .int) (by decide +kernel) _ _ _).trans ?_
  simp only [zI]
  unfold znwa
  dsimp only
  rw [if_pos h0]
  unfold znw
  rw [if_pos h]
  rfl
theorem e148_207 (ls : List Value) (x : Nat) (a : Nat) (st : List Value) (w : zH) : zrun none (148, 207, ls, (.ref x :: .ref a :: st), w) = zgd (a < zX ∧ (zf w a 1239).isSome = true) (zrun none (148, 210, ls, st, zpf w a 1239 (.ref x))) := by
  refine (zE_ (i := .putfield 1239) (by decide +kernel) _ _ _).trans ?_
  by_cases hg : a < zX ∧ (zf w a 1239).isSome = true
  · rw [zgd_pos hg]
    obtain ⟨ha, h⟩ := hg
    exact zq_putf ha h rfl rfl
  · rw [zgd_neg hg]
    exact zq_putf_no (fun h1 h2 h3 => hg ⟨h1, h2⟩)
theorem e148_210 (v1 : Value) (x : Nat) (st : List Value) (w : zH) : zrun none (148, 210, [.ref x, v1], st, w) = zrun none (148, 211, [.ref x, v1], (.ref x :: st), w) := (zE_ (i := .aload_n 0) (by decide +kernel) _ _ _).trans rfl
theorem e148_211 (ls st : List Value) (w : zH) : zrun none (148, 211, ls, st, w) = zrun none (148, 213, ls, (.int 20 :: st), w) := (zE_ (i := .bipush 20) (by decide +kernel) _ _ _).trans rfl
theorem e148_213 (ls : List Value) (n : Int32) (st : List Value) (w : zH) (h0 : ¬ n < 0 ∧ n ≤ 65536) (h : w.length + 1 < zX) : zrun none (148, 213, ls, (.int n :: st), w) = zrun none (148, 215, ls, (.ref w.length :: st), w ++ [(100, List.replicate n.toNatClampNeg (.int 0))]) := by
  refine (zE_ (i := .newarray .int) (by decide +kernel) _ _ _).trans ?_
  simp only [zI]
  unfold znwa
  dsimp only
  rw [if_pos h0]
  unfold znw
  rw [if_pos h]
  rfl
theorem e148_215 (ls : List Value) (x : Nat) (a : Nat) (st : List Value) (w : zH) : zrun none (148, 215, ls, (.ref x :: .ref a :: st), w) = zgd (a < zX ∧ (zf w a 1241).isSome = true) (zrun none (148, 218, ls, st, zpf w a 1241 (.ref x))) := by
  refine (zE_ (i := .putfield 1241) (by decide +kernel) _ _ _).trans ?_
  by_cases hg : a < zX ∧ (zf w a 1241).isSome = true
  · rw [zgd_pos hg]
    obtain ⟨ha, h⟩ := hg
    exact zq_putf ha h rfl rfl
  · rw [zgd_neg hg]
    exact zq_putf_no (fun h1 h2 h3 => hg ⟨h1, h2⟩)
theorem e148_218 (v1 : Value) (x : Nat) (st : List Value) (w : zH) : zrun none (148, 218, [.ref x, v1], st, w) = zrun none (148, 219, [.ref x, v1], (.ref x :: st), w) := (zE_ (i := .aload_n 0) (by decide +kernel) _ _ _).trans rfl
theorem e148_219 (ls st : List Value) (w : zH) : zrun none (148, 219, ls, st, w) = zrun none (148, 221, ls, (.int 20 :: st), w) := (zE_ (i := .bipush 20) (by decide +kernel) _ _ _).trans rfl
theorem e148_221 (ls : List Value) (n : Int32) (st : List Value) (w : zH) (h0 : ¬ n < 0 ∧ n ≤ 65536) (h : w.length + 1 < zX) : zrun none (148, 221, ls, (.int n :: st), w) = zrun none (148, 223, ls, (.ref w.length :: st), w ++ [(100, List.replicate n.toNatClampNeg (.int 0))]) := by
  refine (zE_ (i := .newarray .int) (by decide +kernel) _ _ _).trans ?_
  simp only [zI]
  unfold znwa
  dsimp only
  rw [if_pos h0]
  unfold znw
  rw [if_pos h]
  rfl
theorem e148_223 (ls : List Value) (x : Nat) (a : Nat) (st : List Value) (w : zH) : zrun none (148, 223, ls, (.ref x :: .ref a :: st), w) = zgd (a < zX ∧ (zf w a 1242).isSome = true) (zrun none (148, 226, ls, st, zpf w a 1242 (.ref x))) := by
  refine (zE_ (i := .putfield 1242) (by decide +kernel) _ _ _).trans ?_
  by_cases hg : a < zX ∧ (zf w a 1242).isSome = true
  · rw [zgd_pos hg]
    obtain ⟨ha, h⟩ := hg
    exact zq_putf ha h rfl rfl
  · rw [zgd_neg hg]
    exact zq_putf_no (fun h1 h2 h3 => hg ⟨h1, h2⟩)
theorem e148_226 (v1 : Value) (x : Nat) (st : List Value) (w : zH) : zrun none (148, 226, [.ref x, v1], st, w) = zrun none (148, 227, [.ref x, v1], (.ref x :: st), w) := (zE_ (i := .aload_n 0) (by decide +kernel) _ _ _).trans rfl
theorem e148_227 (ls st : List Value) (w : zH) : zrun none (148, 227, ls, st, w) = zrun none (148, 229, ls, (.int 20 :: st), w) := (zE_ (i := .bipush 20) (by decide +kernel) _ _ _).trans rfl
theorem e148_229 (ls : List Value) (n : Int32) (st : List Value) (w : zH) (h0 : ¬ n < 0 ∧ n ≤ 65536) (h : w.length + 1 < zX) : zrun none (148, 229, ls, (.int n :: st), w) = zrun none (148, 231, ls, (.ref w.length :: st), w ++ [(100, List.replicate n.toNatClampNeg (.int 0))]) := by
  refine (zE_ (i := .newarray .int) (by decide +kernel) _ _ _).trans ?_
  simp only [zI]
  unfold znwa
  dsimp only
  rw [if_pos h0]
  unfold znw
  rw [if_pos h]
  rfl
theorem e148_231 (ls : List Value) (x : Nat) (a : Nat) (st : List Value) (w : zH) : zrun none (148, 231, ls, (.ref x :: .ref a :: st), w) = zgd (a < zX ∧ (zf w a 1243).isSome = true) (zrun none (148, 234, ls, st, zpf w a 1243 (.ref x))) := by
  refine (zE_ (i := .putfield 1243) (by decide +kernel) _ _ _).trans ?_
  by_cases hg : a < zX ∧ (zf w a 1243).isSome = true
  · rw [zgd_pos hg]
    obtain ⟨ha, h⟩ := hg
    exact zq_putf ha h rfl rfl
  · rw [zgd_neg hg]
    exact zq_putf_no (fun h1 h2 h3 => hg ⟨h1, h2⟩)
theorem e148_234 (v1 : Value) (x : Nat) (st : List Value) (w : zH) : zrun none (148, 234, [.ref x, v1], st, w) = zrun none (148, 235, [.ref x, v1], (.ref x :: st), w) := (zE_ (i := .aload_n 0) (by decide +kernel) _ _ _).trans rfl
theorem e148_235 (ls st : List Value) (w : zH) : zrun none (148, 235, ls, st, w) = zrun none (148, 237, ls, (.int 16 :: st), w) := (zE_ (i := .bipush 16) (by decide +kernel) _ _ _).trans rfl
theorem e148_237 (ls : List Value) (n : Int32) (st : List Value) (w : zH) (h0 : ¬ n < 0 ∧ n ≤ 65536) (h : w.length + 1 < zX) : zrun none (148, 237, ls, (.int n :: st), w) = zrun none (148, 239, ls, (.ref w.length :: st), w ++ [(100, List.replicate n.toNatClampNeg (.int 0))]) := by
  refine (zE_ (i := .newarray .int) (by decide +kernel) _ _ _).trans ?_
  simp only [zI]
  unfold znwa
  dsimp only
  rw [if_pos h0]
  unfold znw
  rw [if_pos h]
  rfl
theorem e148_239 (ls : List Value) (x : Nat) (a : Nat) (st : List Value) (w : zH) : zrun none (148, 239, ls, (.ref x :: .ref a :: st), w) = zgd (a < zX ∧ (zf w a 1245).isSome = true) (zrun none (148, 242, ls, st, zpf w a 1245 (.ref x))) := by
  refine (zE_ (i := .putfield 1245) (by decide +kernel) _ _ _).trans ?_
  by_cases hg : a < zX ∧ (zf w a 1245).isSome = true
  · rw [zgd_pos hg]
    obtain ⟨ha, h⟩ := hg
    exact zq_putf ha h rfl rfl
  · rw [zgd_neg hg]
    exact zq_putf_no (fun h1 h2 h3 => hg ⟨h1, h2⟩)
theorem e148_242 (v1 : Value) (x : Nat) (st : List Value) (w : zH) : zrun none (148, 242, [.ref x, v1], st, w) = zrun none (148, 243, [.ref x, v1], (.ref x :: st), w) := (zE_ (i := .aload_n 0) (by decide +kernel) _ _ _).trans rfl
theorem e148_243 (ls st : List Value) (w : zH) : zrun none (148, 243, ls, st, w) = zrun none (148, 245, ls, (.int 16 :: st), w) := (zE_ (i := .bipush 16) (by decide +kernel) _ _ _).trans rfl
theorem e148_245 (ls : List Value) (n : Int32) (st : List Value) (w : zH) (h0 : ¬ n < 0 ∧ n ≤ 65536) (h : w.length + 1 < zX) : zrun none (148, 245, ls, (.int n :: st), w) = zrun none (148, 247, ls, (.ref w.length :: st), w ++ [(100, List.replicate n.toNatClampNeg (.int 0))]) := by
  refine (zE_ (i := .newarray .int) (by decide +kernel) _ _ _).trans ?_
  simp only [zI]
  unfold znwa
  dsimp only
  rw [if_pos h0]
  unfold znw
  rw [if_pos h]
  rfl
theorem e148_247 (ls : List Value) (x : Nat) (a : Nat) (st : List Value) (w : zH) : zrun none (148, 247, ls, (.ref x :: .ref a :: st), w) = zgd (a < zX ∧ (zf w a 1246).isSome = true) (zrun none (148, 250, ls, st, zpf w a 1246 (.ref x))) := by
  refine (zE_ (i := .putfield 1246) (by decide +kernel) _ _ _).trans ?_
  by_cases hg : a < zX ∧ (zf w a 1246).isSome = true
  · rw [zgd_pos hg]
    obtain ⟨ha, h⟩ := hg
    exact zq_putf ha h rfl rfl
  · rw [zgd_neg hg]
    exact zq_putf_no (fun h1 h2 h3 => hg ⟨h1, h2⟩)
theorem e148_250 (v1 : Value) (x : Nat) (st : List Value) (w : zH) : zrun none (148, 250, [.ref x, v1], st, w) = zrun none (148, 251, [.ref x, v1], (.ref x :: st), w) := (zE_ (i := .aload_n 0) (by decide +kernel) _ _ _).trans rfl
theorem e148_251 (ls st : List Value) (w : zH) : zrun none (148, 251, ls, st, w) = zrun none (148, 253, ls, (.int 16 :: st), w) := (zE_ (i := .bipush 16) (by decide +kernel) _ _ _).trans rfl
theorem e148_253 (ls : List Value) (n : Int32) (st : List Value) (w : zH) (h0 : ¬ n < 0 ∧ n ≤ 65536) (h : w.length + 1 < zX) : zrun none (148, 253, ls, (.int n :: st), w) = zrun none (148, 255, ls, (.ref w.length :: st), w ++ [(100, List.replicate n.toNatClampNeg (.int 0))]) := by
  refine (zE_ (i := .newarray .int) (by decide +kernel) _ _ _).trans ?_
  simp only [zI]
  unfold znwa
  dsimp only
  rw [if_pos h0]
  unfold znw
  rw [if_pos h]
  rfl
theorem e148_255 (ls : List Value) (x : Nat) (a : Nat) (st : List Value) (w : zH) : zrun none (148, 255, ls, (.ref x :: .ref a :: st), w) = zgd (a < zX ∧ (zf w a 1247).isSome = true) (zrun none (148, 258, ls, st, zpf w a 1247 (.ref x))) := by
  refine (zE_ (i := .putfield 1247) (by decide +kernel) _ _ _).trans ?_
  by_cases hg : a < zX ∧ (zf w a 1247).isSome = true
  · rw [zgd_pos hg]
    obtain ⟨ha, h⟩ := hg
    exact zq_putf ha h rfl rfl
  · rw [zgd_neg hg]
    exact zq_putf_no (fun h1 h2 h3 => hg ⟨h1, h2⟩)
theorem e148_258 (v1 : Value) (x : Nat) (st : List Value) (w : zH) : zrun none (148, 258, [.ref x, v1], st, w) = zrun none (148, 259, [.ref x, v1], (.ref x :: st), w) := (zE_ (i := .aload_n 0) (by decide +kernel) _ _ _).trans rfl
theorem e148_259 (ls st : List Value) (w : zH) : zrun none (148, 259, ls, st, w) = zrun none (148, 261, ls, (.int 12 :: st), w) := (zE_ (i := .bipush 12) (by decide +kernel) _ _ _).trans rfl
theorem e148_261 (ls : List Value) (n : Int32) (st : List Value) (w : zH) (h0 : ¬ n < 0 ∧ n ≤ 65536) (h : w.length + 1 < zX) : zrun none (148, 261, ls, (.int n :: st), w) = zrun none (148, 263, ls, (.ref w.length :: st), w ++ [(100, List.replicate n.toNatClampNeg (.int 0))]) := by
  refine (zE_ (i := .newarray .int) (by decide +kernel) _ _ _).trans ?_
  simp only [zI]
  unfold znwa
  dsimp only
  rw [if_pos h0]
  unfold znw
  rw [if_pos h]
  rfl
theorem e148_263 (ls : List Value) (x : Nat) (a : Nat) (st : List Value) (w : zH) : zrun none (148, 263, ls, (.ref x :: .ref a :: st), w) = zgd (a < zX ∧ (zf w a 1248).isSome = true) (zrun none (148, 266, ls, st, zpf w a 1248 (.ref x))) := by
  refine (zE_ (i := .putfield 1248) (by decide +kernel) _ _ _).trans ?_
  by_cases hg : a < zX ∧ (zf w a 1248).isSome = true
  · rw [zgd_pos hg]
    obtain ⟨ha, h⟩ := hg
    exact zq_putf ha h rfl rfl
  · rw [zgd_neg hg]
    exact zq_putf_no (fun h1 h2 h3 => hg ⟨h1, h2⟩)
theorem e148_266 (v1 : Value) (x : Nat) (st : List Value) (w : zH) : zrun none (148, 266, [.ref x, v1], st, w) = zrun none (148, 267, [.ref x, v1], (.ref x :: st), w) := (zE_ (i := .aload_n 0) (by decide +kernel) _ _ _).trans rfl
theorem e148_267 (ls st : List Value) (w : zH) : zrun none (148, 267, ls, st, w) = zrun none (148, 269, ls, (.int 16 :: st), w) := (zE_ (i := .bipush 16) (by decide +kernel) _ _ _).trans rfl
theorem e148_269 (ls : List Value) (n : Int32) (st : List Value) (w : zH) (h0 : ¬ n < 0 ∧ n ≤ 65536) (h : w.length + 1 < zX) : zrun none (148, 269, ls, (.int n :: st), w) = zrun none (148, 271, ls, (.ref w.length :: st), w ++ [(100, List.replicate n.toNatClampNeg (.int 0))]) := by
  refine (zE_ (i := .newarray .int) (by decide +kernel) _ _ _).trans ?_
  simp only [zI]
  unfold znwa
  dsimp only
  rw [if_pos h0]
  unfold znw
  rw [if_pos h]
  rfl
theorem e148_271 (ls : List Value) (x : Nat) (a : Nat) (st : List Value) (w : zH) : zrun none (148, 271, ls, (.ref x :: .ref a :: st), w) = zgd (a < zX ∧ (zf w a 1249).isSome = true) (zrun none (148, 274, ls, st, zpf w a 1249 (.ref x))) := by
  refine (zE_ (i := .putfield 1249) (by decide +kernel) _ _ _).trans ?_
  by_cases hg : a < zX ∧ (zf w a 1249).isSome = true
  · rw [zgd_pos hg]
    obtain ⟨ha, h⟩ := hg
    exact zq_putf ha h rfl rfl
  · rw [zgd_neg hg]
    exact zq_putf_no (fun h1 h2 h3 => hg ⟨h1, h2⟩)
theorem e148_274 (ls st : List Value) (w : zH) : zrun none (148, 274, ls, st, w) = zrun none (148, 275, ls, (.int 0 :: st), w) := (zE_ (i := .iconst 0) (by decide +kernel) _ _ _).trans rfl
theorem e148_275 (v0 v1 : Value) (x : Int32) (st : List Value) (w : zH) (h : v0.category = 1) : zrun none (148, 275, [v0, v1], (.int x :: st), w) = zrun none (148, 276, [v0, .int x], st, w) := by
  refine (zE_ (i := .istore_n 1) (by decide +kernel) _ _ _).trans ?_
  have hz : zfree [v0, v1] 1 = true := by show decide (v0.category = 1) = true; exact decide_eq_true h
  show zres (zst zint 1 1 148 275 [v0, v1] (.int x :: st) w) = _
  unfold zst
  dsimp only
  rw [if_pos ⟨rfl, Nat.le_of_ble_eq_true rfl, hz⟩]
  rfl
theorem e148_276 (v0 : Value) (x : Int32) (st : List Value) (w : zH) : zrun none (148, 276, [v0, .int x], st, w) = zrun none (148, 277, [v0, .int x], (.int x :: st), w) := (zE_ (i := .iload_n 1) (by decide +kernel) _ _ _).trans rfl
theorem e148_277 (ls st : List Value) (w : zH) : zrun none (148, 277, ls, st, w) = zrun none (148, 279, ls, (.int 12 :: st), w) := (zE_ (i := .bipush 12) (by decide +kernel) _ _ _).trans rfl
theorem e148_279 (ls : List Value) (a b : Int32) (st : List Value) (w : zH) : zrun none (148, 279, ls, (.int b :: .int a :: st), w) = if b ≤ a then zrun none (148, 295, ls, st, w) else zrun none (148, 282, ls, st, w) := (zE_ (i := .if_icmp .ge 16) (by decide +kernel) _ _ _).trans (zq_ic_ge rfl rfl)
theorem e148_282 (v1 : Value) (x : Nat) (st : List Value) (w : zH) : zrun none (148, 282, [.ref x, v1], st, w) = zrun none (148, 283, [.ref x, v1], (.ref x :: st), w) := (zE_ (i := .aload_n 0) (by decide +kernel) _ _ _).trans rfl
theorem e148_283 (ls : List Value) (a : Nat) (st : List Value) (w : zH) : zrun none (148, 283, ls, (.ref a :: st), w) = zo (zf w a 1248) (fun x => zrun none (148, 286, ls, (x :: st), w)) := (zE_ (i := .getfield 1248) (by decide +kernel) _ _ _).trans zq_getf
theorem e148_286 (v0 : Value) (x : Int32) (st : List Value) (w : zH) : zrun none (148, 286, [v0, .int x], st, w) = zrun none (148, 287, [v0, .int x], (.int x :: st), w) := (zE_ (i := .iload_n 1) (by decide +kernel) _ _ _).trans rfl
theorem e148_287 (ls st : List Value) (w : zH) : zrun none (148, 287, ls, st, w) = zrun none (148, 288, ls, (.int 1 :: st), w) := (zE_ (i := .iconst 1) (by decide +kernel) _ _ _).trans rfl
theorem e148_288 (ls : List Value) (x j : Int32) (a : Nat) (st : List Value) (w : zH) : zrun none (148, 288, ls, (.int x :: .int j :: .ref a :: st), w) = zgd (zin? w a 100 j) (zrun none (148, 289, ls, st, zas w a j (.int x))) := by
  refine (zE_ (i := .iastore) (by decide +kernel) _ _ _).trans ?_
  by_cases hg : zin? w a 100 j
  · rw [zgd_pos hg]
    exact zq_iast hg
  · rw [zgd_neg hg]
    exact zq_iast_no hg
theorem e148_289 (v0 : Value) (x : Int32) (st : List Value) (w : zH) : zrun none (148, 289, [v0, .int x], st, w) = zrun none (148, 292, [v0, .int (x + 1)], st, w) := (zE_ (i := .iinc 1 1) (by decide +kernel) _ _ _).trans rfl
theorem e148_292 (ls st : List Value) (w : zH) : zrun none (148, 292, ls, st, w) = zrun none (148, 276, ls, st, w) := (zE_ (i := .goto (-16)) (by decide +kernel) _ _ _).trans rfl
theorem e148_295 (ls : List Value) (w : zH) : zrun none (148, 295, ls, [], w) = some (none, w) := (zE_ (i := .return_) (by decide +kernel) _ _ _).trans rfl
theorem e149_0 (x : Int32) (st : List Value) (w : zH) : zrun none (149, 0, [.int x], st, w) = zrun none (149, 1, [.int x], (.int x :: st), w) := (zE_ (i := .iload_n 0) (by decide +kernel) _ _ _).trans rfl
theorem e149_1 (ls : List Value) (a : Int32) (st : List Value) (w : zH) : zrun none (149, 1, ls, (.int a :: st), w) = zrun none (149, 2, ls, (.long a.toInt64 :: st), w) := (zE_ (i := .i2l) (by decide +kernel) _ _ _).trans rfl
theorem e149_2 (ls st : List Value) (w : zH) : zrun none (149, 2, ls, st, w) = zrun none (149, 3, ls, (.long 0 :: st), w) := (zE_ (i := .lconst 0) (by decide +kernel) _ _ _).trans rfl
theorem e149_3 (ls st : List Value) (w : zH) : zrun none (149, 3, ls, st, w) = zrun none (149, 6, ls, (.long 7 :: st), w) := (zE_ (i := .ldc2_w 7) (by decide +kernel) _ _ _).trans rfl
theorem e149_6 (ls : List Value) (x0 : Int64) (x1 : Int64) (x2 : Int64) (st : List Value) (w : zH) (hr : zcat st ≤ 8) : zrun none (149, 6, ls, (.long x2 :: .long x1 :: .long x0 :: st), w) = zcl (zrun none (146, 0, [.long x0, zJ, .long x1, zJ, .long x2, zJ], [], w)) (fun r => zrun none (149, 9, ls, r.1.toList ++ st, r.2)) := by
  refine (zE_ (i := .invokestatic 146) (by decide +kernel) _ _ _).trans ?_
  show zres (if (99 : Nat) = 99 ∧ 3 ≤ ((.long x2 :: .long x1 :: .long x0 :: st) : List Value).length then zcall 146 [.long x0, .long x1, .long x2] st 149 6 ls w else none) = _
  rw [if_pos ⟨rfl, by simp⟩]
  exact zq_call hr (Nat.le_of_ble_eq_true rfl) rfl rfl
theorem e149_9 (ls : List Value) (x : Int32) (w : zH) (h : narrow .boolean (.int x) = .int x) : zrun none (149, 9, ls, [.int x], w) = some (some (.int x), w) := by
  refine (zE_ (i := .ireturn) (by decide +kernel) _ _ _).trans ?_
  show zres (if narrow .boolean (.int x) = .int x then _ else none) = _
  rw [if_pos h]
  rfl
theorem e150_0 (v1 v2 v3 v4 : Value) (x : Nat) (st : List Value) (w : zH) : zrun none (150, 0, [.ref x, v1, v2, v3, v4], st, w) = zrun none (150, 1, [.ref x, v1, v2, v3, v4], (.ref x :: st), w) := (zE_ (i := .aload_n 0) (by decide +kernel) _ _ _).trans rfl
theorem e150_1 (ls st : List Value) (w : zH) : zrun none (150, 1, ls, st, w) = zrun none (150, 2, ls, (.int 0 :: st), w) := (zE_ (i := .iconst 0) (by decide +kernel) _ _ _).trans rfl
theorem e150_2 (ls : List Value) (x : Int32) (a : Nat) (st : List Value) (w : zH) : zrun none (150, 2, ls, (.int x :: .ref a :: st), w) = zgd (a < zX ∧ (zf w a 1200).isSome = true) (zrun none (150, 5, ls, st, zpf w a 1200 (.int x))) := by
  refine (zE_ (i := .putfield 1200) (by decide +kernel) _ _ _).trans ?_
  by_cases hg : a < zX ∧ (zf w a 1200).isSome = true
  · rw [zgd_pos hg]
    obtain ⟨ha, h⟩ := hg
    exact zq_putf ha h rfl rfl
  · rw [zgd_neg hg]
    exact zq_putf_no (fun h1 h2 h3 => hg ⟨h1, h2⟩)
theorem e150_5 (v0 v2 v3 v4 : Value) (x : Int32) (st : List Value) (w : zH) : zrun none (150, 5, [v0, .int x, v2, v3, v4], st, w) = zrun none (150, 6, [v0, .int x, v2, v3, v4], (.int x :: st), w) := (zE_ (i := .iload_n 1) (by decide +kernel) _ _ _).trans rfl
theorem e150_6 (ls : List Value) (x0 : Int32) (st : List Value) (w : zH) (hr : zcat st ≤ 8) : zrun none (150, 6, ls, (.int x0 :: st), w) = zcl (zrun none (149, 0, [.int x0], [], w)) (fun r => zrun none (150, 9, ls, r.1.toList ++ st, r.2)) := by
  refine (zE_ (i := .invokestatic 149) (by decide +kernel) _ _ _).trans ?_
  show zres (if (99 : Nat) = 99 ∧ 1 ≤ ((.int x0 :: st) : List Value).length then zcall 149 [.int x0] st 150 6 ls w else none) = _
  rw [if_pos ⟨rfl, by simp⟩]
  exact zq_call hr (Nat.le_of_ble_eq_true rfl) rfl rfl
theorem e150_9 (ls : List Value) (a : Int32) (st : List Value) (w : zH) : zrun none (150, 9, ls, (.int a :: st), w) = if a = 0 then zrun none (150, 30, ls, st, w) else zrun none (150, 12, ls, st, w) := (zE_ (i := .ifCond .eq 21) (by decide +kernel) _ _ _).trans (zq_if_eq rfl rfl)
theorem e150_12 (v0 v1 v3 v4 : Value) (x : Int32) (st : List Value) (w : zH) : zrun none (150, 12, [v0, v1, .int x, v3, v4], st, w) = zrun none (150, 13, [v0, v1, .int x, v3, v4], (.int x :: st), w) := (zE_ (i := .iload_n 2) (by decide +kernel) _ _ _).trans rfl
theorem e150_13 (ls : List Value) (a : Int32) (st : List Value) (w : zH) : zrun none (150, 13, ls, (.int a :: st), w) = zrun none (150, 14, ls, (.long a.toInt64 :: st), w) := (zE_ (i := .i2l) (by decide +kernel) _ _ _).trans rfl
theorem e150_14 (ls st : List Value) (w : zH) : zrun none (150, 14, ls, st, w) = zrun none (150, 15, ls, (.long 0 :: st), w) := (zE_ (i := .lconst 0) (by decide +kernel) _ _ _).trans rfl
theorem e150_15 (ls st : List Value) (w : zH) : zrun none (150, 15, ls, st, w) = zrun none (150, 18, ls, (.long 2 :: st), w) := (zE_ (i := .ldc2_w 2) (by decide +kernel) _ _ _).trans rfl
theorem e150_18 (ls : List Value) (x0 : Int64) (x1 : Int64) (x2 : Int64) (st : List Value) (w : zH) (hr : zcat st ≤ 8) : zrun none (150, 18, ls, (.long x2 :: .long x1 :: .long x0 :: st), w) = zcl (zrun none (146, 0, [.long x0, zJ, .long x1, zJ, .long x2, zJ], [], w)) (fun r => zrun none (150, 21, ls, r.1.toList ++ st, r.2)) := by
  refine (zE_ (i := .invokestatic 146) (by decide +kernel) _ _ _).trans ?_
  show zres (if (99 : Nat) = 99 ∧ 3 ≤ ((.long x2 :: .long x1 :: .long x0 :: st) : List Value).length then zcall 146 [.long x0, .long x1, .long x2] st 150 18 ls w else none) = _
  rw [if_pos ⟨rfl, by simp⟩]
  exact zq_call hr (Nat.le_of_ble_eq_true rfl) rfl rfl
theorem e150_21 (ls : List Value) (a : Int32) (st : List Value) (w : zH) : zrun none (150, 21, ls, (.int a :: st), w) = if a = 0 then zrun none (150, 30, ls, st, w) else zrun none (150, 24, ls, st, w) := (zE_ (i := .ifCond .eq 9) (by decide +kernel) _ _ _).trans (zq_if_eq rfl rfl)
theorem e150_24 (v0 v1 v2 v4 : Value) (x : Int32) (st : List Value) (w : zH) : zrun none (150, 24, [v0, v1, v2, .int x, v4], st, w) = zrun none (150, 25, [v0, v1, v2, .int x, v4], (.int x :: st), w) := (zE_ (i := .iload_n 3) (by decide +kernel) _ _ _).trans rfl
theorem e150_25 (ls st : List Value) (w : zH) : zrun none (150, 25, ls, st, w) = zrun none (150, 27, ls, (.int 100 :: st), w) := (zE_ (i := .bipush 100) (by decide +kernel) _ _ _).trans rfl
theorem e150_27 (ls : List Value) (a b : Int32) (st : List Value) (w : zH) : zrun none (150, 27, ls, (.int b :: .int a :: st), w) = if a ≤ b then zrun none (150, 33, ls, st, w) else zrun none (150, 30, ls, st, w) := (zE_ (i := .if_icmp .le 6) (by decide +kernel) _ _ _).trans (zq_ic_le rfl rfl)
theorem e150_30 (ls st : List Value) (w : zH) : zrun none (150, 30, ls, st, w) = zrun none (150, 32, ls, (.int (-1000001) :: st), w) := (zE_ (i := .bipush (-1000001)) (by decide +kernel) _ _ _).trans rfl
theorem e150_32 (ls : List Value) (x : Int32) (w : zH) : zrun none (150, 32, ls, [.int x], w) = some (some (.int x), w) := by
  refine (zE_ (i := .ireturn) (by decide +kernel) _ _ _).trans ?_
  show zres (if narrow .int (.int x) = .int x then _ else none) = _
  rw [if_pos (show narrow .int (.int x) = .int x from rfl)]
  rfl
theorem e150_33 (v1 v2 v3 v4 : Value) (x : Nat) (st : List Value) (w : zH) : zrun none (150, 33, [.ref x, v1, v2, v3, v4], st, w) = zrun none (150, 34, [.ref x, v1, v2, v3, v4], (.ref x :: st), w) := (zE_ (i := .aload_n 0) (by decide +kernel) _ _ _).trans rfl
theorem e150_34 (ls st : List Value) (w : zH) : zrun none (150, 34, ls, st, w) = zrun none (150, 35, ls, (.int 0 :: st), w) := (zE_ (i := .iconst 0) (by decide +kernel) _ _ _).trans rfl
theorem e150_35 (ls : List Value) (x : Int32) (a : Nat) (st : List Value) (w : zH) : zrun none (150, 35, ls, (.int x :: .ref a :: st), w) = zgd (a < zX ∧ (zf w a 1201).isSome = true) (zrun none (150, 38, ls, st, zpf w a 1201 (.int x))) := by
  refine (zE_ (i := .putfield 1201) (by decide +kernel) _ _ _).trans ?_
  by_cases hg : a < zX ∧ (zf w a 1201).isSome = true
  · rw [zgd_pos hg]
    obtain ⟨ha, h⟩ := hg
    exact zq_putf ha h rfl rfl
  · rw [zgd_neg hg]
    exact zq_putf_no (fun h1 h2 h3 => hg ⟨h1, h2⟩)
theorem e150_38 (v0 v1 v2 v4 : Value) (x : Int32) (st : List Value) (w : zH) : zrun none (150, 38, [v0, v1, v2, .int x, v4], st, w) = zrun none (150, 39, [v0, v1, v2, .int x, v4], (.int x :: st), w) := (zE_ (i := .iload_n 3) (by decide +kernel) _ _ _).trans rfl
theorem e150_39 (ls : List Value) (a : Int32) (st : List Value) (w : zH) : zrun none (150, 39, ls, (.int a :: st), w) = if 0 ≤ a then zrun none (150, 48, ls, st, w) else zrun none (150, 42, ls, st, w) := (zE_ (i := .ifCond .ge 9) (by decide +kernel) _ _ _).trans (zq_if_ge rfl rfl)
theorem e150_42 (v1 v2 v3 v4 : Value) (x : Nat) (st : List Value) (w : zH) : zrun none (150, 42, [.ref x, v1, v2, v3, v4], st, w) = zrun none (150, 43, [.ref x, v1, v2, v3, v4], (.ref x :: st), w) := (zE_ (i := .aload_n 0) (by decide +kernel) _ _ _).trans rfl
theorem e150_43 (ls st : List Value) (w : zH) : zrun none (150, 43, ls, st, w) = zrun none (150, 44, ls, (.int 4 :: st), w) := (zE_ (i := .iconst 4) (by decide +kernel) _ _ _).trans rfl
theorem e150_44 (ls : List Value) (a : Nat) (x0 : Int32) (st : List Value) (w : zH) (hr : zcat st ≤ 8) : zrun none (150, 44, ls, (.int x0 :: .ref a :: st), w) = zgd (zis w a 12) (zcl (zrun none (147, 0, [.ref a, .int x0], [], w)) (fun r => zrun none (150, 47, ls, r.1.toList ++ st, r.2))) := by
  refine (zE_ (i := .invokevirtual 147) (by decide +kernel) _ _ _).trans ?_
  show zres (zinv none 147 150 44 ls (.int x0 :: .ref a :: st) w) = _
  unfold zinv
  show zres (if zrc none 147 w (.ref a) = true then zcall 147 [.ref a, .int x0] st 150 44 ls w else none) = _
  by_cases hc : zis w a 12
  · rw [if_pos (zrc_is hc (by decide +kernel)), zgd_pos hc]
    exact zq_call hr (Nat.le_of_ble_eq_true rfl) rfl rfl
  · rw [zgd_neg hc, if_neg (fun q => hc (zrc_of q (by decide +kernel)))]
    rfl
theorem e150_47 (ls : List Value) (x : Int32) (w : zH) : zrun none (150, 47, ls, [.int x], w) = some (some (.int x), w) := by
  refine (zE_ (i := .ireturn) (by decide +kernel) _ _ _).trans ?_
  show zres (if narrow .int (.int x) = .int x then _ else none) = _
  rw [if_pos (show narrow .int (.int x) = .int x from rfl)]
  rfl
theorem e150_48 (v1 v2 v3 v4 : Value) (x : Nat) (st : List Value) (w : zH) : zrun none (150, 48, [.ref x, v1, v2, v3, v4], st, w) = zrun none (150, 49, [.ref x, v1, v2, v3, v4], (.ref x :: st), w) := (zE_ (i := .aload_n 0) (by decide +kernel) _ _ _).trans rfl
theorem e150_49 (ls : List Value) (a : Nat) (st : List Value) (w : zH) : zrun none (150, 49, ls, (.ref a :: st), w) = zo (zf w a 1202) (fun x => zrun none (150, 52, ls, (x :: st), w)) := (zE_ (i := .getfield 1202) (by decide +kernel) _ _ _).trans zq_getf
theorem e150_52 (v0 v2 v3 v4 : Value) (x : Int32) (st : List Value) (w : zH) : zrun none (150, 52, [v0, .int x, v2, v3, v4], st, w) = zrun none (150, 53, [v0, .int x, v2, v3, v4], (.int x :: st), w) := (zE_ (i := .iload_n 1) (by decide +kernel) _ _ _).trans rfl
theorem e150_53 (v0 v1 v3 v4 : Value) (x : Int32) (st : List Value) (w : zH) : zrun none (150, 53, [v0, v1, .int x, v3, v4], st, w) = zrun none (150, 54, [v0, v1, .int x, v3, v4], (.int x :: st), w) := (zE_ (i := .iload_n 2) (by decide +kernel) _ _ _).trans rfl
theorem e150_54 (ls : List Value) (x j : Int32) (a : Nat) (st : List Value) (w : zH) : zrun none (150, 54, ls, (.int x :: .int j :: .ref a :: st), w) = zgd (zin? w a 100 j) (zrun none (150, 55, ls, st, zas w a j (.int x))) := by
  refine (zE_ (i := .iastore) (by decide +kernel) _ _ _).trans ?_
  by_cases hg : zin? w a 100 j
  · rw [zgd_pos hg]
    exact zq_iast hg
  · rw [zgd_neg hg]
    exact zq_iast_no hg
theorem e150_55 (v1 v2 v3 v4 : Value) (x : Nat) (st : List Value) (w : zH) : zrun none (150, 55, [.ref x, v1, v2, v3, v4], st, w) = zrun none (150, 56, [.ref x, v1, v2, v3, v4], (.ref x :: st), w) := (zE_ (i := .aload_n 0) (by decide +kernel) _ _ _).trans rfl
theorem e150_56 (ls : List Value) (a : Nat) (st : List Value) (w : zH) : zrun none (150, 56, ls, (.ref a :: st), w) = zo (zf w a 1203) (fun x => zrun none (150, 59, ls, (x :: st), w)) := (zE_ (i := .getfield 1203) (by decide +kernel) _ _ _).trans zq_getf
theorem e150_59 (v0 v2 v3 v4 : Value) (x : Int32) (st : List Value) (w : zH) : zrun none (150, 59, [v0, .int x, v2, v3, v4], st, w) = zrun none (150, 60, [v0, .int x, v2, v3, v4], (.int x :: st), w) := (zE_ (i := .iload_n 1) (by decide +kernel) _ _ _).trans rfl
theorem e150_60 (v0 v1 v2 v4 : Value) (x : Int32) (st : List Value) (w : zH) : zrun none (150, 60, [v0, v1, v2, .int x, v4], st, w) = zrun none (150, 61, [v0, v1, v2, .int x, v4], (.int x :: st), w) := (zE_ (i := .iload_n 3) (by decide +kernel) _ _ _).trans rfl
theorem e150_61 (ls : List Value) (x j : Int32) (a : Nat) (st : List Value) (w : zH) : zrun none (150, 61, ls, (.int x :: .int j :: .ref a :: st), w) = zgd (zin? w a 100 j) (zrun none (150, 62, ls, st, zas w a j (.int x))) := by
  refine (zE_ (i := .iastore) (by decide +kernel) _ _ _).trans ?_
  by_cases hg : zin? w a 100 j
  · rw [zgd_pos hg]
    exact zq_iast hg
  · rw [zgd_neg hg]
    exact zq_iast_no hg
theorem e150_62 (ls st : List Value) (w : zH) : zrun none (150, 62, ls, st, w) = zrun none (150, 63, ls, (.int 0 :: st), w) := (zE_ (i := .iconst 0) (by decide +kernel) _ _ _).trans rfl
theorem e150_63 (v0 v1 v2 v3 v4 : Value) (x : Int32) (st : List Value) (w : zH) (h : v3.category = 1) : zrun none (150, 63, [v0, v1, v2, v3, v4], (.int x :: st), w) = zrun none (150, 65, [v0, v1, v2, v3, .int x], st, w) := by
  refine (zE_ (i := .istore 4) (by decide +kernel) _ _ _).trans ?_
  have hz : zfree [v0, v1, v2, v3, v4] 4 = true := by show decide (v3.category = 1) = true; exact decide_eq_true h
  show zres (zst zint 4 2 150 63 [v0, v1, v2, v3, v4] (.int x :: st) w) = _
  unfold zst
  dsimp only
  rw [if_pos ⟨rfl, Nat.le_of_ble_eq_true rfl, hz⟩]
  rfl
theorem e150_65 (v0 v1 v2 v3 : Value) (x : Int32) (st : List Value) (w : zH) : zrun none (150, 65, [v0, v1, v2, v3, .int x], st, w) = zrun none (150, 67, [v0, v1, v2, v3, .int x], (.int x :: st), w) := (zE_ (i := .iload 4) (by decide +kernel) _ _ _).trans rfl
theorem e150_67 (ls st : List Value) (w : zH) : zrun none (150, 67, ls, st, w) = zrun none (150, 69, ls, (.int 100 :: st), w) := (zE_ (i := .bipush 100) (by decide +kernel) _ _ _).trans rfl
theorem e150_69 (ls : List Value) (a b : Int32) (st : List Value) (w : zH) : zrun none (150, 69, ls, (.int b :: .int a :: st), w) = if b ≤ a then zrun none (150, 91, ls, st, w) else zrun none (150, 72, ls, st, w) := (zE_ (i := .if_icmp .ge 22) (by decide +kernel) _ _ _).trans (zq_ic_ge rfl rfl)
theorem e150_72 (v1 v2 v3 v4 : Value) (x : Nat) (st : List Value) (w : zH) : zrun none (150, 72, [.ref x, v1, v2, v3, v4], st, w) = zrun none (150, 73, [.ref x, v1, v2, v3, v4], (.ref x :: st), w) := (zE_ (i := .aload_n 0) (by decide +kernel) _ _ _).trans rfl
theorem e150_73 (ls : List Value) (a : Nat) (st : List Value) (w : zH) : zrun none (150, 73, ls, (.ref a :: st), w) = zo (zf w a 1204) (fun x => zrun none (150, 76, ls, (x :: st), w)) := (zE_ (i := .getfield 1204) (by decide +kernel) _ _ _).trans zq_getf
theorem e150_76 (ls st : List Value) (w : zH) : zrun none (150, 76, ls, st, w) = zrun none (150, 78, ls, (.int 100 :: st), w) := (zE_ (i := .bipush 100) (by decide +kernel) _ _ _).trans rfl
theorem e150_78 (v0 v2 v3 v4 : Value) (x : Int32) (st : List Value) (w : zH) : zrun none (150, 78, [v0, .int x, v2, v3, v4], st, w) = zrun none (150, 79, [v0, .int x, v2, v3, v4], (.int x :: st), w) := (zE_ (i := .iload_n 1) (by decide +kernel) _ _ _).trans rfl
theorem e150_79 (ls : List Value) (a b : Int32) (st : List Value) (w : zH) : zrun none (150, 79, ls, (.int b :: .int a :: st), w) = zrun none (150, 80, ls, (.int (a * b) :: st), w) := (zE_ (i := .imul) (by decide +kernel) _ _ _).trans rfl
theorem e150_80 (v0 v1 v2 v3 : Value) (x : Int32) (st : List Value) (w : zH) : zrun none (150, 80, [v0, v1, v2, v3, .int x], st, w) = zrun none (150, 82, [v0, v1, v2, v3, .int x], (.int x :: st), w) := (zE_ (i := .iload 4) (by decide +kernel) _ _ _).trans rfl
theorem e150_82 (ls : List Value) (a b : Int32) (st : List Value) (w : zH) : zrun none (150, 82, ls, (.int b :: .int a :: st), w) = zrun none (150, 83, ls, (.int (a + b) :: st), w) := (zE_ (i := .iadd) (by decide +kernel) _ _ _).trans rfl
theorem e150_83 (ls st : List Value) (w : zH) : zrun none (150, 83, ls, st, w) = zrun none (150, 84, ls, (.int 0 :: st), w) := (zE_ (i := .iconst 0) (by decide +kernel) _ _ _).trans rfl
theorem e150_84 (ls : List Value) (x j : Int32) (a : Nat) (st : List Value) (w : zH) : zrun none (150, 84, ls, (.int x :: .int j :: .ref a :: st), w) = zgd (zin? w a 100 j) (zrun none (150, 85, ls, st, zas w a j (.int x))) := by
  refine (zE_ (i := .iastore) (by decide +kernel) _ _ _).trans ?_
  by_cases hg : zin? w a 100 j
  · rw [zgd_pos hg]
    exact zq_iast hg
  · rw [zgd_neg hg]
    exact zq_iast_no hg
theorem e150_85 (v0 v1 v2 v3 : Value) (x : Int32) (st : List Value) (w : zH) : zrun none (150, 85, [v0, v1, v2, v3, .int x], st, w) = zrun none (150, 88, [v0, v1, v2, v3, .int (x + 1)], st, w) := (zE_ (i := .iinc 4 1) (by decide +kernel) _ _ _).trans rfl
theorem e150_88 (ls st : List Value) (w : zH) : zrun none (150, 88, ls, st, w) = zrun none (150, 65, ls, st, w) := (zE_ (i := .goto (-23)) (by decide +kernel) _ _ _).trans rfl
theorem e150_91 (v0 v1 v2 v4 : Value) (x : Int32) (st : List Value) (w : zH) : zrun none (150, 91, [v0, v1, v2, .int x, v4], st, w) = zrun none (150, 92, [v0, v1, v2, .int x, v4], (.int x :: st), w) := (zE_ (i := .iload_n 3) (by decide +kernel) _ _ _).trans rfl
theorem e150_92 (ls : List Value) (x : Int32) (w : zH) : zrun none (150, 92, ls, [.int x], w) = some (some (.int x), w) := by
  refine (zE_ (i := .ireturn) (by decide +kernel) _ _ _).trans ?_
  show zres (if narrow .int (.int x) = .int x then _ else none) = _
  rw [if_pos (show narrow .int (.int x) = .int x from rfl)]
  rfl
theorem e151_0 (v1 v2 v3 : Value) (x : Nat) (st : List Value) (w : zH) : zrun none (151, 0, [.ref x, v1, v2, v3], st, w) = zrun none (151, 1, [.ref x, v1, v2, v3], (.ref x :: st), w) := (zE_ (i := .aload_n 0) (by decide +kernel) _ _ _).trans rfl
theorem e151_1 (ls st : List Value) (w : zH) : zrun none (151, 1, ls, st, w) = zrun none (151, 2, ls, (.int 0 :: st), w) := (zE_ (i := .iconst 0) (by decide +kernel) _ _ _).trans rfl
theorem e151_2 (ls : List Value) (x : Int32) (a : Nat) (st : List Value) (w : zH) : zrun none (151, 2, ls, (.int x :: .ref a :: st), w) = zgd (a < zX ∧ (zf w a 1200).isSome = true) (zrun none (151, 5, ls, st, zpf w a 1200 (.int x))) := by
  refine (zE_ (i := .putfield 1200) (by decide +kernel) _ _ _).trans ?_
  by_cases hg : a < zX ∧ (zf w a 1200).isSome = true
  · rw [zgd_pos hg]
    obtain ⟨ha, h⟩ := hg
    exact zq_putf ha h rfl rfl
  · rw [zgd_neg hg]
    exact zq_putf_no (fun h1 h2 h3 => hg ⟨h1, h2⟩)
theorem e151_5 (v0 v2 v3 : Value) (x : Int32) (st : List Value) (w : zH) : zrun none (151, 5, [v0, .int x, v2, v3], st, w) = zrun none (151, 6, [v0, .int x, v2, v3], (.int x :: st), w) := (zE_ (i := .iload_n 1) (by decide +kernel) _ _ _).trans rfl
theorem e151_6 (ls : List Value) (x0 : Int32) (st : List Value) (w : zH) (hr : zcat st ≤ 8) : zrun none (151, 6, ls, (.int x0 :: st), w) = zcl (zrun none (149, 0, [.int x0], [], w)) (fun r => zrun none (151, 9, ls, r.1.toList ++ st, r.2)) := by
  refine (zE_ (i := .invokestatic 149) (by decide +kernel) _ _ _).trans ?_
  show zres (if (99 : Nat) = 99 ∧ 1 ≤ ((.int x0 :: st) : List Value).length then zcall 149 [.int x0] st 151 6 ls w else none) = _
  rw [if_pos ⟨rfl, by simp⟩]
  exact zq_call hr (Nat.le_of_ble_eq_true rfl) rfl rfl
theorem e151_9 (ls : List Value) (a : Int32) (st : List Value) (w : zH) : zrun none (151, 9, ls, (.int a :: st), w) = if a = 0 then zrun none (151, 12, ls, st, w) else zrun none (151, 15, ls, st, w) := (zE_ (i := .ifCond .ne 6) (by decide +kernel) _ _ _).trans (zq_if_ne rfl rfl)
theorem e151_12 (ls st : List Value) (w : zH) : zrun none (151, 12, ls, st, w) = zrun none (151, 14, ls, (.int (-1000001) :: st), w) := (zE_ (i := .bipush (-1000001)) (by decide +kernel) _ _ _).trans rfl
theorem e151_14 (ls : List Value) (x : Int32) (w : zH) : zrun none (151, 14, ls, [.int x], w) = some (some (.int x), w) := by
  refine (zE_ (i := .ireturn) (by decide +kernel) _ _ _).trans ?_
  show zres (if narrow .int (.int x) = .int x then _ else none) = _
  rw [if_pos (show narrow .int (.int x) = .int x from rfl)]
  rfl
theorem e151_15 (v1 v2 v3 : Value) (x : Nat) (st : List Value) (w : zH) : zrun none (151, 15, [.ref x, v1, v2, v3], st, w) = zrun none (151, 16, [.ref x, v1, v2, v3], (.ref x :: st), w) := (zE_ (i := .aload_n 0) (by decide +kernel) _ _ _).trans rfl
theorem e151_16 (ls st : List Value) (w : zH) : zrun none (151, 16, ls, st, w) = zrun none (151, 17, ls, (.int 0 :: st), w) := (zE_ (i := .iconst 0) (by decide +kernel) _ _ _).trans rfl
theorem e151_17 (ls : List Value) (x : Int32) (a : Nat) (st : List Value) (w : zH) : zrun none (151, 17, ls, (.int x :: .ref a :: st), w) = zgd (a < zX ∧ (zf w a 1201).isSome = true) (zrun none (151, 20, ls, st, zpf w a 1201 (.int x))) := by
  refine (zE_ (i := .putfield 1201) (by decide +kernel) _ _ _).trans ?_
  by_cases hg : a < zX ∧ (zf w a 1201).isSome = true
  · rw [zgd_pos hg]
    obtain ⟨ha, h⟩ := hg
    exact zq_putf ha h rfl rfl
  · rw [zgd_neg hg]
    exact zq_putf_no (fun h1 h2 h3 => hg ⟨h1, h2⟩)
theorem e151_20 (v1 v2 v3 : Value) (x : Nat) (st : List Value) (w : zH) : zrun none (151, 20, [.ref x, v1, v2, v3], st, w) = zrun none (151, 21, [.ref x, v1, v2, v3], (.ref x :: st), w) := (zE_ (i := .aload_n 0) (by decide +kernel) _ _ _).trans rfl
theorem e151_21 (ls : List Value) (a : Nat) (st : List Value) (w : zH) : zrun none (151, 21, ls, (.ref a :: st), w) = zo (zf w a 1202) (fun x => zrun none (151, 24, ls, (x :: st), w)) := (zE_ (i := .getfield 1202) (by decide +kernel) _ _ _).trans zq_getf
theorem e151_24 (v0 v2 v3 : Value) (x : Int32) (st : List Value) (w : zH) : zrun none (151, 24, [v0, .int x, v2, v3], st, w) = zrun none (151, 25, [v0, .int x, v2, v3], (.int x :: st), w) := (zE_ (i := .iload_n 1) (by decide +kernel) _ _ _).trans rfl
theorem e151_25 (ls : List Value) (j : Int32) (a : Nat) (st : List Value) (w : zH) : zrun none (151, 25, ls, (.int j :: .ref a :: st), w) = zoi (zai w a 100 j) (fun x => zrun none (151, 26, ls, (.int x :: st), w)) := (zE_ (i := .iaload) (by decide +kernel) _ _ _).trans zq_iald
theorem e151_26 (ls : List Value) (a : Int32) (st : List Value) (w : zH) : zrun none (151, 26, ls, (.int a :: st), w) = if 0 ≤ a then zrun none (151, 35, ls, st, w) else zrun none (151, 29, ls, st, w) := (zE_ (i := .ifCond .ge 9) (by decide +kernel) _ _ _).trans (zq_if_ge rfl rfl)
theorem e151_29 (v1 v2 v3 : Value) (x : Nat) (st : List Value) (w : zH) : zrun none (151, 29, [.ref x, v1, v2, v3], st, w) = zrun none (151, 30, [.ref x, v1, v2, v3], (.ref x :: st), w) := (zE_ (i := .aload_n 0) (by decide +kernel) _ _ _).trans rfl
theorem e151_30 (ls st : List Value) (w : zH) : zrun none (151, 30, ls, st, w) = zrun none (151, 31, ls, (.int 1 :: st), w) := (zE_ (i := .iconst 1) (by decide +kernel) _ _ _).trans rfl
theorem e151_31 (ls : List Value) (a : Nat) (x0 : Int32) (st : List Value) (w : zH) (hr : zcat st ≤ 8) : zrun none (151, 31, ls, (.int x0 :: .ref a :: st), w) = zgd (zis w a 12) (zcl (zrun none (147, 0, [.ref a, .int x0], [], w)) (fun r => zrun none (151, 34, ls, r.1.toList ++ st, r.2))) := by
  refine (zE_ (i := .invokevirtual 147) (by decide +kernel) _ _ _).trans ?_
  show zres (zinv none 147 151 31 ls (.int x0 :: .ref a :: st) w) = _
  unfold zinv
  show zres (if zrc none 147 w (.ref a) = true then zcall 147 [.ref a, .int x0] st 151 31 ls w else none) = _
  by_cases hc : zis w a 12
  · rw [if_pos (zrc_is hc (by decide +kernel)), zgd_pos hc]
    exact zq_call hr (Nat.le_of_ble_eq_true rfl) rfl rfl
  · rw [zgd_neg hc, if_neg (fun q => hc (zrc_of q (by decide +kernel)))]
    rfl
theorem e151_34 (ls : List Value) (x : Int32) (w : zH) : zrun none (151, 34, ls, [.int x], w) = some (some (.int x), w) := by
  refine (zE_ (i := .ireturn) (by decide +kernel) _ _ _).trans ?_
  show zres (if narrow .int (.int x) = .int x then _ else none) = _
  rw [if_pos (show narrow .int (.int x) = .int x from rfl)]
  rfl
theorem e151_35 (v0 v1 v3 : Value) (x : Int32) (st : List Value) (w : zH) : zrun none (151, 35, [v0, v1, .int x, v3], st, w) = zrun none (151, 36, [v0, v1, .int x, v3], (.int x :: st), w) := (zE_ (i := .iload_n 2) (by decide +kernel) _ _ _).trans rfl
theorem e151_36 (ls : List Value) (a : Int32) (st : List Value) (w : zH) : zrun none (151, 36, ls, (.int a :: st), w) = zrun none (151, 37, ls, (.long a.toInt64 :: st), w) := (zE_ (i := .i2l) (by decide +kernel) _ _ _).trans rfl
theorem e151_37 (ls st : List Value) (w : zH) : zrun none (151, 37, ls, st, w) = zrun none (151, 38, ls, (.long 0 :: st), w) := (zE_ (i := .lconst 0) (by decide +kernel) _ _ _).trans rfl
theorem e151_38 (v1 v2 v3 : Value) (x : Nat) (st : List Value) (w : zH) : zrun none (151, 38, [.ref x, v1, v2, v3], st, w) = zrun none (151, 39, [.ref x, v1, v2, v3], (.ref x :: st), w) := (zE_ (i := .aload_n 0) (by decide +kernel) _ _ _).trans rfl
theorem e151_39 (ls : List Value) (a : Nat) (st : List Value) (w : zH) : zrun none (151, 39, ls, (.ref a :: st), w) = zo (zf w a 1203) (fun x => zrun none (151, 42, ls, (x :: st), w)) := (zE_ (i := .getfield 1203) (by decide +kernel) _ _ _).trans zq_getf
theorem e151_42 (v0 v2 v3 : Value) (x : Int32) (st : List Value) (w : zH) : zrun none (151, 42, [v0, .int x, v2, v3], st, w) = zrun none (151, 43, [v0, .int x, v2, v3], (.int x :: st), w) := (zE_ (i := .iload_n 1) (by decide +kernel) _ _ _).trans rfl
theorem e151_43 (ls : List Value) (j : Int32) (a : Nat) (st : List Value) (w : zH) : zrun none (151, 43, ls, (.int j :: .ref a :: st), w) = zoi (zai w a 100 j) (fun x => zrun none (151, 44, ls, (.int x :: st), w)) := (zE_ (i := .iaload) (by decide +kernel) _ _ _).trans zq_iald
theorem e151_44 (ls st : List Value) (w : zH) : zrun none (151, 44, ls, st, w) = zrun none (151, 45, ls, (.int 1 :: st), w) := (zE_ (i := .iconst 1) (by decide +kernel) _ _ _).trans rfl
theorem e151_45 (ls : List Value) (a b : Int32) (st : List Value) (w : zH) : zrun none (151, 45, ls, (.int b :: .int a :: st), w) = zrun none (151, 46, ls, (.int (a - b) :: st), w) := (zE_ (i := .isub) (by decide +kernel) _ _ _).trans rfl
theorem e151_46 (ls : List Value) (a : Int32) (st : List Value) (w : zH) : zrun none (151, 46, ls, (.int a :: st), w) = zrun none (151, 47, ls, (.long a.toInt64 :: st), w) := (zE_ (i := .i2l) (by decide +kernel) _ _ _).trans rfl
theorem e151_47 (ls : List Value) (x0 : Int64) (x1 : Int64) (x2 : Int64) (st : List Value) (w : zH) (hr : zcat st ≤ 8) : zrun none (151, 47, ls, (.long x2 :: .long x1 :: .long x0 :: st), w) = zcl (zrun none (146, 0, [.long x0, zJ, .long x1, zJ, .long x2, zJ], [], w)) (fun r => zrun none (151, 50, ls, r.1.toList ++ st, r.2)) := by
  refine (zE_ (i := .invokestatic 146) (by decide +kernel) _ _ _).trans ?_
  show zres (if (99 : Nat) = 99 ∧ 3 ≤ ((.long x2 :: .long x1 :: .long x0 :: st) : List Value).length then zcall 146 [.long x0, .long x1, .long x2] st 151 47 ls w else none) = _
  rw [if_pos ⟨rfl, by simp⟩]
  exact zq_call hr (Nat.le_of_ble_eq_true rfl) rfl rfl
theorem e151_50 (ls : List Value) (a : Int32) (st : List Value) (w : zH) : zrun none (151, 50, ls, (.int a :: st), w) = if a = 0 then zrun none (151, 53, ls, st, w) else zrun none (151, 59, ls, st, w) := (zE_ (i := .ifCond .ne 9) (by decide +kernel) _ _ _).trans (zq_if_ne rfl rfl)
theorem e151_53 (v1 v2 v3 : Value) (x : Nat) (st : List Value) (w : zH) : zrun none (151, 53, [.ref x, v1, v2, v3], st, w) = zrun none (151, 54, [.ref x, v1, v2, v3], (.ref x :: st), w) := (zE_ (i := .aload_n 0) (by decide +kernel) _ _ _).trans rfl
theorem e151_54 (ls st : List Value) (w : zH) : zrun none (151, 54, ls, st, w) = zrun none (151, 55, ls, (.int 2 :: st), w) := (zE_ (i := .iconst 2) (by decide +kernel) _ _ _).trans rfl
theorem e151_55 (ls : List Value) (a : Nat) (x0 : Int32) (st : List Value) (w : zH) (hr : zcat st ≤ 8) : zrun none (151, 55, ls, (.int x0 :: .ref a :: st), w) = zgd (zis w a 12) (zcl (zrun none (147, 0, [.ref a, .int x0], [], w)) (fun r => zrun none (151, 58, ls, r.1.toList ++ st, r.2))) := by
  refine (zE_ (i := .invokevirtual 147) (by decide +kernel) _ _ _).trans ?_
  show zres (zinv none 147 151 55 ls (.int x0 :: .ref a :: st) w) = _
  unfold zinv
  show zres (if zrc none 147 w (.ref a) = true then zcall 147 [.ref a, .int x0] st 151 55 ls w else none) = _
  by_cases hc : zis w a 12
  · rw [if_pos (zrc_is hc (by decide +kernel)), zgd_pos hc]
    exact zq_call hr (Nat.le_of_ble_eq_true rfl) rfl rfl
  · rw [zgd_neg hc, if_neg (fun q => hc (zrc_of q (by decide +kernel)))]
    rfl
theorem e151_58 (ls : List Value) (x : Int32) (w : zH) : zrun none (151, 58, ls, [.int x], w) = some (some (.int x), w) := by
  refine (zE_ (i := .ireturn) (by decide +kernel) _ _ _).trans ?_
  show zres (if narrow .int (.int x) = .int x then _ else none) = _
  rw [if_pos (show narrow .int (.int x) = .int x from rfl)]
  rfl
theorem e151_59 (v1 v2 v3 : Value) (x : Nat) (st : List Value) (w : zH) : zrun none (151, 59, [.ref x, v1, v2, v3], st, w) = zrun none (151, 60, [.ref x, v1, v2, v3], (.ref x :: st), w) := (zE_ (i := .aload_n 0) (by decide +kernel) _ _ _).trans rfl
theorem e151_60 (ls : List Value) (a : Nat) (st : List Value) (w : zH) : zrun none (151, 60, ls, (.ref a :: st), w) = zo (zf w a 1204) (fun x => zrun none (151, 63, ls, (x :: st), w)) := (zE_ (i := .getfield 1204) (by decide +kernel) _ _ _).trans zq_getf
theorem e151_63 (ls st : List Value) (w : zH) : zrun none (151, 63, ls, st, w) = zrun none (151, 65, ls, (.int 100 :: st), w) := (zE_ (i := .bipush 100) (by decide +kernel) _ _ _).trans rfl
theorem e151_65 (v0 v2 v3 : Value) (x : Int32) (st : List Value) (w : zH) : zrun none (151, 65, [v0, .int x, v2, v3], st, w) = zrun none (151, 66, [v0, .int x, v2, v3], (.int x :: st), w) := (zE_ (i := .iload_n 1) (by decide +kernel) _ _ _).trans rfl
theorem e151_66 (ls : List Value) (a b : Int32) (st : List Value) (w : zH) : zrun none (151, 66, ls, (.int b :: .int a :: st), w) = zrun none (151, 67, ls, (.int (a * b) :: st), w) := (zE_ (i := .imul) (by decide +kernel) _ _ _).trans rfl
theorem e151_67 (v0 v1 v3 : Value) (x : Int32) (st : List Value) (w : zH) : zrun none (151, 67, [v0, v1, .int x, v3], st, w) = zrun none (151, 68, [v0, v1, .int x, v3], (.int x :: st), w) := (zE_ (i := .iload_n 2) (by decide +kernel) _ _ _).trans rfl
theorem e151_68 (ls : List Value) (a b : Int32) (st : List Value) (w : zH) : zrun none (151, 68, ls, (.int b :: .int a :: st), w) = zrun none (151, 69, ls, (.int (a + b) :: st), w) := (zE_ (i := .iadd) (by decide +kernel) _ _ _).trans rfl
theorem e151_69 (v1 v2 v3 : Value) (x : Nat) (st : List Value) (w : zH) : zrun none (151, 69, [.ref x, v1, v2, v3], st, w) = zrun none (151, 70, [.ref x, v1, v2, v3], (.ref x :: st), w) := (zE_ (i := .aload_n 0) (by decide +kernel) _ _ _).trans rfl
theorem e151_70 (ls : List Value) (a : Nat) (st : List Value) (w : zH) : zrun none (151, 70, ls, (.ref a :: st), w) = zo (zf w a 1202) (fun x => zrun none (151, 73, ls, (x :: st), w)) := (zE_ (i := .getfield 1202) (by decide +kernel) _ _ _).trans zq_getf
theorem e151_73 (v0 v2 v3 : Value) (x : Int32) (st : List Value) (w : zH) : zrun none (151, 73, [v0, .int x, v2, v3], st, w) = zrun none (151, 74, [v0, .int x, v2, v3], (.int x :: st), w) := (zE_ (i := .iload_n 1) (by decide +kernel) _ _ _).trans rfl
theorem e151_74 (ls : List Value) (j : Int32) (a : Nat) (st : List Value) (w : zH) : zrun none (151, 74, ls, (.int j :: .ref a :: st), w) = zoi (zai w a 100 j) (fun x => zrun none (151, 75, ls, (.int x :: st), w)) := (zE_ (i := .iaload) (by decide +kernel) _ _ _).trans zq_iald
theorem e151_75 (ls : List Value) (a : Int32) (st : List Value) (w : zH) : zrun none (151, 75, ls, (.int a :: st), w) = if a = 0 then zrun none (151, 78, ls, st, w) else zrun none (151, 83, ls, st, w) := (zE_ (i := .ifCond .ne 8) (by decide +kernel) _ _ _).trans (zq_if_ne rfl rfl)
theorem e151_78 (v0 v1 v2 : Value) (x : Int32) (st : List Value) (w : zH) : zrun none (151, 78, [v0, v1, v2, .int x], st, w) = zrun none (151, 79, [v0, v1, v2, .int x], (.int x :: st), w) := (zE_ (i := .iload_n 3) (by decide +kernel) _ _ _).trans rfl
theorem e151_79 (ls : List Value) (a : Int32) (st : List Value) (w : zH) : zrun none (151, 79, ls, (.int a :: st), w) = zrun none (151, 80, ls, (.int a.toInt8.toInt32 :: st), w) := (zE_ (i := .i2b) (by decide +kernel) _ _ _).trans rfl
theorem e151_80 (ls st : List Value) (w : zH) : zrun none (151, 80, ls, st, w) = zrun none (151, 99, ls, st, w) := (zE_ (i := .goto 19) (by decide +kernel) _ _ _).trans rfl
theorem e151_83 (v1 v2 v3 : Value) (x : Nat) (st : List Value) (w : zH) : zrun none (151, 83, [.ref x, v1, v2, v3], st, w) = zrun none (151, 84, [.ref x, v1, v2, v3], (.ref x :: st), w) := (zE_ (i := .aload_n 0) (by decide +kernel) _ _ _).trans rfl
theorem e151_84 (ls : List Value) (a : Nat) (st : List Value) (w : zH) : zrun none (151, 84, ls, (.ref a :: st), w) = zo (zf w a 1202) (fun x => zrun none (151, 87, ls, (x :: st), w)) := (zE_ (i := .getfield 1202) (by decide +kernel) _ _ _).trans zq_getf
theorem e151_87 (v0 v2 v3 : Value) (x : Int32) (st : List Value) (w : zH) : zrun none (151, 87, [v0, .int x, v2, v3], st, w) = zrun none (151, 88, [v0, .int x, v2, v3], (.int x :: st), w) := (zE_ (i := .iload_n 1) (by decide +kernel) _ _ _).trans rfl
theorem e151_88 (ls : List Value) (j : Int32) (a : Nat) (st : List Value) (w : zH) : zrun none (151, 88, ls, (.int j :: .ref a :: st), w) = zoi (zai w a 100 j) (fun x => zrun none (151, 89, ls, (.int x :: st), w)) := (zE_ (i := .iaload) (by decide +kernel) _ _ _).trans zq_iald
theorem e151_89 (ls st : List Value) (w : zH) : zrun none (151, 89, ls, st, w) = zrun none (151, 90, ls, (.int 1 :: st), w) := (zE_ (i := .iconst 1) (by decide +kernel) _ _ _).trans rfl
theorem e151_90 (ls : List Value) (a b : Int32) (st : List Value) (w : zH) : zrun none (151, 90, ls, (.int b :: .int a :: st), w) = if a = b then zrun none (151, 93, ls, st, w) else zrun none (151, 98, ls, st, w) := (zE_ (i := .if_icmp .ne 8) (by decide +kernel) _ _ _).trans (zq_ic_ne rfl rfl)
theorem e151_93 (v0 v1 v2 : Value) (x : Int32) (st : List Value) (w : zH) : zrun none (151, 93, [v0, v1, v2, .int x], st, w) = zrun none (151, 94, [v0, v1, v2, .int x], (.int x :: st), w) := (zE_ (i := .iload_n 3) (by decide +kernel) _ _ _).trans rfl
theorem e151_94 (ls : List Value) (a : Int32) (st : List Value) (w : zH) : zrun none (151, 94, ls, (.int a :: st), w) = zrun none (151, 95, ls, (.int a.toInt16.toInt32 :: st), w) := (zE_ (i := .i2s) (by decide +kernel) _ _ _).trans rfl
theorem e151_95 (ls st : List Value) (w : zH) : zrun none (151, 95, ls, st, w) = zrun none (151, 99, ls, st, w) := (zE_ (i := .goto 4) (by decide +kernel) _ _ _).trans rfl
theorem e151_98 (v0 v1 v2 : Value) (x : Int32) (st : List Value) (w : zH) : zrun none (151, 98, [v0, v1, v2, .int x], st, w) = zrun none (151, 99, [v0, v1, v2, .int x], (.int x :: st), w) := (zE_ (i := .iload_n 3) (by decide +kernel) _ _ _).trans rfl
theorem e151_99 (ls : List Value) (x j : Int32) (a : Nat) (st : List Value) (w : zH) : zrun none (151, 99, ls, (.int x :: .int j :: .ref a :: st), w) = zgd (zin? w a 100 j) (zrun none (151, 100, ls, st, zas w a j (.int x))) := by
  refine (zE_ (i := .iastore) (by decide +kernel) _ _ _).trans ?_
  by_cases hg : zin? w a 100 j
  · rw [zgd_pos hg]
    exact zq_iast hg
  · rw [zgd_neg hg]
    exact zq_iast_no hg
theorem e151_100 (v1 v2 v3 : Value) (x : Nat) (st : List Value) (w : zH) : zrun none (151, 100, [.ref x, v1, v2, v3], st, w) = zrun none (151, 101, [.ref x, v1, v2, v3], (.ref x :: st), w) := (zE_ (i := .aload_n 0) (by decide +kernel) _ _ _).trans rfl
theorem e151_101 (ls : List Value) (a : Nat) (st : List Value) (w : zH) : zrun none (151, 101, ls, (.ref a :: st), w) = zo (zf w a 1204) (fun x => zrun none (151, 104, ls, (x :: st), w)) := (zE_ (i := .getfield 1204) (by decide +kernel) _ _ _).trans zq_getf
theorem e151_104 (ls st : List Value) (w : zH) : zrun none (151, 104, ls, st, w) = zrun none (151, 106, ls, (.int 100 :: st), w) := (zE_ (i := .bipush 100) (by decide +kernel) _ _ _).trans rfl
theorem e151_106 (v0 v2 v3 : Value) (x : Int32) (st : List Value) (w : zH) : zrun none (151, 106, [v0, .int x, v2, v3], st, w) = zrun none (151, 107, [v0, .int x, v2, v3], (.int x :: st), w) := (zE_ (i := .iload_n 1) (by decide +kernel) _ _ _).trans rfl
theorem e151_107 (ls : List Value) (a b : Int32) (st : List Value) (w : zH) : zrun none (151, 107, ls, (.int b :: .int a :: st), w) = zrun none (151, 108, ls, (.int (a * b) :: st), w) := (zE_ (i := .imul) (by decide +kernel) _ _ _).trans rfl
theorem e151_108 (v0 v1 v3 : Value) (x : Int32) (st : List Value) (w : zH) : zrun none (151, 108, [v0, v1, .int x, v3], st, w) = zrun none (151, 109, [v0, v1, .int x, v3], (.int x :: st), w) := (zE_ (i := .iload_n 2) (by decide +kernel) _ _ _).trans rfl
theorem e151_109 (ls : List Value) (a b : Int32) (st : List Value) (w : zH) : zrun none (151, 109, ls, (.int b :: .int a :: st), w) = zrun none (151, 110, ls, (.int (a + b) :: st), w) := (zE_ (i := .iadd) (by decide +kernel) _ _ _).trans rfl
theorem e151_110 (ls : List Value) (j : Int32) (a : Nat) (st : List Value) (w : zH) : zrun none (151, 110, ls, (.int j :: .ref a :: st), w) = zoi (zai w a 100 j) (fun x => zrun none (151, 111, ls, (.int x :: st), w)) := (zE_ (i := .iaload) (by decide +kernel) _ _ _).trans zq_iald
theorem e151_111 (ls : List Value) (x : Int32) (w : zH) : zrun none (151, 111, ls, [.int x], w) = some (some (.int x), w) := by
  refine (zE_ (i := .ireturn) (by decide +kernel) _ _ _).trans ?_
  show zres (if narrow .int (.int x) = .int x then _ else none) = _
  rw [if_pos (show narrow .int (.int x) = .int x from rfl)]
  rfl
theorem e152_0 (v1 v2 v3 v4 v5 v6 v7 v8 : Value) (x : Nat) (st : List Value) (w : zH) : zrun none (152, 0, [.ref x, v1, v2, v3, v4, v5, v6, v7, v8], st, w) = zrun none (152, 1, [.ref x, v1, v2, v3, v4, v5, v6, v7, v8], (.ref x :: st), w) := (zE_ (i := .aload_n 0) (by decide +kernel) _ _ _).trans rfl
theorem e152_1 (ls st : List Value) (w : zH) : zrun none (152, 1, ls, st, w) = zrun none (152, 2, ls, (.int 0 :: st), w) := (zE_ (i := .iconst 0) (by decide +kernel) _ _ _).trans rfl
theorem e152_2 (ls : List Value) (x : Int32) (a : Nat) (st : List Value) (w : zH) : zrun none (152, 2, ls, (.int x :: .ref a :: st), w) = zgd (a < zX ∧ (zf w a 1200).isSome = true) (zrun none (152, 5, ls, st, zpf w a 1200 (.int x))) := by
  refine (zE_ (i := .putfield 1200) (by decide +kernel) _ _ _).trans ?_
  by_cases hg : a < zX ∧ (zf w a 1200).isSome = true
  · rw [zgd_pos hg]
    obtain ⟨ha, h⟩ := hg
    exact zq_putf ha h rfl rfl
  · rw [zgd_neg hg]
    exact zq_putf_no (fun h1 h2 h3 => hg ⟨h1, h2⟩)
theorem e152_5 (v0 v2 v3 v4 v5 v6 v7 v8 : Value) (x : Int32) (st : List Value) (w : zH) : zrun none (152, 5, [v0, .int x, v2, v3, v4, v5, v6, v7, v8], st, w) = zrun none (152, 6, [v0, .int x, v2, v3, v4, v5, v6, v7, v8], (.int x :: st), w) := (zE_ (i := .iload_n 1) (by decide +kernel) _ _ _).trans rfl
theorem e152_6 (ls : List Value) (x0 : Int32) (st : List Value) (w : zH) (hr : zcat st ≤ 8) : zrun none (152, 6, ls, (.int x0 :: st), w) = zcl (zrun none (149, 0, [.int x0], [], w)) (fun r => zrun none (152, 9, ls, r.1.toList ++ st, r.2)) := by
  refine (zE_ (i := .invokestatic 149) (by decide +kernel) _ _ _).trans ?_
  show zres (if (99 : Nat) = 99 ∧ 1 ≤ ((.int x0 :: st) : List Value).length then zcall 149 [.int x0] st 152 6 ls w else none) = _
  rw [if_pos ⟨rfl, by simp⟩]
  exact zq_call hr (Nat.le_of_ble_eq_true rfl) rfl rfl
theorem e152_9 (ls : List Value) (a : Int32) (st : List Value) (w : zH) : zrun none (152, 9, ls, (.int a :: st), w) = if a = 0 then zrun none (152, 19, ls, st, w) else zrun none (152, 12, ls, st, w) := (zE_ (i := .ifCond .eq 10) (by decide +kernel) _ _ _).trans (zq_if_eq rfl rfl)
theorem e152_12 (v0 v1 v2 v4 v5 v6 v7 v8 : Value) (x : Int32) (st : List Value) (w : zH) : zrun none (152, 12, [v0, v1, v2, .int x, v4, v5, v6, v7, v8], st, w) = zrun none (152, 13, [v0, v1, v2, .int x, v4, v5, v6, v7, v8], (.int x :: st), w) := (zE_ (i := .iload_n 3) (by decide +kernel) _ _ _).trans rfl
theorem e152_13 (ls : List Value) (x0 : Int32) (st : List Value) (w : zH) (hr : zcat st ≤ 8) : zrun none (152, 13, ls, (.int x0 :: st), w) = zcl (zrun none (149, 0, [.int x0], [], w)) (fun r => zrun none (152, 16, ls, r.1.toList ++ st, r.2)) := by
  refine (zE_ (i := .invokestatic 149) (by decide +kernel) _ _ _).trans ?_
  show zres (if (99 : Nat) = 99 ∧ 1 ≤ ((.int x0 :: st) : List Value).length then zcall 149 [.int x0] st 152 13 ls w else none) = _
  rw [if_pos ⟨rfl, by simp⟩]
  exact zq_call hr (Nat.le_of_ble_eq_true rfl) rfl rfl
theorem e152_16 (ls : List Value) (a : Int32) (st : List Value) (w : zH) : zrun none (152, 16, ls, (.int a :: st), w) = if a = 0 then zrun none (152, 19, ls, st, w) else zrun none (152, 22, ls, st, w) := (zE_ (i := .ifCond .ne 6) (by decide +kernel) _ _ _).trans (zq_if_ne rfl rfl)
theorem e152_19 (ls st : List Value) (w : zH) : zrun none (152, 19, ls, st, w) = zrun none (152, 21, ls, (.int (-1000001) :: st), w) := (zE_ (i := .bipush (-1000001)) (by decide +kernel) _ _ _).trans rfl
theorem e152_21 (ls : List Value) (x : Int32) (w : zH) : zrun none (152, 21, ls, [.int x], w) = some (some (.int x), w) := by
  refine (zE_ (i := .ireturn) (by decide +kernel) _ _ _).trans ?_
  show zres (if narrow .int (.int x) = .int x then _ else none) = _
  rw [if_pos (show narrow .int (.int x) = .int x from rfl)]
  rfl
theorem e152_22 (v1 v2 v3 v4 v5 v6 v7 v8 : Value) (x : Nat) (st : List Value) (w : zH) : zrun none (152, 22, [.ref x, v1, v2, v3, v4, v5, v6, v7, v8], st, w) = zrun none (152, 23, [.ref x, v1, v2, v3, v4, v5, v6, v7, v8], (.ref x :: st), w) := (zE_ (i := .aload_n 0) (by decide +kernel) _ _ _).trans rfl
theorem e152_23 (ls st : List Value) (w : zH) : zrun none (152, 23, ls, st, w) = zrun none (152, 24, ls, (.int 0 :: st), w) := (zE_ (i := .iconst 0) (by decide +kernel) _ _ _).trans rfl
theorem e152_24 (ls : List Value) (x : Int32) (a : Nat) (st : List Value) (w : zH) : zrun none (152, 24, ls, (.int x :: .ref a :: st), w) = zgd (a < zX ∧ (zf w a 1201).isSome = true) (zrun none (152, 27, ls, st, zpf w a 1201 (.int x))) := by
  refine (zE_ (i := .putfield 1201) (by decide +kernel) _ _ _).trans ?_
  by_cases hg : a < zX ∧ (zf w a 1201).isSome = true
  · rw [zgd_pos hg]
    obtain ⟨ha, h⟩ := hg
    exact zq_putf ha h rfl rfl
  · rw [zgd_neg hg]
    exact zq_putf_no (fun h1 h2 h3 => hg ⟨h1, h2⟩)
theorem e152_27 (v1 v2 v3 v4 v5 v6 v7 v8 : Value) (x : Nat) (st : List Value) (w : zH) : zrun none (152, 27, [.ref x, v1, v2, v3, v4, v5, v6, v7, v8], st, w) = zrun none (152, 28, [.ref x, v1, v2, v3, v4, v5, v6, v7, v8], (.ref x :: st), w) := (zE_ (i := .aload_n 0) (by decide +kernel) _ _ _).trans rfl
theorem e152_28 (ls : List Value) (a : Nat) (st : List Value) (w : zH) : zrun none (152, 28, ls, (.ref a :: st), w) = zo (zf w a 1202) (fun x => zrun none (152, 31, ls, (x :: st), w)) := (zE_ (i := .getfield 1202) (by decide +kernel) _ _ _).trans zq_getf
theorem e152_31 (v0 v2 v3 v4 v5 v6 v7 v8 : Value) (x : Int32) (st : List Value) (w : zH) : zrun none (152, 31, [v0, .int x, v2, v3, v4, v5, v6, v7, v8], st, w) = zrun none (152, 32, [v0, .int x, v2, v3, v4, v5, v6, v7, v8], (.int x :: st), w) := (zE_ (i := .iload_n 1) (by decide +kernel) _ _ _).trans rfl
theorem e152_32 (ls : List Value) (j : Int32) (a : Nat) (st : List Value) (w : zH) : zrun none (152, 32, ls, (.int j :: .ref a :: st), w) = zoi (zai w a 100 j) (fun x => zrun none (152, 33, ls, (.int x :: st), w)) := (zE_ (i := .iaload) (by decide +kernel) _ _ _).trans zq_iald
theorem e152_33 (ls : List Value) (a : Int32) (st : List Value) (w : zH) : zrun none (152, 33, ls, (.int a :: st), w) = if a < 0 then zrun none (152, 45, ls, st, w) else zrun none (152, 36, ls, st, w) := (zE_ (i := .ifCond .lt 12) (by decide +kernel) _ _ _).trans (zq_if_lt rfl rfl)
theorem e152_36 (v1 v2 v3 v4 v5 v6 v7 v8 : Value) (x : Nat) (st : List Value) (w : zH) : zrun none (152, 36, [.ref x, v1, v2, v3, v4, v5, v6, v7, v8], st, w) = zrun none (152, 37, [.ref x, v1, v2, v3, v4, v5, v6, v7, v8], (.ref x :: st), w) := (zE_ (i := .aload_n 0) (by decide +kernel) _ _ _).trans rfl
theorem e152_37 (ls : List Value) (a : Nat) (st : List Value) (w : zH) : zrun none (152, 37, ls, (.ref a :: st), w) = zo (zf w a 1202) (fun x => zrun none (152, 40, ls, (x :: st), w)) := (zE_ (i := .getfield 1202) (by decide +kernel) _ _ _).trans zq_getf
theorem e152_40 (v0 v1 v2 v4 v5 v6 v7 v8 : Value) (x : Int32) (st : List Value) (w : zH) : zrun none (152, 40, [v0, v1, v2, .int x, v4, v5, v6, v7, v8], st, w) = zrun none (152, 41, [v0, v1, v2, .int x, v4, v5, v6, v7, v8], (.int x :: st), w) := (zE_ (i := .iload_n 3) (by decide +kernel) _ _ _).trans rfl
theorem e152_41 (ls : List Value) (j : Int32) (a : Nat) (st : List Value) (w : zH) : zrun none (152, 41, ls, (.int j :: .ref a :: st), w) = zoi (zai w a 100 j) (fun x => zrun none (152, 42, ls, (.int x :: st), w)) := (zE_ (i := .iaload) (by decide +kernel) _ _ _).trans zq_iald
theorem e152_42 (ls : List Value) (a : Int32) (st : List Value) (w : zH) : zrun none (152, 42, ls, (.int a :: st), w) = if 0 ≤ a then zrun none (152, 51, ls, st, w) else zrun none (152, 45, ls, st, w) := (zE_ (i := .ifCond .ge 9) (by decide +kernel) _ _ _).trans (zq_if_ge rfl rfl)
theorem e152_45 (v1 v2 v3 v4 v5 v6 v7 v8 : Value) (x : Nat) (st : List Value) (w : zH) : zrun none (152, 45, [.ref x, v1, v2, v3, v4, v5, v6, v7, v8], st, w) = zrun none (152, 46, [.ref x, v1, v2, v3, v4, v5, v6, v7, v8], (.ref x :: st), w) := (zE_ (i := .aload_n 0) (by decide +kernel) _ _ _).trans rfl
theorem e152_46 (ls st : List Value) (w : zH) : zrun none (152, 46, ls, st, w) = zrun none (152, 47, ls, (.int 1 :: st), w) := (zE_ (i := .iconst 1) (by decide +kernel) _ _ _).trans rfl
theorem e152_47 (ls : List Value) (a : Nat) (x0 : Int32) (st : List Value) (w : zH) (hr : zcat st ≤ 8) : zrun none (152, 47, ls, (.int x0 :: .ref a :: st), w) = zgd (zis w a 12) (zcl (zrun none (147, 0, [.ref a, .int x0], [], w)) (fun r => zrun none (152, 50, ls, r.1.toList ++ st, r.2))) := by
  refine (zE_ (i := .invokevirtual 147) (by decide +kernel) _ _ _).trans ?_
  show zres (zinv none 147 152 47 ls (.int x0 :: .ref a :: st) w) = _
  unfold zinv
  show zres (if zrc none 147 w (.ref a) = true then zcall 147 [.ref a, .int x0] st 152 47 ls w else none) = _
  by_cases hc : zis w a 12
  · rw [if_pos (zrc_is hc (by decide +kernel)), zgd_pos hc]
    exact zq_call hr (Nat.le_of_ble_eq_true rfl) rfl rfl
  · rw [zgd_neg hc, if_neg (fun q => hc (zrc_of q (by decide +kernel)))]
    rfl
theorem e152_50 (ls : List Value) (x : Int32) (w : zH) : zrun none (152, 50, ls, [.int x], w) = some (some (.int x), w) := by
  refine (zE_ (i := .ireturn) (by decide +kernel) _ _ _).trans ?_
  show zres (if narrow .int (.int x) = .int x then _ else none) = _
  rw [if_pos (show narrow .int (.int x) = .int x from rfl)]
  rfl
theorem e152_51 (v1 v2 v3 v4 v5 v6 v7 v8 : Value) (x : Nat) (st : List Value) (w : zH) : zrun none (152, 51, [.ref x, v1, v2, v3, v4, v5, v6, v7, v8], st, w) = zrun none (152, 52, [.ref x, v1, v2, v3, v4, v5, v6, v7, v8], (.ref x :: st), w) := (zE_ (i := .aload_n 0) (by decide +kernel) _ _ _).trans rfl
theorem e152_52 (ls : List Value) (a : Nat) (st : List Value) (w : zH) : zrun none (152, 52, ls, (.ref a :: st), w) = zo (zf w a 1202) (fun x => zrun none (152, 55, ls, (x :: st), w)) := (zE_ (i := .getfield 1202) (by decide +kernel) _ _ _).trans zq_getf
theorem e152_55 (v0 v2 v3 v4 v5 v6 v7 v8 : Value) (x : Int32) (st : List Value) (w : zH) : zrun none (152, 55, [v0, .int x, v2, v3, v4, v5, v6, v7, v8], st, w) = zrun none (152, 56, [v0, .int x, v2, v3, v4, v5, v6, v7, v8], (.int x :: st), w) := (zE_ (i := .iload_n 1) (by decide +kernel) _ _ _).trans rfl
theorem e152_56 (ls : List Value) (j : Int32) (a : Nat) (st : List Value) (w : zH) : zrun none (152, 56, ls, (.int j :: .ref a :: st), w) = zoi (zai w a 100 j) (fun x => zrun none (152, 57, ls, (.int x :: st), w)) := (zE_ (i := .iaload) (by decide +kernel) _ _ _).trans zq_iald
theorem e152_57 (v1 v2 v3 v4 v5 v6 v7 v8 : Value) (x : Nat) (st : List Value) (w : zH) : zrun none (152, 57, [.ref x, v1, v2, v3, v4, v5, v6, v7, v8], st, w) = zrun none (152, 58, [.ref x, v1, v2, v3, v4, v5, v6, v7, v8], (.ref x :: st), w) := (zE_ (i := .aload_n 0) (by decide +kernel) _ _ _).trans rfl
theorem e152_58 (ls : List Value) (a : Nat) (st : List Value) (w : zH) : zrun none (152, 58, ls, (.ref a :: st), w) = zo (zf w a 1202) (fun x => zrun none (152, 61, ls, (x :: st), w)) := (zE_ (i := .getfield 1202) (by decide +kernel) _ _ _).trans zq_getf
theorem e152_61 (v0 v1 v2 v4 v5 v6 v7 v8 : Value) (x : Int32) (st : List Value) (w : zH) : zrun none (152, 61, [v0, v1, v2, .int x, v4, v5, v6, v7, v8], st, w) = zrun none (152, 62, [v0, v1, v2, .int x, v4, v5, v6, v7, v8], (.int x :: st), w) := (zE_ (i := .iload_n 3) (by decide +kernel) _ _ _).trans rfl
theorem e152_62 (ls : List Value) (j : Int32) (a : Nat) (st : List Value) (w : zH) : zrun none (152, 62, ls, (.int j :: .ref a :: st), w) = zoi (zai w a 100 j) (fun x => zrun none (152, 63, ls, (.int x :: st), w)) := (zE_ (i := .iaload) (by decide +kernel) _ _ _).trans zq_iald
theorem e152_63 (ls : List Value) (a b : Int32) (st : List Value) (w : zH) : zrun none (152, 63, ls, (.int b :: .int a :: st), w) = if a = b then zrun none (152, 72, ls, st, w) else zrun none (152, 66, ls, st, w) := (zE_ (i := .if_icmp .eq 9) (by decide +kernel) _ _ _).trans (zq_ic_eq rfl rfl)
theorem e152_66 (v1 v2 v3 v4 v5 v6 v7 v8 : Value) (x : Nat) (st : List Value) (w : zH) : zrun none (152, 66, [.ref x, v1, v2, v3, v4, v5, v6, v7, v8], st, w) = zrun none (152, 67, [.ref x, v1, v2, v3, v4, v5, v6, v7, v8], (.ref x :: st), w) := (zE_ (i := .aload_n 0) (by decide +kernel) _ _ _).trans rfl
theorem e152_67 (ls st : List Value) (w : zH) : zrun none (152, 67, ls, st, w) = zrun none (152, 68, ls, (.int 5 :: st), w) := (zE_ (i := .iconst 5) (by decide +kernel) _ _ _).trans rfl
theorem e152_68 (ls : List Value) (a : Nat) (x0 : Int32) (st : List Value) (w : zH) (hr : zcat st ≤ 8) : zrun none (152, 68, ls, (.int x0 :: .ref a :: st), w) = zgd (zis w a 12) (zcl (zrun none (147, 0, [.ref a, .int x0], [], w)) (fun r => zrun none (152, 71, ls, r.1.toList ++ st, r.2))) := by
  refine (zE_ (i := .invokevirtual 147) (by decide +kernel) _ _ _).trans ?_
  show zres (zinv none 147 152 68 ls (.int x0 :: .ref a :: st) w) = _
  unfold zinv
  show zres (if zrc none 147 w (.ref a) = true then zcall 147 [.ref a, .int x0] st 152 68 ls w else none) = _
  by_cases hc : zis w a 12
  · rw [if_pos (zrc_is hc (by decide +kernel)), zgd_pos hc]
    exact zq_call hr (Nat.le_of_ble_eq_true rfl) rfl rfl
  · rw [zgd_neg hc, if_neg (fun q => hc (zrc_of q (by decide +kernel)))]
    rfl
theorem e152_71 (ls : List Value) (x : Int32) (w : zH) : zrun none (152, 71, ls, [.int x], w) = some (some (.int x), w) := by
  refine (zE_ (i := .ireturn) (by decide +kernel) _ _ _).trans ?_
  show zres (if narrow .int (.int x) = .int x then _ else none) = _
  rw [if_pos (show narrow .int (.int x) = .int x from rfl)]
  rfl
theorem e152_72 (v0 v1 v3 v4 v5 v6 v7 v8 : Value) (x : Int32) (st : List Value) (w : zH) : zrun none (152, 72, [v0, v1, .int x, v3, v4, v5, v6, v7, v8], st, w) = zrun none (152, 73, [v0, v1, .int x, v3, v4, v5, v6, v7, v8], (.int x :: st), w) := (zE_ (i := .iload_n 2) (by decide +kernel) _ _ _).trans rfl
theorem e152_73 (ls : List Value) (a : Int32) (st : List Value) (w : zH) : zrun none (152, 73, ls, (.int a :: st), w) = if a < 0 then zrun none (152, 121, ls, st, w) else zrun none (152, 76, ls, st, w) := (zE_ (i := .ifCond .lt 48) (by decide +kernel) _ _ _).trans (zq_if_lt rfl rfl)
theorem e152_76 (v0 v1 v2 v3 v5 v6 v7 v8 : Value) (x : Int32) (st : List Value) (w : zH) : zrun none (152, 76, [v0, v1, v2, v3, .int x, v5, v6, v7, v8], st, w) = zrun none (152, 78, [v0, v1, v2, v3, .int x, v5, v6, v7, v8], (.int x :: st), w) := (zE_ (i := .iload 4) (by decide +kernel) _ _ _).trans rfl
theorem e152_78 (ls : List Value) (a : Int32) (st : List Value) (w : zH) : zrun none (152, 78, ls, (.int a :: st), w) = if a < 0 then zrun none (152, 121, ls, st, w) else zrun none (152, 81, ls, st, w) := (zE_ (i := .ifCond .lt 43) (by decide +kernel) _ _ _).trans (zq_if_lt rfl rfl)
theorem e152_81 (v0 v1 v2 v3 v4 v6 v7 v8 : Value) (x : Int32) (st : List Value) (w : zH) : zrun none (152, 81, [v0, v1, v2, v3, v4, .int x, v6, v7, v8], st, w) = zrun none (152, 83, [v0, v1, v2, v3, v4, .int x, v6, v7, v8], (.int x :: st), w) := (zE_ (i := .iload 5) (by decide +kernel) _ _ _).trans rfl
theorem e152_83 (ls : List Value) (a : Int32) (st : List Value) (w : zH) : zrun none (152, 83, ls, (.int a :: st), w) = if a < 0 then zrun none (152, 121, ls, st, w) else zrun none (152, 86, ls, st, w) := (zE_ (i := .ifCond .lt 38) (by decide +kernel) _ _ _).trans (zq_if_lt rfl rfl)
theorem e152_86 (v0 v1 v3 v4 v5 v6 v7 v8 : Value) (x : Int32) (st : List Value) (w : zH) : zrun none (152, 86, [v0, v1, .int x, v3, v4, v5, v6, v7, v8], st, w) = zrun none (152, 87, [v0, v1, .int x, v3, v4, v5, v6, v7, v8], (.int x :: st), w) := (zE_ (i := .iload_n 2) (by decide +kernel) _ _ _).trans rfl
theorem e152_87 (ls : List Value) (a : Int32) (st : List Value) (w : zH) : zrun none (152, 87, ls, (.int a :: st), w) = zrun none (152, 88, ls, (.long a.toInt64 :: st), w) := (zE_ (i := .i2l) (by decide +kernel) _ _ _).trans rfl
theorem e152_88 (v0 v1 v2 v3 v4 v6 v7 v8 : Value) (x : Int32) (st : List Value) (w : zH) : zrun none (152, 88, [v0, v1, v2, v3, v4, .int x, v6, v7, v8], st, w) = zrun none (152, 90, [v0, v1, v2, v3, v4, .int x, v6, v7, v8], (.int x :: st), w) := (zE_ (i := .iload 5) (by decide +kernel) _ _ _).trans rfl
theorem e152_90 (ls : List Value) (a : Int32) (st : List Value) (w : zH) : zrun none (152, 90, ls, (.int a :: st), w) = zrun none (152, 91, ls, (.long a.toInt64 :: st), w) := (zE_ (i := .i2l) (by decide +kernel) _ _ _).trans rfl
theorem e152_91 (ls : List Value) (a b : Int64) (st : List Value) (w : zH) : zrun none (152, 91, ls, (.long b :: .long a :: st), w) = zrun none (152, 92, ls, (.long (a + b) :: st), w) := (zE_ (i := .ladd) (by decide +kernel) _ _ _).trans rfl
theorem e152_92 (v1 v2 v3 v4 v5 v6 v7 v8 : Value) (x : Nat) (st : List Value) (w : zH) : zrun none (152, 92, [.ref x, v1, v2, v3, v4, v5, v6, v7, v8], st, w) = zrun none (152, 93, [.ref x, v1, v2, v3, v4, v5, v6, v7, v8], (.ref x :: st), w) := (zE_ (i := .aload_n 0) (by decide +kernel) _ _ _).trans rfl
theorem e152_93 (ls : List Value) (a : Nat) (st : List Value) (w : zH) : zrun none (152, 93, ls, (.ref a :: st), w) = zo (zf w a 1203) (fun x => zrun none (152, 96, ls, (x :: st), w)) := (zE_ (i := .getfield 1203) (by decide +kernel) _ _ _).trans zq_getf
theorem e152_96 (v0 v2 v3 v4 v5 v6 v7 v8 : Value) (x : Int32) (st : List Value) (w : zH) : zrun none (152, 96, [v0, .int x, v2, v3, v4, v5, v6, v7, v8], st, w) = zrun none (152, 97, [v0, .int x, v2, v3, v4, v5, v6, v7, v8], (.int x :: st), w) := (zE_ (i := .iload_n 1) (by decide +kernel) _ _ _).trans rfl
theorem e152_97 (ls : List Value) (j : Int32) (a : Nat) (st : List Value) (w : zH) : zrun none (152, 97, ls, (.int j :: .ref a :: st), w) = zoi (zai w a 100 j) (fun x => zrun none (152, 98, ls, (.int x :: st), w)) := (zE_ (i := .iaload) (by decide +kernel) _ _ _).trans zq_iald
theorem e152_98 (ls : List Value) (a : Int32) (st : List Value) (w : zH) : zrun none (152, 98, ls, (.int a :: st), w) = zrun none (152, 99, ls, (.long a.toInt64 :: st), w) := (zE_ (i := .i2l) (by decide +kernel) _ _ _).trans rfl
theorem e152_99 (ls : List Value) (a b : Int64) (st : List Value) (w : zH) : zrun none (152, 99, ls, (.long b :: .long a :: st), w) = zrun none (152, 100, ls, (.int (lg_cmp a b) :: st), w) := (zE_ (i := .lcmp) (by decide +kernel) _ _ _).trans rfl
theorem e152_100 (ls : List Value) (a : Int32) (st : List Value) (w : zH) : zrun none (152, 100, ls, (.int a :: st), w) = if 0 < a then zrun none (152, 121, ls, st, w) else zrun none (152, 103, ls, st, w) := (zE_ (i := .ifCond .gt 21) (by decide +kernel) _ _ _).trans (zq_if_gt rfl rfl)
theorem e152_103 (v0 v1 v2 v3 v5 v6 v7 v8 : Value) (x : Int32) (st : List Value) (w : zH) : zrun none (152, 103, [v0, v1, v2, v3, .int x, v5, v6, v7, v8], st, w) = zrun none (152, 105, [v0, v1, v2, v3, .int x, v5, v6, v7, v8], (.int x :: st), w) := (zE_ (i := .iload 4) (by decide +kernel) _ _ _).trans rfl
theorem e152_105 (ls : List Value) (a : Int32) (st : List Value) (w : zH) : zrun none (152, 105, ls, (.int a :: st), w) = zrun none (152, 106, ls, (.long a.toInt64 :: st), w) := (zE_ (i := .i2l) (by decide +kernel) _ _ _).trans rfl
theorem e152_106 (v0 v1 v2 v3 v4 v6 v7 v8 : Value) (x : Int32) (st : List Value) (w : zH) : zrun none (152, 106, [v0, v1, v2, v3, v4, .int x, v6, v7, v8], st, w) = zrun none (152, 108, [v0, v1, v2, v3, v4, .int x, v6, v7, v8], (.int x :: st), w) := (zE_ (i := .iload 5) (by decide +kernel) _ _ _).trans rfl
theorem e152_108 (ls : List Value) (a : Int32) (st : List Value) (w : zH) : zrun none (152, 108, ls, (.int a :: st), w) = zrun none (152, 109, ls, (.long a.toInt64 :: st), w) := (zE_ (i := .i2l) (by decide +kernel) _ _ _).trans rfl
theorem e152_109 (ls : List Value) (a b : Int64) (st : List Value) (w : zH) : zrun none (152, 109, ls, (.long b :: .long a :: st), w) = zrun none (152, 110, ls, (.long (a + b) :: st), w) := (zE_ (i := .ladd) (by decide +kernel) _ _ _).trans rfl
theorem e152_110 (v1 v2 v3 v4 v5 v6 v7 v8 : Value) (x : Nat) (st : List Value) (w : zH) : zrun none (152, 110, [.ref x, v1, v2, v3, v4, v5, v6, v7, v8], st, w) = zrun none (152, 111, [.ref x, v1, v2, v3, v4, v5, v6, v7, v8], (.ref x :: st), w) := (zE_ (i := .aload_n 0) (by decide +kernel) _ _ _).trans rfl
theorem e152_111 (ls : List Value) (a : Nat) (st : List Value) (w : zH) : zrun none (152, 111, ls, (.ref a :: st), w) = zo (zf w a 1203) (fun x => zrun none (152, 114, ls, (x :: st), w)) := (zE_ (i := .getfield 1203) (by decide +kernel) _ _ _).trans zq_getf
theorem e152_114 (v0 v1 v2 v4 v5 v6 v7 v8 : Value) (x : Int32) (st : List Value) (w : zH) : zrun none (152, 114, [v0, v1, v2, .int x, v4, v5, v6, v7, v8], st, w) = zrun none (152, 115, [v0, v1, v2, .int x, v4, v5, v6, v7, v8], (.int x :: st), w) := (zE_ (i := .iload_n 3) (by decide +kernel) _ _ _).trans rfl
theorem e152_115 (ls : List Value) (j : Int32) (a : Nat) (st : List Value) (w : zH) : zrun none (152, 115, ls, (.int j :: .ref a :: st), w) = zoi (zai w a 100 j) (fun x => zrun none (152, 116, ls, (.int x :: st), w)) := (zE_ (i := .iaload) (by decide +kernel) _ _ _).trans zq_iald
theorem e152_116 (ls : List Value) (a : Int32) (st : List Value) (w : zH) : zrun none (152, 116, ls, (.int a :: st), w) = zrun none (152, 117, ls, (.long a.toInt64 :: st), w) := (zE_ (i := .i2l) (by decide +kernel) _ _ _).trans rfl
theorem e152_117 (ls : List Value) (a b : Int64) (st : List Value) (w : zH) : zrun none (152, 117, ls, (.long b :: .long a :: st), w) = zrun none (152, 118, ls, (.int (lg_cmp a b) :: st), w) := (zE_ (i := .lcmp) (by decide +kernel) _ _ _).trans rfl
theorem e152_118 (ls : List Value) (a : Int32) (st : List Value) (w : zH) : zrun none (152, 118, ls, (.int a :: st), w) = if a ≤ 0 then zrun none (152, 127, ls, st, w) else zrun none (152, 121, ls, st, w) := (zE_ (i := .ifCond .le 9) (by decide +kernel) _ _ _).trans (zq_if_le rfl rfl)
theorem e152_121 (v1 v2 v3 v4 v5 v6 v7 v8 : Value) (x : Nat) (st : List Value) (w : zH) : zrun none (152, 121, [.ref x, v1, v2, v3, v4, v5, v6, v7, v8], st, w) = zrun none (152, 122, [.ref x, v1, v2, v3, v4, v5, v6, v7, v8], (.ref x :: st), w) := (zE_ (i := .aload_n 0) (by decide +kernel) _ _ _).trans rfl
theorem e152_122 (ls st : List Value) (w : zH) : zrun none (152, 122, ls, st, w) = zrun none (152, 123, ls, (.int 2 :: st), w) := (zE_ (i := .iconst 2) (by decide +kernel) _ _ _).trans rfl
theorem e152_123 (ls : List Value) (a : Nat) (x0 : Int32) (st : List Value) (w : zH) (hr : zcat st ≤ 8) : zrun none (152, 123, ls, (.int x0 :: .ref a :: st), w) = zgd (zis w a 12) (zcl (zrun none (147, 0, [.ref a, .int x0], [], w)) (fun r => zrun none (152, 126, ls, r.1.toList ++ st, r.2))) := by
  refine (zE_ (i := .invokevirtual 147) (by decide +kernel) _ _ _).trans ?_
  show zres (zinv none 147 152 123 ls (.int x0 :: .ref a :: st) w) = _
  unfold zinv
  show zres (if zrc none 147 w (.ref a) = true then zcall 147 [.ref a, .int x0] st 152 123 ls w else none) = _
  by_cases hc : zis w a 12
  · rw [if_pos (zrc_is hc (by decide +kernel)), zgd_pos hc]
    exact zq_call hr (Nat.le_of_ble_eq_true rfl) rfl rfl
  · rw [zgd_neg hc, if_neg (fun q => hc (zrc_of q (by decide +kernel)))]
    rfl
theorem e152_126 (ls : List Value) (x : Int32) (w : zH) : zrun none (152, 126, ls, [.int x], w) = some (some (.int x), w) := by
  refine (zE_ (i := .ireturn) (by decide +kernel) _ _ _).trans ?_
  show zres (if narrow .int (.int x) = .int x then _ else none) = _
  rw [if_pos (show narrow .int (.int x) = .int x from rfl)]
  rfl
theorem e152_127 (v0 v1 v3 v4 v5 v6 v7 v8 : Value) (x : Int32) (st : List Value) (w : zH) : zrun none (152, 127, [v0, v1, .int x, v3, v4, v5, v6, v7, v8], st, w) = zrun none (152, 128, [v0, v1, .int x, v3, v4, v5, v6, v7, v8], (.int x :: st), w) := (zE_ (i := .iload_n 2) (by decide +kernel) _ _ _).trans rfl
theorem e152_128 (v0 v1 v2 v3 v5 v6 v7 v8 : Value) (x : Int32) (st : List Value) (w : zH) : zrun none (152, 128, [v0, v1, v2, v3, .int x, v5, v6, v7, v8], st, w) = zrun none (152, 130, [v0, v1, v2, v3, .int x, v5, v6, v7, v8], (.int x :: st), w) := (zE_ (i := .iload 4) (by decide +kernel) _ _ _).trans rfl
theorem e152_130 (ls : List Value) (a b : Int32) (st : List Value) (w : zH) : zrun none (152, 130, ls, (.int b :: .int a :: st), w) = if a < b then zrun none (152, 137, ls, st, w) else zrun none (152, 133, ls, st, w) := (zE_ (i := .if_icmp .lt 7) (by decide +kernel) _ _ _).trans (zq_ic_lt rfl rfl)
theorem e152_133 (ls st : List Value) (w : zH) : zrun none (152, 133, ls, st, w) = zrun none (152, 134, ls, (.int 1 :: st), w) := (zE_ (i := .iconst 1) (by decide +kernel) _ _ _).trans rfl
theorem e152_134 (ls st : List Value) (w : zH) : zrun none (152, 134, ls, st, w) = zrun none (152, 138, ls, st, w) := (zE_ (i := .goto 4) (by decide +kernel) _ _ _).trans rfl
theorem e152_137 (ls st : List Value) (w : zH) : zrun none (152, 137, ls, st, w) = zrun none (152, 138, ls, (.int 0 :: st), w) := (zE_ (i := .iconst 0) (by decide +kernel) _ _ _).trans rfl
theorem e152_138 (v0 v1 v2 v3 v4 v5 v6 v7 v8 : Value) (x : Int32) (st : List Value) (w : zH) (h : v5.category = 1) : zrun none (152, 138, [v0, v1, v2, v3, v4, v5, v6, v7, v8], (.int x :: st), w) = zrun none (152, 140, [v0, v1, v2, v3, v4, v5, .int x, v7, v8], st, w) := by
  refine (zE_ (i := .istore 6) (by decide +kernel) _ _ _).trans ?_
  have hz : zfree [v0, v1, v2, v3, v4, v5, v6, v7, v8] 6 = true := by show decide (v5.category = 1) = true; exact decide_eq_true h
  show zres (zst zint 6 2 152 138 [v0, v1, v2, v3, v4, v5, v6, v7, v8] (.int x :: st) w) = _
  unfold zst
  dsimp only
  rw [if_pos ⟨rfl, Nat.le_of_ble_eq_true rfl, hz⟩]
  rfl
theorem e152_140 (ls st : List Value) (w : zH) : zrun none (152, 140, ls, st, w) = zrun none (152, 141, ls, (.int 0 :: st), w) := (zE_ (i := .iconst 0) (by decide +kernel) _ _ _).trans rfl
theorem e152_141 (v0 v1 v2 v3 v4 v5 v6 v7 v8 : Value) (x : Int32) (st : List Value) (w : zH) (h : v6.category = 1) : zrun none (152, 141, [v0, v1, v2, v3, v4, v5, v6, v7, v8], (.int x :: st), w) = zrun none (152, 143, [v0, v1, v2, v3, v4, v5, v6, .int x, v8], st, w) := by
  refine (zE_ (i := .istore 7) (by decide +kernel) _ _ _).trans ?_
  have hz : zfree [v0, v1, v2, v3, v4, v5, v6, v7, v8] 7 = true := by show decide (v6.category = 1) = true; exact decide_eq_true h
  show zres (zst zint 7 2 152 141 [v0, v1, v2, v3, v4, v5, v6, v7, v8] (.int x :: st) w) = _
  unfold zst
  dsimp only
  rw [if_pos ⟨rfl, Nat.le_of_ble_eq_true rfl, hz⟩]
  rfl
theorem e152_143 (v0 v1 v2 v3 v4 v5 v6 v8 : Value) (x : Int32) (st : List Value) (w : zH) : zrun none (152, 143, [v0, v1, v2, v3, v4, v5, v6, .int x, v8], st, w) = zrun none (152, 145, [v0, v1, v2, v3, v4, v5, v6, .int x, v8], (.int x :: st), w) := (zE_ (i := .iload 7) (by decide +kernel) _ _ _).trans rfl
theorem e152_145 (v0 v1 v2 v3 v4 v6 v7 v8 : Value) (x : Int32) (st : List Value) (w : zH) : zrun none (152, 145, [v0, v1, v2, v3, v4, .int x, v6, v7, v8], st, w) = zrun none (152, 147, [v0, v1, v2, v3, v4, .int x, v6, v7, v8], (.int x :: st), w) := (zE_ (i := .iload 5) (by decide +kernel) _ _ _).trans rfl
theorem e152_147 (ls : List Value) (a b : Int32) (st : List Value) (w : zH) : zrun none (152, 147, ls, (.int b :: .int a :: st), w) = if b ≤ a then zrun none (152, 204, ls, st, w) else zrun none (152, 150, ls, st, w) := (zE_ (i := .if_icmp .ge 57) (by decide +kernel) _ _ _).trans (zq_ic_ge rfl rfl)
theorem e152_150 (v0 v1 v2 v3 v4 v5 v7 v8 : Value) (x : Int32) (st : List Value) (w : zH) : zrun none (152, 150, [v0, v1, v2, v3, v4, v5, .int x, v7, v8], st, w) = zrun none (152, 152, [v0, v1, v2, v3, v4, v5, .int x, v7, v8], (.int x :: st), w) := (zE_ (i := .iload 6) (by decide +kernel) _ _ _).trans rfl
theorem e152_152 (ls : List Value) (a : Int32) (st : List Value) (w : zH) : zrun none (152, 152, ls, (.int a :: st), w) = if a = 0 then zrun none (152, 160, ls, st, w) else zrun none (152, 155, ls, st, w) := (zE_ (i := .ifCond .eq 8) (by decide +kernel) _ _ _).trans (zq_if_eq rfl rfl)
theorem e152_155 (v0 v1 v2 v3 v4 v5 v6 v8 : Value) (x : Int32) (st : List Value) (w : zH) : zrun none (152, 155, [v0, v1, v2, v3, v4, v5, v6, .int x, v8], st, w) = zrun none (152, 157, [v0, v1, v2, v3, v4, v5, v6, .int x, v8], (.int x :: st), w) := (zE_ (i := .iload 7) (by decide +kernel) _ _ _).trans rfl
theorem e152_157 (ls st : List Value) (w : zH) : zrun none (152, 157, ls, st, w) = zrun none (152, 167, ls, st, w) := (zE_ (i := .goto 10) (by decide +kernel) _ _ _).trans rfl
theorem e152_160 (v0 v1 v2 v3 v4 v6 v7 v8 : Value) (x : Int32) (st : List Value) (w : zH) : zrun none (152, 160, [v0, v1, v2, v3, v4, .int x, v6, v7, v8], st, w) = zrun none (152, 162, [v0, v1, v2, v3, v4, .int x, v6, v7, v8], (.int x :: st), w) := (zE_ (i := .iload 5) (by decide +kernel) _ _ _).trans rfl
theorem e152_162 (ls st : List Value) (w : zH) : zrun none (152, 162, ls, st, w) = zrun none (152, 163, ls, (.int 1 :: st), w) := (zE_ (i := .iconst 1) (by decide +kernel) _ _ _).trans rfl
theorem e152_163 (ls : List Value) (a b : Int32) (st : List Value) (w : zH) : zrun none (152, 163, ls, (.int b :: .int a :: st), w) = zrun none (152, 164, ls, (.int (a - b) :: st), w) := (zE_ (i := .isub) (by decide +kernel) _ _ _).trans rfl
theorem e152_164 (v0 v1 v2 v3 v4 v5 v6 v8 : Value) (x : Int32) (st : List Value) (w : zH) : zrun none (152, 164, [v0, v1, v2, v3, v4, v5, v6, .int x, v8], st, w) = zrun none (152, 166, [v0, v1, v2, v3, v4, v5, v6, .int x, v8], (.int x :: st), w) := (zE_ (i := .iload 7) (by decide +kernel) _ _ _).trans rfl
theorem e152_166 (ls : List Value) (a b : Int32) (st : List Value) (w : zH) : zrun none (152, 166, ls, (.int b :: .int a :: st), w) = zrun none (152, 167, ls, (.int (a - b) :: st), w) := (zE_ (i := .isub) (by decide +kernel) _ _ _).trans rfl
theorem e152_167 (v0 v1 v2 v3 v4 v5 v6 v7 v8 : Value) (x : Int32) (st : List Value) (w : zH) (h : v7.category = 1) : zrun none (152, 167, [v0, v1, v2, v3, v4, v5, v6, v7, v8], (.int x :: st), w) = zrun none (152, 169, [v0, v1, v2, v3, v4, v5, v6, v7, .int x], st, w) := by
  refine (zE_ (i := .istore 8) (by decide +kernel) _ _ _).trans ?_
  have hz : zfree [v0, v1, v2, v3, v4, v5, v6, v7, v8] 8 = true := by show decide (v7.category = 1) = true; exact decide_eq_true h
  show zres (zst zint 8 2 152 167 [v0, v1, v2, v3, v4, v5, v6, v7, v8] (.int x :: st) w) = _
  unfold zst
  dsimp only
  rw [if_pos ⟨rfl, Nat.le_of_ble_eq_true rfl, hz⟩]
  rfl
theorem e152_169 (v1 v2 v3 v4 v5 v6 v7 v8 : Value) (x : Nat) (st : List Value) (w : zH) : zrun none (152, 169, [.ref x, v1, v2, v3, v4, v5, v6, v7, v8], st, w) = zrun none (152, 170, [.ref x, v1, v2, v3, v4, v5, v6, v7, v8], (.ref x :: st), w) := (zE_ (i := .aload_n 0) (by decide +kernel) _ _ _).trans rfl
theorem e152_170 (ls : List Value) (a : Nat) (st : List Value) (w : zH) : zrun none (152, 170, ls, (.ref a :: st), w) = zo (zf w a 1204) (fun x => zrun none (152, 173, ls, (x :: st), w)) := (zE_ (i := .getfield 1204) (by decide +kernel) _ _ _).trans zq_getf
theorem e152_173 (ls st : List Value) (w : zH) : zrun none (152, 173, ls, st, w) = zrun none (152, 175, ls, (.int 100 :: st), w) := (zE_ (i := .bipush 100) (by decide +kernel) _ _ _).trans rfl
theorem e152_175 (v0 v1 v2 v4 v5 v6 v7 v8 : Value) (x : Int32) (st : List Value) (w : zH) : zrun none (152, 175, [v0, v1, v2, .int x, v4, v5, v6, v7, v8], st, w) = zrun none (152, 176, [v0, v1, v2, .int x, v4, v5, v6, v7, v8], (.int x :: st), w) := (zE_ (i := .iload_n 3) (by decide +kernel) _ _ _).trans rfl
theorem e152_176 (ls : List Value) (a b : Int32) (st : List Value) (w : zH) : zrun none (152, 176, ls, (.int b :: .int a :: st), w) = zrun none (152, 177, ls, (.int (a * b) :: st), w) := (zE_ (i := .imul) (by decide +kernel) _ _ _).trans rfl
theorem e152_177 (v0 v1 v2 v3 v5 v6 v7 v8 : Value) (x : Int32) (st : List Value) (w : zH) : zrun none (152, 177, [v0, v1, v2, v3, .int x, v5, v6, v7, v8], st, w) = zrun none (152, 179, [v0, v1, v2, v3, .int x, v5, v6, v7, v8], (.int x :: st), w) := (zE_ (i := .iload 4) (by decide +kernel) _ _ _).trans rfl
theorem e152_179 (ls : List Value) (a b : Int32) (st : List Value) (w : zH) : zrun none (152, 179, ls, (.int b :: .int a :: st), w) = zrun none (152, 180, ls, (.int (a + b) :: st), w) := (zE_ (i := .iadd) (by decide +kernel) _ _ _).trans rfl
theorem e152_180 (v0 v1 v2 v3 v4 v5 v6 v7 : Value) (x : Int32) (st : List Value) (w : zH) : zrun none (152, 180, [v0, v1, v2, v3, v4, v5, v6, v7, .int x], st, w) = zrun none (152, 182, [v0, v1, v2, v3, v4, v5, v6, v7, .int x], (.int x :: st), w) := (zE_ (i := .iload 8) (by decide +kernel) _ _ _).trans rfl
theorem e152_182 (ls : List Value) (a b : Int32) (st : List Value) (w : zH) : zrun none (152, 182, ls, (.int b :: .int a :: st), w) = zrun none (152, 183, ls, (.int (a + b) :: st), w) := (zE_ (i := .iadd) (by decide +kernel) _ _ _).trans rfl
theorem e152_183 (v1 v2 v3 v4 v5 v6 v7 v8 : Value) (x : Nat) (st : List Value) (w : zH) : zrun none (152, 183, [.ref x, v1, v2, v3, v4, v5, v6, v7, v8], st, w) = zrun none (152, 184, [.ref x, v1, v2, v3, v4, v5, v6, v7, v8], (.ref x :: st), w) := (zE_ (i := .aload_n 0) (by decide +kernel) _ _ _).trans rfl
theorem e152_184 (ls : List Value) (a : Nat) (st : List Value) (w : zH) : zrun none (152, 184, ls, (.ref a :: st), w) = zo (zf w a 1204) (fun x => zrun none (152, 187, ls, (x :: st), w)) := (zE_ (i := .getfield 1204) (by decide +kernel) _ _ _).trans zq_getf
theorem e152_187 (ls st : List Value) (w : zH) : zrun none (152, 187, ls, st, w) = zrun none (152, 189, ls, (.int 100 :: st), w) := (zE_ (i := .bipush 100) (by decide +kernel) _ _ _).trans rfl
theorem e152_189 (v0 v2 v3 v4 v5 v6 v7 v8 : Value) (x : Int32) (st : List Value) (w : zH) : zrun none (152, 189, [v0, .int x, v2, v3, v4, v5, v6, v7, v8], st, w) = zrun none (152, 190, [v0, .int x, v2, v3, v4, v5, v6, v7, v8], (.int x :: st), w) := (zE_ (i := .iload_n 1) (by decide +kernel) _ _ _).trans rfl
theorem e152_190 (ls : List Value) (a b : Int32) (st : List Value) (w : zH) : zrun none (152, 190, ls, (.int b :: .int a :: st), w) = zrun none (152, 191, ls, (.int (a * b) :: st), w) := (zE_ (i := .imul) (by decide +kernel) _ _ _).trans rfl
theorem e152_191 (v0 v1 v3 v4 v5 v6 v7 v8 : Value) (x : Int32) (st : List Value) (w : zH) : zrun none (152, 191, [v0, v1, .int x, v3, v4, v5, v6, v7, v8], st, w) = zrun none (152, 192, [v0, v1, .int x, v3, v4, v5, v6, v7, v8], (.int x :: st), w) := (zE_ (i := .iload_n 2) (by decide +kernel) _ _ _).trans rfl
theorem e152_192 (ls : List Value) (a b : Int32) (st : List Value) (w : zH) : zrun none (152, 192, ls, (.int b :: .int a :: st), w) = zrun none (152, 193, ls, (.int (a + b) :: st), w) := (zE_ (i := .iadd) (by decide +kernel) _ _ _).trans rfl
theorem e152_193 (v0 v1 v2 v3 v4 v5 v6 v7 : Value) (x : Int32) (st : List Value) (w : zH) : zrun none (152, 193, [v0, v1, v2, v3, v4, v5, v6, v7, .int x], st, w) = zrun none (152, 195, [v0, v1, v2, v3, v4, v5, v6, v7, .int x], (.int x :: st), w) := (zE_ (i := .iload 8) (by decide +kernel) _ _ _).trans rfl
theorem e152_195 (ls : List Value) (a b : Int32) (st : List Value) (w : zH) : zrun none (152, 195, ls, (.int b :: .int a :: st), w) = zrun none (152, 196, ls, (.int (a + b) :: st), w) := (zE_ (i := .iadd) (by decide +kernel) _ _ _).trans rfl
theorem e152_196 (ls : List Value) (j : Int32) (a : Nat) (st : List Value) (w : zH) : zrun none (152, 196, ls, (.int j :: .ref a :: st), w) = zoi (zai w a 100 j) (fun x => zrun none (152, 197, ls, (.int x :: st), w)) := (zE_ (i := .iaload) (by decide +kernel) _ _ _).trans zq_iald
theorem e152_197 (ls : List Value) (x j : Int32) (a : Nat) (st : List Value) (w : zH) : zrun none (152, 197, ls, (.int x :: .int j :: .ref a :: st), w) = zgd (zin? w a 100 j) (zrun none (152, 198, ls, st, zas w a j (.int x))) := by
  refine (zE_ (i := .iastore) (by decide +kernel) _ _ _).trans ?_
  by_cases hg : zin? w a 100 j
  · rw [zgd_pos hg]
    exact zq_iast hg
  · rw [zgd_neg hg]
    exact zq_iast_no hg
theorem e152_198 (v0 v1 v2 v3 v4 v5 v6 v8 : Value) (x : Int32) (st : List Value) (w : zH) : zrun none (152, 198, [v0, v1, v2, v3, v4, v5, v6, .int x, v8], st, w) = zrun none (152, 201, [v0, v1, v2, v3, v4, v5, v6, .int (x + 1), v8], st, w) := (zE_ (i := .iinc 7 1) (by decide +kernel) _ _ _).trans rfl
theorem e152_201 (ls st : List Value) (w : zH) : zrun none (152, 201, ls, st, w) = zrun none (152, 143, ls, st, w) := (zE_ (i := .goto (-58)) (by decide +kernel) _ _ _).trans rfl
theorem e152_204 (v0 v1 v2 v3 v4 v6 v7 v8 : Value) (x : Int32) (st : List Value) (w : zH) : zrun none (152, 204, [v0, v1, v2, v3, v4, .int x, v6, v7, v8], st, w) = zrun none (152, 206, [v0, v1, v2, v3, v4, .int x, v6, v7, v8], (.int x :: st), w) := (zE_ (i := .iload 5) (by decide +kernel) _ _ _).trans rfl
theorem e152_206 (ls : List Value) (x : Int32) (w : zH) : zrun none (152, 206, ls, [.int x], w) = some (some (.int x), w) := by
  refine (zE_ (i := .ireturn) (by decide +kernel) _ _ _).trans ?_
  show zres (if narrow .int (.int x) = .int x then _ else none) = _
  rw [if_pos (show narrow .int (.int x) = .int x from rfl)]
  rfl
theorem e153_0 (v1 : Value) (x : Nat) (st : List Value) (w : zH) : zrun none (153, 0, [.ref x, v1], st, w) = zrun none (153, 1, [.ref x, v1], (.ref x :: st), w) := (zE_ (i := .aload_n 0) (by decide +kernel) _ _ _).trans rfl
theorem e153_1 (ls st : List Value) (w : zH) : zrun none (153, 1, ls, st, w) = zrun none (153, 2, ls, (.int 0 :: st), w) := (zE_ (i := .iconst 0) (by decide +kernel) _ _ _).trans rfl
theorem e153_2 (ls : List Value) (x : Int32) (a : Nat) (st : List Value) (w : zH) : zrun none (153, 2, ls, (.int x :: .ref a :: st), w) = zgd (a < zX ∧ (zf w a 1200).isSome = true) (zrun none (153, 5, ls, st, zpf w a 1200 (.int x))) := by
  refine (zE_ (i := .putfield 1200) (by decide +kernel) _ _ _).trans ?_
  by_cases hg : a < zX ∧ (zf w a 1200).isSome = true
  · rw [zgd_pos hg]
    obtain ⟨ha, h⟩ := hg
    exact zq_putf ha h rfl rfl
  · rw [zgd_neg hg]
    exact zq_putf_no (fun h1 h2 h3 => hg ⟨h1, h2⟩)
theorem e153_5 (v0 : Value) (x : Int32) (st : List Value) (w : zH) : zrun none (153, 5, [v0, .int x], st, w) = zrun none (153, 6, [v0, .int x], (.int x :: st), w) := (zE_ (i := .iload_n 1) (by decide +kernel) _ _ _).trans rfl
theorem e153_6 (ls : List Value) (x0 : Int32) (st : List Value) (w : zH) (hr : zcat st ≤ 8) : zrun none (153, 6, ls, (.int x0 :: st), w) = zcl (zrun none (149, 0, [.int x0], [], w)) (fun r => zrun none (153, 9, ls, r.1.toList ++ st, r.2)) := by
  refine (zE_ (i := .invokestatic 149) (by decide +kernel) _ _ _).trans ?_
  show zres (if (99 : Nat) = 99 ∧ 1 ≤ ((.int x0 :: st) : List Value).length then zcall 149 [.int x0] st 153 6 ls w else none) = _
  rw [if_pos ⟨rfl, by simp⟩]
  exact zq_call hr (Nat.le_of_ble_eq_true rfl) rfl rfl
theorem e153_9 (ls : List Value) (a : Int32) (st : List Value) (w : zH) : zrun none (153, 9, ls, (.int a :: st), w) = if a = 0 then zrun none (153, 12, ls, st, w) else zrun none (153, 15, ls, st, w) := (zE_ (i := .ifCond .ne 6) (by decide +kernel) _ _ _).trans (zq_if_ne rfl rfl)
theorem e153_12 (ls st : List Value) (w : zH) : zrun none (153, 12, ls, st, w) = zrun none (153, 14, ls, (.int (-1000001) :: st), w) := (zE_ (i := .bipush (-1000001)) (by decide +kernel) _ _ _).trans rfl
theorem e153_14 (ls : List Value) (x : Int32) (w : zH) : zrun none (153, 14, ls, [.int x], w) = some (some (.int x), w) := by
  refine (zE_ (i := .ireturn) (by decide +kernel) _ _ _).trans ?_
  show zres (if narrow .int (.int x) = .int x then _ else none) = _
  rw [if_pos (show narrow .int (.int x) = .int x from rfl)]
  rfl
theorem e153_15 (v1 : Value) (x : Nat) (st : List Value) (w : zH) : zrun none (153, 15, [.ref x, v1], st, w) = zrun none (153, 16, [.ref x, v1], (.ref x :: st), w) := (zE_ (i := .aload_n 0) (by decide +kernel) _ _ _).trans rfl
theorem e153_16 (ls st : List Value) (w : zH) : zrun none (153, 16, ls, st, w) = zrun none (153, 17, ls, (.int 0 :: st), w) := (zE_ (i := .iconst 0) (by decide +kernel) _ _ _).trans rfl
theorem e153_17 (ls : List Value) (x : Int32) (a : Nat) (st : List Value) (w : zH) : zrun none (153, 17, ls, (.int x :: .ref a :: st), w) = zgd (a < zX ∧ (zf w a 1201).isSome = true) (zrun none (153, 20, ls, st, zpf w a 1201 (.int x))) := by
  refine (zE_ (i := .putfield 1201) (by decide +kernel) _ _ _).trans ?_
  by_cases hg : a < zX ∧ (zf w a 1201).isSome = true
  · rw [zgd_pos hg]
    obtain ⟨ha, h⟩ := hg
    exact zq_putf ha h rfl rfl
  · rw [zgd_neg hg]
    exact zq_putf_no (fun h1 h2 h3 => hg ⟨h1, h2⟩)
theorem e153_20 (v1 : Value) (x : Nat) (st : List Value) (w : zH) : zrun none (153, 20, [.ref x, v1], st, w) = zrun none (153, 21, [.ref x, v1], (.ref x :: st), w) := (zE_ (i := .aload_n 0) (by decide +kernel) _ _ _).trans rfl
theorem e153_21 (ls : List Value) (a : Nat) (st : List Value) (w : zH) : zrun none (153, 21, ls, (.ref a :: st), w) = zo (zf w a 1202) (fun x => zrun none (153, 24, ls, (x :: st), w)) := (zE_ (i := .getfield 1202) (by decide +kernel) _ _ _).trans zq_getf
theorem e153_24 (v0 : Value) (x : Int32) (st : List Value) (w : zH) : zrun none (153, 24, [v0, .int x], st, w) = zrun none (153, 25, [v0, .int x], (.int x :: st), w) := (zE_ (i := .iload_n 1) (by decide +kernel) _ _ _).trans rfl
theorem e153_25 (ls : List Value) (j : Int32) (a : Nat) (st : List Value) (w : zH) : zrun none (153, 25, ls, (.int j :: .ref a :: st), w) = zoi (zai w a 100 j) (fun x => zrun none (153, 26, ls, (.int x :: st), w)) := (zE_ (i := .iaload) (by decide +kernel) _ _ _).trans zq_iald
theorem e153_26 (ls : List Value) (a : Int32) (st : List Value) (w : zH) : zrun none (153, 26, ls, (.int a :: st), w) = if 0 ≤ a then zrun none (153, 35, ls, st, w) else zrun none (153, 29, ls, st, w) := (zE_ (i := .ifCond .ge 9) (by decide +kernel) _ _ _).trans (zq_if_ge rfl rfl)
theorem e153_29 (v1 : Value) (x : Nat) (st : List Value) (w : zH) : zrun none (153, 29, [.ref x, v1], st, w) = zrun none (153, 30, [.ref x, v1], (.ref x :: st), w) := (zE_ (i := .aload_n 0) (by decide +kernel) _ _ _).trans rfl
theorem e153_30 (ls st : List Value) (w : zH) : zrun none (153, 30, ls, st, w) = zrun none (153, 31, ls, (.int 1 :: st), w) := (zE_ (i := .iconst 1) (by decide +kernel) _ _ _).trans rfl
theorem e153_31 (ls : List Value) (a : Nat) (x0 : Int32) (st : List Value) (w : zH) (hr : zcat st ≤ 8) : zrun none (153, 31, ls, (.int x0 :: .ref a :: st), w) = zgd (zis w a 12) (zcl (zrun none (147, 0, [.ref a, .int x0], [], w)) (fun r => zrun none (153, 34, ls, r.1.toList ++ st, r.2))) := by
  refine (zE_ (i := .invokevirtual 147) (by decide +kernel) _ _ _).trans ?_
  show zres (zinv none 147 153 31 ls (.int x0 :: .ref a :: st) w) = _
  unfold zinv
  show zres (if zrc none 147 w (.ref a) = true then zcall 147 [.ref a, .int x0] st 153 31 ls w else none) = _
  by_cases hc : zis w a 12
  · rw [if_pos (zrc_is hc (by decide +kernel)), zgd_pos hc]
    exact zq_call hr (Nat.le_of_ble_eq_true rfl) rfl rfl
  · rw [zgd_neg hc, if_neg (fun q => hc (zrc_of q (by decide +kernel)))]
    rfl
theorem e153_34 (ls : List Value) (x : Int32) (w : zH) : zrun none (153, 34, ls, [.int x], w) = some (some (.int x), w) := by
  refine (zE_ (i := .ireturn) (by decide +kernel) _ _ _).trans ?_
  show zres (if narrow .int (.int x) = .int x then _ else none) = _
  rw [if_pos (show narrow .int (.int x) = .int x from rfl)]
  rfl
theorem e153_35 (v1 : Value) (x : Nat) (st : List Value) (w : zH) : zrun none (153, 35, [.ref x, v1], st, w) = zrun none (153, 36, [.ref x, v1], (.ref x :: st), w) := (zE_ (i := .aload_n 0) (by decide +kernel) _ _ _).trans rfl
theorem e153_36 (ls : List Value) (a : Nat) (st : List Value) (w : zH) : zrun none (153, 36, ls, (.ref a :: st), w) = zo (zf w a 1202) (fun x => zrun none (153, 39, ls, (x :: st), w)) := (zE_ (i := .getfield 1202) (by decide +kernel) _ _ _).trans zq_getf
theorem e153_39 (v0 : Value) (x : Int32) (st : List Value) (w : zH) : zrun none (153, 39, [v0, .int x], st, w) = zrun none (153, 40, [v0, .int x], (.int x :: st), w) := (zE_ (i := .iload_n 1) (by decide +kernel) _ _ _).trans rfl
theorem e153_40 (ls st : List Value) (w : zH) : zrun none (153, 40, ls, st, w) = zrun none (153, 41, ls, (.int (-1) :: st), w) := (zE_ (i := .iconst (-1)) (by decide +kernel) _ _ _).trans rfl
theorem e153_41 (ls : List Value) (x j : Int32) (a : Nat) (st : List Value) (w : zH) : zrun none (153, 41, ls, (.int x :: .int j :: .ref a :: st), w) = zgd (zin? w a 100 j) (zrun none (153, 42, ls, st, zas w a j (.int x))) := by
  refine (zE_ (i := .iastore) (by decide +kernel) _ _ _).trans ?_
  by_cases hg : zin? w a 100 j
  · rw [zgd_pos hg]
    exact zq_iast hg
  · rw [zgd_neg hg]
    exact zq_iast_no hg
theorem e153_42 (v1 : Value) (x : Nat) (st : List Value) (w : zH) : zrun none (153, 42, [.ref x, v1], st, w) = zrun none (153, 43, [.ref x, v1], (.ref x :: st), w) := (zE_ (i := .aload_n 0) (by decide +kernel) _ _ _).trans rfl
theorem e153_43 (ls : List Value) (a : Nat) (st : List Value) (w : zH) : zrun none (153, 43, ls, (.ref a :: st), w) = zo (zf w a 1203) (fun x => zrun none (153, 46, ls, (x :: st), w)) := (zE_ (i := .getfield 1203) (by decide +kernel) _ _ _).trans zq_getf
theorem e153_46 (v0 : Value) (x : Int32) (st : List Value) (w : zH) : zrun none (153, 46, [v0, .int x], st, w) = zrun none (153, 47, [v0, .int x], (.int x :: st), w) := (zE_ (i := .iload_n 1) (by decide +kernel) _ _ _).trans rfl
theorem e153_47 (ls : List Value) (j : Int32) (a : Nat) (st : List Value) (w : zH) : zrun none (153, 47, ls, (.int j :: .ref a :: st), w) = zoi (zai w a 100 j) (fun x => zrun none (153, 48, ls, (.int x :: st), w)) := (zE_ (i := .iaload) (by decide +kernel) _ _ _).trans zq_iald
theorem e153_48 (ls : List Value) (x : Int32) (w : zH) : zrun none (153, 48, ls, [.int x], w) = some (some (.int x), w) := by
  refine (zE_ (i := .ireturn) (by decide +kernel) _ _ _).trans ?_
  show zres (if narrow .int (.int x) = .int x then _ else none) = _
  rw [if_pos (show narrow .int (.int x) = .int x from rfl)]
  rfl
theorem e154_0 (v1 v2 v3 v4 v5 v6 v7 : Value) (x : Nat) (st : List Value) (w : zH) : zrun none (154, 0, [.ref x, v1, v2, v3, v4, v5, v6, v7], st, w) = zrun none (154, 1, [.ref x, v1, v2, v3, v4, v5, v6, v7], (.ref x :: st), w) := (zE_ (i := .aload_n 0) (by decide +kernel) _ _ _).trans rfl
theorem e154_1 (ls : List Value) (a : Nat) (st : List Value) (w : zH) : zrun none (154, 1, ls, (.ref a :: st), w) = zo (zf w a 1202) (fun x => zrun none (154, 4, ls, (x :: st), w)) := (zE_ (i := .getfield 1202) (by decide +kernel) _ _ _).trans zq_getf
theorem e154_4 (v0 v2 v3 v4 v5 v6 v7 : Value) (x : Int32) (st : List Value) (w : zH) : zrun none (154, 4, [v0, .int x, v2, v3, v4, v5, v6, v7], st, w) = zrun none (154, 5, [v0, .int x, v2, v3, v4, v5, v6, v7], (.int x :: st), w) := (zE_ (i := .iload_n 1) (by decide +kernel) _ _ _).trans rfl
theorem e154_5 (ls : List Value) (j : Int32) (a : Nat) (st : List Value) (w : zH) : zrun none (154, 5, ls, (.int j :: .ref a :: st), w) = zoi (zai w a 100 j) (fun x => zrun none (154, 6, ls, (.int x :: st), w)) := (zE_ (i := .iaload) (by decide +kernel) _ _ _).trans zq_iald
theorem e154_6 (ls : List Value) (a : Int32) (st : List Value) (w : zH) : zrun none (154, 6, ls, (.int a :: st), w) = if 0 ≤ a then zrun none (154, 15, ls, st, w) else zrun none (154, 9, ls, st, w) := (zE_ (i := .ifCond .ge 9) (by decide +kernel) _ _ _).trans (zq_if_ge rfl rfl)
theorem e154_9 (v1 v2 v3 v4 v5 v6 v7 : Value) (x : Nat) (st : List Value) (w : zH) : zrun none (154, 9, [.ref x, v1, v2, v3, v4, v5, v6, v7], st, w) = zrun none (154, 10, [.ref x, v1, v2, v3, v4, v5, v6, v7], (.ref x :: st), w) := (zE_ (i := .aload_n 0) (by decide +kernel) _ _ _).trans rfl
theorem e154_10 (ls st : List Value) (w : zH) : zrun none (154, 10, ls, st, w) = zrun none (154, 11, ls, (.int 1 :: st), w) := (zE_ (i := .iconst 1) (by decide +kernel) _ _ _).trans rfl
theorem e154_11 (ls : List Value) (a : Nat) (x0 : Int32) (st : List Value) (w : zH) (hr : zcat st ≤ 8) : zrun none (154, 11, ls, (.int x0 :: .ref a :: st), w) = zgd (zis w a 12) (zcl (zrun none (147, 0, [.ref a, .int x0], [], w)) (fun r => zrun none (154, 14, ls, r.1.toList ++ st, r.2))) := by
  refine (zE_ (i := .invokevirtual 147) (by decide +kernel) _ _ _).trans ?_
  show zres (zinv none 147 154 11 ls (.int x0 :: .ref a :: st) w) = _
  unfold zinv
  show zres (if zrc none 147 w (.ref a) = true then zcall 147 [.ref a, .int x0] st 154 11 ls w else none) = _
  by_cases hc : zis w a 12
  · rw [if_pos (zrc_is hc (by decide +kernel)), zgd_pos hc]
    exact zq_call hr (Nat.le_of_ble_eq_true rfl) rfl rfl
  · rw [zgd_neg hc, if_neg (fun q => hc (zrc_of q (by decide +kernel)))]
    rfl
theorem e154_14 (ls : List Value) (x : Int32) (w : zH) : zrun none (154, 14, ls, [.int x], w) = some (some (.int x), w) := by
  refine (zE_ (i := .ireturn) (by decide +kernel) _ _ _).trans ?_
  show zres (if narrow .int (.int x) = .int x then _ else none) = _
  rw [if_pos (show narrow .int (.int x) = .int x from rfl)]
  rfl
theorem e154_15 (v0 v1 v3 v4 v5 v6 v7 : Value) (x : Int32) (st : List Value) (w : zH) : zrun none (154, 15, [v0, v1, .int x, v3, v4, v5, v6, v7], st, w) = zrun none (154, 16, [v0, v1, .int x, v3, v4, v5, v6, v7], (.int x :: st), w) := (zE_ (i := .iload_n 2) (by decide +kernel) _ _ _).trans rfl
theorem e154_16 (ls : List Value) (a : Int32) (st : List Value) (w : zH) : zrun none (154, 16, ls, (.int a :: st), w) = if a < 0 then zrun none (154, 37, ls, st, w) else zrun none (154, 19, ls, st, w) := (zE_ (i := .ifCond .lt 21) (by decide +kernel) _ _ _).trans (zq_if_lt rfl rfl)
theorem e154_19 (v0 v1 v3 v4 v5 v6 v7 : Value) (x : Int32) (st : List Value) (w : zH) : zrun none (154, 19, [v0, v1, .int x, v3, v4, v5, v6, v7], st, w) = zrun none (154, 20, [v0, v1, .int x, v3, v4, v5, v6, v7], (.int x :: st), w) := (zE_ (i := .iload_n 2) (by decide +kernel) _ _ _).trans rfl
theorem e154_20 (ls : List Value) (a : Int32) (st : List Value) (w : zH) : zrun none (154, 20, ls, (.int a :: st), w) = zrun none (154, 21, ls, (.long a.toInt64 :: st), w) := (zE_ (i := .i2l) (by decide +kernel) _ _ _).trans rfl
theorem e154_21 (ls st : List Value) (w : zH) : zrun none (154, 21, ls, st, w) = zrun none (154, 22, ls, (.int 2 :: st), w) := (zE_ (i := .iconst 2) (by decide +kernel) _ _ _).trans rfl
theorem e154_22 (v0 v1 v2 v4 v5 v6 v7 : Value) (x : Int32) (st : List Value) (w : zH) : zrun none (154, 22, [v0, v1, v2, .int x, v4, v5, v6, v7], st, w) = zrun none (154, 23, [v0, v1, v2, .int x, v4, v5, v6, v7], (.int x :: st), w) := (zE_ (i := .iload_n 3) (by decide +kernel) _ _ _).trans rfl
theorem e154_23 (ls : List Value) (a b : Int32) (st : List Value) (w : zH) : zrun none (154, 23, ls, (.int b :: .int a :: st), w) = zrun none (154, 24, ls, (.int (a * b) :: st), w) := (zE_ (i := .imul) (by decide +kernel) _ _ _).trans rfl
theorem e154_24 (ls : List Value) (a : Int32) (st : List Value) (w : zH) : zrun none (154, 24, ls, (.int a :: st), w) = zrun none (154, 25, ls, (.long a.toInt64 :: st), w) := (zE_ (i := .i2l) (by decide +kernel) _ _ _).trans rfl
theorem e154_25 (ls : List Value) (a b : Int64) (st : List Value) (w : zH) : zrun none (154, 25, ls, (.long b :: .long a :: st), w) = zrun none (154, 26, ls, (.long (a + b) :: st), w) := (zE_ (i := .ladd) (by decide +kernel) _ _ _).trans rfl
theorem e154_26 (v1 v2 v3 v4 v5 v6 v7 : Value) (x : Nat) (st : List Value) (w : zH) : zrun none (154, 26, [.ref x, v1, v2, v3, v4, v5, v6, v7], st, w) = zrun none (154, 27, [.ref x, v1, v2, v3, v4, v5, v6, v7], (.ref x :: st), w) := (zE_ (i := .aload_n 0) (by decide +kernel) _ _ _).trans rfl
theorem e154_27 (ls : List Value) (a : Nat) (st : List Value) (w : zH) : zrun none (154, 27, ls, (.ref a :: st), w) = zo (zf w a 1203) (fun x => zrun none (154, 30, ls, (x :: st), w)) := (zE_ (i := .getfield 1203) (by decide +kernel) _ _ _).trans zq_getf
theorem e154_30 (v0 v2 v3 v4 v5 v6 v7 : Value) (x : Int32) (st : List Value) (w : zH) : zrun none (154, 30, [v0, .int x, v2, v3, v4, v5, v6, v7], st, w) = zrun none (154, 31, [v0, .int x, v2, v3, v4, v5, v6, v7], (.int x :: st), w) := (zE_ (i := .iload_n 1) (by decide +kernel) _ _ _).trans rfl
theorem e154_31 (ls : List Value) (j : Int32) (a : Nat) (st : List Value) (w : zH) : zrun none (154, 31, ls, (.int j :: .ref a :: st), w) = zoi (zai w a 100 j) (fun x => zrun none (154, 32, ls, (.int x :: st), w)) := (zE_ (i := .iaload) (by decide +kernel) _ _ _).trans zq_iald
theorem e154_32 (ls : List Value) (a : Int32) (st : List Value) (w : zH) : zrun none (154, 32, ls, (.int a :: st), w) = zrun none (154, 33, ls, (.long a.toInt64 :: st), w) := (zE_ (i := .i2l) (by decide +kernel) _ _ _).trans rfl
theorem e154_33 (ls : List Value) (a b : Int64) (st : List Value) (w : zH) : zrun none (154, 33, ls, (.long b :: .long a :: st), w) = zrun none (154, 34, ls, (.int (lg_cmp a b) :: st), w) := (zE_ (i := .lcmp) (by decide +kernel) _ _ _).trans rfl
theorem e154_34 (ls : List Value) (a : Int32) (st : List Value) (w : zH) : zrun none (154, 34, ls, (.int a :: st), w) = if a ≤ 0 then zrun none (154, 43, ls, st, w) else zrun none (154, 37, ls, st, w) := (zE_ (i := .ifCond .le 9) (by decide +kernel) _ _ _).trans (zq_if_le rfl rfl)
theorem e154_37 (v1 v2 v3 v4 v5 v6 v7 : Value) (x : Nat) (st : List Value) (w : zH) : zrun none (154, 37, [.ref x, v1, v2, v3, v4, v5, v6, v7], st, w) = zrun none (154, 38, [.ref x, v1, v2, v3, v4, v5, v6, v7], (.ref x :: st), w) := (zE_ (i := .aload_n 0) (by decide +kernel) _ _ _).trans rfl
theorem e154_38 (ls st : List Value) (w : zH) : zrun none (154, 38, ls, st, w) = zrun none (154, 39, ls, (.int 2 :: st), w) := (zE_ (i := .iconst 2) (by decide +kernel) _ _ _).trans rfl
theorem e154_39 (ls : List Value) (a : Nat) (x0 : Int32) (st : List Value) (w : zH) (hr : zcat st ≤ 8) : zrun none (154, 39, ls, (.int x0 :: .ref a :: st), w) = zgd (zis w a 12) (zcl (zrun none (147, 0, [.ref a, .int x0], [], w)) (fun r => zrun none (154, 42, ls, r.1.toList ++ st, r.2))) := by
  refine (zE_ (i := .invokevirtual 147) (by decide +kernel) _ _ _).trans ?_
  show zres (zinv none 147 154 39 ls (.int x0 :: .ref a :: st) w) = _
  unfold zinv
  show zres (if zrc none 147 w (.ref a) = true then zcall 147 [.ref a, .int x0] st 154 39 ls w else none) = _
  by_cases hc : zis w a 12
  · rw [if_pos (zrc_is hc (by decide +kernel)), zgd_pos hc]
    exact zq_call hr (Nat.le_of_ble_eq_true rfl) rfl rfl
  · rw [zgd_neg hc, if_neg (fun q => hc (zrc_of q (by decide +kernel)))]
    rfl
theorem e154_42 (ls : List Value) (x : Int32) (w : zH) : zrun none (154, 42, ls, [.int x], w) = some (some (.int x), w) := by
  refine (zE_ (i := .ireturn) (by decide +kernel) _ _ _).trans ?_
  show zres (if narrow .int (.int x) = .int x then _ else none) = _
  rw [if_pos (show narrow .int (.int x) = .int x from rfl)]
  rfl
theorem e154_43 (ls st : List Value) (w : zH) : zrun none (154, 43, ls, st, w) = zrun none (154, 44, ls, (.int 0 :: st), w) := (zE_ (i := .iconst 0) (by decide +kernel) _ _ _).trans rfl
theorem e154_44 (v0 v1 v2 v3 v4 v5 v6 v7 : Value) (x : Int32) (st : List Value) (w : zH) (h : v6.category = 1) : zrun none (154, 44, [v0, v1, v2, v3, v4, v5, v6, v7], (.int x :: st), w) = zrun none (154, 46, [v0, v1, v2, v3, v4, v5, v6, .int x], st, w) := by
  refine (zE_ (i := .istore 7) (by decide +kernel) _ _ _).trans ?_
  have hz : zfree [v0, v1, v2, v3, v4, v5, v6, v7] 7 = true := by show decide (v6.category = 1) = true; exact decide_eq_true h
  show zres (zst zint 7 2 154 44 [v0, v1, v2, v3, v4, v5, v6, v7] (.int x :: st) w) = _
  unfold zst
  dsimp only
  rw [if_pos ⟨rfl, Nat.le_of_ble_eq_true rfl, hz⟩]
  rfl
theorem e154_46 (v0 v1 v2 v3 v4 v5 v6 : Value) (x : Int32) (st : List Value) (w : zH) : zrun none (154, 46, [v0, v1, v2, v3, v4, v5, v6, .int x], st, w) = zrun none (154, 48, [v0, v1, v2, v3, v4, v5, v6, .int x], (.int x :: st), w) := (zE_ (i := .iload 7) (by decide +kernel) _ _ _).trans rfl
theorem e154_48 (v0 v1 v2 v4 v5 v6 v7 : Value) (x : Int32) (st : List Value) (w : zH) : zrun none (154, 48, [v0, v1, v2, .int x, v4, v5, v6, v7], st, w) = zrun none (154, 49, [v0, v1, v2, .int x, v4, v5, v6, v7], (.int x :: st), w) := (zE_ (i := .iload_n 3) (by decide +kernel) _ _ _).trans rfl
theorem e154_49 (ls : List Value) (a b : Int32) (st : List Value) (w : zH) : zrun none (154, 49, ls, (.int b :: .int a :: st), w) = if b ≤ a then zrun none (154, 119, ls, st, w) else zrun none (154, 52, ls, st, w) := (zE_ (i := .if_icmp .ge 70) (by decide +kernel) _ _ _).trans (zq_ic_ge rfl rfl)
theorem e154_52 (v1 v2 v3 v4 v5 v6 v7 : Value) (x : Nat) (st : List Value) (w : zH) : zrun none (154, 52, [.ref x, v1, v2, v3, v4, v5, v6, v7], st, w) = zrun none (154, 53, [.ref x, v1, v2, v3, v4, v5, v6, v7], (.ref x :: st), w) := (zE_ (i := .aload_n 0) (by decide +kernel) _ _ _).trans rfl
theorem e154_53 (ls : List Value) (a : Nat) (st : List Value) (w : zH) : zrun none (154, 53, ls, (.ref a :: st), w) = zo (zf w a 1204) (fun x => zrun none (154, 56, ls, (x :: st), w)) := (zE_ (i := .getfield 1204) (by decide +kernel) _ _ _).trans zq_getf
theorem e154_56 (ls st : List Value) (w : zH) : zrun none (154, 56, ls, st, w) = zrun none (154, 58, ls, (.int 100 :: st), w) := (zE_ (i := .bipush 100) (by decide +kernel) _ _ _).trans rfl
theorem e154_58 (v0 v2 v3 v4 v5 v6 v7 : Value) (x : Int32) (st : List Value) (w : zH) : zrun none (154, 58, [v0, .int x, v2, v3, v4, v5, v6, v7], st, w) = zrun none (154, 59, [v0, .int x, v2, v3, v4, v5, v6, v7], (.int x :: st), w) := (zE_ (i := .iload_n 1) (by decide +kernel) _ _ _).trans rfl
theorem e154_59 (ls : List Value) (a b : Int32) (st : List Value) (w : zH) : zrun none (154, 59, ls, (.int b :: .int a :: st), w) = zrun none (154, 60, ls, (.int (a * b) :: st), w) := (zE_ (i := .imul) (by decide +kernel) _ _ _).trans rfl
theorem e154_60 (v0 v1 v3 v4 v5 v6 v7 : Value) (x : Int32) (st : List Value) (w : zH) : zrun none (154, 60, [v0, v1, .int x, v3, v4, v5, v6, v7], st, w) = zrun none (154, 61, [v0, v1, .int x, v3, v4, v5, v6, v7], (.int x :: st), w) := (zE_ (i := .iload_n 2) (by decide +kernel) _ _ _).trans rfl
theorem e154_61 (ls : List Value) (a b : Int32) (st : List Value) (w : zH) : zrun none (154, 61, ls, (.int b :: .int a :: st), w) = zrun none (154, 62, ls, (.int (a + b) :: st), w) := (zE_ (i := .iadd) (by decide +kernel) _ _ _).trans rfl
theorem e154_62 (ls st : List Value) (w : zH) : zrun none (154, 62, ls, st, w) = zrun none (154, 63, ls, (.int 2 :: st), w) := (zE_ (i := .iconst 2) (by decide +kernel) _ _ _).trans rfl
theorem e154_63 (v0 v1 v2 v3 v4 v5 v6 : Value) (x : Int32) (st : List Value) (w : zH) : zrun none (154, 63, [v0, v1, v2, v3, v4, v5, v6, .int x], st, w) = zrun none (154, 65, [v0, v1, v2, v3, v4, v5, v6, .int x], (.int x :: st), w) := (zE_ (i := .iload 7) (by decide +kernel) _ _ _).trans rfl
theorem e154_65 (ls : List Value) (a b : Int32) (st : List Value) (w : zH) : zrun none (154, 65, ls, (.int b :: .int a :: st), w) = zrun none (154, 66, ls, (.int (a * b) :: st), w) := (zE_ (i := .imul) (by decide +kernel) _ _ _).trans rfl
theorem e154_66 (ls : List Value) (a b : Int32) (st : List Value) (w : zH) : zrun none (154, 66, ls, (.int b :: .int a :: st), w) = zrun none (154, 67, ls, (.int (a + b) :: st), w) := (zE_ (i := .iadd) (by decide +kernel) _ _ _).trans rfl
theorem e154_67 (ls : List Value) (j : Int32) (a : Nat) (st : List Value) (w : zH) : zrun none (154, 67, ls, (.int j :: .ref a :: st), w) = zoi (zai w a 100 j) (fun x => zrun none (154, 68, ls, (.int x :: st), w)) := (zE_ (i := .iaload) (by decide +kernel) _ _ _).trans zq_iald
theorem e154_68 (ls : List Value) (a : Int32) (st : List Value) (w : zH) : zrun none (154, 68, ls, (.int a :: st), w) = zrun none (154, 69, ls, (.long a.toInt64 :: st), w) := (zE_ (i := .i2l) (by decide +kernel) _ _ _).trans rfl
theorem e154_69 (v0 v1 v2 v3 v5 v6 v7 : Value) (x : Int32) (st : List Value) (w : zH) : zrun none (154, 69, [v0, v1, v2, v3, .int x, v5, v6, v7], st, w) = zrun none (154, 71, [v0, v1, v2, v3, .int x, v5, v6, v7], (.int x :: st), w) := (zE_ (i := .iload 4) (by decide +kernel) _ _ _).trans rfl
theorem e154_71 (ls : List Value) (a : Int32) (st : List Value) (w : zH) : zrun none (154, 71, ls, (.int a :: st), w) = zrun none (154, 72, ls, (.long a.toInt64 :: st), w) := (zE_ (i := .i2l) (by decide +kernel) _ _ _).trans rfl
theorem e154_72 (v0 v1 v2 v3 v4 v6 v7 : Value) (x : Int32) (st : List Value) (w : zH) : zrun none (154, 72, [v0, v1, v2, v3, v4, .int x, v6, v7], st, w) = zrun none (154, 74, [v0, v1, v2, v3, v4, .int x, v6, v7], (.int x :: st), w) := (zE_ (i := .iload 5) (by decide +kernel) _ _ _).trans rfl
theorem e154_74 (ls : List Value) (a : Int32) (st : List Value) (w : zH) : zrun none (154, 74, ls, (.int a :: st), w) = zrun none (154, 75, ls, (.long a.toInt64 :: st), w) := (zE_ (i := .i2l) (by decide +kernel) _ _ _).trans rfl
theorem e154_75 (ls : List Value) (x0 : Int64) (x1 : Int64) (x2 : Int64) (st : List Value) (w : zH) (hr : zcat st ≤ 8) : zrun none (154, 75, ls, (.long x2 :: .long x1 :: .long x0 :: st), w) = zcl (zrun none (146, 0, [.long x0, zJ, .long x1, zJ, .long x2, zJ], [], w)) (fun r => zrun none (154, 78, ls, r.1.toList ++ st, r.2)) := by
  refine (zE_ (i := .invokestatic 146) (by decide +kernel) _ _ _).trans ?_
  show zres (if (99 : Nat) = 99 ∧ 3 ≤ ((.long x2 :: .long x1 :: .long x0 :: st) : List Value).length then zcall 146 [.long x0, .long x1, .long x2] st 154 75 ls w else none) = _
  rw [if_pos ⟨rfl, by simp⟩]
  exact zq_call hr (Nat.le_of_ble_eq_true rfl) rfl rfl
theorem e154_78 (ls : List Value) (a : Int32) (st : List Value) (w : zH) : zrun none (154, 78, ls, (.int a :: st), w) = if a = 0 then zrun none (154, 110, ls, st, w) else zrun none (154, 81, ls, st, w) := (zE_ (i := .ifCond .eq 32) (by decide +kernel) _ _ _).trans (zq_if_eq rfl rfl)
theorem e154_81 (v1 v2 v3 v4 v5 v6 v7 : Value) (x : Nat) (st : List Value) (w : zH) : zrun none (154, 81, [.ref x, v1, v2, v3, v4, v5, v6, v7], st, w) = zrun none (154, 82, [.ref x, v1, v2, v3, v4, v5, v6, v7], (.ref x :: st), w) := (zE_ (i := .aload_n 0) (by decide +kernel) _ _ _).trans rfl
theorem e154_82 (ls : List Value) (a : Nat) (st : List Value) (w : zH) : zrun none (154, 82, ls, (.ref a :: st), w) = zo (zf w a 1204) (fun x => zrun none (154, 85, ls, (x :: st), w)) := (zE_ (i := .getfield 1204) (by decide +kernel) _ _ _).trans zq_getf
theorem e154_85 (ls st : List Value) (w : zH) : zrun none (154, 85, ls, st, w) = zrun none (154, 87, ls, (.int 100 :: st), w) := (zE_ (i := .bipush 100) (by decide +kernel) _ _ _).trans rfl
theorem e154_87 (v0 v2 v3 v4 v5 v6 v7 : Value) (x : Int32) (st : List Value) (w : zH) : zrun none (154, 87, [v0, .int x, v2, v3, v4, v5, v6, v7], st, w) = zrun none (154, 88, [v0, .int x, v2, v3, v4, v5, v6, v7], (.int x :: st), w) := (zE_ (i := .iload_n 1) (by decide +kernel) _ _ _).trans rfl
theorem e154_88 (ls : List Value) (a b : Int32) (st : List Value) (w : zH) : zrun none (154, 88, ls, (.int b :: .int a :: st), w) = zrun none (154, 89, ls, (.int (a * b) :: st), w) := (zE_ (i := .imul) (by decide +kernel) _ _ _).trans rfl
theorem e154_89 (v0 v1 v3 v4 v5 v6 v7 : Value) (x : Int32) (st : List Value) (w : zH) : zrun none (154, 89, [v0, v1, .int x, v3, v4, v5, v6, v7], st, w) = zrun none (154, 90, [v0, v1, .int x, v3, v4, v5, v6, v7], (.int x :: st), w) := (zE_ (i := .iload_n 2) (by decide +kernel) _ _ _).trans rfl
theorem e154_90 (ls : List Value) (a b : Int32) (st : List Value) (w : zH) : zrun none (154, 90, ls, (.int b :: .int a :: st), w) = zrun none (154, 91, ls, (.int (a + b) :: st), w) := (zE_ (i := .iadd) (by decide +kernel) _ _ _).trans rfl
theorem e154_91 (ls st : List Value) (w : zH) : zrun none (154, 91, ls, st, w) = zrun none (154, 92, ls, (.int 2 :: st), w) := (zE_ (i := .iconst 2) (by decide +kernel) _ _ _).trans rfl
theorem e154_92 (v0 v1 v2 v3 v4 v5 v6 : Value) (x : Int32) (st : List Value) (w : zH) : zrun none (154, 92, [v0, v1, v2, v3, v4, v5, v6, .int x], st, w) = zrun none (154, 94, [v0, v1, v2, v3, v4, v5, v6, .int x], (.int x :: st), w) := (zE_ (i := .iload 7) (by decide +kernel) _ _ _).trans rfl
theorem e154_94 (ls : List Value) (a b : Int32) (st : List Value) (w : zH) : zrun none (154, 94, ls, (.int b :: .int a :: st), w) = zrun none (154, 95, ls, (.int (a * b) :: st), w) := (zE_ (i := .imul) (by decide +kernel) _ _ _).trans rfl
theorem e154_95 (ls : List Value) (a b : Int32) (st : List Value) (w : zH) : zrun none (154, 95, ls, (.int b :: .int a :: st), w) = zrun none (154, 96, ls, (.int (a + b) :: st), w) := (zE_ (i := .iadd) (by decide +kernel) _ _ _).trans rfl
theorem e154_96 (ls st : List Value) (w : zH) : zrun none (154, 96, ls, st, w) = zrun none (154, 97, ls, (.int 1 :: st), w) := (zE_ (i := .iconst 1) (by decide +kernel) _ _ _).trans rfl
theorem e154_97 (ls : List Value) (a b : Int32) (st : List Value) (w : zH) : zrun none (154, 97, ls, (.int b :: .int a :: st), w) = zrun none (154, 98, ls, (.int (a + b) :: st), w) := (zE_ (i := .iadd) (by decide +kernel) _ _ _).trans rfl
theorem e154_98 (ls : List Value) (j : Int32) (a : Nat) (st : List Value) (w : zH) : zrun none (154, 98, ls, (.int j :: .ref a :: st), w) = zoi (zai w a 100 j) (fun x => zrun none (154, 99, ls, (.int x :: st), w)) := (zE_ (i := .iaload) (by decide +kernel) _ _ _).trans zq_iald
theorem e154_99 (ls : List Value) (a : Int32) (st : List Value) (w : zH) : zrun none (154, 99, ls, (.int a :: st), w) = zrun none (154, 100, ls, (.long a.toInt64 :: st), w) := (zE_ (i := .i2l) (by decide +kernel) _ _ _).trans rfl
theorem e154_100 (ls st : List Value) (w : zH) : zrun none (154, 100, ls, st, w) = zrun none (154, 101, ls, (.long 0 :: st), w) := (zE_ (i := .lconst 0) (by decide +kernel) _ _ _).trans rfl
theorem e154_101 (v0 v1 v2 v3 v4 v5 v7 : Value) (x : Int32) (st : List Value) (w : zH) : zrun none (154, 101, [v0, v1, v2, v3, v4, v5, .int x, v7], st, w) = zrun none (154, 103, [v0, v1, v2, v3, v4, v5, .int x, v7], (.int x :: st), w) := (zE_ (i := .iload 6) (by decide +kernel) _ _ _).trans rfl
theorem e154_103 (ls : List Value) (a : Int32) (st : List Value) (w : zH) : zrun none (154, 103, ls, (.int a :: st), w) = zrun none (154, 104, ls, (.long a.toInt64 :: st), w) := (zE_ (i := .i2l) (by decide +kernel) _ _ _).trans rfl
theorem e154_104 (ls : List Value) (x0 : Int64) (x1 : Int64) (x2 : Int64) (st : List Value) (w : zH) (hr : zcat st ≤ 8) : zrun none (154, 104, ls, (.long x2 :: .long x1 :: .long x0 :: st), w) = zcl (zrun none (146, 0, [.long x0, zJ, .long x1, zJ, .long x2, zJ], [], w)) (fun r => zrun none (154, 107, ls, r.1.toList ++ st, r.2)) := by
  refine (zE_ (i := .invokestatic 146) (by decide +kernel) _ _ _).trans ?_
  show zres (if (99 : Nat) = 99 ∧ 3 ≤ ((.long x2 :: .long x1 :: .long x0 :: st) : List Value).length then zcall 146 [.long x0, .long x1, .long x2] st 154 104 ls w else none) = _
  rw [if_pos ⟨rfl, by simp⟩]
  exact zq_call hr (Nat.le_of_ble_eq_true rfl) rfl rfl
theorem e154_107 (ls : List Value) (a : Int32) (st : List Value) (w : zH) : zrun none (154, 107, ls, (.int a :: st), w) = if a = 0 then zrun none (154, 110, ls, st, w) else zrun none (154, 113, ls, st, w) := (zE_ (i := .ifCond .ne 6) (by decide +kernel) _ _ _).trans (zq_if_ne rfl rfl)
theorem e154_110 (ls st : List Value) (w : zH) : zrun none (154, 110, ls, st, w) = zrun none (154, 112, ls, (.int (-1000001) :: st), w) := (zE_ (i := .bipush (-1000001)) (by decide +kernel) _ _ _).trans rfl
theorem e154_112 (ls : List Value) (x : Int32) (w : zH) : zrun none (154, 112, ls, [.int x], w) = some (some (.int x), w) := by
  refine (zE_ (i := .ireturn) (by decide +kernel) _ _ _).trans ?_
  show zres (if narrow .int (.int x) = .int x then _ else none) = _
  rw [if_pos (show narrow .int (.int x) = .int x from rfl)]
  rfl
theorem e154_113 (v0 v1 v2 v3 v4 v5 v6 : Value) (x : Int32) (st : List Value) (w : zH) : zrun none (154, 113, [v0, v1, v2, v3, v4, v5, v6, .int x], st, w) = zrun none (154, 116, [v0, v1, v2, v3, v4, v5, v6, .int (x + 1)], st, w) := (zE_ (i := .iinc 7 1) (by decide +kernel) _ _ _).trans rfl
theorem e154_116 (ls st : List Value) (w : zH) : zrun none (154, 116, ls, st, w) = zrun none (154, 46, ls, st, w) := (zE_ (i := .goto (-70)) (by decide +kernel) _ _ _).trans rfl
theorem e154_119 (v1 v2 v3 v4 v5 v6 v7 : Value) (x : Nat) (st : List Value) (w : zH) : zrun none (154, 119, [.ref x, v1, v2, v3, v4, v5, v6, v7], st, w) = zrun none (154, 120, [.ref x, v1, v2, v3, v4, v5, v6, v7], (.ref x :: st), w) := (zE_ (i := .aload_n 0) (by decide +kernel) _ _ _).trans rfl
theorem e154_120 (ls st : List Value) (w : zH) : zrun none (154, 120, ls, st, w) = zrun none (154, 121, ls, (.int 0 :: st), w) := (zE_ (i := .iconst 0) (by decide +kernel) _ _ _).trans rfl
theorem e154_121 (ls : List Value) (x : Int32) (a : Nat) (st : List Value) (w : zH) : zrun none (154, 121, ls, (.int x :: .ref a :: st), w) = zgd (a < zX ∧ (zf w a 1201).isSome = true) (zrun none (154, 124, ls, st, zpf w a 1201 (.int x))) := by
  refine (zE_ (i := .putfield 1201) (by decide +kernel) _ _ _).trans ?_
  by_cases hg : a < zX ∧ (zf w a 1201).isSome = true
  · rw [zgd_pos hg]
    obtain ⟨ha, h⟩ := hg
    exact zq_putf ha h rfl rfl
  · rw [zgd_neg hg]
    exact zq_putf_no (fun h1 h2 h3 => hg ⟨h1, h2⟩)
theorem e154_124 (ls st : List Value) (w : zH) : zrun none (154, 124, ls, st, w) = zrun none (154, 125, ls, (.int 0 :: st), w) := (zE_ (i := .iconst 0) (by decide +kernel) _ _ _).trans rfl
theorem e154_125 (ls : List Value) (x : Int32) (w : zH) : zrun none (154, 125, ls, [.int x], w) = some (some (.int x), w) := by
  refine (zE_ (i := .ireturn) (by decide +kernel) _ _ _).trans ?_
  show zres (if narrow .int (.int x) = .int x then _ else none) = _
  rw [if_pos (show narrow .int (.int x) = .int x from rfl)]
  rfl
theorem e155_0 (x : Int32) (st : List Value) (w : zH) : zrun none (155, 0, [.int x], st, w) = zrun none (155, 1, [.int x], (.int x :: st), w) := (zE_ (i := .iload_n 0) (by decide +kernel) _ _ _).trans rfl
theorem e155_1 (ls : List Value) (a : Int32) (st : List Value) (w : zH) : zrun none (155, 1, ls, (.int a :: st), w) = zrun none (155, 2, ls, (.long a.toInt64 :: st), w) := (zE_ (i := .i2l) (by decide +kernel) _ _ _).trans rfl
theorem e155_2 (ls st : List Value) (w : zH) : zrun none (155, 2, ls, st, w) = zrun none (155, 3, ls, (.long 0 :: st), w) := (zE_ (i := .lconst 0) (by decide +kernel) _ _ _).trans rfl
theorem e155_3 (ls st : List Value) (w : zH) : zrun none (155, 3, ls, st, w) = zrun none (155, 6, ls, (.long 99999 :: st), w) := (zE_ (i := .ldc2_w 99999) (by decide +kernel) _ _ _).trans rfl
theorem e155_6 (ls : List Value) (x0 : Int64) (x1 : Int64) (x2 : Int64) (st : List Value) (w : zH) (hr : zcat st ≤ 8) : zrun none (155, 6, ls, (.long x2 :: .long x1 :: .long x0 :: st), w) = zcl (zrun none (146, 0, [.long x0, zJ, .long x1, zJ, .long x2, zJ], [], w)) (fun r => zrun none (155, 9, ls, r.1.toList ++ st, r.2)) := by
  refine (zE_ (i := .invokestatic 146) (by decide +kernel) _ _ _).trans ?_
  show zres (if (99 : Nat) = 99 ∧ 3 ≤ ((.long x2 :: .long x1 :: .long x0 :: st) : List Value).length then zcall 146 [.long x0, .long x1, .long x2] st 155 6 ls w else none) = _
  rw [if_pos ⟨rfl, by simp⟩]
  exact zq_call hr (Nat.le_of_ble_eq_true rfl) rfl rfl
theorem e155_9 (ls : List Value) (x : Int32) (w : zH) (h : narrow .boolean (.int x) = .int x) : zrun none (155, 9, ls, [.int x], w) = some (some (.int x), w) := by
  refine (zE_ (i := .ireturn) (by decide +kernel) _ _ _).trans ?_
  show zres (if narrow .boolean (.int x) = .int x then _ else none) = _
  rw [if_pos h]
  rfl
theorem e156_0 (v0 : Value) (x : Int32) (st : List Value) (w : zH) : zrun none (156, 0, [v0, .int x], st, w) = zrun none (156, 1, [v0, .int x], (.int x :: st), w) := (zE_ (i := .iload_n 1) (by decide +kernel) _ _ _).trans rfl
theorem e156_1 (ls : List Value) (a : Int32) (st : List Value) (w : zH) : zrun none (156, 1, ls, (.int a :: st), w) = zrun none (156, 2, ls, (.long a.toInt64 :: st), w) := (zE_ (i := .i2l) (by decide +kernel) _ _ _).trans rfl
theorem e156_2 (ls st : List Value) (w : zH) : zrun none (156, 2, ls, st, w) = zrun none (156, 3, ls, (.long 0 :: st), w) := (zE_ (i := .lconst 0) (by decide +kernel) _ _ _).trans rfl
theorem e156_3 (v1 : Value) (x : Nat) (st : List Value) (w : zH) : zrun none (156, 3, [.ref x, v1], st, w) = zrun none (156, 4, [.ref x, v1], (.ref x :: st), w) := (zE_ (i := .aload_n 0) (by decide +kernel) _ _ _).trans rfl
theorem e156_4 (ls : List Value) (a : Nat) (st : List Value) (w : zH) : zrun none (156, 4, ls, (.ref a :: st), w) = zo (zf w a 1205) (fun x => zrun none (156, 7, ls, (x :: st), w)) := (zE_ (i := .getfield 1205) (by decide +kernel) _ _ _).trans zq_getf
theorem e156_7 (ls st : List Value) (w : zH) : zrun none (156, 7, ls, st, w) = zrun none (156, 8, ls, (.int 1 :: st), w) := (zE_ (i := .iconst 1) (by decide +kernel) _ _ _).trans rfl
theorem e156_8 (ls : List Value) (a b : Int32) (st : List Value) (w : zH) : zrun none (156, 8, ls, (.int b :: .int a :: st), w) = zrun none (156, 9, ls, (.int (a - b) :: st), w) := (zE_ (i := .isub) (by decide +kernel) _ _ _).trans rfl
theorem e156_9 (ls : List Value) (a : Int32) (st : List Value) (w : zH) : zrun none (156, 9, ls, (.int a :: st), w) = zrun none (156, 10, ls, (.long a.toInt64 :: st), w) := (zE_ (i := .i2l) (by decide +kernel) _ _ _).trans rfl
theorem e156_10 (ls : List Value) (x0 : Int64) (x1 : Int64) (x2 : Int64) (st : List Value) (w : zH) (hr : zcat st ≤ 8) : zrun none (156, 10, ls, (.long x2 :: .long x1 :: .long x0 :: st), w) = zcl (zrun none (146, 0, [.long x0, zJ, .long x1, zJ, .long x2, zJ], [], w)) (fun r => zrun none (156, 13, ls, r.1.toList ++ st, r.2)) := by
  refine (zE_ (i := .invokestatic 146) (by decide +kernel) _ _ _).trans ?_
  show zres (if (99 : Nat) = 99 ∧ 3 ≤ ((.long x2 :: .long x1 :: .long x0 :: st) : List Value).length then zcall 146 [.long x0, .long x1, .long x2] st 156 10 ls w else none) = _
  rw [if_pos ⟨rfl, by simp⟩]
  exact zq_call hr (Nat.le_of_ble_eq_true rfl) rfl rfl
theorem e156_13 (ls : List Value) (x : Int32) (w : zH) (h : narrow .boolean (.int x) = .int x) : zrun none (156, 13, ls, [.int x], w) = some (some (.int x), w) := by
  refine (zE_ (i := .ireturn) (by decide +kernel) _ _ _).trans ?_
  show zres (if narrow .boolean (.int x) = .int x then _ else none) = _
  rw [if_pos h]
  rfl
theorem e157_0 (x : Nat) (st : List Value) (w : zH) : zrun none (157, 0, [.ref x], st, w) = zrun none (157, 1, [.ref x], (.ref x :: st), w) := (zE_ (i := .aload_n 0) (by decide +kernel) _ _ _).trans rfl
theorem e157_1 (ls st : List Value) (w : zH) : zrun none (157, 1, ls, st, w) = zrun none (157, 2, ls, (.int 0 :: st), w) := (zE_ (i := .iconst 0) (by decide +kernel) _ _ _).trans rfl
theorem e157_2 (ls : List Value) (x : Int32) (a : Nat) (st : List Value) (w : zH) : zrun none (157, 2, ls, (.int x :: .ref a :: st), w) = zgd (a < zX ∧ (zf w a 1200).isSome = true) (zrun none (157, 5, ls, st, zpf w a 1200 (.int x))) := by
  refine (zE_ (i := .putfield 1200) (by decide +kernel) _ _ _).trans ?_
  by_cases hg : a < zX ∧ (zf w a 1200).isSome = true
  · rw [zgd_pos hg]
    obtain ⟨ha, h⟩ := hg
    exact zq_putf ha h rfl rfl
  · rw [zgd_neg hg]
    exact zq_putf_no (fun h1 h2 h3 => hg ⟨h1, h2⟩)
theorem e157_5 (x : Nat) (st : List Value) (w : zH) : zrun none (157, 5, [.ref x], st, w) = zrun none (157, 6, [.ref x], (.ref x :: st), w) := (zE_ (i := .aload_n 0) (by decide +kernel) _ _ _).trans rfl
theorem e157_6 (ls : List Value) (a : Nat) (st : List Value) (w : zH) : zrun none (157, 6, ls, (.ref a :: st), w) = zo (zf w a 1205) (fun x => zrun none (157, 9, ls, (x :: st), w)) := (zE_ (i := .getfield 1205) (by decide +kernel) _ _ _).trans zq_getf
theorem e157_9 (ls st : List Value) (w : zH) : zrun none (157, 9, ls, st, w) = zrun none (157, 11, ls, (.int 6 :: st), w) := (zE_ (i := .bipush 6) (by decide +kernel) _ _ _).trans rfl
theorem e157_11 (ls : List Value) (a b : Int32) (st : List Value) (w : zH) : zrun none (157, 11, ls, (.int b :: .int a :: st), w) = if a = b then zrun none (157, 14, ls, st, w) else zrun none (157, 17, ls, st, w) := (zE_ (i := .if_icmp .ne 6) (by decide +kernel) _ _ _).trans (zq_ic_ne rfl rfl)
theorem e157_14 (ls st : List Value) (w : zH) : zrun none (157, 14, ls, st, w) = zrun none (157, 16, ls, (.int (-1000003) :: st), w) := (zE_ (i := .bipush (-1000003)) (by decide +kernel) _ _ _).trans rfl
theorem e157_16 (ls : List Value) (x : Int32) (w : zH) : zrun none (157, 16, ls, [.int x], w) = some (some (.int x), w) := by
  refine (zE_ (i := .ireturn) (by decide +kernel) _ _ _).trans ?_
  show zres (if narrow .int (.int x) = .int x then _ else none) = _
  rw [if_pos (show narrow .int (.int x) = .int x from rfl)]
  rfl
theorem e157_17 (x : Nat) (st : List Value) (w : zH) : zrun none (157, 17, [.ref x], st, w) = zrun none (157, 18, [.ref x], (.ref x :: st), w) := (zE_ (i := .aload_n 0) (by decide +kernel) _ _ _).trans rfl
theorem e157_18 (ls : List Value) (x : Int32) (st : List Value) (w : zH) : zrun none (157, 18, ls, (.int x :: st), w) = zrun none (157, 19, ls, (.int x :: .int x :: st), w) := (zE_ (i := .dup) (by decide +kernel) _ _ _).trans rfl
theorem e157_18r (ls : List Value) (x : Nat) (st : List Value) (w : zH) : zrun none (157, 18, ls, (.ref x :: st), w) = zrun none (157, 19, ls, (.ref x :: .ref x :: st), w) := (zE_ (i := .dup) (by decide +kernel) _ _ _).trans rfl
theorem e157_19 (ls : List Value) (a : Nat) (st : List Value) (w : zH) : zrun none (157, 19, ls, (.ref a :: st), w) = zo (zf w a 1205) (fun x => zrun none (157, 22, ls, (x :: st), w)) := (zE_ (i := .getfield 1205) (by decide +kernel) _ _ _).trans zq_getf
theorem e157_22 (ls st : List Value) (w : zH) : zrun none (157, 22, ls, st, w) = zrun none (157, 23, ls, (.int 1 :: st), w) := (zE_ (i := .iconst 1) (by decide +kernel) _ _ _).trans rfl
theorem e157_23 (ls : List Value) (a b : Int32) (st : List Value) (w : zH) : zrun none (157, 23, ls, (.int b :: .int a :: st), w) = zrun none (157, 24, ls, (.int (a + b) :: st), w) := (zE_ (i := .iadd) (by decide +kernel) _ _ _).trans rfl
theorem e157_24 (ls : List Value) (x : Int32) (a : Nat) (st : List Value) (w : zH) : zrun none (157, 24, ls, (.int x :: .ref a :: st), w) = zgd (a < zX ∧ (zf w a 1205).isSome = true) (zrun none (157, 27, ls, st, zpf w a 1205 (.int x))) := by
  refine (zE_ (i := .putfield 1205) (by decide +kernel) _ _ _).trans ?_
  by_cases hg : a < zX ∧ (zf w a 1205).isSome = true
  · rw [zgd_pos hg]
    obtain ⟨ha, h⟩ := hg
    exact zq_putf ha h rfl rfl
  · rw [zgd_neg hg]
    exact zq_putf_no (fun h1 h2 h3 => hg ⟨h1, h2⟩)
theorem e157_27 (x : Nat) (st : List Value) (w : zH) : zrun none (157, 27, [.ref x], st, w) = zrun none (157, 28, [.ref x], (.ref x :: st), w) := (zE_ (i := .aload_n 0) (by decide +kernel) _ _ _).trans rfl
theorem e157_28 (ls : List Value) (a : Nat) (st : List Value) (w : zH) : zrun none (157, 28, ls, (.ref a :: st), w) = zo (zf w a 1205) (fun x => zrun none (157, 31, ls, (x :: st), w)) := (zE_ (i := .getfield 1205) (by decide +kernel) _ _ _).trans zq_getf
theorem e157_31 (ls st : List Value) (w : zH) : zrun none (157, 31, ls, st, w) = zrun none (157, 32, ls, (.int 1 :: st), w) := (zE_ (i := .iconst 1) (by decide +kernel) _ _ _).trans rfl
theorem e157_32 (ls : List Value) (a b : Int32) (st : List Value) (w : zH) : zrun none (157, 32, ls, (.int b :: .int a :: st), w) = zrun none (157, 33, ls, (.int (a - b) :: st), w) := (zE_ (i := .isub) (by decide +kernel) _ _ _).trans rfl
theorem e157_33 (ls : List Value) (x : Int32) (w : zH) : zrun none (157, 33, ls, [.int x], w) = some (some (.int x), w) := by
  refine (zE_ (i := .ireturn) (by decide +kernel) _ _ _).trans ?_
  show zres (if narrow .int (.int x) = .int x then _ else none) = _
  rw [if_pos (show narrow .int (.int x) = .int x from rfl)]
  rfl
theorem e158_0 (v1 v2 v3 v4 : Value) (x : Nat) (st : List Value) (w : zH) : zrun none (158, 0, [.ref x, v1, v2, v3, v4], st, w) = zrun none (158, 1, [.ref x, v1, v2, v3, v4], (.ref x :: st), w) := (zE_ (i := .aload_n 0) (by decide +kernel) _ _ _).trans rfl
theorem e158_1 (ls st : List Value) (w : zH) : zrun none (158, 1, ls, st, w) = zrun none (158, 2, ls, (.int 0 :: st), w) := (zE_ (i := .iconst 0) (by decide +kernel) _ _ _).trans rfl
theorem e158_2 (ls : List Value) (x : Int32) (a : Nat) (st : List Value) (w : zH) : zrun none (158, 2, ls, (.int x :: .ref a :: st), w) = zgd (a < zX ∧ (zf w a 1200).isSome = true) (zrun none (158, 5, ls, st, zpf w a 1200 (.int x))) := by
  refine (zE_ (i := .putfield 1200) (by decide +kernel) _ _ _).trans ?_
  by_cases hg : a < zX ∧ (zf w a 1200).isSome = true
  · rw [zgd_pos hg]
    obtain ⟨ha, h⟩ := hg
    exact zq_putf ha h rfl rfl
  · rw [zgd_neg hg]
    exact zq_putf_no (fun h1 h2 h3 => hg ⟨h1, h2⟩)
theorem e158_5 (v1 v2 v3 v4 : Value) (x : Nat) (st : List Value) (w : zH) : zrun none (158, 5, [.ref x, v1, v2, v3, v4], st, w) = zrun none (158, 6, [.ref x, v1, v2, v3, v4], (.ref x :: st), w) := (zE_ (i := .aload_n 0) (by decide +kernel) _ _ _).trans rfl
theorem e158_6 (v0 v2 v3 v4 : Value) (x : Int32) (st : List Value) (w : zH) : zrun none (158, 6, [v0, .int x, v2, v3, v4], st, w) = zrun none (158, 7, [v0, .int x, v2, v3, v4], (.int x :: st), w) := (zE_ (i := .iload_n 1) (by decide +kernel) _ _ _).trans rfl
theorem e158_7 (ls : List Value) (a : Nat) (x0 : Int32) (st : List Value) (w : zH) (hr : zcat st ≤ 8) : zrun none (158, 7, ls, (.int x0 :: .ref a :: st), w) = zgd (zis w a 12) (zcl (zrun none (156, 0, [.ref a, .int x0], [], w)) (fun r => zrun none (158, 10, ls, r.1.toList ++ st, r.2))) := by
  refine (zE_ (i := .invokevirtual 156) (by decide +kernel) _ _ _).trans ?_
  show zres (zinv none 156 158 7 ls (.int x0 :: .ref a :: st) w) = _
  unfold zinv
  show zres (if zrc none 156 w (.ref a) = true then zcall 156 [.ref a, .int x0] st 158 7 ls w else none) = _
  by_cases hc : zis w a 12
  · rw [if_pos (zrc_is hc (by decide +kernel)), zgd_pos hc]
    exact zq_call hr (Nat.le_of_ble_eq_true rfl) rfl rfl
  · rw [zgd_neg hc, if_neg (fun q => hc (zrc_of q (by decide +kernel)))]
    rfl
theorem e158_10 (ls : List Value) (a : Int32) (st : List Value) (w : zH) : zrun none (158, 10, ls, (.int a :: st), w) = if a = 0 then zrun none (158, 46, ls, st, w) else zrun none (158, 13, ls, st, w) := (zE_ (i := .ifCond .eq 36) (by decide +kernel) _ _ _).trans (zq_if_eq rfl rfl)
theorem e158_13 (v0 v1 v3 v4 : Value) (x : Int32) (st : List Value) (w : zH) : zrun none (158, 13, [v0, v1, .int x, v3, v4], st, w) = zrun none (158, 14, [v0, v1, .int x, v3, v4], (.int x :: st), w) := (zE_ (i := .iload_n 2) (by decide +kernel) _ _ _).trans rfl
theorem e158_14 (ls : List Value) (a : Int32) (st : List Value) (w : zH) : zrun none (158, 14, ls, (.int a :: st), w) = zrun none (158, 15, ls, (.long a.toInt64 :: st), w) := (zE_ (i := .i2l) (by decide +kernel) _ _ _).trans rfl
theorem e158_15 (ls st : List Value) (w : zH) : zrun none (158, 15, ls, st, w) = zrun none (158, 16, ls, (.long 0 :: st), w) := (zE_ (i := .lconst 0) (by decide +kernel) _ _ _).trans rfl
theorem e158_16 (ls st : List Value) (w : zH) : zrun none (158, 16, ls, st, w) = zrun none (158, 19, ls, (.long 3 :: st), w) := (zE_ (i := .ldc2_w 3) (by decide +kernel) _ _ _).trans rfl
theorem e158_19 (ls : List Value) (x0 : Int64) (x1 : Int64) (x2 : Int64) (st : List Value) (w : zH) (hr : zcat st ≤ 8) : zrun none (158, 19, ls, (.long x2 :: .long x1 :: .long x0 :: st), w) = zcl (zrun none (146, 0, [.long x0, zJ, .long x1, zJ, .long x2, zJ], [], w)) (fun r => zrun none (158, 22, ls, r.1.toList ++ st, r.2)) := by
  refine (zE_ (i := .invokestatic 146) (by decide +kernel) _ _ _).trans ?_
  show zres (if (99 : Nat) = 99 ∧ 3 ≤ ((.long x2 :: .long x1 :: .long x0 :: st) : List Value).length then zcall 146 [.long x0, .long x1, .long x2] st 158 19 ls w else none) = _
  rw [if_pos ⟨rfl, by simp⟩]
  exact zq_call hr (Nat.le_of_ble_eq_true rfl) rfl rfl
theorem e158_22 (ls : List Value) (a : Int32) (st : List Value) (w : zH) : zrun none (158, 22, ls, (.int a :: st), w) = if a = 0 then zrun none (158, 46, ls, st, w) else zrun none (158, 25, ls, st, w) := (zE_ (i := .ifCond .eq 24) (by decide +kernel) _ _ _).trans (zq_if_eq rfl rfl)
theorem e158_25 (v0 v1 v2 v4 : Value) (x : Int32) (st : List Value) (w : zH) : zrun none (158, 25, [v0, v1, v2, .int x, v4], st, w) = zrun none (158, 26, [v0, v1, v2, .int x, v4], (.int x :: st), w) := (zE_ (i := .iload_n 3) (by decide +kernel) _ _ _).trans rfl
theorem e158_26 (ls : List Value) (x0 : Int32) (st : List Value) (w : zH) (hr : zcat st ≤ 8) : zrun none (158, 26, ls, (.int x0 :: st), w) = zcl (zrun none (155, 0, [.int x0], [], w)) (fun r => zrun none (158, 29, ls, r.1.toList ++ st, r.2)) := by
  refine (zE_ (i := .invokestatic 155) (by decide +kernel) _ _ _).trans ?_
  show zres (if (99 : Nat) = 99 ∧ 1 ≤ ((.int x0 :: st) : List Value).length then zcall 155 [.int x0] st 158 26 ls w else none) = _
  rw [if_pos ⟨rfl, by simp⟩]
  exact zq_call hr (Nat.le_of_ble_eq_true rfl) rfl rfl
theorem e158_29 (ls : List Value) (a : Int32) (st : List Value) (w : zH) : zrun none (158, 29, ls, (.int a :: st), w) = if a = 0 then zrun none (158, 46, ls, st, w) else zrun none (158, 32, ls, st, w) := (zE_ (i := .ifCond .eq 17) (by decide +kernel) _ _ _).trans (zq_if_eq rfl rfl)
theorem e158_32 (v0 v1 v2 v3 : Value) (x : Int32) (st : List Value) (w : zH) : zrun none (158, 32, [v0, v1, v2, v3, .int x], st, w) = zrun none (158, 34, [v0, v1, v2, v3, .int x], (.int x :: st), w) := (zE_ (i := .iload 4) (by decide +kernel) _ _ _).trans rfl
theorem e158_34 (ls : List Value) (a : Int32) (st : List Value) (w : zH) : zrun none (158, 34, ls, (.int a :: st), w) = zrun none (158, 35, ls, (.long a.toInt64 :: st), w) := (zE_ (i := .i2l) (by decide +kernel) _ _ _).trans rfl
theorem e158_35 (v0 v1 v2 v4 : Value) (x : Int32) (st : List Value) (w : zH) : zrun none (158, 35, [v0, v1, v2, .int x, v4], st, w) = zrun none (158, 36, [v0, v1, v2, .int x, v4], (.int x :: st), w) := (zE_ (i := .iload_n 3) (by decide +kernel) _ _ _).trans rfl
theorem e158_36 (ls : List Value) (a : Int32) (st : List Value) (w : zH) : zrun none (158, 36, ls, (.int a :: st), w) = zrun none (158, 37, ls, (.long a.toInt64 :: st), w) := (zE_ (i := .i2l) (by decide +kernel) _ _ _).trans rfl
theorem e158_37 (ls st : List Value) (w : zH) : zrun none (158, 37, ls, st, w) = zrun none (158, 40, ls, (.long 99999 :: st), w) := (zE_ (i := .ldc2_w 99999) (by decide +kernel) _ _ _).trans rfl
theorem e158_40 (ls : List Value) (x0 : Int64) (x1 : Int64) (x2 : Int64) (st : List Value) (w : zH) (hr : zcat st ≤ 8) : zrun none (158, 40, ls, (.long x2 :: .long x1 :: .long x0 :: st), w) = zcl (zrun none (146, 0, [.long x0, zJ, .long x1, zJ, .long x2, zJ], [], w)) (fun r => zrun none (158, 43, ls, r.1.toList ++ st, r.2)) := by
  refine (zE_ (i := .invokestatic 146) (by decide +kernel) _ _ _).trans ?_
  show zres (if (99 : Nat) = 99 ∧ 3 ≤ ((.long x2 :: .long x1 :: .long x0 :: st) : List Value).length then zcall 146 [.long x0, .long x1, .long x2] st 158 40 ls w else none) = _
  rw [if_pos ⟨rfl, by simp⟩]
  exact zq_call hr (Nat.le_of_ble_eq_true rfl) rfl rfl
theorem e158_43 (ls : List Value) (a : Int32) (st : List Value) (w : zH) : zrun none (158, 43, ls, (.int a :: st), w) = if a = 0 then zrun none (158, 46, ls, st, w) else zrun none (158, 49, ls, st, w) := (zE_ (i := .ifCond .ne 6) (by decide +kernel) _ _ _).trans (zq_if_ne rfl rfl)
theorem e158_46 (ls st : List Value) (w : zH) : zrun none (158, 46, ls, st, w) = zrun none (158, 48, ls, (.int (-1000001) :: st), w) := (zE_ (i := .bipush (-1000001)) (by decide +kernel) _ _ _).trans rfl
theorem e158_48 (ls : List Value) (x : Int32) (w : zH) : zrun none (158, 48, ls, [.int x], w) = some (some (.int x), w) := by
  refine (zE_ (i := .ireturn) (by decide +kernel) _ _ _).trans ?_
  show zres (if narrow .int (.int x) = .int x then _ else none) = _
  rw [if_pos (show narrow .int (.int x) = .int x from rfl)]
  rfl
theorem e158_49 (v1 v2 v3 v4 : Value) (x : Nat) (st : List Value) (w : zH) : zrun none (158, 49, [.ref x, v1, v2, v3, v4], st, w) = zrun none (158, 50, [.ref x, v1, v2, v3, v4], (.ref x :: st), w) := (zE_ (i := .aload_n 0) (by decide +kernel) _ _ _).trans rfl
theorem e158_50 (ls : List Value) (a : Nat) (st : List Value) (w : zH) : zrun none (158, 50, ls, (.ref a :: st), w) = zo (zf w a 1206) (fun x => zrun none (158, 53, ls, (x :: st), w)) := (zE_ (i := .getfield 1206) (by decide +kernel) _ _ _).trans zq_getf
theorem e158_53 (ls st : List Value) (w : zH) : zrun none (158, 53, ls, st, w) = zrun none (158, 55, ls, (.int 30 :: st), w) := (zE_ (i := .bipush 30) (by decide +kernel) _ _ _).trans rfl
theorem e158_55 (ls : List Value) (a b : Int32) (st : List Value) (w : zH) : zrun none (158, 55, ls, (.int b :: .int a :: st), w) = if a = b then zrun none (158, 58, ls, st, w) else zrun none (158, 61, ls, st, w) := (zE_ (i := .if_icmp .ne 6) (by decide +kernel) _ _ _).trans (zq_ic_ne rfl rfl)
theorem e158_58 (ls st : List Value) (w : zH) : zrun none (158, 58, ls, st, w) = zrun none (158, 60, ls, (.int (-1000003) :: st), w) := (zE_ (i := .bipush (-1000003)) (by decide +kernel) _ _ _).trans rfl
theorem e158_60 (ls : List Value) (x : Int32) (w : zH) : zrun none (158, 60, ls, [.int x], w) = some (some (.int x), w) := by
  refine (zE_ (i := .ireturn) (by decide +kernel) _ _ _).trans ?_
  show zres (if narrow .int (.int x) = .int x then _ else none) = _
  rw [if_pos (show narrow .int (.int x) = .int x from rfl)]
  rfl
theorem e158_61 (v1 v2 v3 v4 : Value) (x : Nat) (st : List Value) (w : zH) : zrun none (158, 61, [.ref x, v1, v2, v3, v4], st, w) = zrun none (158, 62, [.ref x, v1, v2, v3, v4], (.ref x :: st), w) := (zE_ (i := .aload_n 0) (by decide +kernel) _ _ _).trans rfl
theorem e158_62 (ls : List Value) (a : Nat) (st : List Value) (w : zH) : zrun none (158, 62, ls, (.ref a :: st), w) = zo (zf w a 1207) (fun x => zrun none (158, 65, ls, (x :: st), w)) := (zE_ (i := .getfield 1207) (by decide +kernel) _ _ _).trans zq_getf
theorem e158_65 (v1 v2 v3 v4 : Value) (x : Nat) (st : List Value) (w : zH) : zrun none (158, 65, [.ref x, v1, v2, v3, v4], st, w) = zrun none (158, 66, [.ref x, v1, v2, v3, v4], (.ref x :: st), w) := (zE_ (i := .aload_n 0) (by decide +kernel) _ _ _).trans rfl
theorem e158_66 (ls : List Value) (a : Nat) (st : List Value) (w : zH) : zrun none (158, 66, ls, (.ref a :: st), w) = zo (zf w a 1206) (fun x => zrun none (158, 69, ls, (x :: st), w)) := (zE_ (i := .getfield 1206) (by decide +kernel) _ _ _).trans zq_getf
theorem e158_69 (v0 v2 v3 v4 : Value) (x : Int32) (st : List Value) (w : zH) : zrun none (158, 69, [v0, .int x, v2, v3, v4], st, w) = zrun none (158, 70, [v0, .int x, v2, v3, v4], (.int x :: st), w) := (zE_ (i := .iload_n 1) (by decide +kernel) _ _ _).trans rfl
theorem e158_70 (ls : List Value) (x j : Int32) (a : Nat) (st : List Value) (w : zH) : zrun none (158, 70, ls, (.int x :: .int j :: .ref a :: st), w) = zgd (zin? w a 100 j) (zrun none (158, 71, ls, st, zas w a j (.int x))) := by
  refine (zE_ (i := .iastore) (by decide +kernel) _ _ _).trans ?_
  by_cases hg : zin? w a 100 j
  · rw [zgd_pos hg]
    exact zq_iast hg
  · rw [zgd_neg hg]
    exact zq_iast_no hg
theorem e158_71 (v1 v2 v3 v4 : Value) (x : Nat) (st : List Value) (w : zH) : zrun none (158, 71, [.ref x, v1, v2, v3, v4], st, w) = zrun none (158, 72, [.ref x, v1, v2, v3, v4], (.ref x :: st), w) := (zE_ (i := .aload_n 0) (by decide +kernel) _ _ _).trans rfl
theorem e158_72 (ls : List Value) (a : Nat) (st : List Value) (w : zH) : zrun none (158, 72, ls, (.ref a :: st), w) = zo (zf w a 1208) (fun x => zrun none (158, 75, ls, (x :: st), w)) := (zE_ (i := .getfield 1208) (by decide +kernel) _ _ _).trans zq_getf
theorem e158_75 (v1 v2 v3 v4 : Value) (x : Nat) (st : List Value) (w : zH) : zrun none (158, 75, [.ref x, v1, v2, v3, v4], st, w) = zrun none (158, 76, [.ref x, v1, v2, v3, v4], (.ref x :: st), w) := (zE_ (i := .aload_n 0) (by decide +kernel) _ _ _).trans rfl
theorem e158_76 (ls : List Value) (a : Nat) (st : List Value) (w : zH) : zrun none (158, 76, ls, (.ref a :: st), w) = zo (zf w a 1206) (fun x => zrun none (158, 79, ls, (x :: st), w)) := (zE_ (i := .getfield 1206) (by decide +kernel) _ _ _).trans zq_getf
theorem e158_79 (v0 v1 v3 v4 : Value) (x : Int32) (st : List Value) (w : zH) : zrun none (158, 79, [v0, v1, .int x, v3, v4], st, w) = zrun none (158, 80, [v0, v1, .int x, v3, v4], (.int x :: st), w) := (zE_ (i := .iload_n 2) (by decide +kernel) _ _ _).trans rfl
theorem e158_80 (ls : List Value) (x j : Int32) (a : Nat) (st : List Value) (w : zH) : zrun none (158, 80, ls, (.int x :: .int j :: .ref a :: st), w) = zgd (zin? w a 100 j) (zrun none (158, 81, ls, st, zas w a j (.int x))) := by
  refine (zE_ (i := .iastore) (by decide +kernel) _ _ _).trans ?_
  by_cases hg : zin? w a 100 j
  · rw [zgd_pos hg]
    exact zq_iast hg
  · rw [zgd_neg hg]
    exact zq_iast_no hg
theorem e158_81 (v1 v2 v3 v4 : Value) (x : Nat) (st : List Value) (w : zH) : zrun none (158, 81, [.ref x, v1, v2, v3, v4], st, w) = zrun none (158, 82, [.ref x, v1, v2, v3, v4], (.ref x :: st), w) := (zE_ (i := .aload_n 0) (by decide +kernel) _ _ _).trans rfl
theorem e158_82 (ls : List Value) (a : Nat) (st : List Value) (w : zH) : zrun none (158, 82, ls, (.ref a :: st), w) = zo (zf w a 1209) (fun x => zrun none (158, 85, ls, (x :: st), w)) := (zE_ (i := .getfield 1209) (by decide +kernel) _ _ _).trans zq_getf
theorem e158_85 (v1 v2 v3 v4 : Value) (x : Nat) (st : List Value) (w : zH) : zrun none (158, 85, [.ref x, v1, v2, v3, v4], st, w) = zrun none (158, 86, [.ref x, v1, v2, v3, v4], (.ref x :: st), w) := (zE_ (i := .aload_n 0) (by decide +kernel) _ _ _).trans rfl
theorem e158_86 (ls : List Value) (a : Nat) (st : List Value) (w : zH) : zrun none (158, 86, ls, (.ref a :: st), w) = zo (zf w a 1206) (fun x => zrun none (158, 89, ls, (x :: st), w)) := (zE_ (i := .getfield 1206) (by decide +kernel) _ _ _).trans zq_getf
theorem e158_89 (v0 v1 v2 v4 : Value) (x : Int32) (st : List Value) (w : zH) : zrun none (158, 89, [v0, v1, v2, .int x, v4], st, w) = zrun none (158, 90, [v0, v1, v2, .int x, v4], (.int x :: st), w) := (zE_ (i := .iload_n 3) (by decide +kernel) _ _ _).trans rfl
theorem e158_90 (ls : List Value) (x j : Int32) (a : Nat) (st : List Value) (w : zH) : zrun none (158, 90, ls, (.int x :: .int j :: .ref a :: st), w) = zgd (zin? w a 100 j) (zrun none (158, 91, ls, st, zas w a j (.int x))) := by
  refine (zE_ (i := .iastore) (by decide +kernel) _ _ _).trans ?_
  by_cases hg : zin? w a 100 j
  · rw [zgd_pos hg]
    exact zq_iast hg
  · rw [zgd_neg hg]
    exact zq_iast_no hg
theorem e158_91 (v1 v2 v3 v4 : Value) (x : Nat) (st : List Value) (w : zH) : zrun none (158, 91, [.ref x, v1, v2, v3, v4], st, w) = zrun none (158, 92, [.ref x, v1, v2, v3, v4], (.ref x :: st), w) := (zE_ (i := .aload_n 0) (by decide +kernel) _ _ _).trans rfl
theorem e158_92 (ls : List Value) (a : Nat) (st : List Value) (w : zH) : zrun none (158, 92, ls, (.ref a :: st), w) = zo (zf w a 1210) (fun x => zrun none (158, 95, ls, (x :: st), w)) := (zE_ (i := .getfield 1210) (by decide +kernel) _ _ _).trans zq_getf
theorem e158_95 (v1 v2 v3 v4 : Value) (x : Nat) (st : List Value) (w : zH) : zrun none (158, 95, [.ref x, v1, v2, v3, v4], st, w) = zrun none (158, 96, [.ref x, v1, v2, v3, v4], (.ref x :: st), w) := (zE_ (i := .aload_n 0) (by decide +kernel) _ _ _).trans rfl
theorem e158_96 (ls : List Value) (a : Nat) (st : List Value) (w : zH) : zrun none (158, 96, ls, (.ref a :: st), w) = zo (zf w a 1206) (fun x => zrun none (158, 99, ls, (x :: st), w)) := (zE_ (i := .getfield 1206) (by decide +kernel) _ _ _).trans zq_getf
theorem e158_99 (v0 v1 v2 v3 : Value) (x : Int32) (st : List Value) (w : zH) : zrun none (158, 99, [v0, v1, v2, v3, .int x], st, w) = zrun none (158, 101, [v0, v1, v2, v3, .int x], (.int x :: st), w) := (zE_ (i := .iload 4) (by decide +kernel) _ _ _).trans rfl
theorem e158_101 (ls : List Value) (x j : Int32) (a : Nat) (st : List Value) (w : zH) : zrun none (158, 101, ls, (.int x :: .int j :: .ref a :: st), w) = zgd (zin? w a 100 j) (zrun none (158, 102, ls, st, zas w a j (.int x))) := by
  refine (zE_ (i := .iastore) (by decide +kernel) _ _ _).trans ?_
  by_cases hg : zin? w a 100 j
  · rw [zgd_pos hg]
    exact zq_iast hg
  · rw [zgd_neg hg]
    exact zq_iast_no hg
theorem e158_102 (v1 v2 v3 v4 : Value) (x : Nat) (st : List Value) (w : zH) : zrun none (158, 102, [.ref x, v1, v2, v3, v4], st, w) = zrun none (158, 103, [.ref x, v1, v2, v3, v4], (.ref x :: st), w) := (zE_ (i := .aload_n 0) (by decide +kernel) _ _ _).trans rfl
theorem e158_103 (ls : List Value) (x : Int32) (st : List Value) (w : zH) : zrun none (158, 103, ls, (.int x :: st), w) = zrun none (158, 104, ls, (.int x :: .int x :: st), w) := (zE_ (i := .dup) (by decide +kernel) _ _ _).trans rfl
theorem e158_103r (ls : List Value) (x : Nat) (st : List Value) (w : zH) : zrun none (158, 103, ls, (.ref x :: st), w) = zrun none (158, 104, ls, (.ref x :: .ref x :: st), w) := (zE_ (i := .dup) (by decide +kernel) _ _ _).trans rfl
theorem e158_104 (ls : List Value) (a : Nat) (st : List Value) (w : zH) : zrun none (158, 104, ls, (.ref a :: st), w) = zo (zf w a 1206) (fun x => zrun none (158, 107, ls, (x :: st), w)) := (zE_ (i := .getfield 1206) (by decide +kernel) _ _ _).trans zq_getf
theorem e158_107 (ls st : List Value) (w : zH) : zrun none (158, 107, ls, st, w) = zrun none (158, 108, ls, (.int 1 :: st), w) := (zE_ (i := .iconst 1) (by decide +kernel) _ _ _).trans rfl
theorem e158_108 (ls : List Value) (a b : Int32) (st : List Value) (w : zH) : zrun none (158, 108, ls, (.int b :: .int a :: st), w) = zrun none (158, 109, ls, (.int (a + b) :: st), w) := (zE_ (i := .iadd) (by decide +kernel) _ _ _).trans rfl
theorem e158_109 (ls : List Value) (x : Int32) (a : Nat) (st : List Value) (w : zH) : zrun none (158, 109, ls, (.int x :: .ref a :: st), w) = zgd (a < zX ∧ (zf w a 1206).isSome = true) (zrun none (158, 112, ls, st, zpf w a 1206 (.int x))) := by
  refine (zE_ (i := .putfield 1206) (by decide +kernel) _ _ _).trans ?_
  by_cases hg : a < zX ∧ (zf w a 1206).isSome = true
  · rw [zgd_pos hg]
    obtain ⟨ha, h⟩ := hg
    exact zq_putf ha h rfl rfl
  · rw [zgd_neg hg]
    exact zq_putf_no (fun h1 h2 h3 => hg ⟨h1, h2⟩)
theorem e158_112 (v1 v2 v3 v4 : Value) (x : Nat) (st : List Value) (w : zH) : zrun none (158, 112, [.ref x, v1, v2, v3, v4], st, w) = zrun none (158, 113, [.ref x, v1, v2, v3, v4], (.ref x :: st), w) := (zE_ (i := .aload_n 0) (by decide +kernel) _ _ _).trans rfl
theorem e158_113 (ls : List Value) (a : Nat) (st : List Value) (w : zH) : zrun none (158, 113, ls, (.ref a :: st), w) = zo (zf w a 1206) (fun x => zrun none (158, 116, ls, (x :: st), w)) := (zE_ (i := .getfield 1206) (by decide +kernel) _ _ _).trans zq_getf
theorem e158_116 (ls : List Value) (x : Int32) (w : zH) : zrun none (158, 116, ls, [.int x], w) = some (some (.int x), w) := by
  refine (zE_ (i := .ireturn) (by decide +kernel) _ _ _).trans ?_
  show zres (if narrow .int (.int x) = .int x then _ else none) = _
  rw [if_pos (show narrow .int (.int x) = .int x from rfl)]
  rfl
theorem e159_0 (ls st : List Value) (w : zH) : zrun none (159, 0, ls, st, w) = zrun none (159, 2, ls, (.int (-1000000) :: st), w) := (zE_ (i := .bipush (-1000000)) (by decide +kernel) _ _ _).trans rfl
theorem e159_2 (v0 v1 v2 v3 v4 v5 : Value) (x : Int32) (st : List Value) (w : zH) (h : v3.category = 1) : zrun none (159, 2, [v0, v1, v2, v3, v4, v5], (.int x :: st), w) = zrun none (159, 4, [v0, v1, v2, v3, .int x, v5], st, w) := by
  refine (zE_ (i := .istore 4) (by decide +kernel) _ _ _).trans ?_
  have hz : zfree [v0, v1, v2, v3, v4, v5] 4 = true := by show decide (v3.category = 1) = true; exact decide_eq_true h
  show zres (zst zint 4 2 159 2 [v0, v1, v2, v3, v4, v5] (.int x :: st) w) = _
  unfold zst
  dsimp only
  rw [if_pos ⟨rfl, Nat.le_of_ble_eq_true rfl, hz⟩]
  rfl
theorem e159_4 (ls st : List Value) (w : zH) : zrun none (159, 4, ls, st, w) = zrun none (159, 5, ls, (.int 0 :: st), w) := (zE_ (i := .iconst 0) (by decide +kernel) _ _ _).trans rfl
theorem e159_5 (v0 v1 v2 v3 v4 v5 : Value) (x : Int32) (st : List Value) (w : zH) (h : v4.category = 1) : zrun none (159, 5, [v0, v1, v2, v3, v4, v5], (.int x :: st), w) = zrun none (159, 7, [v0, v1, v2, v3, v4, .int x], st, w) := by
  refine (zE_ (i := .istore 5) (by decide +kernel) _ _ _).trans ?_
  have hz : zfree [v0, v1, v2, v3, v4, v5] 5 = true := by show decide (v4.category = 1) = true; exact decide_eq_true h
  show zres (zst zint 5 2 159 5 [v0, v1, v2, v3, v4, v5] (.int x :: st) w) = _
  unfold zst
  dsimp only
  rw [if_pos ⟨rfl, Nat.le_of_ble_eq_true rfl, hz⟩]
  rfl
theorem e159_7 (v0 v1 v2 v3 v4 : Value) (x : Int32) (st : List Value) (w : zH) : zrun none (159, 7, [v0, v1, v2, v3, v4, .int x], st, w) = zrun none (159, 9, [v0, v1, v2, v3, v4, .int x], (.int x :: st), w) := (zE_ (i := .iload 5) (by decide +kernel) _ _ _).trans rfl
theorem e159_9 (v1 v2 v3 v4 v5 : Value) (x : Nat) (st : List Value) (w : zH) : zrun none (159, 9, [.ref x, v1, v2, v3, v4, v5], st, w) = zrun none (159, 10, [.ref x, v1, v2, v3, v4, v5], (.ref x :: st), w) := (zE_ (i := .aload_n 0) (by decide +kernel) _ _ _).trans rfl
theorem e159_10 (ls : List Value) (a : Nat) (st : List Value) (w : zH) : zrun none (159, 10, ls, (.ref a :: st), w) = zo (zf w a 1206) (fun x => zrun none (159, 13, ls, (x :: st), w)) := (zE_ (i := .getfield 1206) (by decide +kernel) _ _ _).trans zq_getf
theorem e159_13 (ls : List Value) (a b : Int32) (st : List Value) (w : zH) : zrun none (159, 13, ls, (.int b :: .int a :: st), w) = if b ≤ a then zrun none (159, 88, ls, st, w) else zrun none (159, 16, ls, st, w) := (zE_ (i := .if_icmp .ge 75) (by decide +kernel) _ _ _).trans (zq_ic_ge rfl rfl)
theorem e159_16 (v1 v2 v3 v4 v5 : Value) (x : Nat) (st : List Value) (w : zH) : zrun none (159, 16, [.ref x, v1, v2, v3, v4, v5], st, w) = zrun none (159, 17, [.ref x, v1, v2, v3, v4, v5], (.ref x :: st), w) := (zE_ (i := .aload_n 0) (by decide +kernel) _ _ _).trans rfl
theorem e159_17 (ls : List Value) (a : Nat) (st : List Value) (w : zH) : zrun none (159, 17, ls, (.ref a :: st), w) = zo (zf w a 1207) (fun x => zrun none (159, 20, ls, (x :: st), w)) := (zE_ (i := .getfield 1207) (by decide +kernel) _ _ _).trans zq_getf
theorem e159_20 (v0 v1 v2 v3 v4 : Value) (x : Int32) (st : List Value) (w : zH) : zrun none (159, 20, [v0, v1, v2, v3, v4, .int x], st, w) = zrun none (159, 22, [v0, v1, v2, v3, v4, .int x], (.int x :: st), w) := (zE_ (i := .iload 5) (by decide +kernel) _ _ _).trans rfl
theorem e159_22 (ls : List Value) (j : Int32) (a : Nat) (st : List Value) (w : zH) : zrun none (159, 22, ls, (.int j :: .ref a :: st), w) = zoi (zai w a 100 j) (fun x => zrun none (159, 23, ls, (.int x :: st), w)) := (zE_ (i := .iaload) (by decide +kernel) _ _ _).trans zq_iald
theorem e159_23 (v0 v2 v3 v4 v5 : Value) (x : Int32) (st : List Value) (w : zH) : zrun none (159, 23, [v0, .int x, v2, v3, v4, v5], st, w) = zrun none (159, 24, [v0, .int x, v2, v3, v4, v5], (.int x :: st), w) := (zE_ (i := .iload_n 1) (by decide +kernel) _ _ _).trans rfl
theorem e159_24 (ls : List Value) (a b : Int32) (st : List Value) (w : zH) : zrun none (159, 24, ls, (.int b :: .int a :: st), w) = if a = b then zrun none (159, 27, ls, st, w) else zrun none (159, 82, ls, st, w) := (zE_ (i := .if_icmp .ne 58) (by decide +kernel) _ _ _).trans (zq_ic_ne rfl rfl)
theorem e159_27 (v1 v2 v3 v4 v5 : Value) (x : Nat) (st : List Value) (w : zH) : zrun none (159, 27, [.ref x, v1, v2, v3, v4, v5], st, w) = zrun none (159, 28, [.ref x, v1, v2, v3, v4, v5], (.ref x :: st), w) := (zE_ (i := .aload_n 0) (by decide +kernel) _ _ _).trans rfl
theorem e159_28 (ls : List Value) (a : Nat) (st : List Value) (w : zH) : zrun none (159, 28, ls, (.ref a :: st), w) = zo (zf w a 1210) (fun x => zrun none (159, 31, ls, (x :: st), w)) := (zE_ (i := .getfield 1210) (by decide +kernel) _ _ _).trans zq_getf
theorem e159_31 (v0 v1 v2 v3 v4 : Value) (x : Int32) (st : List Value) (w : zH) : zrun none (159, 31, [v0, v1, v2, v3, v4, .int x], st, w) = zrun none (159, 33, [v0, v1, v2, v3, v4, .int x], (.int x :: st), w) := (zE_ (i := .iload 5) (by decide +kernel) _ _ _).trans rfl
theorem e159_33 (ls : List Value) (j : Int32) (a : Nat) (st : List Value) (w : zH) : zrun none (159, 33, ls, (.int j :: .ref a :: st), w) = zoi (zai w a 100 j) (fun x => zrun none (159, 34, ls, (.int x :: st), w)) := (zE_ (i := .iaload) (by decide +kernel) _ _ _).trans zq_iald
theorem e159_34 (v0 v1 v2 v4 v5 : Value) (x : Int32) (st : List Value) (w : zH) : zrun none (159, 34, [v0, v1, v2, .int x, v4, v5], st, w) = zrun none (159, 35, [v0, v1, v2, .int x, v4, v5], (.int x :: st), w) := (zE_ (i := .iload_n 3) (by decide +kernel) _ _ _).trans rfl
theorem e159_35 (ls : List Value) (a b : Int32) (st : List Value) (w : zH) : zrun none (159, 35, ls, (.int b :: .int a :: st), w) = if b < a then zrun none (159, 82, ls, st, w) else zrun none (159, 38, ls, st, w) := (zE_ (i := .if_icmp .gt 47) (by decide +kernel) _ _ _).trans (zq_ic_gt rfl rfl)
theorem e159_38 (v1 v2 v3 v4 v5 : Value) (x : Nat) (st : List Value) (w : zH) : zrun none (159, 38, [.ref x, v1, v2, v3, v4, v5], st, w) = zrun none (159, 39, [.ref x, v1, v2, v3, v4, v5], (.ref x :: st), w) := (zE_ (i := .aload_n 0) (by decide +kernel) _ _ _).trans rfl
theorem e159_39 (ls : List Value) (a : Nat) (st : List Value) (w : zH) : zrun none (159, 39, ls, (.ref a :: st), w) = zo (zf w a 1209) (fun x => zrun none (159, 42, ls, (x :: st), w)) := (zE_ (i := .getfield 1209) (by decide +kernel) _ _ _).trans zq_getf
theorem e159_42 (v0 v1 v2 v3 v4 : Value) (x : Int32) (st : List Value) (w : zH) : zrun none (159, 42, [v0, v1, v2, v3, v4, .int x], st, w) = zrun none (159, 44, [v0, v1, v2, v3, v4, .int x], (.int x :: st), w) := (zE_ (i := .iload 5) (by decide +kernel) _ _ _).trans rfl
theorem e159_44 (ls : List Value) (j : Int32) (a : Nat) (st : List Value) (w : zH) : zrun none (159, 44, ls, (.int j :: .ref a :: st), w) = zoi (zai w a 100 j) (fun x => zrun none (159, 45, ls, (.int x :: st), w)) := (zE_ (i := .iaload) (by decide +kernel) _ _ _).trans zq_iald
theorem e159_45 (v0 v1 v3 v4 v5 : Value) (x : Int32) (st : List Value) (w : zH) : zrun none (159, 45, [v0, v1, .int x, v3, v4, v5], st, w) = zrun none (159, 46, [v0, v1, .int x, v3, v4, v5], (.int x :: st), w) := (zE_ (i := .iload_n 2) (by decide +kernel) _ _ _).trans rfl
theorem e159_46 (ls : List Value) (a b : Int32) (st : List Value) (w : zH) : zrun none (159, 46, ls, (.int b :: .int a :: st), w) = if b < a then zrun none (159, 82, ls, st, w) else zrun none (159, 49, ls, st, w) := (zE_ (i := .if_icmp .gt 36) (by decide +kernel) _ _ _).trans (zq_ic_gt rfl rfl)
theorem e159_49 (v0 v1 v2 v3 v5 : Value) (x : Int32) (st : List Value) (w : zH) : zrun none (159, 49, [v0, v1, v2, v3, .int x, v5], st, w) = zrun none (159, 51, [v0, v1, v2, v3, .int x, v5], (.int x :: st), w) := (zE_ (i := .iload 4) (by decide +kernel) _ _ _).trans rfl
theorem e159_51 (ls st : List Value) (w : zH) : zrun none (159, 51, ls, st, w) = zrun none (159, 53, ls, (.int (-1000000) :: st), w) := (zE_ (i := .bipush (-1000000)) (by decide +kernel) _ _ _).trans rfl
theorem e159_53 (ls : List Value) (a b : Int32) (st : List Value) (w : zH) : zrun none (159, 53, ls, (.int b :: .int a :: st), w) = if a = b then zrun none (159, 73, ls, st, w) else zrun none (159, 56, ls, st, w) := (zE_ (i := .if_icmp .eq 20) (by decide +kernel) _ _ _).trans (zq_ic_eq rfl rfl)
theorem e159_56 (v1 v2 v3 v4 v5 : Value) (x : Nat) (st : List Value) (w : zH) : zrun none (159, 56, [.ref x, v1, v2, v3, v4, v5], st, w) = zrun none (159, 57, [.ref x, v1, v2, v3, v4, v5], (.ref x :: st), w) := (zE_ (i := .aload_n 0) (by decide +kernel) _ _ _).trans rfl
theorem e159_57 (ls : List Value) (a : Nat) (st : List Value) (w : zH) : zrun none (159, 57, ls, (.ref a :: st), w) = zo (zf w a 1209) (fun x => zrun none (159, 60, ls, (x :: st), w)) := (zE_ (i := .getfield 1209) (by decide +kernel) _ _ _).trans zq_getf
theorem e159_60 (v0 v1 v2 v3 v4 : Value) (x : Int32) (st : List Value) (w : zH) : zrun none (159, 60, [v0, v1, v2, v3, v4, .int x], st, w) = zrun none (159, 62, [v0, v1, v2, v3, v4, .int x], (.int x :: st), w) := (zE_ (i := .iload 5) (by decide +kernel) _ _ _).trans rfl
theorem e159_62 (ls : List Value) (j : Int32) (a : Nat) (st : List Value) (w : zH) : zrun none (159, 62, ls, (.int j :: .ref a :: st), w) = zoi (zai w a 100 j) (fun x => zrun none (159, 63, ls, (.int x :: st), w)) := (zE_ (i := .iaload) (by decide +kernel) _ _ _).trans zq_iald
theorem e159_63 (v1 v2 v3 v4 v5 : Value) (x : Nat) (st : List Value) (w : zH) : zrun none (159, 63, [.ref x, v1, v2, v3, v4, v5], st, w) = zrun none (159, 64, [.ref x, v1, v2, v3, v4, v5], (.ref x :: st), w) := (zE_ (i := .aload_n 0) (by decide +kernel) _ _ _).trans rfl
theorem e159_64 (ls : List Value) (a : Nat) (st : List Value) (w : zH) : zrun none (159, 64, ls, (.ref a :: st), w) = zo (zf w a 1209) (fun x => zrun none (159, 67, ls, (x :: st), w)) := (zE_ (i := .getfield 1209) (by decide +kernel) _ _ _).trans zq_getf
theorem e159_67 (v0 v1 v2 v3 v5 : Value) (x : Int32) (st : List Value) (w : zH) : zrun none (159, 67, [v0, v1, v2, v3, .int x, v5], st, w) = zrun none (159, 69, [v0, v1, v2, v3, .int x, v5], (.int x :: st), w) := (zE_ (i := .iload 4) (by decide +kernel) _ _ _).trans rfl
theorem e159_69 (ls : List Value) (j : Int32) (a : Nat) (st : List Value) (w : zH) : zrun none (159, 69, ls, (.int j :: .ref a :: st), w) = zoi (zai w a 100 j) (fun x => zrun none (159, 70, ls, (.int x :: st), w)) := (zE_ (i := .iaload) (by decide +kernel) _ _ _).trans zq_iald
theorem e159_70 (ls : List Value) (a b : Int32) (st : List Value) (w : zH) : zrun none (159, 70, ls, (.int b :: .int a :: st), w) = if a < b then zrun none (159, 78, ls, st, w) else zrun none (159, 73, ls, st, w) := (zE_ (i := .if_icmp .lt 8) (by decide +kernel) _ _ _).trans (zq_ic_lt rfl rfl)
theorem e159_73 (v0 v1 v2 v3 v4 : Value) (x : Int32) (st : List Value) (w : zH) : zrun none (159, 73, [v0, v1, v2, v3, v4, .int x], st, w) = zrun none (159, 75, [v0, v1, v2, v3, v4, .int x], (.int x :: st), w) := (zE_ (i := .iload 5) (by decide +kernel) _ _ _).trans rfl
theorem e159_75 (ls st : List Value) (w : zH) : zrun none (159, 75, ls, st, w) = zrun none (159, 80, ls, st, w) := (zE_ (i := .goto 5) (by decide +kernel) _ _ _).trans rfl
theorem e159_78 (v0 v1 v2 v3 v5 : Value) (x : Int32) (st : List Value) (w : zH) : zrun none (159, 78, [v0, v1, v2, v3, .int x, v5], st, w) = zrun none (159, 80, [v0, v1, v2, v3, .int x, v5], (.int x :: st), w) := (zE_ (i := .iload 4) (by decide +kernel) _ _ _).trans rfl
theorem e159_80 (v0 v1 v2 v3 v4 v5 : Value) (x : Int32) (st : List Value) (w : zH) (h : v3.category = 1) : zrun none (159, 80, [v0, v1, v2, v3, v4, v5], (.int x :: st), w) = zrun none (159, 82, [v0, v1, v2, v3, .int x, v5], st, w) := by
  refine (zE_ (i := .istore 4) (by decide +kernel) _ _ _).trans ?_
  have hz : zfree [v0, v1, v2, v3, v4, v5] 4 = true := by show decide (v3.category = 1) = true; exact decide_eq_true h
  show zres (zst zint 4 2 159 80 [v0, v1, v2, v3, v4, v5] (.int x :: st) w) = _
  unfold zst
  dsimp only
  rw [if_pos ⟨rfl, Nat.le_of_ble_eq_true rfl, hz⟩]
  rfl
theorem e159_82 (v0 v1 v2 v3 v4 : Value) (x : Int32) (st : List Value) (w : zH) : zrun none (159, 82, [v0, v1, v2, v3, v4, .int x], st, w) = zrun none (159, 85, [v0, v1, v2, v3, v4, .int (x + 1)], st, w) := (zE_ (i := .iinc 5 1) (by decide +kernel) _ _ _).trans rfl
theorem e159_85 (ls st : List Value) (w : zH) : zrun none (159, 85, ls, st, w) = zrun none (159, 7, ls, st, w) := (zE_ (i := .goto (-78)) (by decide +kernel) _ _ _).trans rfl
theorem e159_88 (v0 v1 v2 v3 v5 : Value) (x : Int32) (st : List Value) (w : zH) : zrun none (159, 88, [v0, v1, v2, v3, .int x, v5], st, w) = zrun none (159, 90, [v0, v1, v2, v3, .int x, v5], (.int x :: st), w) := (zE_ (i := .iload 4) (by decide +kernel) _ _ _).trans rfl
theorem e159_90 (ls st : List Value) (w : zH) : zrun none (159, 90, ls, st, w) = zrun none (159, 92, ls, (.int (-1000000) :: st), w) := (zE_ (i := .bipush (-1000000)) (by decide +kernel) _ _ _).trans rfl
theorem e159_92 (ls : List Value) (a b : Int32) (st : List Value) (w : zH) : zrun none (159, 92, ls, (.int b :: .int a :: st), w) = if a = b then zrun none (159, 95, ls, st, w) else zrun none (159, 99, ls, st, w) := (zE_ (i := .if_icmp .ne 7) (by decide +kernel) _ _ _).trans (zq_ic_ne rfl rfl)
theorem e159_95 (ls st : List Value) (w : zH) : zrun none (159, 95, ls, st, w) = zrun none (159, 96, ls, (.int 0 :: st), w) := (zE_ (i := .iconst 0) (by decide +kernel) _ _ _).trans rfl
theorem e159_96 (ls st : List Value) (w : zH) : zrun none (159, 96, ls, st, w) = zrun none (159, 106, ls, st, w) := (zE_ (i := .goto 10) (by decide +kernel) _ _ _).trans rfl
theorem e159_99 (v1 v2 v3 v4 v5 : Value) (x : Nat) (st : List Value) (w : zH) : zrun none (159, 99, [.ref x, v1, v2, v3, v4, v5], st, w) = zrun none (159, 100, [.ref x, v1, v2, v3, v4, v5], (.ref x :: st), w) := (zE_ (i := .aload_n 0) (by decide +kernel) _ _ _).trans rfl
theorem e159_100 (ls : List Value) (a : Nat) (st : List Value) (w : zH) : zrun none (159, 100, ls, (.ref a :: st), w) = zo (zf w a 1208) (fun x => zrun none (159, 103, ls, (x :: st), w)) := (zE_ (i := .getfield 1208) (by decide +kernel) _ _ _).trans zq_getf
theorem e159_103 (v0 v1 v2 v3 v5 : Value) (x : Int32) (st : List Value) (w : zH) : zrun none (159, 103, [v0, v1, v2, v3, .int x, v5], st, w) = zrun none (159, 105, [v0, v1, v2, v3, .int x, v5], (.int x :: st), w) := (zE_ (i := .iload 4) (by decide +kernel) _ _ _).trans rfl
theorem e159_105 (ls : List Value) (j : Int32) (a : Nat) (st : List Value) (w : zH) : zrun none (159, 105, ls, (.int j :: .ref a :: st), w) = zoi (zai w a 100 j) (fun x => zrun none (159, 106, ls, (.int x :: st), w)) := (zE_ (i := .iaload) (by decide +kernel) _ _ _).trans zq_iald
theorem e159_106 (ls : List Value) (x : Int32) (w : zH) : zrun none (159, 106, ls, [.int x], w) = some (some (.int x), w) := by
  refine (zE_ (i := .ireturn) (by decide +kernel) _ _ _).trans ?_
  show zres (if narrow .int (.int x) = .int x then _ else none) = _
  rw [if_pos (show narrow .int (.int x) = .int x from rfl)]
  rfl
theorem e160_0 (v1 v2 v3 : Value) (x : Nat) (st : List Value) (w : zH) : zrun none (160, 0, [.ref x, v1, v2, v3], st, w) = zrun none (160, 1, [.ref x, v1, v2, v3], (.ref x :: st), w) := (zE_ (i := .aload_n 0) (by decide +kernel) _ _ _).trans rfl
theorem e160_1 (ls st : List Value) (w : zH) : zrun none (160, 1, ls, st, w) = zrun none (160, 2, ls, (.int 0 :: st), w) := (zE_ (i := .iconst 0) (by decide +kernel) _ _ _).trans rfl
theorem e160_2 (ls : List Value) (x : Int32) (a : Nat) (st : List Value) (w : zH) : zrun none (160, 2, ls, (.int x :: .ref a :: st), w) = zgd (a < zX ∧ (zf w a 1200).isSome = true) (zrun none (160, 5, ls, st, zpf w a 1200 (.int x))) := by
  refine (zE_ (i := .putfield 1200) (by decide +kernel) _ _ _).trans ?_
  by_cases hg : a < zX ∧ (zf w a 1200).isSome = true
  · rw [zgd_pos hg]
    obtain ⟨ha, h⟩ := hg
    exact zq_putf ha h rfl rfl
  · rw [zgd_neg hg]
    exact zq_putf_no (fun h1 h2 h3 => hg ⟨h1, h2⟩)
theorem e160_5 (v1 v2 v3 : Value) (x : Nat) (st : List Value) (w : zH) : zrun none (160, 5, [.ref x, v1, v2, v3], st, w) = zrun none (160, 6, [.ref x, v1, v2, v3], (.ref x :: st), w) := (zE_ (i := .aload_n 0) (by decide +kernel) _ _ _).trans rfl
theorem e160_6 (v0 v2 v3 : Value) (x : Int32) (st : List Value) (w : zH) : zrun none (160, 6, [v0, .int x, v2, v3], st, w) = zrun none (160, 7, [v0, .int x, v2, v3], (.int x :: st), w) := (zE_ (i := .iload_n 1) (by decide +kernel) _ _ _).trans rfl
theorem e160_7 (ls : List Value) (a : Nat) (x0 : Int32) (st : List Value) (w : zH) (hr : zcat st ≤ 8) : zrun none (160, 7, ls, (.int x0 :: .ref a :: st), w) = zgd (zis w a 12) (zcl (zrun none (156, 0, [.ref a, .int x0], [], w)) (fun r => zrun none (160, 10, ls, r.1.toList ++ st, r.2))) := by
  refine (zE_ (i := .invokevirtual 156) (by decide +kernel) _ _ _).trans ?_
  show zres (zinv none 156 160 7 ls (.int x0 :: .ref a :: st) w) = _
  unfold zinv
  show zres (if zrc none 156 w (.ref a) = true then zcall 156 [.ref a, .int x0] st 160 7 ls w else none) = _
  by_cases hc : zis w a 12
  · rw [if_pos (zrc_is hc (by decide +kernel)), zgd_pos hc]
    exact zq_call hr (Nat.le_of_ble_eq_true rfl) rfl rfl
  · rw [zgd_neg hc, if_neg (fun q => hc (zrc_of q (by decide +kernel)))]
    rfl
theorem e160_10 (ls : List Value) (a : Int32) (st : List Value) (w : zH) : zrun none (160, 10, ls, (.int a :: st), w) = if a = 0 then zrun none (160, 27, ls, st, w) else zrun none (160, 13, ls, st, w) := (zE_ (i := .ifCond .eq 17) (by decide +kernel) _ _ _).trans (zq_if_eq rfl rfl)
theorem e160_13 (v0 v1 v3 : Value) (x : Int32) (st : List Value) (w : zH) : zrun none (160, 13, [v0, v1, .int x, v3], st, w) = zrun none (160, 14, [v0, v1, .int x, v3], (.int x :: st), w) := (zE_ (i := .iload_n 2) (by decide +kernel) _ _ _).trans rfl
theorem e160_14 (ls : List Value) (x0 : Int32) (st : List Value) (w : zH) (hr : zcat st ≤ 8) : zrun none (160, 14, ls, (.int x0 :: st), w) = zcl (zrun none (155, 0, [.int x0], [], w)) (fun r => zrun none (160, 17, ls, r.1.toList ++ st, r.2)) := by
  refine (zE_ (i := .invokestatic 155) (by decide +kernel) _ _ _).trans ?_
  show zres (if (99 : Nat) = 99 ∧ 1 ≤ ((.int x0 :: st) : List Value).length then zcall 155 [.int x0] st 160 14 ls w else none) = _
  rw [if_pos ⟨rfl, by simp⟩]
  exact zq_call hr (Nat.le_of_ble_eq_true rfl) rfl rfl
theorem e160_17 (ls : List Value) (a : Int32) (st : List Value) (w : zH) : zrun none (160, 17, ls, (.int a :: st), w) = if a = 0 then zrun none (160, 27, ls, st, w) else zrun none (160, 20, ls, st, w) := (zE_ (i := .ifCond .eq 10) (by decide +kernel) _ _ _).trans (zq_if_eq rfl rfl)
theorem e160_20 (v0 v1 v2 : Value) (x : Int32) (st : List Value) (w : zH) : zrun none (160, 20, [v0, v1, v2, .int x], st, w) = zrun none (160, 21, [v0, v1, v2, .int x], (.int x :: st), w) := (zE_ (i := .iload_n 3) (by decide +kernel) _ _ _).trans rfl
theorem e160_21 (ls : List Value) (x0 : Int32) (st : List Value) (w : zH) (hr : zcat st ≤ 8) : zrun none (160, 21, ls, (.int x0 :: st), w) = zcl (zrun none (155, 0, [.int x0], [], w)) (fun r => zrun none (160, 24, ls, r.1.toList ++ st, r.2)) := by
  refine (zE_ (i := .invokestatic 155) (by decide +kernel) _ _ _).trans ?_
  show zres (if (99 : Nat) = 99 ∧ 1 ≤ ((.int x0 :: st) : List Value).length then zcall 155 [.int x0] st 160 21 ls w else none) = _
  rw [if_pos ⟨rfl, by simp⟩]
  exact zq_call hr (Nat.le_of_ble_eq_true rfl) rfl rfl
theorem e160_24 (ls : List Value) (a : Int32) (st : List Value) (w : zH) : zrun none (160, 24, ls, (.int a :: st), w) = if a = 0 then zrun none (160, 27, ls, st, w) else zrun none (160, 32, ls, st, w) := (zE_ (i := .ifCond .ne 8) (by decide +kernel) _ _ _).trans (zq_if_ne rfl rfl)
theorem e160_27 (ls st : List Value) (w : zH) : zrun none (160, 27, ls, st, w) = zrun none (160, 29, ls, (.int (-1000001) :: st), w) := (zE_ (i := .bipush (-1000001)) (by decide +kernel) _ _ _).trans rfl
theorem e160_29 (ls st : List Value) (w : zH) : zrun none (160, 29, ls, st, w) = zrun none (160, 39, ls, st, w) := (zE_ (i := .goto 10) (by decide +kernel) _ _ _).trans rfl
theorem e160_32 (v1 v2 v3 : Value) (x : Nat) (st : List Value) (w : zH) : zrun none (160, 32, [.ref x, v1, v2, v3], st, w) = zrun none (160, 33, [.ref x, v1, v2, v3], (.ref x :: st), w) := (zE_ (i := .aload_n 0) (by decide +kernel) _ _ _).trans rfl
theorem e160_33 (v0 v2 v3 : Value) (x : Int32) (st : List Value) (w : zH) : zrun none (160, 33, [v0, .int x, v2, v3], st, w) = zrun none (160, 34, [v0, .int x, v2, v3], (.int x :: st), w) := (zE_ (i := .iload_n 1) (by decide +kernel) _ _ _).trans rfl
theorem e160_34 (v0 v1 v3 : Value) (x : Int32) (st : List Value) (w : zH) : zrun none (160, 34, [v0, v1, .int x, v3], st, w) = zrun none (160, 35, [v0, v1, .int x, v3], (.int x :: st), w) := (zE_ (i := .iload_n 2) (by decide +kernel) _ _ _).trans rfl
theorem e160_35 (v0 v1 v2 : Value) (x : Int32) (st : List Value) (w : zH) : zrun none (160, 35, [v0, v1, v2, .int x], st, w) = zrun none (160, 36, [v0, v1, v2, .int x], (.int x :: st), w) := (zE_ (i := .iload_n 3) (by decide +kernel) _ _ _).trans rfl
theorem e160_36 (ls : List Value) (a : Nat) (x0 : Int32) (x1 : Int32) (x2 : Int32) (st : List Value) (w : zH) (hr : zcat st ≤ 8) : zrun none (160, 36, ls, (.int x2 :: .int x1 :: .int x0 :: .ref a :: st), w) = zgd (zis w a 12) (zcl (zrun none (159, 0, [.ref a, .int x0, .int x1, .int x2, zJ, zJ], [], w)) (fun r => zrun none (160, 39, ls, r.1.toList ++ st, r.2))) := by
  refine (zE_ (i := .invokevirtual 159) (by decide +kernel) _ _ _).trans ?_
  show zres (zinv none 159 160 36 ls (.int x2 :: .int x1 :: .int x0 :: .ref a :: st) w) = _
  unfold zinv
  show zres (if zrc none 159 w (.ref a) = true then zcall 159 [.ref a, .int x0, .int x1, .int x2] st 160 36 ls w else none) = _
  by_cases hc : zis w a 12
  · rw [if_pos (zrc_is hc (by decide +kernel)), zgd_pos hc]
    exact zq_call hr (Nat.le_of_ble_eq_true rfl) rfl rfl
  · rw [zgd_neg hc, if_neg (fun q => hc (zrc_of q (by decide +kernel)))]
    rfl
theorem e160_39 (ls : List Value) (x : Int32) (w : zH) : zrun none (160, 39, ls, [.int x], w) = some (some (.int x), w) := by
  refine (zE_ (i := .ireturn) (by decide +kernel) _ _ _).trans ?_
  show zres (if narrow .int (.int x) = .int x then _ else none) = _
  rw [if_pos (show narrow .int (.int x) = .int x from rfl)]
  rfl
theorem e161_0 (v1 v2 v3 v4 : Value) (x : Nat) (st : List Value) (w : zH) : zrun none (161, 0, [.ref x, v1, v2, v3, v4], st, w) = zrun none (161, 1, [.ref x, v1, v2, v3, v4], (.ref x :: st), w) := (zE_ (i := .aload_n 0) (by decide +kernel) _ _ _).trans rfl
theorem e161_1 (ls st : List Value) (w : zH) : zrun none (161, 1, ls, st, w) = zrun none (161, 2, ls, (.int 0 :: st), w) := (zE_ (i := .iconst 0) (by decide +kernel) _ _ _).trans rfl
theorem e161_2 (ls : List Value) (x : Int32) (a : Nat) (st : List Value) (w : zH) : zrun none (161, 2, ls, (.int x :: .ref a :: st), w) = zgd (a < zX ∧ (zf w a 1200).isSome = true) (zrun none (161, 5, ls, st, zpf w a 1200 (.int x))) := by
  refine (zE_ (i := .putfield 1200) (by decide +kernel) _ _ _).trans ?_
  by_cases hg : a < zX ∧ (zf w a 1200).isSome = true
  · rw [zgd_pos hg]
    obtain ⟨ha, h⟩ := hg
    exact zq_putf ha h rfl rfl
  · rw [zgd_neg hg]
    exact zq_putf_no (fun h1 h2 h3 => hg ⟨h1, h2⟩)
theorem e161_5 (v1 v2 v3 v4 : Value) (x : Nat) (st : List Value) (w : zH) : zrun none (161, 5, [.ref x, v1, v2, v3, v4], st, w) = zrun none (161, 6, [.ref x, v1, v2, v3, v4], (.ref x :: st), w) := (zE_ (i := .aload_n 0) (by decide +kernel) _ _ _).trans rfl
theorem e161_6 (v0 v2 v3 v4 : Value) (x : Int32) (st : List Value) (w : zH) : zrun none (161, 6, [v0, .int x, v2, v3, v4], st, w) = zrun none (161, 7, [v0, .int x, v2, v3, v4], (.int x :: st), w) := (zE_ (i := .iload_n 1) (by decide +kernel) _ _ _).trans rfl
theorem e161_7 (ls : List Value) (a : Nat) (x0 : Int32) (st : List Value) (w : zH) (hr : zcat st ≤ 8) : zrun none (161, 7, ls, (.int x0 :: .ref a :: st), w) = zgd (zis w a 12) (zcl (zrun none (156, 0, [.ref a, .int x0], [], w)) (fun r => zrun none (161, 10, ls, r.1.toList ++ st, r.2))) := by
  refine (zE_ (i := .invokevirtual 156) (by decide +kernel) _ _ _).trans ?_
  show zres (zinv none 156 161 7 ls (.int x0 :: .ref a :: st) w) = _
  unfold zinv
  show zres (if zrc none 156 w (.ref a) = true then zcall 156 [.ref a, .int x0] st 161 7 ls w else none) = _
  by_cases hc : zis w a 12
  · rw [if_pos (zrc_is hc (by decide +kernel)), zgd_pos hc]
    exact zq_call hr (Nat.le_of_ble_eq_true rfl) rfl rfl
  · rw [zgd_neg hc, if_neg (fun q => hc (zrc_of q (by decide +kernel)))]
    rfl
theorem e161_10 (ls : List Value) (a : Int32) (st : List Value) (w : zH) : zrun none (161, 10, ls, (.int a :: st), w) = if a = 0 then zrun none (161, 52, ls, st, w) else zrun none (161, 13, ls, st, w) := (zE_ (i := .ifCond .eq 42) (by decide +kernel) _ _ _).trans (zq_if_eq rfl rfl)
theorem e161_13 (v0 v1 v3 v4 : Value) (x : Int32) (st : List Value) (w : zH) : zrun none (161, 13, [v0, v1, .int x, v3, v4], st, w) = zrun none (161, 14, [v0, v1, .int x, v3, v4], (.int x :: st), w) := (zE_ (i := .iload_n 2) (by decide +kernel) _ _ _).trans rfl
theorem e161_14 (ls : List Value) (a : Int32) (st : List Value) (w : zH) : zrun none (161, 14, ls, (.int a :: st), w) = zrun none (161, 15, ls, (.long a.toInt64 :: st), w) := (zE_ (i := .i2l) (by decide +kernel) _ _ _).trans rfl
theorem e161_15 (ls st : List Value) (w : zH) : zrun none (161, 15, ls, st, w) = zrun none (161, 16, ls, (.long 0 :: st), w) := (zE_ (i := .lconst 0) (by decide +kernel) _ _ _).trans rfl
theorem e161_16 (ls st : List Value) (w : zH) : zrun none (161, 16, ls, st, w) = zrun none (161, 19, ls, (.long 4 :: st), w) := (zE_ (i := .ldc2_w 4) (by decide +kernel) _ _ _).trans rfl
theorem e161_19 (ls : List Value) (x0 : Int64) (x1 : Int64) (x2 : Int64) (st : List Value) (w : zH) (hr : zcat st ≤ 8) : zrun none (161, 19, ls, (.long x2 :: .long x1 :: .long x0 :: st), w) = zcl (zrun none (146, 0, [.long x0, zJ, .long x1, zJ, .long x2, zJ], [], w)) (fun r => zrun none (161, 22, ls, r.1.toList ++ st, r.2)) := by
  refine (zE_ (i := .invokestatic 146) (by decide +kernel) _ _ _).trans ?_
  show zres (if (99 : Nat) = 99 ∧ 3 ≤ ((.long x2 :: .long x1 :: .long x0 :: st) : List Value).length then zcall 146 [.long x0, .long x1, .long x2] st 161 19 ls w else none) = _
  rw [if_pos ⟨rfl, by simp⟩]
  exact zq_call hr (Nat.le_of_ble_eq_true rfl) rfl rfl
theorem e161_22 (ls : List Value) (a : Int32) (st : List Value) (w : zH) : zrun none (161, 22, ls, (.int a :: st), w) = if a = 0 then zrun none (161, 52, ls, st, w) else zrun none (161, 25, ls, st, w) := (zE_ (i := .ifCond .eq 30) (by decide +kernel) _ _ _).trans (zq_if_eq rfl rfl)
theorem e161_25 (v0 v1 v2 v4 : Value) (x : Int32) (st : List Value) (w : zH) : zrun none (161, 25, [v0, v1, v2, .int x, v4], st, w) = zrun none (161, 26, [v0, v1, v2, .int x, v4], (.int x :: st), w) := (zE_ (i := .iload_n 3) (by decide +kernel) _ _ _).trans rfl
theorem e161_26 (ls : List Value) (a : Int32) (st : List Value) (w : zH) : zrun none (161, 26, ls, (.int a :: st), w) = zrun none (161, 27, ls, (.long a.toInt64 :: st), w) := (zE_ (i := .i2l) (by decide +kernel) _ _ _).trans rfl
theorem e161_27 (ls st : List Value) (w : zH) : zrun none (161, 27, ls, st, w) = zrun none (161, 30, ls, (.long 1000 :: st), w) := (zE_ (i := .ldc2_w 1000) (by decide +kernel) _ _ _).trans rfl
theorem e161_30 (ls st : List Value) (w : zH) : zrun none (161, 30, ls, st, w) = zrun none (161, 33, ls, (.long 1999 :: st), w) := (zE_ (i := .ldc2_w 1999) (by decide +kernel) _ _ _).trans rfl
theorem e161_33 (ls : List Value) (x0 : Int64) (x1 : Int64) (x2 : Int64) (st : List Value) (w : zH) (hr : zcat st ≤ 8) : zrun none (161, 33, ls, (.long x2 :: .long x1 :: .long x0 :: st), w) = zcl (zrun none (146, 0, [.long x0, zJ, .long x1, zJ, .long x2, zJ], [], w)) (fun r => zrun none (161, 36, ls, r.1.toList ++ st, r.2)) := by
  refine (zE_ (i := .invokestatic 146) (by decide +kernel) _ _ _).trans ?_
  show zres (if (99 : Nat) = 99 ∧ 3 ≤ ((.long x2 :: .long x1 :: .long x0 :: st) : List Value).length then zcall 146 [.long x0, .long x1, .long x2] st 161 33 ls w else none) = _
  rw [if_pos ⟨rfl, by simp⟩]
  exact zq_call hr (Nat.le_of_ble_eq_true rfl) rfl rfl
theorem e161_36 (ls : List Value) (a : Int32) (st : List Value) (w : zH) : zrun none (161, 36, ls, (.int a :: st), w) = if a = 0 then zrun none (161, 52, ls, st, w) else zrun none (161, 39, ls, st, w) := (zE_ (i := .ifCond .eq 16) (by decide +kernel) _ _ _).trans (zq_if_eq rfl rfl)
theorem e161_39 (v0 v1 v2 v3 : Value) (x : Int32) (st : List Value) (w : zH) : zrun none (161, 39, [v0, v1, v2, v3, .int x], st, w) = zrun none (161, 41, [v0, v1, v2, v3, .int x], (.int x :: st), w) := (zE_ (i := .iload 4) (by decide +kernel) _ _ _).trans rfl
theorem e161_41 (ls : List Value) (a : Int32) (st : List Value) (w : zH) : zrun none (161, 41, ls, (.int a :: st), w) = zrun none (161, 42, ls, (.long a.toInt64 :: st), w) := (zE_ (i := .i2l) (by decide +kernel) _ _ _).trans rfl
theorem e161_42 (ls st : List Value) (w : zH) : zrun none (161, 42, ls, st, w) = zrun none (161, 43, ls, (.long 0 :: st), w) := (zE_ (i := .lconst 0) (by decide +kernel) _ _ _).trans rfl
theorem e161_43 (ls st : List Value) (w : zH) : zrun none (161, 43, ls, st, w) = zrun none (161, 46, ls, (.long 10000 :: st), w) := (zE_ (i := .ldc2_w 10000) (by decide +kernel) _ _ _).trans rfl
theorem e161_46 (ls : List Value) (x0 : Int64) (x1 : Int64) (x2 : Int64) (st : List Value) (w : zH) (hr : zcat st ≤ 8) : zrun none (161, 46, ls, (.long x2 :: .long x1 :: .long x0 :: st), w) = zcl (zrun none (146, 0, [.long x0, zJ, .long x1, zJ, .long x2, zJ], [], w)) (fun r => zrun none (161, 49, ls, r.1.toList ++ st, r.2)) := by
  refine (zE_ (i := .invokestatic 146) (by decide +kernel) _ _ _).trans ?_
  show zres (if (99 : Nat) = 99 ∧ 3 ≤ ((.long x2 :: .long x1 :: .long x0 :: st) : List Value).length then zcall 146 [.long x0, .long x1, .long x2] st 161 46 ls w else none) = _
  rw [if_pos ⟨rfl, by simp⟩]
  exact zq_call hr (Nat.le_of_ble_eq_true rfl) rfl rfl
theorem e161_49 (ls : List Value) (a : Int32) (st : List Value) (w : zH) : zrun none (161, 49, ls, (.int a :: st), w) = if a = 0 then zrun none (161, 52, ls, st, w) else zrun none (161, 55, ls, st, w) := (zE_ (i := .ifCond .ne 6) (by decide +kernel) _ _ _).trans (zq_if_ne rfl rfl)
theorem e161_52 (ls st : List Value) (w : zH) : zrun none (161, 52, ls, st, w) = zrun none (161, 54, ls, (.int (-1000001) :: st), w) := (zE_ (i := .bipush (-1000001)) (by decide +kernel) _ _ _).trans rfl
theorem e161_54 (ls : List Value) (x : Int32) (w : zH) : zrun none (161, 54, ls, [.int x], w) = some (some (.int x), w) := by
  refine (zE_ (i := .ireturn) (by decide +kernel) _ _ _).trans ?_
  show zres (if narrow .int (.int x) = .int x then _ else none) = _
  rw [if_pos (show narrow .int (.int x) = .int x from rfl)]
  rfl
theorem e161_55 (v1 v2 v3 v4 : Value) (x : Nat) (st : List Value) (w : zH) : zrun none (161, 55, [.ref x, v1, v2, v3, v4], st, w) = zrun none (161, 56, [.ref x, v1, v2, v3, v4], (.ref x :: st), w) := (zE_ (i := .aload_n 0) (by decide +kernel) _ _ _).trans rfl
theorem e161_56 (ls : List Value) (a : Nat) (st : List Value) (w : zH) : zrun none (161, 56, ls, (.ref a :: st), w) = zo (zf w a 1211) (fun x => zrun none (161, 59, ls, (x :: st), w)) := (zE_ (i := .getfield 1211) (by decide +kernel) _ _ _).trans zq_getf
theorem e161_59 (ls st : List Value) (w : zH) : zrun none (161, 59, ls, st, w) = zrun none (161, 61, ls, (.int 16 :: st), w) := (zE_ (i := .bipush 16) (by decide +kernel) _ _ _).trans rfl
theorem e161_61 (ls : List Value) (a b : Int32) (st : List Value) (w : zH) : zrun none (161, 61, ls, (.int b :: .int a :: st), w) = if a = b then zrun none (161, 64, ls, st, w) else zrun none (161, 67, ls, st, w) := (zE_ (i := .if_icmp .ne 6) (by decide +kernel) _ _ _).trans (zq_ic_ne rfl rfl)
theorem e161_64 (ls st : List Value) (w : zH) : zrun none (161, 64, ls, st, w) = zrun none (161, 66, ls, (.int (-1000003) :: st), w) := (zE_ (i := .bipush (-1000003)) (by decide +kernel) _ _ _).trans rfl
theorem e161_66 (ls : List Value) (x : Int32) (w : zH) : zrun none (161, 66, ls, [.int x], w) = some (some (.int x), w) := by
  refine (zE_ (i := .ireturn) (by decide +kernel) _ _ _).trans ?_
  show zres (if narrow .int (.int x) = .int x then _ else none) = _
  rw [if_pos (show narrow .int (.int x) = .int x from rfl)]
  rfl
theorem e161_67 (v1 v2 v3 v4 : Value) (x : Nat) (st : List Value) (w : zH) : zrun none (161, 67, [.ref x, v1, v2, v3, v4], st, w) = zrun none (161, 68, [.ref x, v1, v2, v3, v4], (.ref x :: st), w) := (zE_ (i := .aload_n 0) (by decide +kernel) _ _ _).trans rfl
theorem e161_68 (ls : List Value) (a : Nat) (st : List Value) (w : zH) : zrun none (161, 68, ls, (.ref a :: st), w) = zo (zf w a 1212) (fun x => zrun none (161, 71, ls, (x :: st), w)) := (zE_ (i := .getfield 1212) (by decide +kernel) _ _ _).trans zq_getf
theorem e161_71 (v1 v2 v3 v4 : Value) (x : Nat) (st : List Value) (w : zH) : zrun none (161, 71, [.ref x, v1, v2, v3, v4], st, w) = zrun none (161, 72, [.ref x, v1, v2, v3, v4], (.ref x :: st), w) := (zE_ (i := .aload_n 0) (by decide +kernel) _ _ _).trans rfl
theorem e161_72 (ls : List Value) (a : Nat) (st : List Value) (w : zH) : zrun none (161, 72, ls, (.ref a :: st), w) = zo (zf w a 1211) (fun x => zrun none (161, 75, ls, (x :: st), w)) := (zE_ (i := .getfield 1211) (by decide +kernel) _ _ _).trans zq_getf
theorem e161_75 (v0 v2 v3 v4 : Value) (x : Int32) (st : List Value) (w : zH) : zrun none (161, 75, [v0, .int x, v2, v3, v4], st, w) = zrun none (161, 76, [v0, .int x, v2, v3, v4], (.int x :: st), w) := (zE_ (i := .iload_n 1) (by decide +kernel) _ _ _).trans rfl
theorem e161_76 (ls : List Value) (x j : Int32) (a : Nat) (st : List Value) (w : zH) : zrun none (161, 76, ls, (.int x :: .int j :: .ref a :: st), w) = zgd (zin? w a 100 j) (zrun none (161, 77, ls, st, zas w a j (.int x))) := by
  refine (zE_ (i := .iastore) (by decide +kernel) _ _ _).trans ?_
  by_cases hg : zin? w a 100 j
  · rw [zgd_pos hg]
    exact zq_iast hg
  · rw [zgd_neg hg]
    exact zq_iast_no hg
theorem e161_77 (v1 v2 v3 v4 : Value) (x : Nat) (st : List Value) (w : zH) : zrun none (161, 77, [.ref x, v1, v2, v3, v4], st, w) = zrun none (161, 78, [.ref x, v1, v2, v3, v4], (.ref x :: st), w) := (zE_ (i := .aload_n 0) (by decide +kernel) _ _ _).trans rfl
theorem e161_78 (ls : List Value) (a : Nat) (st : List Value) (w : zH) : zrun none (161, 78, ls, (.ref a :: st), w) = zo (zf w a 1213) (fun x => zrun none (161, 81, ls, (x :: st), w)) := (zE_ (i := .getfield 1213) (by decide +kernel) _ _ _).trans zq_getf
theorem e161_81 (v1 v2 v3 v4 : Value) (x : Nat) (st : List Value) (w : zH) : zrun none (161, 81, [.ref x, v1, v2, v3, v4], st, w) = zrun none (161, 82, [.ref x, v1, v2, v3, v4], (.ref x :: st), w) := (zE_ (i := .aload_n 0) (by decide +kernel) _ _ _).trans rfl
theorem e161_82 (ls : List Value) (a : Nat) (st : List Value) (w : zH) : zrun none (161, 82, ls, (.ref a :: st), w) = zo (zf w a 1211) (fun x => zrun none (161, 85, ls, (x :: st), w)) := (zE_ (i := .getfield 1211) (by decide +kernel) _ _ _).trans zq_getf
theorem e161_85 (v0 v1 v3 v4 : Value) (x : Int32) (st : List Value) (w : zH) : zrun none (161, 85, [v0, v1, .int x, v3, v4], st, w) = zrun none (161, 86, [v0, v1, .int x, v3, v4], (.int x :: st), w) := (zE_ (i := .iload_n 2) (by decide +kernel) _ _ _).trans rfl
theorem e161_86 (ls : List Value) (x j : Int32) (a : Nat) (st : List Value) (w : zH) : zrun none (161, 86, ls, (.int x :: .int j :: .ref a :: st), w) = zgd (zin? w a 100 j) (zrun none (161, 87, ls, st, zas w a j (.int x))) := by
  refine (zE_ (i := .iastore) (by decide +kernel) _ _ _).trans ?_
  by_cases hg : zin? w a 100 j
  · rw [zgd_pos hg]
    exact zq_iast hg
  · rw [zgd_neg hg]
    exact zq_iast_no hg
theorem e161_87 (v1 v2 v3 v4 : Value) (x : Nat) (st : List Value) (w : zH) : zrun none (161, 87, [.ref x, v1, v2, v3, v4], st, w) = zrun none (161, 88, [.ref x, v1, v2, v3, v4], (.ref x :: st), w) := (zE_ (i := .aload_n 0) (by decide +kernel) _ _ _).trans rfl
theorem e161_88 (ls : List Value) (a : Nat) (st : List Value) (w : zH) : zrun none (161, 88, ls, (.ref a :: st), w) = zo (zf w a 1214) (fun x => zrun none (161, 91, ls, (x :: st), w)) := (zE_ (i := .getfield 1214) (by decide +kernel) _ _ _).trans zq_getf
theorem e161_91 (v1 v2 v3 v4 : Value) (x : Nat) (st : List Value) (w : zH) : zrun none (161, 91, [.ref x, v1, v2, v3, v4], st, w) = zrun none (161, 92, [.ref x, v1, v2, v3, v4], (.ref x :: st), w) := (zE_ (i := .aload_n 0) (by decide +kernel) _ _ _).trans rfl
theorem e161_92 (ls : List Value) (a : Nat) (st : List Value) (w : zH) : zrun none (161, 92, ls, (.ref a :: st), w) = zo (zf w a 1211) (fun x => zrun none (161, 95, ls, (x :: st), w)) := (zE_ (i := .getfield 1211) (by decide +kernel) _ _ _).trans zq_getf
theorem e161_95 (v0 v1 v2 v4 : Value) (x : Int32) (st : List Value) (w : zH) : zrun none (161, 95, [v0, v1, v2, .int x, v4], st, w) = zrun none (161, 96, [v0, v1, v2, .int x, v4], (.int x :: st), w) := (zE_ (i := .iload_n 3) (by decide +kernel) _ _ _).trans rfl
theorem e161_96 (ls : List Value) (x j : Int32) (a : Nat) (st : List Value) (w : zH) : zrun none (161, 96, ls, (.int x :: .int j :: .ref a :: st), w) = zgd (zin? w a 100 j) (zrun none (161, 97, ls, st, zas w a j (.int x))) := by
  refine (zE_ (i := .iastore) (by decide +kernel) _ _ _).trans ?_
  by_cases hg : zin? w a 100 j
  · rw [zgd_pos hg]
    exact zq_iast hg
  · rw [zgd_neg hg]
    exact zq_iast_no hg
theorem e161_97 (v1 v2 v3 v4 : Value) (x : Nat) (st : List Value) (w : zH) : zrun none (161, 97, [.ref x, v1, v2, v3, v4], st, w) = zrun none (161, 98, [.ref x, v1, v2, v3, v4], (.ref x :: st), w) := (zE_ (i := .aload_n 0) (by decide +kernel) _ _ _).trans rfl
theorem e161_98 (ls : List Value) (a : Nat) (st : List Value) (w : zH) : zrun none (161, 98, ls, (.ref a :: st), w) = zo (zf w a 1215) (fun x => zrun none (161, 101, ls, (x :: st), w)) := (zE_ (i := .getfield 1215) (by decide +kernel) _ _ _).trans zq_getf
theorem e161_101 (v1 v2 v3 v4 : Value) (x : Nat) (st : List Value) (w : zH) : zrun none (161, 101, [.ref x, v1, v2, v3, v4], st, w) = zrun none (161, 102, [.ref x, v1, v2, v3, v4], (.ref x :: st), w) := (zE_ (i := .aload_n 0) (by decide +kernel) _ _ _).trans rfl
theorem e161_102 (ls : List Value) (a : Nat) (st : List Value) (w : zH) : zrun none (161, 102, ls, (.ref a :: st), w) = zo (zf w a 1211) (fun x => zrun none (161, 105, ls, (x :: st), w)) := (zE_ (i := .getfield 1211) (by decide +kernel) _ _ _).trans zq_getf
theorem e161_105 (v0 v1 v2 v3 : Value) (x : Int32) (st : List Value) (w : zH) : zrun none (161, 105, [v0, v1, v2, v3, .int x], st, w) = zrun none (161, 107, [v0, v1, v2, v3, .int x], (.int x :: st), w) := (zE_ (i := .iload 4) (by decide +kernel) _ _ _).trans rfl
theorem e161_107 (ls : List Value) (x j : Int32) (a : Nat) (st : List Value) (w : zH) : zrun none (161, 107, ls, (.int x :: .int j :: .ref a :: st), w) = zgd (zin? w a 100 j) (zrun none (161, 108, ls, st, zas w a j (.int x))) := by
  refine (zE_ (i := .iastore) (by decide +kernel) _ _ _).trans ?_
  by_cases hg : zin? w a 100 j
  · rw [zgd_pos hg]
    exact zq_iast hg
  · rw [zgd_neg hg]
    exact zq_iast_no hg
theorem e161_108 (v1 v2 v3 v4 : Value) (x : Nat) (st : List Value) (w : zH) : zrun none (161, 108, [.ref x, v1, v2, v3, v4], st, w) = zrun none (161, 109, [.ref x, v1, v2, v3, v4], (.ref x :: st), w) := (zE_ (i := .aload_n 0) (by decide +kernel) _ _ _).trans rfl
theorem e161_109 (ls : List Value) (x : Int32) (st : List Value) (w : zH) : zrun none (161, 109, ls, (.int x :: st), w) = zrun none (161, 110, ls, (.int x :: .int x :: st), w) := (zE_ (i := .dup) (by decide +kernel) _ _ _).trans rfl
theorem e161_109r (ls : List Value) (x : Nat) (st : List Value) (w : zH) : zrun none (161, 109, ls, (.ref x :: st), w) = zrun none (161, 110, ls, (.ref x :: .ref x :: st), w) := (zE_ (i := .dup) (by decide +kernel) _ _ _).trans rfl
theorem e161_110 (ls : List Value) (a : Nat) (st : List Value) (w : zH) : zrun none (161, 110, ls, (.ref a :: st), w) = zo (zf w a 1211) (fun x => zrun none (161, 113, ls, (x :: st), w)) := (zE_ (i := .getfield 1211) (by decide +kernel) _ _ _).trans zq_getf
theorem e161_113 (ls st : List Value) (w : zH) : zrun none (161, 113, ls, st, w) = zrun none (161, 114, ls, (.int 1 :: st), w) := (zE_ (i := .iconst 1) (by decide +kernel) _ _ _).trans rfl
theorem e161_114 (ls : List Value) (a b : Int32) (st : List Value) (w : zH) : zrun none (161, 114, ls, (.int b :: .int a :: st), w) = zrun none (161, 115, ls, (.int (a + b) :: st), w) := (zE_ (i := .iadd) (by decide +kernel) _ _ _).trans rfl
theorem e161_115 (ls : List Value) (x : Int32) (a : Nat) (st : List Value) (w : zH) : zrun none (161, 115, ls, (.int x :: .ref a :: st), w) = zgd (a < zX ∧ (zf w a 1211).isSome = true) (zrun none (161, 118, ls, st, zpf w a 1211 (.int x))) := by
  refine (zE_ (i := .putfield 1211) (by decide +kernel) _ _ _).trans ?_
  by_cases hg : a < zX ∧ (zf w a 1211).isSome = true
  · rw [zgd_pos hg]
    obtain ⟨ha, h⟩ := hg
    exact zq_putf ha h rfl rfl
  · rw [zgd_neg hg]
    exact zq_putf_no (fun h1 h2 h3 => hg ⟨h1, h2⟩)
theorem e161_118 (v1 v2 v3 v4 : Value) (x : Nat) (st : List Value) (w : zH) : zrun none (161, 118, [.ref x, v1, v2, v3, v4], st, w) = zrun none (161, 119, [.ref x, v1, v2, v3, v4], (.ref x :: st), w) := (zE_ (i := .aload_n 0) (by decide +kernel) _ _ _).trans rfl
theorem e161_119 (ls : List Value) (a : Nat) (st : List Value) (w : zH) : zrun none (161, 119, ls, (.ref a :: st), w) = zo (zf w a 1211) (fun x => zrun none (161, 122, ls, (x :: st), w)) := (zE_ (i := .getfield 1211) (by decide +kernel) _ _ _).trans zq_getf
theorem e161_122 (ls st : List Value) (w : zH) : zrun none (161, 122, ls, st, w) = zrun none (161, 123, ls, (.int 1 :: st), w) := (zE_ (i := .iconst 1) (by decide +kernel) _ _ _).trans rfl
theorem e161_123 (ls : List Value) (a b : Int32) (st : List Value) (w : zH) : zrun none (161, 123, ls, (.int b :: .int a :: st), w) = zrun none (161, 124, ls, (.int (a - b) :: st), w) := (zE_ (i := .isub) (by decide +kernel) _ _ _).trans rfl
theorem e161_124 (ls : List Value) (x : Int32) (w : zH) : zrun none (161, 124, ls, [.int x], w) = some (some (.int x), w) := by
  refine (zE_ (i := .ireturn) (by decide +kernel) _ _ _).trans ?_
  show zres (if narrow .int (.int x) = .int x then _ else none) = _
  rw [if_pos (show narrow .int (.int x) = .int x from rfl)]
  rfl
theorem e162_0 (v0 : Value) (x : Int32) (st : List Value) (w : zH) : zrun none (162, 0, [v0, .int x], st, w) = zrun none (162, 1, [v0, .int x], (.int x :: st), w) := (zE_ (i := .iload_n 1) (by decide +kernel) _ _ _).trans rfl
theorem e162_1 (ls : List Value) (a : Int32) (st : List Value) (w : zH) : zrun none (162, 1, ls, (.int a :: st), w) = zrun none (162, 2, ls, (.long a.toInt64 :: st), w) := (zE_ (i := .i2l) (by decide +kernel) _ _ _).trans rfl
theorem e162_2 (ls st : List Value) (w : zH) : zrun none (162, 2, ls, st, w) = zrun none (162, 3, ls, (.long 0 :: st), w) := (zE_ (i := .lconst 0) (by decide +kernel) _ _ _).trans rfl
theorem e162_3 (v1 : Value) (x : Nat) (st : List Value) (w : zH) : zrun none (162, 3, [.ref x, v1], st, w) = zrun none (162, 4, [.ref x, v1], (.ref x :: st), w) := (zE_ (i := .aload_n 0) (by decide +kernel) _ _ _).trans rfl
theorem e162_4 (ls : List Value) (a : Nat) (st : List Value) (w : zH) : zrun none (162, 4, ls, (.ref a :: st), w) = zo (zf w a 1211) (fun x => zrun none (162, 7, ls, (x :: st), w)) := (zE_ (i := .getfield 1211) (by decide +kernel) _ _ _).trans zq_getf
theorem e162_7 (ls st : List Value) (w : zH) : zrun none (162, 7, ls, st, w) = zrun none (162, 8, ls, (.int 1 :: st), w) := (zE_ (i := .iconst 1) (by decide +kernel) _ _ _).trans rfl
theorem e162_8 (ls : List Value) (a b : Int32) (st : List Value) (w : zH) : zrun none (162, 8, ls, (.int b :: .int a :: st), w) = zrun none (162, 9, ls, (.int (a - b) :: st), w) := (zE_ (i := .isub) (by decide +kernel) _ _ _).trans rfl
theorem e162_9 (ls : List Value) (a : Int32) (st : List Value) (w : zH) : zrun none (162, 9, ls, (.int a :: st), w) = zrun none (162, 10, ls, (.long a.toInt64 :: st), w) := (zE_ (i := .i2l) (by decide +kernel) _ _ _).trans rfl
theorem e162_10 (ls : List Value) (x0 : Int64) (x1 : Int64) (x2 : Int64) (st : List Value) (w : zH) (hr : zcat st ≤ 8) : zrun none (162, 10, ls, (.long x2 :: .long x1 :: .long x0 :: st), w) = zcl (zrun none (146, 0, [.long x0, zJ, .long x1, zJ, .long x2, zJ], [], w)) (fun r => zrun none (162, 13, ls, r.1.toList ++ st, r.2)) := by
  refine (zE_ (i := .invokestatic 146) (by decide +kernel) _ _ _).trans ?_
  show zres (if (99 : Nat) = 99 ∧ 3 ≤ ((.long x2 :: .long x1 :: .long x0 :: st) : List Value).length then zcall 146 [.long x0, .long x1, .long x2] st 162 10 ls w else none) = _
  rw [if_pos ⟨rfl, by simp⟩]
  exact zq_call hr (Nat.le_of_ble_eq_true rfl) rfl rfl
theorem e162_13 (ls : List Value) (x : Int32) (w : zH) (h : narrow .boolean (.int x) = .int x) : zrun none (162, 13, ls, [.int x], w) = some (some (.int x), w) := by
  refine (zE_ (i := .ireturn) (by decide +kernel) _ _ _).trans ?_
  show zres (if narrow .boolean (.int x) = .int x then _ else none) = _
  rw [if_pos h]
  rfl
theorem e163_0 (ls st : List Value) (w : zH) : zrun none (163, 0, ls, st, w) = zrun none (163, 3, ls, (.int 1700 :: st), w) := (zE_ (i := .sipush 1700) (by decide +kernel) _ _ _).trans rfl
theorem e163_3 (v0 v1 : Value) (x : Int32) (st : List Value) (w : zH) : zrun none (163, 3, [v0, v1, .int x], st, w) = zrun none (163, 4, [v0, v1, .int x], (.int x :: st), w) := (zE_ (i := .iload_n 2) (by decide +kernel) _ _ _).trans rfl
theorem e163_4 (ls st : List Value) (w : zH) : zrun none (163, 4, ls, st, w) = zrun none (163, 7, ls, (.int 365 :: st), w) := (zE_ (i := .sipush 365) (by decide +kernel) _ _ _).trans rfl
theorem e163_7 (ls : List Value) (a b : Int32) (st : List Value) (w : zH) (h : ¬ b = 0) : zrun none (163, 7, ls, (.int b :: .int a :: st), w) = zrun none (163, 8, ls, (.int (a / b) :: st), w) := by
  refine (zE_ (i := .idiv) (by decide +kernel) _ _ _).trans ?_
  simp only [zI, if_neg h]
  rfl
theorem e163_8 (ls : List Value) (a b : Int32) (st : List Value) (w : zH) : zrun none (163, 8, ls, (.int b :: .int a :: st), w) = zrun none (163, 9, ls, (.int (a + b) :: st), w) := (zE_ (i := .iadd) (by decide +kernel) _ _ _).trans rfl
theorem e163_9 (v1 v2 : Value) (x : Nat) (st : List Value) (w : zH) : zrun none (163, 9, [.ref x, v1, v2], st, w) = zrun none (163, 10, [.ref x, v1, v2], (.ref x :: st), w) := (zE_ (i := .aload_n 0) (by decide +kernel) _ _ _).trans rfl
theorem e163_10 (ls : List Value) (a : Nat) (st : List Value) (w : zH) : zrun none (163, 10, ls, (.ref a :: st), w) = zo (zf w a 1214) (fun x => zrun none (163, 13, ls, (x :: st), w)) := (zE_ (i := .getfield 1214) (by decide +kernel) _ _ _).trans zq_getf
theorem e163_13 (v0 v2 : Value) (x : Int32) (st : List Value) (w : zH) : zrun none (163, 13, [v0, .int x, v2], st, w) = zrun none (163, 14, [v0, .int x, v2], (.int x :: st), w) := (zE_ (i := .iload_n 1) (by decide +kernel) _ _ _).trans rfl
theorem e163_14 (ls : List Value) (j : Int32) (a : Nat) (st : List Value) (w : zH) : zrun none (163, 14, ls, (.int j :: .ref a :: st), w) = zoi (zai w a 100 j) (fun x => zrun none (163, 15, ls, (.int x :: st), w)) := (zE_ (i := .iaload) (by decide +kernel) _ _ _).trans zq_iald
theorem e163_15 (ls : List Value) (a b : Int32) (st : List Value) (w : zH) : zrun none (163, 15, ls, (.int b :: .int a :: st), w) = zrun none (163, 16, ls, (.int (a - b) :: st), w) := (zE_ (i := .isub) (by decide +kernel) _ _ _).trans rfl
theorem e163_16 (ls : List Value) (x : Int32) (w : zH) : zrun none (163, 16, ls, [.int x], w) = some (some (.int x), w) := by
  refine (zE_ (i := .ireturn) (by decide +kernel) _ _ _).trans ?_
  show zres (if narrow .int (.int x) = .int x then _ else none) = _
  rw [if_pos (show narrow .int (.int x) = .int x from rfl)]
  rfl
theorem e164_0 (v1 v2 : Value) (x : Nat) (st : List Value) (w : zH) : zrun none (164, 0, [.ref x, v1, v2], st, w) = zrun none (164, 1, [.ref x, v1, v2], (.ref x :: st), w) := (zE_ (i := .aload_n 0) (by decide +kernel) _ _ _).trans rfl
theorem e164_1 (v1 v2 : Value) (x : Nat) (st : List Value) (w : zH) : zrun none (164, 1, [.ref x, v1, v2], st, w) = zrun none (164, 2, [.ref x, v1, v2], (.ref x :: st), w) := (zE_ (i := .aload_n 0) (by decide +kernel) _ _ _).trans rfl
theorem e164_2 (ls : List Value) (a : Nat) (st : List Value) (w : zH) : zrun none (164, 2, ls, (.ref a :: st), w) = zo (zf w a 1212) (fun x => zrun none (164, 5, ls, (x :: st), w)) := (zE_ (i := .getfield 1212) (by decide +kernel) _ _ _).trans zq_getf
theorem e164_5 (v0 v2 : Value) (x : Int32) (st : List Value) (w : zH) : zrun none (164, 5, [v0, .int x, v2], st, w) = zrun none (164, 6, [v0, .int x, v2], (.int x :: st), w) := (zE_ (i := .iload_n 1) (by decide +kernel) _ _ _).trans rfl
theorem e164_6 (ls : List Value) (j : Int32) (a : Nat) (st : List Value) (w : zH) : zrun none (164, 6, ls, (.int j :: .ref a :: st), w) = zoi (zai w a 100 j) (fun x => zrun none (164, 7, ls, (.int x :: st), w)) := (zE_ (i := .iaload) (by decide +kernel) _ _ _).trans zq_iald
theorem e164_7 (v0 v1 : Value) (x : Int32) (st : List Value) (w : zH) : zrun none (164, 7, [v0, v1, .int x], st, w) = zrun none (164, 8, [v0, v1, .int x], (.int x :: st), w) := (zE_ (i := .iload_n 2) (by decide +kernel) _ _ _).trans rfl
theorem e164_8 (v0 v1 : Value) (x : Int32) (st : List Value) (w : zH) : zrun none (164, 8, [v0, v1, .int x], st, w) = zrun none (164, 9, [v0, v1, .int x], (.int x :: st), w) := (zE_ (i := .iload_n 2) (by decide +kernel) _ _ _).trans rfl
theorem e164_9 (ls : List Value) (a : Nat) (x0 : Int32) (x1 : Int32) (x2 : Int32) (st : List Value) (w : zH) (hr : zcat st ≤ 8) : zrun none (164, 9, ls, (.int x2 :: .int x1 :: .int x0 :: .ref a :: st), w) = zgd (zis w a 12) (zcl (zrun none (159, 0, [.ref a, .int x0, .int x1, .int x2, zJ, zJ], [], w)) (fun r => zrun none (164, 12, ls, r.1.toList ++ st, r.2))) := by
  refine (zE_ (i := .invokevirtual 159) (by decide +kernel) _ _ _).trans ?_
  show zres (zinv none 159 164 9 ls (.int x2 :: .int x1 :: .int x0 :: .ref a :: st) w) = _
  unfold zinv
  show zres (if zrc none 159 w (.ref a) = true then zcall 159 [.ref a, .int x0, .int x1, .int x2] st 164 9 ls w else none) = _
  by_cases hc : zis w a 12
  · rw [if_pos (zrc_is hc (by decide +kernel)), zgd_pos hc]
    exact zq_call hr (Nat.le_of_ble_eq_true rfl) rfl rfl
  · rw [zgd_neg hc, if_neg (fun q => hc (zrc_of q (by decide +kernel)))]
    rfl
theorem e164_12 (ls : List Value) (x : Int32) (w : zH) : zrun none (164, 12, ls, [.int x], w) = some (some (.int x), w) := by
  refine (zE_ (i := .ireturn) (by decide +kernel) _ _ _).trans ?_
  show zres (if narrow .int (.int x) = .int x then _ else none) = _
  rw [if_pos (show narrow .int (.int x) = .int x from rfl)]
  rfl
theorem e165_0 (v1 v2 : Value) (x : Nat) (st : List Value) (w : zH) : zrun none (165, 0, [.ref x, v1, v2], st, w) = zrun none (165, 1, [.ref x, v1, v2], (.ref x :: st), w) := (zE_ (i := .aload_n 0) (by decide +kernel) _ _ _).trans rfl
theorem e165_1 (ls st : List Value) (w : zH) : zrun none (165, 1, ls, st, w) = zrun none (165, 2, ls, (.int 0 :: st), w) := (zE_ (i := .iconst 0) (by decide +kernel) _ _ _).trans rfl
theorem e165_2 (ls : List Value) (x : Int32) (a : Nat) (st : List Value) (w : zH) : zrun none (165, 2, ls, (.int x :: .ref a :: st), w) = zgd (a < zX ∧ (zf w a 1200).isSome = true) (zrun none (165, 5, ls, st, zpf w a 1200 (.int x))) := by
  refine (zE_ (i := .putfield 1200) (by decide +kernel) _ _ _).trans ?_
  by_cases hg : a < zX ∧ (zf w a 1200).isSome = true
  · rw [zgd_pos hg]
    obtain ⟨ha, h⟩ := hg
    exact zq_putf ha h rfl rfl
  · rw [zgd_neg hg]
    exact zq_putf_no (fun h1 h2 h3 => hg ⟨h1, h2⟩)
theorem e165_5 (v1 v2 : Value) (x : Nat) (st : List Value) (w : zH) : zrun none (165, 5, [.ref x, v1, v2], st, w) = zrun none (165, 6, [.ref x, v1, v2], (.ref x :: st), w) := (zE_ (i := .aload_n 0) (by decide +kernel) _ _ _).trans rfl
theorem e165_6 (v0 v2 : Value) (x : Int32) (st : List Value) (w : zH) : zrun none (165, 6, [v0, .int x, v2], st, w) = zrun none (165, 7, [v0, .int x, v2], (.int x :: st), w) := (zE_ (i := .iload_n 1) (by decide +kernel) _ _ _).trans rfl
theorem e165_7 (ls : List Value) (a : Nat) (x0 : Int32) (st : List Value) (w : zH) (hr : zcat st ≤ 8) : zrun none (165, 7, ls, (.int x0 :: .ref a :: st), w) = zgd (zis w a 12) (zcl (zrun none (162, 0, [.ref a, .int x0], [], w)) (fun r => zrun none (165, 10, ls, r.1.toList ++ st, r.2))) := by
  refine (zE_ (i := .invokevirtual 162) (by decide +kernel) _ _ _).trans ?_
  show zres (zinv none 162 165 7 ls (.int x0 :: .ref a :: st) w) = _
  unfold zinv
  show zres (if zrc none 162 w (.ref a) = true then zcall 162 [.ref a, .int x0] st 165 7 ls w else none) = _
  by_cases hc : zis w a 12
  · rw [if_pos (zrc_is hc (by decide +kernel)), zgd_pos hc]
    exact zq_call hr (Nat.le_of_ble_eq_true rfl) rfl rfl
  · rw [zgd_neg hc, if_neg (fun q => hc (zrc_of q (by decide +kernel)))]
    rfl
theorem e165_10 (ls : List Value) (a : Int32) (st : List Value) (w : zH) : zrun none (165, 10, ls, (.int a :: st), w) = if a = 0 then zrun none (165, 25, ls, st, w) else zrun none (165, 13, ls, st, w) := (zE_ (i := .ifCond .eq 15) (by decide +kernel) _ _ _).trans (zq_if_eq rfl rfl)
theorem e165_13 (v0 v1 : Value) (x : Int32) (st : List Value) (w : zH) : zrun none (165, 13, [v0, v1, .int x], st, w) = zrun none (165, 14, [v0, v1, .int x], (.int x :: st), w) := (zE_ (i := .iload_n 2) (by decide +kernel) _ _ _).trans rfl
theorem e165_14 (ls : List Value) (a : Int32) (st : List Value) (w : zH) : zrun none (165, 14, ls, (.int a :: st), w) = zrun none (165, 15, ls, (.long a.toInt64 :: st), w) := (zE_ (i := .i2l) (by decide +kernel) _ _ _).trans rfl
theorem e165_15 (ls st : List Value) (w : zH) : zrun none (165, 15, ls, st, w) = zrun none (165, 16, ls, (.long 0 :: st), w) := (zE_ (i := .lconst 0) (by decide +kernel) _ _ _).trans rfl
theorem e165_16 (ls st : List Value) (w : zH) : zrun none (165, 16, ls, st, w) = zrun none (165, 19, ls, (.long 5 :: st), w) := (zE_ (i := .ldc2_w 5) (by decide +kernel) _ _ _).trans rfl
theorem e165_19 (ls : List Value) (x0 : Int64) (x1 : Int64) (x2 : Int64) (st : List Value) (w : zH) (hr : zcat st ≤ 8) : zrun none (165, 19, ls, (.long x2 :: .long x1 :: .long x0 :: st), w) = zcl (zrun none (146, 0, [.long x0, zJ, .long x1, zJ, .long x2, zJ], [], w)) (fun r => zrun none (165, 22, ls, r.1.toList ++ st, r.2)) := by
  refine (zE_ (i := .invokestatic 146) (by decide +kernel) _ _ _).trans ?_
  show zres (if (99 : Nat) = 99 ∧ 3 ≤ ((.long x2 :: .long x1 :: .long x0 :: st) : List Value).length then zcall 146 [.long x0, .long x1, .long x2] st 165 19 ls w else none) = _
  rw [if_pos ⟨rfl, by simp⟩]
  exact zq_call hr (Nat.le_of_ble_eq_true rfl) rfl rfl
theorem e165_22 (ls : List Value) (a : Int32) (st : List Value) (w : zH) : zrun none (165, 22, ls, (.int a :: st), w) = if a = 0 then zrun none (165, 25, ls, st, w) else zrun none (165, 28, ls, st, w) := (zE_ (i := .ifCond .ne 6) (by decide +kernel) _ _ _).trans (zq_if_ne rfl rfl)
theorem e165_25 (ls st : List Value) (w : zH) : zrun none (165, 25, ls, st, w) = zrun none (165, 27, ls, (.int (-1000001) :: st), w) := (zE_ (i := .bipush (-1000001)) (by decide +kernel) _ _ _).trans rfl
theorem e165_27 (ls : List Value) (x : Int32) (w : zH) : zrun none (165, 27, ls, [.int x], w) = some (some (.int x), w) := by
  refine (zE_ (i := .ireturn) (by decide +kernel) _ _ _).trans ?_
  show zres (if narrow .int (.int x) = .int x then _ else none) = _
  rw [if_pos (show narrow .int (.int x) = .int x from rfl)]
  rfl
theorem e165_28 (v0 v1 : Value) (x : Int32) (st : List Value) (w : zH) : zrun none (165, 28, [v0, v1, .int x], st, w) = zrun none (165, 29, [v0, v1, .int x], (.int x :: st), w) := (zE_ (i := .iload_n 2) (by decide +kernel) _ _ _).trans rfl
theorem e165_29 (ls : List Value) (a : Int32) (st : List Value) (w : zH) : zrun none (165, 29, ls, (.int a :: st), w) = if a = 0 then zrun none (165, 32, ls, st, w) else zrun none (165, 41, ls, st, w) := (zE_ (i := .ifCond .ne 12) (by decide +kernel) _ _ _).trans (zq_if_ne rfl rfl)
theorem e165_32 (v1 v2 : Value) (x : Nat) (st : List Value) (w : zH) : zrun none (165, 32, [.ref x, v1, v2], st, w) = zrun none (165, 33, [.ref x, v1, v2], (.ref x :: st), w) := (zE_ (i := .aload_n 0) (by decide +kernel) _ _ _).trans rfl
theorem e165_33 (ls : List Value) (a : Nat) (st : List Value) (w : zH) : zrun none (165, 33, ls, (.ref a :: st), w) = zo (zf w a 1212) (fun x => zrun none (165, 36, ls, (x :: st), w)) := (zE_ (i := .getfield 1212) (by decide +kernel) _ _ _).trans zq_getf
theorem e165_36 (v0 v2 : Value) (x : Int32) (st : List Value) (w : zH) : zrun none (165, 36, [v0, .int x, v2], st, w) = zrun none (165, 37, [v0, .int x, v2], (.int x :: st), w) := (zE_ (i := .iload_n 1) (by decide +kernel) _ _ _).trans rfl
theorem e165_37 (ls : List Value) (j : Int32) (a : Nat) (st : List Value) (w : zH) : zrun none (165, 37, ls, (.int j :: .ref a :: st), w) = zoi (zai w a 100 j) (fun x => zrun none (165, 38, ls, (.int x :: st), w)) := (zE_ (i := .iaload) (by decide +kernel) _ _ _).trans zq_iald
theorem e165_38 (ls st : List Value) (w : zH) : zrun none (165, 38, ls, st, w) = zrun none (165, 109, ls, st, w) := (zE_ (i := .goto 71) (by decide +kernel) _ _ _).trans rfl
theorem e165_41 (v0 v1 : Value) (x : Int32) (st : List Value) (w : zH) : zrun none (165, 41, [v0, v1, .int x], st, w) = zrun none (165, 42, [v0, v1, .int x], (.int x :: st), w) := (zE_ (i := .iload_n 2) (by decide +kernel) _ _ _).trans rfl
theorem e165_42 (ls st : List Value) (w : zH) : zrun none (165, 42, ls, st, w) = zrun none (165, 43, ls, (.int 1 :: st), w) := (zE_ (i := .iconst 1) (by decide +kernel) _ _ _).trans rfl
theorem e165_43 (ls : List Value) (a b : Int32) (st : List Value) (w : zH) : zrun none (165, 43, ls, (.int b :: .int a :: st), w) = if a = b then zrun none (165, 46, ls, st, w) else zrun none (165, 55, ls, st, w) := (zE_ (i := .if_icmp .ne 12) (by decide +kernel) _ _ _).trans (zq_ic_ne rfl rfl)
theorem e165_46 (v1 v2 : Value) (x : Nat) (st : List Value) (w : zH) : zrun none (165, 46, [.ref x, v1, v2], st, w) = zrun none (165, 47, [.ref x, v1, v2], (.ref x :: st), w) := (zE_ (i := .aload_n 0) (by decide +kernel) _ _ _).trans rfl
theorem e165_47 (ls : List Value) (a : Nat) (st : List Value) (w : zH) : zrun none (165, 47, ls, (.ref a :: st), w) = zo (zf w a 1213) (fun x => zrun none (165, 50, ls, (x :: st), w)) := (zE_ (i := .getfield 1213) (by decide +kernel) _ _ _).trans zq_getf
theorem e165_50 (v0 v2 : Value) (x : Int32) (st : List Value) (w : zH) : zrun none (165, 50, [v0, .int x, v2], st, w) = zrun none (165, 51, [v0, .int x, v2], (.int x :: st), w) := (zE_ (i := .iload_n 1) (by decide +kernel) _ _ _).trans rfl
theorem e165_51 (ls : List Value) (j : Int32) (a : Nat) (st : List Value) (w : zH) : zrun none (165, 51, ls, (.int j :: .ref a :: st), w) = zoi (zai w a 100 j) (fun x => zrun none (165, 52, ls, (.int x :: st), w)) := (zE_ (i := .iaload) (by decide +kernel) _ _ _).trans zq_iald
theorem e165_52 (ls st : List Value) (w : zH) : zrun none (165, 52, ls, st, w) = zrun none (165, 109, ls, st, w) := (zE_ (i := .goto 57) (by decide +kernel) _ _ _).trans rfl
theorem e165_55 (v0 v1 : Value) (x : Int32) (st : List Value) (w : zH) : zrun none (165, 55, [v0, v1, .int x], st, w) = zrun none (165, 56, [v0, v1, .int x], (.int x :: st), w) := (zE_ (i := .iload_n 2) (by decide +kernel) _ _ _).trans rfl
theorem e165_56 (ls st : List Value) (w : zH) : zrun none (165, 56, ls, st, w) = zrun none (165, 57, ls, (.int 2 :: st), w) := (zE_ (i := .iconst 2) (by decide +kernel) _ _ _).trans rfl
theorem e165_57 (ls : List Value) (a b : Int32) (st : List Value) (w : zH) : zrun none (165, 57, ls, (.int b :: .int a :: st), w) = if a = b then zrun none (165, 60, ls, st, w) else zrun none (165, 69, ls, st, w) := (zE_ (i := .if_icmp .ne 12) (by decide +kernel) _ _ _).trans (zq_ic_ne rfl rfl)
theorem e165_60 (v1 v2 : Value) (x : Nat) (st : List Value) (w : zH) : zrun none (165, 60, [.ref x, v1, v2], st, w) = zrun none (165, 61, [.ref x, v1, v2], (.ref x :: st), w) := (zE_ (i := .aload_n 0) (by decide +kernel) _ _ _).trans rfl
theorem e165_61 (ls : List Value) (a : Nat) (st : List Value) (w : zH) : zrun none (165, 61, ls, (.ref a :: st), w) = zo (zf w a 1214) (fun x => zrun none (165, 64, ls, (x :: st), w)) := (zE_ (i := .getfield 1214) (by decide +kernel) _ _ _).trans zq_getf
theorem e165_64 (v0 v2 : Value) (x : Int32) (st : List Value) (w : zH) : zrun none (165, 64, [v0, .int x, v2], st, w) = zrun none (165, 65, [v0, .int x, v2], (.int x :: st), w) := (zE_ (i := .iload_n 1) (by decide +kernel) _ _ _).trans rfl
theorem e165_65 (ls : List Value) (j : Int32) (a : Nat) (st : List Value) (w : zH) : zrun none (165, 65, ls, (.int j :: .ref a :: st), w) = zoi (zai w a 100 j) (fun x => zrun none (165, 66, ls, (.int x :: st), w)) := (zE_ (i := .iaload) (by decide +kernel) _ _ _).trans zq_iald
theorem e165_66 (ls st : List Value) (w : zH) : zrun none (165, 66, ls, st, w) = zrun none (165, 109, ls, st, w) := (zE_ (i := .goto 43) (by decide +kernel) _ _ _).trans rfl
theorem e165_69 (v0 v1 : Value) (x : Int32) (st : List Value) (w : zH) : zrun none (165, 69, [v0, v1, .int x], st, w) = zrun none (165, 70, [v0, v1, .int x], (.int x :: st), w) := (zE_ (i := .iload_n 2) (by decide +kernel) _ _ _).trans rfl
theorem e165_70 (ls st : List Value) (w : zH) : zrun none (165, 70, ls, st, w) = zrun none (165, 71, ls, (.int 3 :: st), w) := (zE_ (i := .iconst 3) (by decide +kernel) _ _ _).trans rfl
theorem e165_71 (ls : List Value) (a b : Int32) (st : List Value) (w : zH) : zrun none (165, 71, ls, (.int b :: .int a :: st), w) = if a = b then zrun none (165, 74, ls, st, w) else zrun none (165, 83, ls, st, w) := (zE_ (i := .if_icmp .ne 12) (by decide +kernel) _ _ _).trans (zq_ic_ne rfl rfl)
theorem e165_74 (v1 v2 : Value) (x : Nat) (st : List Value) (w : zH) : zrun none (165, 74, [.ref x, v1, v2], st, w) = zrun none (165, 75, [.ref x, v1, v2], (.ref x :: st), w) := (zE_ (i := .aload_n 0) (by decide +kernel) _ _ _).trans rfl
theorem e165_75 (ls : List Value) (a : Nat) (st : List Value) (w : zH) : zrun none (165, 75, ls, (.ref a :: st), w) = zo (zf w a 1215) (fun x => zrun none (165, 78, ls, (x :: st), w)) := (zE_ (i := .getfield 1215) (by decide +kernel) _ _ _).trans zq_getf
theorem e165_78 (v0 v2 : Value) (x : Int32) (st : List Value) (w : zH) : zrun none (165, 78, [v0, .int x, v2], st, w) = zrun none (165, 79, [v0, .int x, v2], (.int x :: st), w) := (zE_ (i := .iload_n 1) (by decide +kernel) _ _ _).trans rfl
theorem e165_79 (ls : List Value) (j : Int32) (a : Nat) (st : List Value) (w : zH) : zrun none (165, 79, ls, (.int j :: .ref a :: st), w) = zoi (zai w a 100 j) (fun x => zrun none (165, 80, ls, (.int x :: st), w)) := (zE_ (i := .iaload) (by decide +kernel) _ _ _).trans zq_iald
theorem e165_80 (ls st : List Value) (w : zH) : zrun none (165, 80, ls, st, w) = zrun none (165, 109, ls, st, w) := (zE_ (i := .goto 29) (by decide +kernel) _ _ _).trans rfl
theorem e165_83 (v0 v1 : Value) (x : Int32) (st : List Value) (w : zH) : zrun none (165, 83, [v0, v1, .int x], st, w) = zrun none (165, 84, [v0, v1, .int x], (.int x :: st), w) := (zE_ (i := .iload_n 2) (by decide +kernel) _ _ _).trans rfl
theorem e165_84 (ls st : List Value) (w : zH) : zrun none (165, 84, ls, st, w) = zrun none (165, 85, ls, (.int 4 :: st), w) := (zE_ (i := .iconst 4) (by decide +kernel) _ _ _).trans rfl
theorem e165_85 (ls : List Value) (a b : Int32) (st : List Value) (w : zH) : zrun none (165, 85, ls, (.int b :: .int a :: st), w) = if a = b then zrun none (165, 88, ls, st, w) else zrun none (165, 100, ls, st, w) := (zE_ (i := .if_icmp .ne 15) (by decide +kernel) _ _ _).trans (zq_ic_ne rfl rfl)
theorem e165_88 (v1 v2 : Value) (x : Nat) (st : List Value) (w : zH) : zrun none (165, 88, [.ref x, v1, v2], st, w) = zrun none (165, 89, [.ref x, v1, v2], (.ref x :: st), w) := (zE_ (i := .aload_n 0) (by decide +kernel) _ _ _).trans rfl
theorem e165_89 (v0 v2 : Value) (x : Int32) (st : List Value) (w : zH) : zrun none (165, 89, [v0, .int x, v2], st, w) = zrun none (165, 90, [v0, .int x, v2], (.int x :: st), w) := (zE_ (i := .iload_n 1) (by decide +kernel) _ _ _).trans rfl
theorem e165_90 (v1 v2 : Value) (x : Nat) (st : List Value) (w : zH) : zrun none (165, 90, [.ref x, v1, v2], st, w) = zrun none (165, 91, [.ref x, v1, v2], (.ref x :: st), w) := (zE_ (i := .aload_n 0) (by decide +kernel) _ _ _).trans rfl
theorem e165_91 (ls : List Value) (a : Nat) (st : List Value) (w : zH) : zrun none (165, 91, ls, (.ref a :: st), w) = zo (zf w a 1216) (fun x => zrun none (165, 94, ls, (x :: st), w)) := (zE_ (i := .getfield 1216) (by decide +kernel) _ _ _).trans zq_getf
theorem e165_94 (ls : List Value) (a : Nat) (x0 : Int32) (x1 : Int32) (st : List Value) (w : zH) (hr : zcat st ≤ 8) : zrun none (165, 94, ls, (.int x1 :: .int x0 :: .ref a :: st), w) = zgd (zis w a 12) (zcl (zrun none (163, 0, [.ref a, .int x0, .int x1], [], w)) (fun r => zrun none (165, 97, ls, r.1.toList ++ st, r.2))) := by
  refine (zE_ (i := .invokevirtual 163) (by decide +kernel) _ _ _).trans ?_
  show zres (zinv none 163 165 94 ls (.int x1 :: .int x0 :: .ref a :: st) w) = _
  unfold zinv
  show zres (if zrc none 163 w (.ref a) = true then zcall 163 [.ref a, .int x0, .int x1] st 165 94 ls w else none) = _
  by_cases hc : zis w a 12
  · rw [if_pos (zrc_is hc (by decide +kernel)), zgd_pos hc]
    exact zq_call hr (Nat.le_of_ble_eq_true rfl) rfl rfl
  · rw [zgd_neg hc, if_neg (fun q => hc (zrc_of q (by decide +kernel)))]
    rfl
theorem e165_97 (ls st : List Value) (w : zH) : zrun none (165, 97, ls, st, w) = zrun none (165, 109, ls, st, w) := (zE_ (i := .goto 12) (by decide +kernel) _ _ _).trans rfl
theorem e165_100 (v1 v2 : Value) (x : Nat) (st : List Value) (w : zH) : zrun none (165, 100, [.ref x, v1, v2], st, w) = zrun none (165, 101, [.ref x, v1, v2], (.ref x :: st), w) := (zE_ (i := .aload_n 0) (by decide +kernel) _ _ _).trans rfl
theorem e165_101 (v0 v2 : Value) (x : Int32) (st : List Value) (w : zH) : zrun none (165, 101, [v0, .int x, v2], st, w) = zrun none (165, 102, [v0, .int x, v2], (.int x :: st), w) := (zE_ (i := .iload_n 1) (by decide +kernel) _ _ _).trans rfl
theorem e165_102 (v1 v2 : Value) (x : Nat) (st : List Value) (w : zH) : zrun none (165, 102, [.ref x, v1, v2], st, w) = zrun none (165, 103, [.ref x, v1, v2], (.ref x :: st), w) := (zE_ (i := .aload_n 0) (by decide +kernel) _ _ _).trans rfl
theorem e165_103 (ls : List Value) (a : Nat) (st : List Value) (w : zH) : zrun none (165, 103, ls, (.ref a :: st), w) = zo (zf w a 1216) (fun x => zrun none (165, 106, ls, (x :: st), w)) := (zE_ (i := .getfield 1216) (by decide +kernel) _ _ _).trans zq_getf
theorem e165_106 (ls : List Value) (a : Nat) (x0 : Int32) (x1 : Int32) (st : List Value) (w : zH) (hr : zcat st ≤ 8) : zrun none (165, 106, ls, (.int x1 :: .int x0 :: .ref a :: st), w) = zgd (zis w a 12) (zcl (zrun none (164, 0, [.ref a, .int x0, .int x1], [], w)) (fun r => zrun none (165, 109, ls, r.1.toList ++ st, r.2))) := by
  refine (zE_ (i := .invokevirtual 164) (by decide +kernel) _ _ _).trans ?_
  show zres (zinv none 164 165 106 ls (.int x1 :: .int x0 :: .ref a :: st) w) = _
  unfold zinv
  show zres (if zrc none 164 w (.ref a) = true then zcall 164 [.ref a, .int x0, .int x1] st 165 106 ls w else none) = _
  by_cases hc : zis w a 12
  · rw [if_pos (zrc_is hc (by decide +kernel)), zgd_pos hc]
    exact zq_call hr (Nat.le_of_ble_eq_true rfl) rfl rfl
  · rw [zgd_neg hc, if_neg (fun q => hc (zrc_of q (by decide +kernel)))]
    rfl
theorem e165_109 (ls : List Value) (x : Int32) (w : zH) : zrun none (165, 109, ls, [.int x], w) = some (some (.int x), w) := by
  refine (zE_ (i := .ireturn) (by decide +kernel) _ _ _).trans ?_
  show zres (if narrow .int (.int x) = .int x then _ else none) = _
  rw [if_pos (show narrow .int (.int x) = .int x from rfl)]
  rfl
theorem e166_0 (v1 v2 v3 v4 : Value) (x : Nat) (st : List Value) (w : zH) : zrun none (166, 0, [.ref x, v1, v2, v3, v4], st, w) = zrun none (166, 1, [.ref x, v1, v2, v3, v4], (.ref x :: st), w) := (zE_ (i := .aload_n 0) (by decide +kernel) _ _ _).trans rfl
theorem e166_1 (v0 v2 v3 v4 : Value) (x : Int32) (st : List Value) (w : zH) : zrun none (166, 1, [v0, .int x, v2, v3, v4], st, w) = zrun none (166, 2, [v0, .int x, v2, v3, v4], (.int x :: st), w) := (zE_ (i := .iload_n 1) (by decide +kernel) _ _ _).trans rfl
theorem e166_2 (v0 v1 v3 v4 : Value) (x : Int32) (st : List Value) (w : zH) : zrun none (166, 2, [v0, v1, .int x, v3, v4], st, w) = zrun none (166, 3, [v0, v1, .int x, v3, v4], (.int x :: st), w) := (zE_ (i := .iload_n 2) (by decide +kernel) _ _ _).trans rfl
theorem e166_3 (ls : List Value) (a : Nat) (x0 : Int32) (x1 : Int32) (st : List Value) (w : zH) (hr : zcat st ≤ 8) : zrun none (166, 3, ls, (.int x1 :: .int x0 :: .ref a :: st), w) = zgd (zis w a 12) (zcl (zrun none (164, 0, [.ref a, .int x0, .int x1], [], w)) (fun r => zrun none (166, 6, ls, r.1.toList ++ st, r.2))) := by
  refine (zE_ (i := .invokevirtual 164) (by decide +kernel) _ _ _).trans ?_
  show zres (zinv none 164 166 3 ls (.int x1 :: .int x0 :: .ref a :: st) w) = _
  unfold zinv
  show zres (if zrc none 164 w (.ref a) = true then zcall 164 [.ref a, .int x0, .int x1] st 166 3 ls w else none) = _
  by_cases hc : zis w a 12
  · rw [if_pos (zrc_is hc (by decide +kernel)), zgd_pos hc]
    exact zq_call hr (Nat.le_of_ble_eq_true rfl) rfl rfl
  · rw [zgd_neg hc, if_neg (fun q => hc (zrc_of q (by decide +kernel)))]
    rfl
theorem e166_6 (v0 v1 v2 v3 v4 : Value) (x : Int32) (st : List Value) (w : zH) (h : v2.category = 1) : zrun none (166, 6, [v0, v1, v2, v3, v4], (.int x :: st), w) = zrun none (166, 7, [v0, v1, v2, .int x, v4], st, w) := by
  refine (zE_ (i := .istore_n 3) (by decide +kernel) _ _ _).trans ?_
  have hz : zfree [v0, v1, v2, v3, v4] 3 = true := by show decide (v2.category = 1) = true; exact decide_eq_true h
  show zres (zst zint 3 1 166 6 [v0, v1, v2, v3, v4] (.int x :: st) w) = _
  unfold zst
  dsimp only
  rw [if_pos ⟨rfl, Nat.le_of_ble_eq_true rfl, hz⟩]
  rfl
theorem e166_7 (v1 v2 v3 v4 : Value) (x : Nat) (st : List Value) (w : zH) : zrun none (166, 7, [.ref x, v1, v2, v3, v4], st, w) = zrun none (166, 8, [.ref x, v1, v2, v3, v4], (.ref x :: st), w) := (zE_ (i := .aload_n 0) (by decide +kernel) _ _ _).trans rfl
theorem e166_8 (v0 v2 v3 v4 : Value) (x : Int32) (st : List Value) (w : zH) : zrun none (166, 8, [v0, .int x, v2, v3, v4], st, w) = zrun none (166, 9, [v0, .int x, v2, v3, v4], (.int x :: st), w) := (zE_ (i := .iload_n 1) (by decide +kernel) _ _ _).trans rfl
theorem e166_9 (v0 v1 v3 v4 : Value) (x : Int32) (st : List Value) (w : zH) : zrun none (166, 9, [v0, v1, .int x, v3, v4], st, w) = zrun none (166, 10, [v0, v1, .int x, v3, v4], (.int x :: st), w) := (zE_ (i := .iload_n 2) (by decide +kernel) _ _ _).trans rfl
theorem e166_10 (ls : List Value) (a : Nat) (x0 : Int32) (x1 : Int32) (st : List Value) (w : zH) (hr : zcat st ≤ 8) : zrun none (166, 10, ls, (.int x1 :: .int x0 :: .ref a :: st), w) = zgd (zis w a 12) (zcl (zrun none (163, 0, [.ref a, .int x0, .int x1], [], w)) (fun r => zrun none (166, 13, ls, r.1.toList ++ st, r.2))) := by
  refine (zE_ (i := .invokevirtual 163) (by decide +kernel) _ _ _).trans ?_
  show zres (zinv none 163 166 10 ls (.int x1 :: .int x0 :: .ref a :: st) w) = _
  unfold zinv
  show zres (if zrc none 163 w (.ref a) = true then zcall 163 [.ref a, .int x0, .int x1] st 166 10 ls w else none) = _
  by_cases hc : zis w a 12
  · rw [if_pos (zrc_is hc (by decide +kernel)), zgd_pos hc]
    exact zq_call hr (Nat.le_of_ble_eq_true rfl) rfl rfl
  · rw [zgd_neg hc, if_neg (fun q => hc (zrc_of q (by decide +kernel)))]
    rfl
theorem e166_13 (v0 v1 v2 v3 v4 : Value) (x : Int32) (st : List Value) (w : zH) (h : v3.category = 1) : zrun none (166, 13, [v0, v1, v2, v3, v4], (.int x :: st), w) = zrun none (166, 15, [v0, v1, v2, v3, .int x], st, w) := by
  refine (zE_ (i := .istore 4) (by decide +kernel) _ _ _).trans ?_
  have hz : zfree [v0, v1, v2, v3, v4] 4 = true := by show decide (v3.category = 1) = true; exact decide_eq_true h
  show zres (zst zint 4 2 166 13 [v0, v1, v2, v3, v4] (.int x :: st) w) = _
  unfold zst
  dsimp only
  rw [if_pos ⟨rfl, Nat.le_of_ble_eq_true rfl, hz⟩]
  rfl
theorem e166_15 (v0 v1 v2 v4 : Value) (x : Int32) (st : List Value) (w : zH) : zrun none (166, 15, [v0, v1, v2, .int x, v4], st, w) = zrun none (166, 16, [v0, v1, v2, .int x, v4], (.int x :: st), w) := (zE_ (i := .iload_n 3) (by decide +kernel) _ _ _).trans rfl
theorem e166_16 (ls : List Value) (a : Int32) (st : List Value) (w : zH) : zrun none (166, 16, ls, (.int a :: st), w) = if a ≤ 0 then zrun none (166, 39, ls, st, w) else zrun none (166, 19, ls, st, w) := (zE_ (i := .ifCond .le 23) (by decide +kernel) _ _ _).trans (zq_if_le rfl rfl)
theorem e166_19 (v0 v1 v2 v3 : Value) (x : Int32) (st : List Value) (w : zH) : zrun none (166, 19, [v0, v1, v2, v3, .int x], st, w) = zrun none (166, 21, [v0, v1, v2, v3, .int x], (.int x :: st), w) := (zE_ (i := .iload 4) (by decide +kernel) _ _ _).trans rfl
theorem e166_21 (ls st : List Value) (w : zH) : zrun none (166, 21, ls, st, w) = zrun none (166, 23, ls, (.int 100 :: st), w) := (zE_ (i := .bipush 100) (by decide +kernel) _ _ _).trans rfl
theorem e166_23 (ls : List Value) (a b : Int32) (st : List Value) (w : zH) : zrun none (166, 23, ls, (.int b :: .int a :: st), w) = if a < b then zrun none (166, 39, ls, st, w) else zrun none (166, 26, ls, st, w) := (zE_ (i := .if_icmp .lt 16) (by decide +kernel) _ _ _).trans (zq_ic_lt rfl rfl)
theorem e166_26 (v0 v1 v2 v4 : Value) (x : Int32) (st : List Value) (w : zH) : zrun none (166, 26, [v0, v1, v2, .int x, v4], st, w) = zrun none (166, 27, [v0, v1, v2, .int x, v4], (.int x :: st), w) := (zE_ (i := .iload_n 3) (by decide +kernel) _ _ _).trans rfl
theorem e166_27 (ls st : List Value) (w : zH) : zrun none (166, 27, ls, st, w) = zrun none (166, 28, ls, (.int 1 :: st), w) := (zE_ (i := .iconst 1) (by decide +kernel) _ _ _).trans rfl
theorem e166_28 (ls : List Value) (a b : Int32) (st : List Value) (w : zH) : zrun none (166, 28, ls, (.int b :: .int a :: st), w) = if a = b then zrun none (166, 31, ls, st, w) else zrun none (166, 35, ls, st, w) := (zE_ (i := .if_icmp .ne 7) (by decide +kernel) _ _ _).trans (zq_ic_ne rfl rfl)
theorem e166_31 (ls st : List Value) (w : zH) : zrun none (166, 31, ls, st, w) = zrun none (166, 32, ls, (.int 2 :: st), w) := (zE_ (i := .iconst 2) (by decide +kernel) _ _ _).trans rfl
theorem e166_32 (ls st : List Value) (w : zH) : zrun none (166, 32, ls, st, w) = zrun none (166, 51, ls, st, w) := (zE_ (i := .goto 19) (by decide +kernel) _ _ _).trans rfl
theorem e166_35 (ls st : List Value) (w : zH) : zrun none (166, 35, ls, st, w) = zrun none (166, 36, ls, (.int 1 :: st), w) := (zE_ (i := .iconst 1) (by decide +kernel) _ _ _).trans rfl
theorem e166_36 (ls st : List Value) (w : zH) : zrun none (166, 36, ls, st, w) = zrun none (166, 51, ls, st, w) := (zE_ (i := .goto 15) (by decide +kernel) _ _ _).trans rfl
theorem e166_39 (v0 v1 v2 v3 : Value) (x : Int32) (st : List Value) (w : zH) : zrun none (166, 39, [v0, v1, v2, v3, .int x], st, w) = zrun none (166, 41, [v0, v1, v2, v3, .int x], (.int x :: st), w) := (zE_ (i := .iload 4) (by decide +kernel) _ _ _).trans rfl
theorem e166_41 (ls st : List Value) (w : zH) : zrun none (166, 41, ls, st, w) = zrun none (166, 43, ls, (.int 30 :: st), w) := (zE_ (i := .bipush 30) (by decide +kernel) _ _ _).trans rfl
theorem e166_43 (ls : List Value) (a b : Int32) (st : List Value) (w : zH) : zrun none (166, 43, ls, (.int b :: .int a :: st), w) = if b ≤ a then zrun none (166, 50, ls, st, w) else zrun none (166, 46, ls, st, w) := (zE_ (i := .if_icmp .ge 7) (by decide +kernel) _ _ _).trans (zq_ic_ge rfl rfl)
theorem e166_46 (ls st : List Value) (w : zH) : zrun none (166, 46, ls, st, w) = zrun none (166, 47, ls, (.int 3 :: st), w) := (zE_ (i := .iconst 3) (by decide +kernel) _ _ _).trans rfl
theorem e166_47 (ls st : List Value) (w : zH) : zrun none (166, 47, ls, st, w) = zrun none (166, 51, ls, st, w) := (zE_ (i := .goto 4) (by decide +kernel) _ _ _).trans rfl
theorem e166_50 (ls st : List Value) (w : zH) : zrun none (166, 50, ls, st, w) = zrun none (166, 51, ls, (.int 0 :: st), w) := (zE_ (i := .iconst 0) (by decide +kernel) _ _ _).trans rfl
theorem e166_51 (ls : List Value) (x : Int32) (w : zH) : zrun none (166, 51, ls, [.int x], w) = some (some (.int x), w) := by
  refine (zE_ (i := .ireturn) (by decide +kernel) _ _ _).trans ?_
  show zres (if narrow .int (.int x) = .int x then _ else none) = _
  rw [if_pos (show narrow .int (.int x) = .int x from rfl)]
  rfl
theorem e167_0 (v1 v2 v3 v4 : Value) (x : Nat) (st : List Value) (w : zH) : zrun none (167, 0, [.ref x, v1, v2, v3, v4], st, w) = zrun none (167, 1, [.ref x, v1, v2, v3, v4], (.ref x :: st), w) := (zE_ (i := .aload_n 0) (by decide +kernel) _ _ _).trans rfl
theorem e167_1 (ls st : List Value) (w : zH) : zrun none (167, 1, ls, st, w) = zrun none (167, 2, ls, (.int 0 :: st), w) := (zE_ (i := .iconst 0) (by decide +kernel) _ _ _).trans rfl
theorem e167_2 (ls : List Value) (x : Int32) (a : Nat) (st : List Value) (w : zH) : zrun none (167, 2, ls, (.int x :: .ref a :: st), w) = zgd (a < zX ∧ (zf w a 1200).isSome = true) (zrun none (167, 5, ls, st, zpf w a 1200 (.int x))) := by
  refine (zE_ (i := .putfield 1200) (by decide +kernel) _ _ _).trans ?_
  by_cases hg : a < zX ∧ (zf w a 1200).isSome = true
  · rw [zgd_pos hg]
    obtain ⟨ha, h⟩ := hg
    exact zq_putf ha h rfl rfl
  · rw [zgd_neg hg]
    exact zq_putf_no (fun h1 h2 h3 => hg ⟨h1, h2⟩)
theorem e167_5 (v0 v1 v2 v4 : Value) (x : Int32) (st : List Value) (w : zH) : zrun none (167, 5, [v0, v1, v2, .int x, v4], st, w) = zrun none (167, 6, [v0, v1, v2, .int x, v4], (.int x :: st), w) := (zE_ (i := .iload_n 3) (by decide +kernel) _ _ _).trans rfl
theorem e167_6 (ls : List Value) (a : Int32) (st : List Value) (w : zH) : zrun none (167, 6, ls, (.int a :: st), w) = zrun none (167, 7, ls, (.long a.toInt64 :: st), w) := (zE_ (i := .i2l) (by decide +kernel) _ _ _).trans rfl
theorem e167_7 (ls st : List Value) (w : zH) : zrun none (167, 7, ls, st, w) = zrun none (167, 8, ls, (.long 1 :: st), w) := (zE_ (i := .lconst 1) (by decide +kernel) _ _ _).trans rfl
theorem e167_8 (ls st : List Value) (w : zH) : zrun none (167, 8, ls, st, w) = zrun none (167, 11, ls, (.long 8 :: st), w) := (zE_ (i := .ldc2_w 8) (by decide +kernel) _ _ _).trans rfl
theorem e167_11 (ls : List Value) (x0 : Int64) (x1 : Int64) (x2 : Int64) (st : List Value) (w : zH) (hr : zcat st ≤ 8) : zrun none (167, 11, ls, (.long x2 :: .long x1 :: .long x0 :: st), w) = zcl (zrun none (146, 0, [.long x0, zJ, .long x1, zJ, .long x2, zJ], [], w)) (fun r => zrun none (167, 14, ls, r.1.toList ++ st, r.2)) := by
  refine (zE_ (i := .invokestatic 146) (by decide +kernel) _ _ _).trans ?_
  show zres (if (99 : Nat) = 99 ∧ 3 ≤ ((.long x2 :: .long x1 :: .long x0 :: st) : List Value).length then zcall 146 [.long x0, .long x1, .long x2] st 167 11 ls w else none) = _
  rw [if_pos ⟨rfl, by simp⟩]
  exact zq_call hr (Nat.le_of_ble_eq_true rfl) rfl rfl
theorem e167_14 (ls : List Value) (a : Int32) (st : List Value) (w : zH) : zrun none (167, 14, ls, (.int a :: st), w) = if a = 0 then zrun none (167, 17, ls, st, w) else zrun none (167, 20, ls, st, w) := (zE_ (i := .ifCond .ne 6) (by decide +kernel) _ _ _).trans (zq_if_ne rfl rfl)
theorem e167_17 (ls st : List Value) (w : zH) : zrun none (167, 17, ls, st, w) = zrun none (167, 19, ls, (.int (-1000001) :: st), w) := (zE_ (i := .bipush (-1000001)) (by decide +kernel) _ _ _).trans rfl
theorem e167_19 (ls : List Value) (x : Int32) (w : zH) : zrun none (167, 19, ls, [.int x], w) = some (some (.int x), w) := by
  refine (zE_ (i := .ireturn) (by decide +kernel) _ _ _).trans ?_
  show zres (if narrow .int (.int x) = .int x then _ else none) = _
  rw [if_pos (show narrow .int (.int x) = .int x from rfl)]
  rfl
theorem e167_20 (v1 v2 v3 v4 : Value) (x : Nat) (st : List Value) (w : zH) : zrun none (167, 20, [.ref x, v1, v2, v3, v4], st, w) = zrun none (167, 21, [.ref x, v1, v2, v3, v4], (.ref x :: st), w) := (zE_ (i := .aload_n 0) (by decide +kernel) _ _ _).trans rfl
theorem e167_21 (ls : List Value) (a : Nat) (st : List Value) (w : zH) : zrun none (167, 21, ls, (.ref a :: st), w) = zo (zf w a 1221) (fun x => zrun none (167, 24, ls, (x :: st), w)) := (zE_ (i := .getfield 1221) (by decide +kernel) _ _ _).trans zq_getf
theorem e167_24 (v0 v1 v2 v4 : Value) (x : Int32) (st : List Value) (w : zH) : zrun none (167, 24, [v0, v1, v2, .int x, v4], st, w) = zrun none (167, 25, [v0, v1, v2, .int x, v4], (.int x :: st), w) := (zE_ (i := .iload_n 3) (by decide +kernel) _ _ _).trans rfl
theorem e167_25 (ls : List Value) (a b : Int32) (st : List Value) (w : zH) : zrun none (167, 25, ls, (.int b :: .int a :: st), w) = zrun none (167, 26, ls, (.int (a + b) :: st), w) := (zE_ (i := .iadd) (by decide +kernel) _ _ _).trans rfl
theorem e167_26 (ls st : List Value) (w : zH) : zrun none (167, 26, ls, st, w) = zrun none (167, 29, ls, (.int 500 :: st), w) := (zE_ (i := .sipush 500) (by decide +kernel) _ _ _).trans rfl
theorem e167_29 (ls : List Value) (a b : Int32) (st : List Value) (w : zH) : zrun none (167, 29, ls, (.int b :: .int a :: st), w) = if a ≤ b then zrun none (167, 35, ls, st, w) else zrun none (167, 32, ls, st, w) := (zE_ (i := .if_icmp .le 6) (by decide +kernel) _ _ _).trans (zq_ic_le rfl rfl)
theorem e167_32 (ls st : List Value) (w : zH) : zrun none (167, 32, ls, st, w) = zrun none (167, 34, ls, (.int (-1000003) :: st), w) := (zE_ (i := .bipush (-1000003)) (by decide +kernel) _ _ _).trans rfl
theorem e167_34 (ls : List Value) (x : Int32) (w : zH) : zrun none (167, 34, ls, [.int x], w) = some (some (.int x), w) := by
  refine (zE_ (i := .ireturn) (by decide +kernel) _ _ _).trans ?_
  show zres (if narrow .int (.int x) = .int x then _ else none) = _
  rw [if_pos (show narrow .int (.int x) = .int x from rfl)]
  rfl
theorem e167_35 (v0 v1 v2 v4 : Value) (x : Int32) (st : List Value) (w : zH) : zrun none (167, 35, [v0, v1, v2, .int x, v4], st, w) = zrun none (167, 36, [v0, v1, v2, .int x, v4], (.int x :: st), w) := (zE_ (i := .iload_n 3) (by decide +kernel) _ _ _).trans rfl
theorem e167_36 (ls st : List Value) (w : zH) : zrun none (167, 36, ls, st, w) = zrun none (167, 37, ls, (.int 1 :: st), w) := (zE_ (i := .iconst 1) (by decide +kernel) _ _ _).trans rfl
theorem e167_37 (ls : List Value) (a b : Int32) (st : List Value) (w : zH) : zrun none (167, 37, ls, (.int b :: .int a :: st), w) = zrun none (167, 38, ls, (.int (a - b) :: st), w) := (zE_ (i := .isub) (by decide +kernel) _ _ _).trans rfl
theorem e167_38 (v0 v1 v2 v3 v4 : Value) (x : Int32) (st : List Value) (w : zH) (h : v3.category = 1) : zrun none (167, 38, [v0, v1, v2, v3, v4], (.int x :: st), w) = zrun none (167, 40, [v0, v1, v2, v3, .int x], st, w) := by
  refine (zE_ (i := .istore 4) (by decide +kernel) _ _ _).trans ?_
  have hz : zfree [v0, v1, v2, v3, v4] 4 = true := by show decide (v3.category = 1) = true; exact decide_eq_true h
  show zres (zst zint 4 2 167 38 [v0, v1, v2, v3, v4] (.int x :: st) w) = _
  unfold zst
  dsimp only
  rw [if_pos ⟨rfl, Nat.le_of_ble_eq_true rfl, hz⟩]
  rfl
theorem e167_40 (v0 v1 v2 v3 : Value) (x : Int32) (st : List Value) (w : zH) : zrun none (167, 40, [v0, v1, v2, v3, .int x], st, w) = zrun none (167, 42, [v0, v1, v2, v3, .int x], (.int x :: st), w) := (zE_ (i := .iload 4) (by decide +kernel) _ _ _).trans rfl
theorem e167_42 (ls : List Value) (a : Int32) (st : List Value) (w : zH) : zrun none (167, 42, ls, (.int a :: st), w) = if a < 0 then zrun none (167, 82, ls, st, w) else zrun none (167, 45, ls, st, w) := (zE_ (i := .ifCond .lt 40) (by decide +kernel) _ _ _).trans (zq_if_lt rfl rfl)
theorem e167_45 (v1 v2 v3 v4 : Value) (x : Nat) (st : List Value) (w : zH) : zrun none (167, 45, [.ref x, v1, v2, v3, v4], st, w) = zrun none (167, 46, [.ref x, v1, v2, v3, v4], (.ref x :: st), w) := (zE_ (i := .aload_n 0) (by decide +kernel) _ _ _).trans rfl
theorem e167_46 (ls : List Value) (a : Nat) (st : List Value) (w : zH) : zrun none (167, 46, ls, (.ref a :: st), w) = zo (zf w a 1220) (fun x => zrun none (167, 49, ls, (x :: st), w)) := (zE_ (i := .getfield 1220) (by decide +kernel) _ _ _).trans zq_getf
theorem e167_49 (v1 v2 v3 v4 : Value) (x : Nat) (st : List Value) (w : zH) : zrun none (167, 49, [.ref x, v1, v2, v3, v4], st, w) = zrun none (167, 50, [.ref x, v1, v2, v3, v4], (.ref x :: st), w) := (zE_ (i := .aload_n 0) (by decide +kernel) _ _ _).trans rfl
theorem e167_50 (ls : List Value) (a : Nat) (st : List Value) (w : zH) : zrun none (167, 50, ls, (.ref a :: st), w) = zo (zf w a 1221) (fun x => zrun none (167, 53, ls, (x :: st), w)) := (zE_ (i := .getfield 1221) (by decide +kernel) _ _ _).trans zq_getf
theorem e167_53 (v0 v2 v3 v4 : Value) (x : Int64) (st : List Value) (w : zH) : zrun none (167, 53, [v0, .long x, v2, v3, v4], st, w) = zrun none (167, 54, [v0, .long x, v2, v3, v4], (.long x :: st), w) := (zE_ (i := .lload_n 1) (by decide +kernel) _ _ _).trans rfl
theorem e167_54 (ls st : List Value) (w : zH) : zrun none (167, 54, ls, st, w) = zrun none (167, 56, ls, (.int 8 :: st), w) := (zE_ (i := .bipush 8) (by decide +kernel) _ _ _).trans rfl
theorem e167_56 (v0 v1 v2 v3 : Value) (x : Int32) (st : List Value) (w : zH) : zrun none (167, 56, [v0, v1, v2, v3, .int x], st, w) = zrun none (167, 58, [v0, v1, v2, v3, .int x], (.int x :: st), w) := (zE_ (i := .iload 4) (by decide +kernel) _ _ _).trans rfl
theorem e167_58 (ls : List Value) (a b : Int32) (st : List Value) (w : zH) : zrun none (167, 58, ls, (.int b :: .int a :: st), w) = zrun none (167, 59, ls, (.int (a * b) :: st), w) := (zE_ (i := .imul) (by decide +kernel) _ _ _).trans rfl
theorem e167_59 (ls : List Value) (a : Int64) (b : Int32) (st : List Value) (w : zH) : zrun none (167, 59, ls, (.int b :: .long a :: st), w) = zrun none (167, 60, ls, (.long (a >>> (b.toInt64 &&& 63)) :: st), w) := (zE_ (i := .lshr) (by decide +kernel) _ _ _).trans rfl
theorem e167_60 (ls st : List Value) (w : zH) : zrun none (167, 60, ls, st, w) = zrun none (167, 63, ls, (.long 255 :: st), w) := (zE_ (i := .ldc2_w 255) (by decide +kernel) _ _ _).trans rfl
theorem e167_63 (ls : List Value) (a b : Int64) (st : List Value) (w : zH) : zrun none (167, 63, ls, (.long b :: .long a :: st), w) = zrun none (167, 64, ls, (.long (a &&& b) :: st), w) := (zE_ (i := .land) (by decide +kernel) _ _ _).trans rfl
theorem e167_64 (ls : List Value) (a : Int64) (st : List Value) (w : zH) : zrun none (167, 64, ls, (.long a :: st), w) = zrun none (167, 65, ls, (.int a.toInt32 :: st), w) := (zE_ (i := .l2i) (by decide +kernel) _ _ _).trans rfl
theorem e167_65 (ls : List Value) (x j : Int32) (a : Nat) (st : List Value) (w : zH) : zrun none (167, 65, ls, (.int x :: .int j :: .ref a :: st), w) = zgd (zin? w a 100 j) (zrun none (167, 66, ls, st, zas w a j (.int x))) := by
  refine (zE_ (i := .iastore) (by decide +kernel) _ _ _).trans ?_
  by_cases hg : zin? w a 100 j
  · rw [zgd_pos hg]
    exact zq_iast hg
  · rw [zgd_neg hg]
    exact zq_iast_no hg
theorem e167_66 (v1 v2 v3 v4 : Value) (x : Nat) (st : List Value) (w : zH) : zrun none (167, 66, [.ref x, v1, v2, v3, v4], st, w) = zrun none (167, 67, [.ref x, v1, v2, v3, v4], (.ref x :: st), w) := (zE_ (i := .aload_n 0) (by decide +kernel) _ _ _).trans rfl
theorem e167_67 (ls : List Value) (x : Int32) (st : List Value) (w : zH) : zrun none (167, 67, ls, (.int x :: st), w) = zrun none (167, 68, ls, (.int x :: .int x :: st), w) := (zE_ (i := .dup) (by decide +kernel) _ _ _).trans rfl
theorem e167_67r (ls : List Value) (x : Nat) (st : List Value) (w : zH) : zrun none (167, 67, ls, (.ref x :: st), w) = zrun none (167, 68, ls, (.ref x :: .ref x :: st), w) := (zE_ (i := .dup) (by decide +kernel) _ _ _).trans rfl
theorem e167_68 (ls : List Value) (a : Nat) (st : List Value) (w : zH) : zrun none (167, 68, ls, (.ref a :: st), w) = zo (zf w a 1221) (fun x => zrun none (167, 71, ls, (x :: st), w)) := (zE_ (i := .getfield 1221) (by decide +kernel) _ _ _).trans zq_getf
theorem e167_71 (ls st : List Value) (w : zH) : zrun none (167, 71, ls, st, w) = zrun none (167, 72, ls, (.int 1 :: st), w) := (zE_ (i := .iconst 1) (by decide +kernel) _ _ _).trans rfl
theorem e167_72 (ls : List Value) (a b : Int32) (st : List Value) (w : zH) : zrun none (167, 72, ls, (.int b :: .int a :: st), w) = zrun none (167, 73, ls, (.int (a + b) :: st), w) := (zE_ (i := .iadd) (by decide +kernel) _ _ _).trans rfl
theorem e167_73 (ls : List Value) (x : Int32) (a : Nat) (st : List Value) (w : zH) : zrun none (167, 73, ls, (.int x :: .ref a :: st), w) = zgd (a < zX ∧ (zf w a 1221).isSome = true) (zrun none (167, 76, ls, st, zpf w a 1221 (.int x))) := by
  refine (zE_ (i := .putfield 1221) (by decide +kernel) _ _ _).trans ?_
  by_cases hg : a < zX ∧ (zf w a 1221).isSome = true
  · rw [zgd_pos hg]
    obtain ⟨ha, h⟩ := hg
    exact zq_putf ha h rfl rfl
  · rw [zgd_neg hg]
    exact zq_putf_no (fun h1 h2 h3 => hg ⟨h1, h2⟩)
theorem e167_76 (v0 v1 v2 v3 : Value) (x : Int32) (st : List Value) (w : zH) : zrun none (167, 76, [v0, v1, v2, v3, .int x], st, w) = zrun none (167, 79, [v0, v1, v2, v3, .int (x + (-1))], st, w) := by
  rw [show ((-1) : Int32) = Int32.ofInt (-1) from by decide]
  exact (zE_ (i := .iinc 4 (-1)) (by decide +kernel) _ _ _).trans rfl
theorem e167_79 (ls st : List Value) (w : zH) : zrun none (167, 79, ls, st, w) = zrun none (167, 40, ls, st, w) := (zE_ (i := .goto (-39)) (by decide +kernel) _ _ _).trans rfl
theorem e167_82 (v1 v2 v3 v4 : Value) (x : Nat) (st : List Value) (w : zH) : zrun none (167, 82, [.ref x, v1, v2, v3, v4], st, w) = zrun none (167, 83, [.ref x, v1, v2, v3, v4], (.ref x :: st), w) := (zE_ (i := .aload_n 0) (by decide +kernel) _ _ _).trans rfl
theorem e167_83 (ls : List Value) (a : Nat) (st : List Value) (w : zH) : zrun none (167, 83, ls, (.ref a :: st), w) = zo (zf w a 1221) (fun x => zrun none (167, 86, ls, (x :: st), w)) := (zE_ (i := .getfield 1221) (by decide +kernel) _ _ _).trans zq_getf
theorem e167_86 (ls : List Value) (x : Int32) (w : zH) : zrun none (167, 86, ls, [.int x], w) = some (some (.int x), w) := by
  refine (zE_ (i := .ireturn) (by decide +kernel) _ _ _).trans ?_
  show zres (if narrow .int (.int x) = .int x then _ else none) = _
  rw [if_pos (show narrow .int (.int x) = .int x from rfl)]
  rfl
theorem e168_0 (v0 : Value) (x : Int32) (st : List Value) (w : zH) : zrun none (168, 0, [v0, .int x], st, w) = zrun none (168, 1, [v0, .int x], (.int x :: st), w) := (zE_ (i := .iload_n 1) (by decide +kernel) _ _ _).trans rfl
theorem e168_1 (v1 : Value) (x : Nat) (st : List Value) (w : zH) : zrun none (168, 1, [.ref x, v1], st, w) = zrun none (168, 2, [.ref x, v1], (.ref x :: st), w) := (zE_ (i := .aload_n 0) (by decide +kernel) _ _ _).trans rfl
theorem e168_2 (ls : List Value) (a : Nat) (st : List Value) (w : zH) : zrun none (168, 2, ls, (.ref a :: st), w) = zo (zf w a 1223) (fun x => zrun none (168, 5, ls, (x :: st), w)) := (zE_ (i := .getfield 1223) (by decide +kernel) _ _ _).trans zq_getf
theorem e168_5 (ls : List Value) (a b : Int32) (st : List Value) (w : zH) : zrun none (168, 5, ls, (.int b :: .int a :: st), w) = if b ≤ a then zrun none (168, 17, ls, st, w) else zrun none (168, 8, ls, st, w) := (zE_ (i := .if_icmp .ge 12) (by decide +kernel) _ _ _).trans (zq_ic_ge rfl rfl)
theorem e168_8 (v1 : Value) (x : Nat) (st : List Value) (w : zH) : zrun none (168, 8, [.ref x, v1], st, w) = zrun none (168, 9, [.ref x, v1], (.ref x :: st), w) := (zE_ (i := .aload_n 0) (by decide +kernel) _ _ _).trans rfl
theorem e168_9 (ls : List Value) (a : Nat) (st : List Value) (w : zH) : zrun none (168, 9, ls, (.ref a :: st), w) = zo (zf w a 1220) (fun x => zrun none (168, 12, ls, (x :: st), w)) := (zE_ (i := .getfield 1220) (by decide +kernel) _ _ _).trans zq_getf
theorem e168_12 (v0 : Value) (x : Int32) (st : List Value) (w : zH) : zrun none (168, 12, [v0, .int x], st, w) = zrun none (168, 13, [v0, .int x], (.int x :: st), w) := (zE_ (i := .iload_n 1) (by decide +kernel) _ _ _).trans rfl
theorem e168_13 (ls : List Value) (j : Int32) (a : Nat) (st : List Value) (w : zH) : zrun none (168, 13, ls, (.int j :: .ref a :: st), w) = zoi (zai w a 100 j) (fun x => zrun none (168, 14, ls, (.int x :: st), w)) := (zE_ (i := .iaload) (by decide +kernel) _ _ _).trans zq_iald
theorem e168_14 (ls st : List Value) (w : zH) : zrun none (168, 14, ls, st, w) = zrun none (168, 19, ls, st, w) := (zE_ (i := .goto 5) (by decide +kernel) _ _ _).trans rfl
theorem e168_17 (ls st : List Value) (w : zH) : zrun none (168, 17, ls, st, w) = zrun none (168, 19, ls, (.int (-1000000) :: st), w) := (zE_ (i := .bipush (-1000000)) (by decide +kernel) _ _ _).trans rfl
theorem e168_19 (ls : List Value) (x : Int32) (w : zH) : zrun none (168, 19, ls, [.int x], w) = some (some (.int x), w) := by
  refine (zE_ (i := .ireturn) (by decide +kernel) _ _ _).trans ?_
  show zres (if narrow .int (.int x) = .int x then _ else none) = _
  rw [if_pos (show narrow .int (.int x) = .int x from rfl)]
  rfl
theorem e169_0 (x : Int32) (st : List Value) (w : zH) : zrun none (169, 0, [.int x], st, w) = zrun none (169, 1, [.int x], (.int x :: st), w) := (zE_ (i := .iload_n 0) (by decide +kernel) _ _ _).trans rfl
theorem e169_1 (ls st : List Value) (w : zH) : zrun none (169, 1, ls, st, w) = zrun none (169, 3, ls, (.int 97 :: st), w) := (zE_ (i := .bipush 97) (by decide +kernel) _ _ _).trans rfl
theorem e169_3 (ls : List Value) (a b : Int32) (st : List Value) (w : zH) : zrun none (169, 3, ls, (.int b :: .int a :: st), w) = if a < b then zrun none (169, 16, ls, st, w) else zrun none (169, 6, ls, st, w) := (zE_ (i := .if_icmp .lt 13) (by decide +kernel) _ _ _).trans (zq_ic_lt rfl rfl)
theorem e169_6 (x : Int32) (st : List Value) (w : zH) : zrun none (169, 6, [.int x], st, w) = zrun none (169, 7, [.int x], (.int x :: st), w) := (zE_ (i := .iload_n 0) (by decide +kernel) _ _ _).trans rfl
theorem e169_7 (ls st : List Value) (w : zH) : zrun none (169, 7, ls, st, w) = zrun none (169, 9, ls, (.int 122 :: st), w) := (zE_ (i := .bipush 122) (by decide +kernel) _ _ _).trans rfl
theorem e169_9 (ls : List Value) (a b : Int32) (st : List Value) (w : zH) : zrun none (169, 9, ls, (.int b :: .int a :: st), w) = if b < a then zrun none (169, 16, ls, st, w) else zrun none (169, 12, ls, st, w) := (zE_ (i := .if_icmp .gt 7) (by decide +kernel) _ _ _).trans (zq_ic_gt rfl rfl)
theorem e169_12 (ls st : List Value) (w : zH) : zrun none (169, 12, ls, st, w) = zrun none (169, 13, ls, (.int 1 :: st), w) := (zE_ (i := .iconst 1) (by decide +kernel) _ _ _).trans rfl
theorem e169_13 (ls st : List Value) (w : zH) : zrun none (169, 13, ls, st, w) = zrun none (169, 17, ls, st, w) := (zE_ (i := .goto 4) (by decide +kernel) _ _ _).trans rfl
theorem e169_16 (ls st : List Value) (w : zH) : zrun none (169, 16, ls, st, w) = zrun none (169, 17, ls, (.int 0 :: st), w) := (zE_ (i := .iconst 0) (by decide +kernel) _ _ _).trans rfl
theorem e169_17 (ls : List Value) (x : Int32) (w : zH) (h : narrow .boolean (.int x) = .int x) : zrun none (169, 17, ls, [.int x], w) = some (some (.int x), w) := by
  refine (zE_ (i := .ireturn) (by decide +kernel) _ _ _).trans ?_
  show zres (if narrow .boolean (.int x) = .int x then _ else none) = _
  rw [if_pos h]
  rfl
theorem e170_0 (x : Int32) (st : List Value) (w : zH) : zrun none (170, 0, [.int x], st, w) = zrun none (170, 1, [.int x], (.int x :: st), w) := (zE_ (i := .iload_n 0) (by decide +kernel) _ _ _).trans rfl
theorem e170_1 (ls st : List Value) (w : zH) : zrun none (170, 1, ls, st, w) = zrun none (170, 3, ls, (.int 48 :: st), w) := (zE_ (i := .bipush 48) (by decide +kernel) _ _ _).trans rfl
theorem e170_3 (ls : List Value) (a b : Int32) (st : List Value) (w : zH) : zrun none (170, 3, ls, (.int b :: .int a :: st), w) = if a < b then zrun none (170, 16, ls, st, w) else zrun none (170, 6, ls, st, w) := (zE_ (i := .if_icmp .lt 13) (by decide +kernel) _ _ _).trans (zq_ic_lt rfl rfl)
theorem e170_6 (x : Int32) (st : List Value) (w : zH) : zrun none (170, 6, [.int x], st, w) = zrun none (170, 7, [.int x], (.int x :: st), w) := (zE_ (i := .iload_n 0) (by decide +kernel) _ _ _).trans rfl
theorem e170_7 (ls st : List Value) (w : zH) : zrun none (170, 7, ls, st, w) = zrun none (170, 9, ls, (.int 57 :: st), w) := (zE_ (i := .bipush 57) (by decide +kernel) _ _ _).trans rfl
theorem e170_9 (ls : List Value) (a b : Int32) (st : List Value) (w : zH) : zrun none (170, 9, ls, (.int b :: .int a :: st), w) = if b < a then zrun none (170, 16, ls, st, w) else zrun none (170, 12, ls, st, w) := (zE_ (i := .if_icmp .gt 7) (by decide +kernel) _ _ _).trans (zq_ic_gt rfl rfl)
theorem e170_12 (ls st : List Value) (w : zH) : zrun none (170, 12, ls, st, w) = zrun none (170, 13, ls, (.int 1 :: st), w) := (zE_ (i := .iconst 1) (by decide +kernel) _ _ _).trans rfl
theorem e170_13 (ls st : List Value) (w : zH) : zrun none (170, 13, ls, st, w) = zrun none (170, 17, ls, st, w) := (zE_ (i := .goto 4) (by decide +kernel) _ _ _).trans rfl
theorem e170_16 (ls st : List Value) (w : zH) : zrun none (170, 16, ls, st, w) = zrun none (170, 17, ls, (.int 0 :: st), w) := (zE_ (i := .iconst 0) (by decide +kernel) _ _ _).trans rfl
theorem e170_17 (ls : List Value) (x : Int32) (w : zH) (h : narrow .boolean (.int x) = .int x) : zrun none (170, 17, ls, [.int x], w) = some (some (.int x), w) := by
  refine (zE_ (i := .ireturn) (by decide +kernel) _ _ _).trans ?_
  show zres (if narrow .boolean (.int x) = .int x then _ else none) = _
  rw [if_pos h]
  rfl
theorem e171_0 (v1 : Value) (x : Nat) (st : List Value) (w : zH) : zrun none (171, 0, [.ref x, v1], st, w) = zrun none (171, 1, [.ref x, v1], (.ref x :: st), w) := (zE_ (i := .aload_n 0) (by decide +kernel) _ _ _).trans rfl
theorem e171_1 (v1 : Value) (x : Nat) (st : List Value) (w : zH) : zrun none (171, 1, [.ref x, v1], st, w) = zrun none (171, 2, [.ref x, v1], (.ref x :: st), w) := (zE_ (i := .aload_n 0) (by decide +kernel) _ _ _).trans rfl
theorem e171_2 (ls : List Value) (a : Nat) (st : List Value) (w : zH) : zrun none (171, 2, ls, (.ref a :: st), w) = zo (zf w a 1224) (fun x => zrun none (171, 5, ls, (x :: st), w)) := (zE_ (i := .getfield 1224) (by decide +kernel) _ _ _).trans zq_getf
theorem e171_5 (ls : List Value) (a : Nat) (x0 : Int32) (st : List Value) (w : zH) (hr : zcat st ≤ 8) : zrun none (171, 5, ls, (.int x0 :: .ref a :: st), w) = zgd (zis w a 12) (zcl (zrun none (168, 0, [.ref a, .int x0], [], w)) (fun r => zrun none (171, 8, ls, r.1.toList ++ st, r.2))) := by
  refine (zE_ (i := .invokevirtual 168) (by decide +kernel) _ _ _).trans ?_
  show zres (zinv none 168 171 5 ls (.int x0 :: .ref a :: st) w) = _
  unfold zinv
  show zres (if zrc none 168 w (.ref a) = true then zcall 168 [.ref a, .int x0] st 171 5 ls w else none) = _
  by_cases hc : zis w a 12
  · rw [if_pos (zrc_is hc (by decide +kernel)), zgd_pos hc]
    exact zq_call hr (Nat.le_of_ble_eq_true rfl) rfl rfl
  · rw [zgd_neg hc, if_neg (fun q => hc (zrc_of q (by decide +kernel)))]
    rfl
theorem e171_8 (ls st : List Value) (w : zH) : zrun none (171, 8, ls, st, w) = zrun none (171, 10, ls, (.int 32 :: st), w) := (zE_ (i := .bipush 32) (by decide +kernel) _ _ _).trans rfl
theorem e171_10 (ls : List Value) (a b : Int32) (st : List Value) (w : zH) : zrun none (171, 10, ls, (.int b :: .int a :: st), w) = if a = b then zrun none (171, 26, ls, st, w) else zrun none (171, 13, ls, st, w) := (zE_ (i := .if_icmp .eq 16) (by decide +kernel) _ _ _).trans (zq_ic_eq rfl rfl)
theorem e171_13 (v1 : Value) (x : Nat) (st : List Value) (w : zH) : zrun none (171, 13, [.ref x, v1], st, w) = zrun none (171, 14, [.ref x, v1], (.ref x :: st), w) := (zE_ (i := .aload_n 0) (by decide +kernel) _ _ _).trans rfl
theorem e171_14 (v1 : Value) (x : Nat) (st : List Value) (w : zH) : zrun none (171, 14, [.ref x, v1], st, w) = zrun none (171, 15, [.ref x, v1], (.ref x :: st), w) := (zE_ (i := .aload_n 0) (by decide +kernel) _ _ _).trans rfl
theorem e171_15 (ls : List Value) (a : Nat) (st : List Value) (w : zH) : zrun none (171, 15, ls, (.ref a :: st), w) = zo (zf w a 1224) (fun x => zrun none (171, 18, ls, (x :: st), w)) := (zE_ (i := .getfield 1224) (by decide +kernel) _ _ _).trans zq_getf
theorem e171_18 (ls : List Value) (a : Nat) (x0 : Int32) (st : List Value) (w : zH) (hr : zcat st ≤ 8) : zrun none (171, 18, ls, (.int x0 :: .ref a :: st), w) = zgd (zis w a 12) (zcl (zrun none (168, 0, [.ref a, .int x0], [], w)) (fun r => zrun none (171, 21, ls, r.1.toList ++ st, r.2))) := by
  refine (zE_ (i := .invokevirtual 168) (by decide +kernel) _ _ _).trans ?_
  show zres (zinv none 168 171 18 ls (.int x0 :: .ref a :: st) w) = _
  unfold zinv
  show zres (if zrc none 168 w (.ref a) = true then zcall 168 [.ref a, .int x0] st 171 18 ls w else none) = _
  by_cases hc : zis w a 12
  · rw [if_pos (zrc_is hc (by decide +kernel)), zgd_pos hc]
    exact zq_call hr (Nat.le_of_ble_eq_true rfl) rfl rfl
  · rw [zgd_neg hc, if_neg (fun q => hc (zrc_of q (by decide +kernel)))]
    rfl
theorem e171_21 (ls st : List Value) (w : zH) : zrun none (171, 21, ls, st, w) = zrun none (171, 23, ls, (.int 10 :: st), w) := (zE_ (i := .bipush 10) (by decide +kernel) _ _ _).trans rfl
theorem e171_23 (ls : List Value) (a b : Int32) (st : List Value) (w : zH) : zrun none (171, 23, ls, (.int b :: .int a :: st), w) = if a = b then zrun none (171, 26, ls, st, w) else zrun none (171, 39, ls, st, w) := (zE_ (i := .if_icmp .ne 16) (by decide +kernel) _ _ _).trans (zq_ic_ne rfl rfl)
theorem e171_26 (v1 : Value) (x : Nat) (st : List Value) (w : zH) : zrun none (171, 26, [.ref x, v1], st, w) = zrun none (171, 27, [.ref x, v1], (.ref x :: st), w) := (zE_ (i := .aload_n 0) (by decide +kernel) _ _ _).trans rfl
theorem e171_27 (ls : List Value) (x : Int32) (st : List Value) (w : zH) : zrun none (171, 27, ls, (.int x :: st), w) = zrun none (171, 28, ls, (.int x :: .int x :: st), w) := (zE_ (i := .dup) (by decide +kernel) _ _ _).trans rfl
theorem e171_27r (ls : List Value) (x : Nat) (st : List Value) (w : zH) : zrun none (171, 27, ls, (.ref x :: st), w) = zrun none (171, 28, ls, (.ref x :: .ref x :: st), w) := (zE_ (i := .dup) (by decide +kernel) _ _ _).trans rfl
theorem e171_28 (ls : List Value) (a : Nat) (st : List Value) (w : zH) : zrun none (171, 28, ls, (.ref a :: st), w) = zo (zf w a 1224) (fun x => zrun none (171, 31, ls, (x :: st), w)) := (zE_ (i := .getfield 1224) (by decide +kernel) _ _ _).trans zq_getf
theorem e171_31 (ls st : List Value) (w : zH) : zrun none (171, 31, ls, st, w) = zrun none (171, 32, ls, (.int 1 :: st), w) := (zE_ (i := .iconst 1) (by decide +kernel) _ _ _).trans rfl
theorem e171_32 (ls : List Value) (a b : Int32) (st : List Value) (w : zH) : zrun none (171, 32, ls, (.int b :: .int a :: st), w) = zrun none (171, 33, ls, (.int (a + b) :: st), w) := (zE_ (i := .iadd) (by decide +kernel) _ _ _).trans rfl
theorem e171_33 (ls : List Value) (x : Int32) (a : Nat) (st : List Value) (w : zH) : zrun none (171, 33, ls, (.int x :: .ref a :: st), w) = zgd (a < zX ∧ (zf w a 1224).isSome = true) (zrun none (171, 36, ls, st, zpf w a 1224 (.int x))) := by
  refine (zE_ (i := .putfield 1224) (by decide +kernel) _ _ _).trans ?_
  by_cases hg : a < zX ∧ (zf w a 1224).isSome = true
  · rw [zgd_pos hg]
    obtain ⟨ha, h⟩ := hg
    exact zq_putf ha h rfl rfl
  · rw [zgd_neg hg]
    exact zq_putf_no (fun h1 h2 h3 => hg ⟨h1, h2⟩)
theorem e171_36 (ls st : List Value) (w : zH) : zrun none (171, 36, ls, st, w) = zrun none (171, 0, ls, st, w) := (zE_ (i := .goto (-36)) (by decide +kernel) _ _ _).trans rfl
theorem e171_39 (v1 : Value) (x : Nat) (st : List Value) (w : zH) : zrun none (171, 39, [.ref x, v1], st, w) = zrun none (171, 40, [.ref x, v1], (.ref x :: st), w) := (zE_ (i := .aload_n 0) (by decide +kernel) _ _ _).trans rfl
theorem e171_40 (v1 : Value) (x : Nat) (st : List Value) (w : zH) : zrun none (171, 40, [.ref x, v1], st, w) = zrun none (171, 41, [.ref x, v1], (.ref x :: st), w) := (zE_ (i := .aload_n 0) (by decide +kernel) _ _ _).trans rfl
theorem e171_41 (ls : List Value) (a : Nat) (st : List Value) (w : zH) : zrun none (171, 41, ls, (.ref a :: st), w) = zo (zf w a 1224) (fun x => zrun none (171, 44, ls, (x :: st), w)) := (zE_ (i := .getfield 1224) (by decide +kernel) _ _ _).trans zq_getf
theorem e171_44 (ls : List Value) (x : Int32) (a : Nat) (st : List Value) (w : zH) : zrun none (171, 44, ls, (.int x :: .ref a :: st), w) = zgd (a < zX ∧ (zf w a 1226).isSome = true) (zrun none (171, 47, ls, st, zpf w a 1226 (.int x))) := by
  refine (zE_ (i := .putfield 1226) (by decide +kernel) _ _ _).trans ?_
  by_cases hg : a < zX ∧ (zf w a 1226).isSome = true
  · rw [zgd_pos hg]
    obtain ⟨ha, h⟩ := hg
    exact zq_putf ha h rfl rfl
  · rw [zgd_neg hg]
    exact zq_putf_no (fun h1 h2 h3 => hg ⟨h1, h2⟩)
theorem e171_47 (v1 : Value) (x : Nat) (st : List Value) (w : zH) : zrun none (171, 47, [.ref x, v1], st, w) = zrun none (171, 48, [.ref x, v1], (.ref x :: st), w) := (zE_ (i := .aload_n 0) (by decide +kernel) _ _ _).trans rfl
theorem e171_48 (v1 : Value) (x : Nat) (st : List Value) (w : zH) : zrun none (171, 48, [.ref x, v1], st, w) = zrun none (171, 49, [.ref x, v1], (.ref x :: st), w) := (zE_ (i := .aload_n 0) (by decide +kernel) _ _ _).trans rfl
theorem e171_49 (ls : List Value) (a : Nat) (st : List Value) (w : zH) : zrun none (171, 49, ls, (.ref a :: st), w) = zo (zf w a 1224) (fun x => zrun none (171, 52, ls, (x :: st), w)) := (zE_ (i := .getfield 1224) (by decide +kernel) _ _ _).trans zq_getf
theorem e171_52 (ls : List Value) (a : Nat) (x0 : Int32) (st : List Value) (w : zH) (hr : zcat st ≤ 8) : zrun none (171, 52, ls, (.int x0 :: .ref a :: st), w) = zgd (zis w a 12) (zcl (zrun none (168, 0, [.ref a, .int x0], [], w)) (fun r => zrun none (171, 55, ls, r.1.toList ++ st, r.2))) := by
  refine (zE_ (i := .invokevirtual 168) (by decide +kernel) _ _ _).trans ?_
  show zres (zinv none 168 171 52 ls (.int x0 :: .ref a :: st) w) = _
  unfold zinv
  show zres (if zrc none 168 w (.ref a) = true then zcall 168 [.ref a, .int x0] st 171 52 ls w else none) = _
  by_cases hc : zis w a 12
  · rw [if_pos (zrc_is hc (by decide +kernel)), zgd_pos hc]
    exact zq_call hr (Nat.le_of_ble_eq_true rfl) rfl rfl
  · rw [zgd_neg hc, if_neg (fun q => hc (zrc_of q (by decide +kernel)))]
    rfl
theorem e171_55 (v0 v1 : Value) (x : Int32) (st : List Value) (w : zH) (h : v0.category = 1) : zrun none (171, 55, [v0, v1], (.int x :: st), w) = zrun none (171, 56, [v0, .int x], st, w) := by
  refine (zE_ (i := .istore_n 1) (by decide +kernel) _ _ _).trans ?_
  have hz : zfree [v0, v1] 1 = true := by show decide (v0.category = 1) = true; exact decide_eq_true h
  show zres (zst zint 1 1 171 55 [v0, v1] (.int x :: st) w) = _
  unfold zst
  dsimp only
  rw [if_pos ⟨rfl, Nat.le_of_ble_eq_true rfl, hz⟩]
  rfl
theorem e171_56 (v0 : Value) (x : Int32) (st : List Value) (w : zH) : zrun none (171, 56, [v0, .int x], st, w) = zrun none (171, 57, [v0, .int x], (.int x :: st), w) := (zE_ (i := .iload_n 1) (by decide +kernel) _ _ _).trans rfl
theorem e171_57 (ls st : List Value) (w : zH) : zrun none (171, 57, ls, st, w) = zrun none (171, 59, ls, (.int (-1000000) :: st), w) := (zE_ (i := .bipush (-1000000)) (by decide +kernel) _ _ _).trans rfl
theorem e171_59 (ls : List Value) (a b : Int32) (st : List Value) (w : zH) : zrun none (171, 59, ls, (.int b :: .int a :: st), w) = if a = b then zrun none (171, 62, ls, st, w) else zrun none (171, 70, ls, st, w) := (zE_ (i := .if_icmp .ne 11) (by decide +kernel) _ _ _).trans (zq_ic_ne rfl rfl)
theorem e171_62 (v1 : Value) (x : Nat) (st : List Value) (w : zH) : zrun none (171, 62, [.ref x, v1], st, w) = zrun none (171, 63, [.ref x, v1], (.ref x :: st), w) := (zE_ (i := .aload_n 0) (by decide +kernel) _ _ _).trans rfl
theorem e171_63 (ls st : List Value) (w : zH) : zrun none (171, 63, ls, st, w) = zrun none (171, 64, ls, (.int 1 :: st), w) := (zE_ (i := .iconst 1) (by decide +kernel) _ _ _).trans rfl
theorem e171_64 (ls : List Value) (x : Int32) (a : Nat) (st : List Value) (w : zH) : zrun none (171, 64, ls, (.int x :: .ref a :: st), w) = zgd (a < zX ∧ (zf w a 1225).isSome = true) (zrun none (171, 67, ls, st, zpf w a 1225 (.int x))) := by
  refine (zE_ (i := .putfield 1225) (by decide +kernel) _ _ _).trans ?_
  by_cases hg : a < zX ∧ (zf w a 1225).isSome = true
  · rw [zgd_pos hg]
    obtain ⟨ha, h⟩ := hg
    exact zq_putf ha h rfl rfl
  · rw [zgd_neg hg]
    exact zq_putf_no (fun h1 h2 h3 => hg ⟨h1, h2⟩)
theorem e171_67 (ls st : List Value) (w : zH) : zrun none (171, 67, ls, st, w) = zrun none (171, 196, ls, st, w) := (zE_ (i := .goto 129) (by decide +kernel) _ _ _).trans rfl
theorem e171_70 (v0 : Value) (x : Int32) (st : List Value) (w : zH) : zrun none (171, 70, [v0, .int x], st, w) = zrun none (171, 71, [v0, .int x], (.int x :: st), w) := (zE_ (i := .iload_n 1) (by decide +kernel) _ _ _).trans rfl
theorem e171_71 (ls : List Value) (x0 : Int32) (st : List Value) (w : zH) (hr : zcat st ≤ 8) : zrun none (171, 71, ls, (.int x0 :: st), w) = zcl (zrun none (169, 0, [.int x0], [], w)) (fun r => zrun none (171, 74, ls, r.1.toList ++ st, r.2)) := by
  refine (zE_ (i := .invokestatic 169) (by decide +kernel) _ _ _).trans ?_
  show zres (if (99 : Nat) = 99 ∧ 1 ≤ ((.int x0 :: st) : List Value).length then zcall 169 [.int x0] st 171 71 ls w else none) = _
  rw [if_pos ⟨rfl, by simp⟩]
  exact zq_call hr (Nat.le_of_ble_eq_true rfl) rfl rfl
theorem e171_74 (ls : List Value) (a : Int32) (st : List Value) (w : zH) : zrun none (171, 74, ls, (.int a :: st), w) = if a = 0 then zrun none (171, 112, ls, st, w) else zrun none (171, 77, ls, st, w) := (zE_ (i := .ifCond .eq 38) (by decide +kernel) _ _ _).trans (zq_if_eq rfl rfl)
theorem e171_77 (v1 : Value) (x : Nat) (st : List Value) (w : zH) : zrun none (171, 77, [.ref x, v1], st, w) = zrun none (171, 78, [.ref x, v1], (.ref x :: st), w) := (zE_ (i := .aload_n 0) (by decide +kernel) _ _ _).trans rfl
theorem e171_78 (v1 : Value) (x : Nat) (st : List Value) (w : zH) : zrun none (171, 78, [.ref x, v1], st, w) = zrun none (171, 79, [.ref x, v1], (.ref x :: st), w) := (zE_ (i := .aload_n 0) (by decide +kernel) _ _ _).trans rfl
theorem e171_79 (ls : List Value) (a : Nat) (st : List Value) (w : zH) : zrun none (171, 79, ls, (.ref a :: st), w) = zo (zf w a 1224) (fun x => zrun none (171, 82, ls, (x :: st), w)) := (zE_ (i := .getfield 1224) (by decide +kernel) _ _ _).trans zq_getf
theorem e171_82 (ls : List Value) (a : Nat) (x0 : Int32) (st : List Value) (w : zH) (hr : zcat st ≤ 8) : zrun none (171, 82, ls, (.int x0 :: .ref a :: st), w) = zgd (zis w a 12) (zcl (zrun none (168, 0, [.ref a, .int x0], [], w)) (fun r => zrun none (171, 85, ls, r.1.toList ++ st, r.2))) := by
  refine (zE_ (i := .invokevirtual 168) (by decide +kernel) _ _ _).trans ?_
  show zres (zinv none 168 171 82 ls (.int x0 :: .ref a :: st) w) = _
  unfold zinv
  show zres (if zrc none 168 w (.ref a) = true then zcall 168 [.ref a, .int x0] st 171 82 ls w else none) = _
  by_cases hc : zis w a 12
  · rw [if_pos (zrc_is hc (by decide +kernel)), zgd_pos hc]
    exact zq_call hr (Nat.le_of_ble_eq_true rfl) rfl rfl
  · rw [zgd_neg hc, if_neg (fun q => hc (zrc_of q (by decide +kernel)))]
    rfl
theorem e171_85 (ls : List Value) (x0 : Int32) (st : List Value) (w : zH) (hr : zcat st ≤ 8) : zrun none (171, 85, ls, (.int x0 :: st), w) = zcl (zrun none (169, 0, [.int x0], [], w)) (fun r => zrun none (171, 88, ls, r.1.toList ++ st, r.2)) := by
  refine (zE_ (i := .invokestatic 169) (by decide +kernel) _ _ _).trans ?_
  show zres (if (99 : Nat) = 99 ∧ 1 ≤ ((.int x0 :: st) : List Value).length then zcall 169 [.int x0] st 171 85 ls w else none) = _
  rw [if_pos ⟨rfl, by simp⟩]
  exact zq_call hr (Nat.le_of_ble_eq_true rfl) rfl rfl
theorem e171_88 (ls : List Value) (a : Int32) (st : List Value) (w : zH) : zrun none (171, 88, ls, (.int a :: st), w) = if a = 0 then zrun none (171, 104, ls, st, w) else zrun none (171, 91, ls, st, w) := (zE_ (i := .ifCond .eq 16) (by decide +kernel) _ _ _).trans (zq_if_eq rfl rfl)
theorem e171_91 (v1 : Value) (x : Nat) (st : List Value) (w : zH) : zrun none (171, 91, [.ref x, v1], st, w) = zrun none (171, 92, [.ref x, v1], (.ref x :: st), w) := (zE_ (i := .aload_n 0) (by decide +kernel) _ _ _).trans rfl
theorem e171_92 (ls : List Value) (x : Int32) (st : List Value) (w : zH) : zrun none (171, 92, ls, (.int x :: st), w) = zrun none (171, 93, ls, (.int x :: .int x :: st), w) := (zE_ (i := .dup) (by decide +kernel) _ _ _).trans rfl
theorem e171_92r (ls : List Value) (x : Nat) (st : List Value) (w : zH) : zrun none (171, 92, ls, (.ref x :: st), w) = zrun none (171, 93, ls, (.ref x :: .ref x :: st), w) := (zE_ (i := .dup) (by decide +kernel) _ _ _).trans rfl
theorem e171_93 (ls : List Value) (a : Nat) (st : List Value) (w : zH) : zrun none (171, 93, ls, (.ref a :: st), w) = zo (zf w a 1224) (fun x => zrun none (171, 96, ls, (x :: st), w)) := (zE_ (i := .getfield 1224) (by decide +kernel) _ _ _).trans zq_getf
theorem e171_96 (ls st : List Value) (w : zH) : zrun none (171, 96, ls, st, w) = zrun none (171, 97, ls, (.int 1 :: st), w) := (zE_ (i := .iconst 1) (by decide +kernel) _ _ _).trans rfl
theorem e171_97 (ls : List Value) (a b : Int32) (st : List Value) (w : zH) : zrun none (171, 97, ls, (.int b :: .int a :: st), w) = zrun none (171, 98, ls, (.int (a + b) :: st), w) := (zE_ (i := .iadd) (by decide +kernel) _ _ _).trans rfl
theorem e171_98 (ls : List Value) (x : Int32) (a : Nat) (st : List Value) (w : zH) : zrun none (171, 98, ls, (.int x :: .ref a :: st), w) = zgd (a < zX ∧ (zf w a 1224).isSome = true) (zrun none (171, 101, ls, st, zpf w a 1224 (.int x))) := by
  refine (zE_ (i := .putfield 1224) (by decide +kernel) _ _ _).trans ?_
  by_cases hg : a < zX ∧ (zf w a 1224).isSome = true
  · rw [zgd_pos hg]
    obtain ⟨ha, h⟩ := hg
    exact zq_putf ha h rfl rfl
  · rw [zgd_neg hg]
    exact zq_putf_no (fun h1 h2 h3 => hg ⟨h1, h2⟩)
theorem e171_101 (ls st : List Value) (w : zH) : zrun none (171, 101, ls, st, w) = zrun none (171, 77, ls, st, w) := (zE_ (i := .goto (-24)) (by decide +kernel) _ _ _).trans rfl
theorem e171_104 (v1 : Value) (x : Nat) (st : List Value) (w : zH) : zrun none (171, 104, [.ref x, v1], st, w) = zrun none (171, 105, [.ref x, v1], (.ref x :: st), w) := (zE_ (i := .aload_n 0) (by decide +kernel) _ _ _).trans rfl
theorem e171_105 (ls st : List Value) (w : zH) : zrun none (171, 105, ls, st, w) = zrun none (171, 106, ls, (.int 2 :: st), w) := (zE_ (i := .iconst 2) (by decide +kernel) _ _ _).trans rfl
theorem e171_106 (ls : List Value) (x : Int32) (a : Nat) (st : List Value) (w : zH) : zrun none (171, 106, ls, (.int x :: .ref a :: st), w) = zgd (a < zX ∧ (zf w a 1225).isSome = true) (zrun none (171, 109, ls, st, zpf w a 1225 (.int x))) := by
  refine (zE_ (i := .putfield 1225) (by decide +kernel) _ _ _).trans ?_
  by_cases hg : a < zX ∧ (zf w a 1225).isSome = true
  · rw [zgd_pos hg]
    obtain ⟨ha, h⟩ := hg
    exact zq_putf ha h rfl rfl
  · rw [zgd_neg hg]
    exact zq_putf_no (fun h1 h2 h3 => hg ⟨h1, h2⟩)
theorem e171_109 (ls st : List Value) (w : zH) : zrun none (171, 109, ls, st, w) = zrun none (171, 196, ls, st, w) := (zE_ (i := .goto 87) (by decide +kernel) _ _ _).trans rfl
theorem e171_112 (v0 : Value) (x : Int32) (st : List Value) (w : zH) : zrun none (171, 112, [v0, .int x], st, w) = zrun none (171, 113, [v0, .int x], (.int x :: st), w) := (zE_ (i := .iload_n 1) (by decide +kernel) _ _ _).trans rfl
theorem e171_113 (ls : List Value) (x0 : Int32) (st : List Value) (w : zH) (hr : zcat st ≤ 8) : zrun none (171, 113, ls, (.int x0 :: st), w) = zcl (zrun none (170, 0, [.int x0], [], w)) (fun r => zrun none (171, 116, ls, r.1.toList ++ st, r.2)) := by
  refine (zE_ (i := .invokestatic 170) (by decide +kernel) _ _ _).trans ?_
  show zres (if (99 : Nat) = 99 ∧ 1 ≤ ((.int x0 :: st) : List Value).length then zcall 170 [.int x0] st 171 113 ls w else none) = _
  rw [if_pos ⟨rfl, by simp⟩]
  exact zq_call hr (Nat.le_of_ble_eq_true rfl) rfl rfl
theorem e171_116 (ls : List Value) (a : Int32) (st : List Value) (w : zH) : zrun none (171, 116, ls, (.int a :: st), w) = if a = 0 then zrun none (171, 171, ls, st, w) else zrun none (171, 119, ls, st, w) := (zE_ (i := .ifCond .eq 55) (by decide +kernel) _ _ _).trans (zq_if_eq rfl rfl)
theorem e171_119 (v1 : Value) (x : Nat) (st : List Value) (w : zH) : zrun none (171, 119, [.ref x, v1], st, w) = zrun none (171, 120, [.ref x, v1], (.ref x :: st), w) := (zE_ (i := .aload_n 0) (by decide +kernel) _ _ _).trans rfl
theorem e171_120 (v1 : Value) (x : Nat) (st : List Value) (w : zH) : zrun none (171, 120, [.ref x, v1], st, w) = zrun none (171, 121, [.ref x, v1], (.ref x :: st), w) := (zE_ (i := .aload_n 0) (by decide +kernel) _ _ _).trans rfl
theorem e171_121 (ls : List Value) (a : Nat) (st : List Value) (w : zH) : zrun none (171, 121, ls, (.ref a :: st), w) = zo (zf w a 1224) (fun x => zrun none (171, 124, ls, (x :: st), w)) := (zE_ (i := .getfield 1224) (by decide +kernel) _ _ _).trans zq_getf
theorem e171_124 (ls : List Value) (a : Nat) (x0 : Int32) (st : List Value) (w : zH) (hr : zcat st ≤ 8) : zrun none (171, 124, ls, (.int x0 :: .ref a :: st), w) = zgd (zis w a 12) (zcl (zrun none (168, 0, [.ref a, .int x0], [], w)) (fun r => zrun none (171, 127, ls, r.1.toList ++ st, r.2))) := by
  refine (zE_ (i := .invokevirtual 168) (by decide +kernel) _ _ _).trans ?_
  show zres (zinv none 168 171 124 ls (.int x0 :: .ref a :: st) w) = _
  unfold zinv
  show zres (if zrc none 168 w (.ref a) = true then zcall 168 [.ref a, .int x0] st 171 124 ls w else none) = _
  by_cases hc : zis w a 12
  · rw [if_pos (zrc_is hc (by decide +kernel)), zgd_pos hc]
    exact zq_call hr (Nat.le_of_ble_eq_true rfl) rfl rfl
  · rw [zgd_neg hc, if_neg (fun q => hc (zrc_of q (by decide +kernel)))]
    rfl
theorem e171_127 (ls : List Value) (x0 : Int32) (st : List Value) (w : zH) (hr : zcat st ≤ 8) : zrun none (171, 127, ls, (.int x0 :: st), w) = zcl (zrun none (170, 0, [.int x0], [], w)) (fun r => zrun none (171, 130, ls, r.1.toList ++ st, r.2)) := by
  refine (zE_ (i := .invokestatic 170) (by decide +kernel) _ _ _).trans ?_
  show zres (if (99 : Nat) = 99 ∧ 1 ≤ ((.int x0 :: st) : List Value).length then zcall 170 [.int x0] st 171 127 ls w else none) = _
  rw [if_pos ⟨rfl, by simp⟩]
  exact zq_call hr (Nat.le_of_ble_eq_true rfl) rfl rfl
theorem e171_130 (ls : List Value) (a : Int32) (st : List Value) (w : zH) : zrun none (171, 130, ls, (.int a :: st), w) = if a = 0 then zrun none (171, 146, ls, st, w) else zrun none (171, 133, ls, st, w) := (zE_ (i := .ifCond .eq 16) (by decide +kernel) _ _ _).trans (zq_if_eq rfl rfl)
theorem e171_133 (v1 : Value) (x : Nat) (st : List Value) (w : zH) : zrun none (171, 133, [.ref x, v1], st, w) = zrun none (171, 134, [.ref x, v1], (.ref x :: st), w) := (zE_ (i := .aload_n 0) (by decide +kernel) _ _ _).trans rfl
theorem e171_134 (ls : List Value) (x : Int32) (st : List Value) (w : zH) : zrun none (171, 134, ls, (.int x :: st), w) = zrun none (171, 135, ls, (.int x :: .int x :: st), w) := (zE_ (i := .dup) (by decide +kernel) _ _ _).trans rfl
theorem e171_134r (ls : List Value) (x : Nat) (st : List Value) (w : zH) : zrun none (171, 134, ls, (.ref x :: st), w) = zrun none (171, 135, ls, (.ref x :: .ref x :: st), w) := (zE_ (i := .dup) (by decide +kernel) _ _ _).trans rfl
theorem e171_135 (ls : List Value) (a : Nat) (st : List Value) (w : zH) : zrun none (171, 135, ls, (.ref a :: st), w) = zo (zf w a 1224) (fun x => zrun none (171, 138, ls, (x :: st), w)) := (zE_ (i := .getfield 1224) (by decide +kernel) _ _ _).trans zq_getf
theorem e171_138 (ls st : List Value) (w : zH) : zrun none (171, 138, ls, st, w) = zrun none (171, 139, ls, (.int 1 :: st), w) := (zE_ (i := .iconst 1) (by decide +kernel) _ _ _).trans rfl
theorem e171_139 (ls : List Value) (a b : Int32) (st : List Value) (w : zH) : zrun none (171, 139, ls, (.int b :: .int a :: st), w) = zrun none (171, 140, ls, (.int (a + b) :: st), w) := (zE_ (i := .iadd) (by decide +kernel) _ _ _).trans rfl
theorem e171_140 (ls : List Value) (x : Int32) (a : Nat) (st : List Value) (w : zH) : zrun none (171, 140, ls, (.int x :: .ref a :: st), w) = zgd (a < zX ∧ (zf w a 1224).isSome = true) (zrun none (171, 143, ls, st, zpf w a 1224 (.int x))) := by
  refine (zE_ (i := .putfield 1224) (by decide +kernel) _ _ _).trans ?_
  by_cases hg : a < zX ∧ (zf w a 1224).isSome = true
  · rw [zgd_pos hg]
    obtain ⟨ha, h⟩ := hg
    exact zq_putf ha h rfl rfl
  · rw [zgd_neg hg]
    exact zq_putf_no (fun h1 h2 h3 => hg ⟨h1, h2⟩)
theorem e171_143 (ls st : List Value) (w : zH) : zrun none (171, 143, ls, st, w) = zrun none (171, 119, ls, st, w) := (zE_ (i := .goto (-24)) (by decide +kernel) _ _ _).trans rfl
theorem e171_146 (v1 : Value) (x : Nat) (st : List Value) (w : zH) : zrun none (171, 146, [.ref x, v1], st, w) = zrun none (171, 147, [.ref x, v1], (.ref x :: st), w) := (zE_ (i := .aload_n 0) (by decide +kernel) _ _ _).trans rfl
theorem e171_147 (v1 : Value) (x : Nat) (st : List Value) (w : zH) : zrun none (171, 147, [.ref x, v1], st, w) = zrun none (171, 148, [.ref x, v1], (.ref x :: st), w) := (zE_ (i := .aload_n 0) (by decide +kernel) _ _ _).trans rfl
theorem e171_148 (ls : List Value) (a : Nat) (st : List Value) (w : zH) : zrun none (171, 148, ls, (.ref a :: st), w) = zo (zf w a 1224) (fun x => zrun none (171, 151, ls, (x :: st), w)) := (zE_ (i := .getfield 1224) (by decide +kernel) _ _ _).trans zq_getf
theorem e171_151 (v1 : Value) (x : Nat) (st : List Value) (w : zH) : zrun none (171, 151, [.ref x, v1], st, w) = zrun none (171, 152, [.ref x, v1], (.ref x :: st), w) := (zE_ (i := .aload_n 0) (by decide +kernel) _ _ _).trans rfl
theorem e171_152 (ls : List Value) (a : Nat) (st : List Value) (w : zH) : zrun none (171, 152, ls, (.ref a :: st), w) = zo (zf w a 1226) (fun x => zrun none (171, 155, ls, (x :: st), w)) := (zE_ (i := .getfield 1226) (by decide +kernel) _ _ _).trans zq_getf
theorem e171_155 (ls : List Value) (a b : Int32) (st : List Value) (w : zH) : zrun none (171, 155, ls, (.int b :: .int a :: st), w) = zrun none (171, 156, ls, (.int (a - b) :: st), w) := (zE_ (i := .isub) (by decide +kernel) _ _ _).trans rfl
theorem e171_156 (ls st : List Value) (w : zH) : zrun none (171, 156, ls, st, w) = zrun none (171, 157, ls, (.int 5 :: st), w) := (zE_ (i := .iconst 5) (by decide +kernel) _ _ _).trans rfl
theorem e171_157 (ls : List Value) (a b : Int32) (st : List Value) (w : zH) : zrun none (171, 157, ls, (.int b :: .int a :: st), w) = if a ≤ b then zrun none (171, 164, ls, st, w) else zrun none (171, 160, ls, st, w) := (zE_ (i := .if_icmp .le 7) (by decide +kernel) _ _ _).trans (zq_ic_le rfl rfl)
theorem e171_160 (ls st : List Value) (w : zH) : zrun none (171, 160, ls, st, w) = zrun none (171, 161, ls, (.int 0 :: st), w) := (zE_ (i := .iconst 0) (by decide +kernel) _ _ _).trans rfl
theorem e171_161 (ls st : List Value) (w : zH) : zrun none (171, 161, ls, st, w) = zrun none (171, 165, ls, st, w) := (zE_ (i := .goto 4) (by decide +kernel) _ _ _).trans rfl
theorem e171_164 (ls st : List Value) (w : zH) : zrun none (171, 164, ls, st, w) = zrun none (171, 165, ls, (.int 3 :: st), w) := (zE_ (i := .iconst 3) (by decide +kernel) _ _ _).trans rfl
theorem e171_165 (ls : List Value) (x : Int32) (a : Nat) (st : List Value) (w : zH) : zrun none (171, 165, ls, (.int x :: .ref a :: st), w) = zgd (a < zX ∧ (zf w a 1225).isSome = true) (zrun none (171, 168, ls, st, zpf w a 1225 (.int x))) := by
  refine (zE_ (i := .putfield 1225) (by decide +kernel) _ _ _).trans ?_
  by_cases hg : a < zX ∧ (zf w a 1225).isSome = true
  · rw [zgd_pos hg]
    obtain ⟨ha, h⟩ := hg
    exact zq_putf ha h rfl rfl
  · rw [zgd_neg hg]
    exact zq_putf_no (fun h1 h2 h3 => hg ⟨h1, h2⟩)
theorem e171_168 (ls st : List Value) (w : zH) : zrun none (171, 168, ls, st, w) = zrun none (171, 196, ls, st, w) := (zE_ (i := .goto 28) (by decide +kernel) _ _ _).trans rfl
theorem e171_171 (v1 : Value) (x : Nat) (st : List Value) (w : zH) : zrun none (171, 171, [.ref x, v1], st, w) = zrun none (171, 172, [.ref x, v1], (.ref x :: st), w) := (zE_ (i := .aload_n 0) (by decide +kernel) _ _ _).trans rfl
theorem e171_172 (ls : List Value) (x : Int32) (st : List Value) (w : zH) : zrun none (171, 172, ls, (.int x :: st), w) = zrun none (171, 173, ls, (.int x :: .int x :: st), w) := (zE_ (i := .dup) (by decide +kernel) _ _ _).trans rfl
theorem e171_172r (ls : List Value) (x : Nat) (st : List Value) (w : zH) : zrun none (171, 172, ls, (.ref x :: st), w) = zrun none (171, 173, ls, (.ref x :: .ref x :: st), w) := (zE_ (i := .dup) (by decide +kernel) _ _ _).trans rfl
theorem e171_173 (ls : List Value) (a : Nat) (st : List Value) (w : zH) : zrun none (171, 173, ls, (.ref a :: st), w) = zo (zf w a 1224) (fun x => zrun none (171, 176, ls, (x :: st), w)) := (zE_ (i := .getfield 1224) (by decide +kernel) _ _ _).trans zq_getf
theorem e171_176 (ls st : List Value) (w : zH) : zrun none (171, 176, ls, st, w) = zrun none (171, 177, ls, (.int 1 :: st), w) := (zE_ (i := .iconst 1) (by decide +kernel) _ _ _).trans rfl
theorem e171_177 (ls : List Value) (a b : Int32) (st : List Value) (w : zH) : zrun none (171, 177, ls, (.int b :: .int a :: st), w) = zrun none (171, 178, ls, (.int (a + b) :: st), w) := (zE_ (i := .iadd) (by decide +kernel) _ _ _).trans rfl
theorem e171_178 (ls : List Value) (x : Int32) (a : Nat) (st : List Value) (w : zH) : zrun none (171, 178, ls, (.int x :: .ref a :: st), w) = zgd (a < zX ∧ (zf w a 1224).isSome = true) (zrun none (171, 181, ls, st, zpf w a 1224 (.int x))) := by
  refine (zE_ (i := .putfield 1224) (by decide +kernel) _ _ _).trans ?_
  by_cases hg : a < zX ∧ (zf w a 1224).isSome = true
  · rw [zgd_pos hg]
    obtain ⟨ha, h⟩ := hg
    exact zq_putf ha h rfl rfl
  · rw [zgd_neg hg]
    exact zq_putf_no (fun h1 h2 h3 => hg ⟨h1, h2⟩)
theorem e171_181 (v1 : Value) (x : Nat) (st : List Value) (w : zH) : zrun none (171, 181, [.ref x, v1], st, w) = zrun none (171, 182, [.ref x, v1], (.ref x :: st), w) := (zE_ (i := .aload_n 0) (by decide +kernel) _ _ _).trans rfl
theorem e171_182 (v0 : Value) (x : Int32) (st : List Value) (w : zH) : zrun none (171, 182, [v0, .int x], st, w) = zrun none (171, 183, [v0, .int x], (.int x :: st), w) := (zE_ (i := .iload_n 1) (by decide +kernel) _ _ _).trans rfl
theorem e171_183 (ls st : List Value) (w : zH) : zrun none (171, 183, ls, st, w) = zrun none (171, 185, ls, (.int 59 :: st), w) := (zE_ (i := .bipush 59) (by decide +kernel) _ _ _).trans rfl
theorem e171_185 (ls : List Value) (a b : Int32) (st : List Value) (w : zH) : zrun none (171, 185, ls, (.int b :: .int a :: st), w) = if a = b then zrun none (171, 188, ls, st, w) else zrun none (171, 192, ls, st, w) := (zE_ (i := .if_icmp .ne 7) (by decide +kernel) _ _ _).trans (zq_ic_ne rfl rfl)
theorem e171_188 (ls st : List Value) (w : zH) : zrun none (171, 188, ls, st, w) = zrun none (171, 189, ls, (.int 4 :: st), w) := (zE_ (i := .iconst 4) (by decide +kernel) _ _ _).trans rfl
theorem e171_189 (ls st : List Value) (w : zH) : zrun none (171, 189, ls, st, w) = zrun none (171, 193, ls, st, w) := (zE_ (i := .goto 4) (by decide +kernel) _ _ _).trans rfl
theorem e171_192 (ls st : List Value) (w : zH) : zrun none (171, 192, ls, st, w) = zrun none (171, 193, ls, (.int 0 :: st), w) := (zE_ (i := .iconst 0) (by decide +kernel) _ _ _).trans rfl
theorem e171_193 (ls : List Value) (x : Int32) (a : Nat) (st : List Value) (w : zH) : zrun none (171, 193, ls, (.int x :: .ref a :: st), w) = zgd (a < zX ∧ (zf w a 1225).isSome = true) (zrun none (171, 196, ls, st, zpf w a 1225 (.int x))) := by
  refine (zE_ (i := .putfield 1225) (by decide +kernel) _ _ _).trans ?_
  by_cases hg : a < zX ∧ (zf w a 1225).isSome = true
  · rw [zgd_pos hg]
    obtain ⟨ha, h⟩ := hg
    exact zq_putf ha h rfl rfl
  · rw [zgd_neg hg]
    exact zq_putf_no (fun h1 h2 h3 => hg ⟨h1, h2⟩)
theorem e171_196 (v1 : Value) (x : Nat) (st : List Value) (w : zH) : zrun none (171, 196, [.ref x, v1], st, w) = zrun none (171, 197, [.ref x, v1], (.ref x :: st), w) := (zE_ (i := .aload_n 0) (by decide +kernel) _ _ _).trans rfl
theorem e171_197 (v1 : Value) (x : Nat) (st : List Value) (w : zH) : zrun none (171, 197, [.ref x, v1], st, w) = zrun none (171, 198, [.ref x, v1], (.ref x :: st), w) := (zE_ (i := .aload_n 0) (by decide +kernel) _ _ _).trans rfl
theorem e171_198 (ls : List Value) (a : Nat) (st : List Value) (w : zH) : zrun none (171, 198, ls, (.ref a :: st), w) = zo (zf w a 1224) (fun x => zrun none (171, 201, ls, (x :: st), w)) := (zE_ (i := .getfield 1224) (by decide +kernel) _ _ _).trans zq_getf
theorem e171_201 (ls : List Value) (x : Int32) (a : Nat) (st : List Value) (w : zH) : zrun none (171, 201, ls, (.int x :: .ref a :: st), w) = zgd (a < zX ∧ (zf w a 1227).isSome = true) (zrun none (171, 204, ls, st, zpf w a 1227 (.int x))) := by
  refine (zE_ (i := .putfield 1227) (by decide +kernel) _ _ _).trans ?_
  by_cases hg : a < zX ∧ (zf w a 1227).isSome = true
  · rw [zgd_pos hg]
    obtain ⟨ha, h⟩ := hg
    exact zq_putf ha h rfl rfl
  · rw [zgd_neg hg]
    exact zq_putf_no (fun h1 h2 h3 => hg ⟨h1, h2⟩)
theorem e171_204 (ls : List Value) (w : zH) : zrun none (171, 204, ls, [], w) = some (none, w) := (zE_ (i := .return_) (by decide +kernel) _ _ _).trans rfl
theorem e172_0 (v1 : Value) (x : Nat) (st : List Value) (w : zH) : zrun none (172, 0, [.ref x, v1], st, w) = zrun none (172, 1, [.ref x, v1], (.ref x :: st), w) := (zE_ (i := .aload_n 0) (by decide +kernel) _ _ _).trans rfl
theorem e172_1 (ls : List Value) (a : Nat) (st : List Value) (w : zH) : zrun none (172, 1, ls, (.ref a :: st), w) = zo (zf w a 1228) (fun x => zrun none (172, 4, ls, (x :: st), w)) := (zE_ (i := .getfield 1228) (by decide +kernel) _ _ _).trans zq_getf
theorem e172_4 (ls : List Value) (a : Int32) (st : List Value) (w : zH) : zrun none (172, 4, ls, (.int a :: st), w) = if a = 0 then zrun none (172, 7, ls, st, w) else zrun none (172, 20, ls, st, w) := (zE_ (i := .ifCond .ne 16) (by decide +kernel) _ _ _).trans (zq_if_ne rfl rfl)
theorem e172_7 (v1 : Value) (x : Nat) (st : List Value) (w : zH) : zrun none (172, 7, [.ref x, v1], st, w) = zrun none (172, 8, [.ref x, v1], (.ref x :: st), w) := (zE_ (i := .aload_n 0) (by decide +kernel) _ _ _).trans rfl
theorem e172_8 (v0 : Value) (x : Int32) (st : List Value) (w : zH) : zrun none (172, 8, [v0, .int x], st, w) = zrun none (172, 9, [v0, .int x], (.int x :: st), w) := (zE_ (i := .iload_n 1) (by decide +kernel) _ _ _).trans rfl
theorem e172_9 (ls : List Value) (x : Int32) (a : Nat) (st : List Value) (w : zH) : zrun none (172, 9, ls, (.int x :: .ref a :: st), w) = zgd (a < zX ∧ (zf w a 1228).isSome = true) (zrun none (172, 12, ls, st, zpf w a 1228 (.int x))) := by
  refine (zE_ (i := .putfield 1228) (by decide +kernel) _ _ _).trans ?_
  by_cases hg : a < zX ∧ (zf w a 1228).isSome = true
  · rw [zgd_pos hg]
    obtain ⟨ha, h⟩ := hg
    exact zq_putf ha h rfl rfl
  · rw [zgd_neg hg]
    exact zq_putf_no (fun h1 h2 h3 => hg ⟨h1, h2⟩)
theorem e172_12 (v1 : Value) (x : Nat) (st : List Value) (w : zH) : zrun none (172, 12, [.ref x, v1], st, w) = zrun none (172, 13, [.ref x, v1], (.ref x :: st), w) := (zE_ (i := .aload_n 0) (by decide +kernel) _ _ _).trans rfl
theorem e172_13 (v1 : Value) (x : Nat) (st : List Value) (w : zH) : zrun none (172, 13, [.ref x, v1], st, w) = zrun none (172, 14, [.ref x, v1], (.ref x :: st), w) := (zE_ (i := .aload_n 0) (by decide +kernel) _ _ _).trans rfl
theorem e172_14 (ls : List Value) (a : Nat) (st : List Value) (w : zH) : zrun none (172, 14, ls, (.ref a :: st), w) = zo (zf w a 1226) (fun x => zrun none (172, 17, ls, (x :: st), w)) := (zE_ (i := .getfield 1226) (by decide +kernel) _ _ _).trans zq_getf
theorem e172_17 (ls : List Value) (x : Int32) (a : Nat) (st : List Value) (w : zH) : zrun none (172, 17, ls, (.int x :: .ref a :: st), w) = zgd (a < zX ∧ (zf w a 1229).isSome = true) (zrun none (172, 20, ls, st, zpf w a 1229 (.int x))) := by
  refine (zE_ (i := .putfield 1229) (by decide +kernel) _ _ _).trans ?_
  by_cases hg : a < zX ∧ (zf w a 1229).isSome = true
  · rw [zgd_pos hg]
    obtain ⟨ha, h⟩ := hg
    exact zq_putf ha h rfl rfl
  · rw [zgd_neg hg]
    exact zq_putf_no (fun h1 h2 h3 => hg ⟨h1, h2⟩)
theorem e172_20 (ls : List Value) (w : zH) : zrun none (172, 20, ls, [], w) = some (none, w) := (zE_ (i := .return_) (by decide +kernel) _ _ _).trans rfl
theorem e173_0 (v0 : Value) (x : Int32) (st : List Value) (w : zH) : zrun none (173, 0, [v0, .int x], st, w) = zrun none (173, 1, [v0, .int x], (.int x :: st), w) := (zE_ (i := .iload_n 1) (by decide +kernel) _ _ _).trans rfl
theorem e173_1 (ls : List Value) (a : Int32) (st : List Value) (w : zH) : zrun none (173, 1, ls, (.int a :: st), w) = if a = 0 then zrun none (173, 4, ls, st, w) else zrun none (173, 9, ls, st, w) := (zE_ (i := .ifCond .ne 8) (by decide +kernel) _ _ _).trans (zq_if_ne rfl rfl)
theorem e173_4 (v1 : Value) (x : Nat) (st : List Value) (w : zH) : zrun none (173, 4, [.ref x, v1], st, w) = zrun none (173, 5, [.ref x, v1], (.ref x :: st), w) := (zE_ (i := .aload_n 0) (by decide +kernel) _ _ _).trans rfl
theorem e173_5 (ls st : List Value) (w : zH) : zrun none (173, 5, ls, st, w) = zrun none (173, 6, ls, (.int 1 :: st), w) := (zE_ (i := .iconst 1) (by decide +kernel) _ _ _).trans rfl
theorem e173_6 (ls : List Value) (a : Nat) (x0 : Int32) (st : List Value) (w : zH) (hr : zcat st ≤ 8) : zrun none (173, 6, ls, (.int x0 :: .ref a :: st), w) = zgd (zis w a 12) (zcl (zrun none (172, 0, [.ref a, .int x0], [], w)) (fun r => zrun none (173, 9, ls, r.1.toList ++ st, r.2))) := by
  refine (zE_ (i := .invokevirtual 172) (by decide +kernel) _ _ _).trans ?_
  show zres (zinv none 172 173 6 ls (.int x0 :: .ref a :: st) w) = _
  unfold zinv
  show zres (if zrc none 172 w (.ref a) = true then zcall 172 [.ref a, .int x0] st 173 6 ls w else none) = _
  by_cases hc : zis w a 12
  · rw [if_pos (zrc_is hc (by decide +kernel)), zgd_pos hc]
    exact zq_call hr (Nat.le_of_ble_eq_true rfl) rfl rfl
  · rw [zgd_neg hc, if_neg (fun q => hc (zrc_of q (by decide +kernel)))]
    rfl
theorem e173_9 (v1 : Value) (x : Nat) (st : List Value) (w : zH) : zrun none (173, 9, [.ref x, v1], st, w) = zrun none (173, 10, [.ref x, v1], (.ref x :: st), w) := (zE_ (i := .aload_n 0) (by decide +kernel) _ _ _).trans rfl
theorem e173_10 (ls : List Value) (a : Nat) (st : List Value) (w : zH) : zrun none (173, 10, ls, (.ref a :: st), w) = zo (zf w a 1228) (fun x => zrun none (173, 13, ls, (x :: st), w)) := (zE_ (i := .getfield 1228) (by decide +kernel) _ _ _).trans zq_getf
theorem e173_13 (ls : List Value) (a : Int32) (st : List Value) (w : zH) : zrun none (173, 13, ls, (.int a :: st), w) = if a = 0 then zrun none (173, 16, ls, st, w) else zrun none (173, 20, ls, st, w) := (zE_ (i := .ifCond .ne 7) (by decide +kernel) _ _ _).trans (zq_if_ne rfl rfl)
theorem e173_16 (v1 : Value) (x : Nat) (st : List Value) (w : zH) : zrun none (173, 16, [.ref x, v1], st, w) = zrun none (173, 17, [.ref x, v1], (.ref x :: st), w) := (zE_ (i := .aload_n 0) (by decide +kernel) _ _ _).trans rfl
theorem e173_17 (ls : List Value) (a : Nat) (st : List Value) (w : zH) (hr : zcat st ≤ 8) : zrun none (173, 17, ls, (.ref a :: st), w) = zgd (zis w a 12) (zcl (zrun none (171, 0, [.ref a, zJ], [], w)) (fun r => zrun none (173, 20, ls, r.1.toList ++ st, r.2))) := by
  refine (zE_ (i := .invokevirtual 171) (by decide +kernel) _ _ _).trans ?_
  show zres (zinv none 171 173 17 ls (.ref a :: st) w) = _
  unfold zinv
  show zres (if zrc none 171 w (.ref a) = true then zcall 171 [.ref a] st 173 17 ls w else none) = _
  by_cases hc : zis w a 12
  · rw [if_pos (zrc_is hc (by decide +kernel)), zgd_pos hc]
    exact zq_call hr (Nat.le_of_ble_eq_true rfl) rfl rfl
  · rw [zgd_neg hc, if_neg (fun q => hc (zrc_of q (by decide +kernel)))]
    rfl
theorem e173_20 (ls : List Value) (w : zH) : zrun none (173, 20, ls, [], w) = some (none, w) := (zE_ (i := .return_) (by decide +kernel) _ _ _).trans rfl
theorem e174_0 (ls st : List Value) (w : zH) : zrun none (174, 0, ls, st, w) = zrun none (174, 1, ls, (.long 0 :: st), w) := (zE_ (i := .lconst 0) (by decide +kernel) _ _ _).trans rfl
theorem e174_1 (v0 v1 v2 v3 : Value) (x : Int64) (st : List Value) (w : zH) (h : v0.category = 1) : zrun none (174, 1, [v0, v1, v2, v3], (.long x :: st), w) = zrun none (174, 2, [v0, .long x, zJ, v3], st, w) := by
  refine (zE_ (i := .lstore_n 1) (by decide +kernel) _ _ _).trans ?_
  have hz : zfree [v0, v1, v2, v3] 1 = true := by show decide (v0.category = 1) = true; exact decide_eq_true h
  show zres (zstl 1 1 174 1 [v0, v1, v2, v3] (.long x :: st) w) = _
  unfold zstl
  dsimp only
  rw [if_pos ⟨Nat.le_of_ble_eq_true rfl, hz⟩]
  rfl
theorem e174_2 (v1 v2 v3 : Value) (x : Nat) (st : List Value) (w : zH) : zrun none (174, 2, [.ref x, v1, v2, v3], st, w) = zrun none (174, 3, [.ref x, v1, v2, v3], (.ref x :: st), w) := (zE_ (i := .aload_n 0) (by decide +kernel) _ _ _).trans rfl
theorem e174_3 (ls : List Value) (a : Nat) (st : List Value) (w : zH) : zrun none (174, 3, ls, (.ref a :: st), w) = zo (zf w a 1226) (fun x => zrun none (174, 6, ls, (x :: st), w)) := (zE_ (i := .getfield 1226) (by decide +kernel) _ _ _).trans zq_getf
theorem e174_6 (v0 v1 v2 v3 : Value) (x : Int32) (st : List Value) (w : zH) (h : v2.category = 1) : zrun none (174, 6, [v0, v1, v2, v3], (.int x :: st), w) = zrun none (174, 7, [v0, v1, v2, .int x], st, w) := by
  refine (zE_ (i := .istore_n 3) (by decide +kernel) _ _ _).trans ?_
  have hz : zfree [v0, v1, v2, v3] 3 = true := by show decide (v2.category = 1) = true; exact decide_eq_true h
  show zres (zst zint 3 1 174 6 [v0, v1, v2, v3] (.int x :: st) w) = _
  unfold zst
  dsimp only
  rw [if_pos ⟨rfl, Nat.le_of_ble_eq_true rfl, hz⟩]
  rfl
theorem e174_7 (v0 v1 v2 : Value) (x : Int32) (st : List Value) (w : zH) : zrun none (174, 7, [v0, v1, v2, .int x], st, w) = zrun none (174, 8, [v0, v1, v2, .int x], (.int x :: st), w) := (zE_ (i := .iload_n 3) (by decide +kernel) _ _ _).trans rfl
theorem e174_8 (v1 v2 v3 : Value) (x : Nat) (st : List Value) (w : zH) : zrun none (174, 8, [.ref x, v1, v2, v3], st, w) = zrun none (174, 9, [.ref x, v1, v2, v3], (.ref x :: st), w) := (zE_ (i := .aload_n 0) (by decide +kernel) _ _ _).trans rfl
theorem e174_9 (ls : List Value) (a : Nat) (st : List Value) (w : zH) : zrun none (174, 9, ls, (.ref a :: st), w) = zo (zf w a 1227) (fun x => zrun none (174, 12, ls, (x :: st), w)) := (zE_ (i := .getfield 1227) (by decide +kernel) _ _ _).trans zq_getf
theorem e174_12 (ls : List Value) (a b : Int32) (st : List Value) (w : zH) : zrun none (174, 12, ls, (.int b :: .int a :: st), w) = if b ≤ a then zrun none (174, 56, ls, st, w) else zrun none (174, 15, ls, st, w) := (zE_ (i := .if_icmp .ge 44) (by decide +kernel) _ _ _).trans (zq_ic_ge rfl rfl)
theorem e174_15 (v1 v2 v3 : Value) (x : Nat) (st : List Value) (w : zH) : zrun none (174, 15, [.ref x, v1, v2, v3], st, w) = zrun none (174, 16, [.ref x, v1, v2, v3], (.ref x :: st), w) := (zE_ (i := .aload_n 0) (by decide +kernel) _ _ _).trans rfl
theorem e174_16 (ls : List Value) (a : Nat) (st : List Value) (w : zH) : zrun none (174, 16, ls, (.ref a :: st), w) = zo (zf w a 1225) (fun x => zrun none (174, 19, ls, (x :: st), w)) := (zE_ (i := .getfield 1225) (by decide +kernel) _ _ _).trans zq_getf
theorem e174_19 (ls st : List Value) (w : zH) : zrun none (174, 19, ls, st, w) = zrun none (174, 20, ls, (.int 2 :: st), w) := (zE_ (i := .iconst 2) (by decide +kernel) _ _ _).trans rfl
theorem e174_20 (ls : List Value) (a b : Int32) (st : List Value) (w : zH) : zrun none (174, 20, ls, (.int b :: .int a :: st), w) = if a = b then zrun none (174, 23, ls, st, w) else zrun none (174, 56, ls, st, w) := (zE_ (i := .if_icmp .ne 36) (by decide +kernel) _ _ _).trans (zq_ic_ne rfl rfl)
theorem e174_23 (v1 v2 v3 : Value) (x : Nat) (st : List Value) (w : zH) : zrun none (174, 23, [.ref x, v1, v2, v3], st, w) = zrun none (174, 24, [.ref x, v1, v2, v3], (.ref x :: st), w) := (zE_ (i := .aload_n 0) (by decide +kernel) _ _ _).trans rfl
theorem e174_24 (ls : List Value) (a : Nat) (st : List Value) (w : zH) : zrun none (174, 24, ls, (.ref a :: st), w) = zo (zf w a 1227) (fun x => zrun none (174, 27, ls, (x :: st), w)) := (zE_ (i := .getfield 1227) (by decide +kernel) _ _ _).trans zq_getf
theorem e174_27 (v1 v2 v3 : Value) (x : Nat) (st : List Value) (w : zH) : zrun none (174, 27, [.ref x, v1, v2, v3], st, w) = zrun none (174, 28, [.ref x, v1, v2, v3], (.ref x :: st), w) := (zE_ (i := .aload_n 0) (by decide +kernel) _ _ _).trans rfl
theorem e174_28 (ls : List Value) (a : Nat) (st : List Value) (w : zH) : zrun none (174, 28, ls, (.ref a :: st), w) = zo (zf w a 1226) (fun x => zrun none (174, 31, ls, (x :: st), w)) := (zE_ (i := .getfield 1226) (by decide +kernel) _ _ _).trans zq_getf
theorem e174_31 (ls : List Value) (a b : Int32) (st : List Value) (w : zH) : zrun none (174, 31, ls, (.int b :: .int a :: st), w) = zrun none (174, 32, ls, (.int (a - b) :: st), w) := (zE_ (i := .isub) (by decide +kernel) _ _ _).trans rfl
theorem e174_32 (ls st : List Value) (w : zH) : zrun none (174, 32, ls, st, w) = zrun none (174, 34, ls, (.int 8 :: st), w) := (zE_ (i := .bipush 8) (by decide +kernel) _ _ _).trans rfl
theorem e174_34 (ls : List Value) (a b : Int32) (st : List Value) (w : zH) : zrun none (174, 34, ls, (.int b :: .int a :: st), w) = if b ≤ a then zrun none (174, 56, ls, st, w) else zrun none (174, 37, ls, st, w) := (zE_ (i := .if_icmp .ge 22) (by decide +kernel) _ _ _).trans (zq_ic_ge rfl rfl)
theorem e174_37 (v0 v2 v3 : Value) (x : Int64) (st : List Value) (w : zH) : zrun none (174, 37, [v0, .long x, v2, v3], st, w) = zrun none (174, 38, [v0, .long x, v2, v3], (.long x :: st), w) := (zE_ (i := .lload_n 1) (by decide +kernel) _ _ _).trans rfl
theorem e174_38 (ls st : List Value) (w : zH) : zrun none (174, 38, ls, st, w) = zrun none (174, 40, ls, (.int 8 :: st), w) := (zE_ (i := .bipush 8) (by decide +kernel) _ _ _).trans rfl
theorem e174_40 (ls : List Value) (a : Int64) (b : Int32) (st : List Value) (w : zH) : zrun none (174, 40, ls, (.int b :: .long a :: st), w) = zrun none (174, 41, ls, (.long (a <<< (b.toInt64 &&& 63)) :: st), w) := (zE_ (i := .lshl) (by decide +kernel) _ _ _).trans rfl
theorem e174_41 (v1 v2 v3 : Value) (x : Nat) (st : List Value) (w : zH) : zrun none (174, 41, [.ref x, v1, v2, v3], st, w) = zrun none (174, 42, [.ref x, v1, v2, v3], (.ref x :: st), w) := (zE_ (i := .aload_n 0) (by decide +kernel) _ _ _).trans rfl
theorem e174_42 (ls : List Value) (a : Nat) (st : List Value) (w : zH) : zrun none (174, 42, ls, (.ref a :: st), w) = zo (zf w a 1220) (fun x => zrun none (174, 45, ls, (x :: st), w)) := (zE_ (i := .getfield 1220) (by decide +kernel) _ _ _).trans zq_getf
theorem e174_45 (v0 v1 v2 : Value) (x : Int32) (st : List Value) (w : zH) : zrun none (174, 45, [v0, v1, v2, .int x], st, w) = zrun none (174, 46, [v0, v1, v2, .int x], (.int x :: st), w) := (zE_ (i := .iload_n 3) (by decide +kernel) _ _ _).trans rfl
theorem e174_46 (ls : List Value) (j : Int32) (a : Nat) (st : List Value) (w : zH) : zrun none (174, 46, ls, (.int j :: .ref a :: st), w) = zoi (zai w a 100 j) (fun x => zrun none (174, 47, ls, (.int x :: st), w)) := (zE_ (i := .iaload) (by decide +kernel) _ _ _).trans zq_iald
theorem e174_47 (ls : List Value) (a : Int32) (st : List Value) (w : zH) : zrun none (174, 47, ls, (.int a :: st), w) = zrun none (174, 48, ls, (.long a.toInt64 :: st), w) := (zE_ (i := .i2l) (by decide +kernel) _ _ _).trans rfl
theorem e174_48 (ls : List Value) (a b : Int64) (st : List Value) (w : zH) : zrun none (174, 48, ls, (.long b :: .long a :: st), w) = zrun none (174, 49, ls, (.long (a ||| b) :: st), w) := (zE_ (i := .lor) (by decide +kernel) _ _ _).trans rfl
theorem e174_49 (v0 v1 v2 v3 : Value) (x : Int64) (st : List Value) (w : zH) (h : v0.category = 1) : zrun none (174, 49, [v0, v1, v2, v3], (.long x :: st), w) = zrun none (174, 50, [v0, .long x, zJ, v3], st, w) := by
  refine (zE_ (i := .lstore_n 1) (by decide +kernel) _ _ _).trans ?_
  have hz : zfree [v0, v1, v2, v3] 1 = true := by show decide (v0.category = 1) = true; exact decide_eq_true h
  show zres (zstl 1 1 174 49 [v0, v1, v2, v3] (.long x :: st) w) = _
  unfold zstl
  dsimp only
  rw [if_pos ⟨Nat.le_of_ble_eq_true rfl, hz⟩]
  rfl
theorem e174_50 (v0 v1 v2 : Value) (x : Int32) (st : List Value) (w : zH) : zrun none (174, 50, [v0, v1, v2, .int x], st, w) = zrun none (174, 53, [v0, v1, v2, .int (x + 1)], st, w) := (zE_ (i := .iinc 3 1) (by decide +kernel) _ _ _).trans rfl
theorem e174_53 (ls st : List Value) (w : zH) : zrun none (174, 53, ls, st, w) = zrun none (174, 7, ls, st, w) := (zE_ (i := .goto (-46)) (by decide +kernel) _ _ _).trans rfl
theorem e174_56 (v0 v2 v3 : Value) (x : Int64) (st : List Value) (w : zH) : zrun none (174, 56, [v0, .long x, v2, v3], st, w) = zrun none (174, 57, [v0, .long x, v2, v3], (.long x :: st), w) := (zE_ (i := .lload_n 1) (by decide +kernel) _ _ _).trans rfl
theorem e174_57 (ls : List Value) (x : Int64) (w : zH) : zrun none (174, 57, ls, [.long x], w) = some (some (.long x), w) := (zE_ (i := .lreturn) (by decide +kernel) _ _ _).trans rfl
theorem e175_0 (v1 v2 v3 v4 : Value) (x : Nat) (st : List Value) (w : zH) : zrun none (175, 0, [.ref x, v1, v2, v3, v4], st, w) = zrun none (175, 1, [.ref x, v1, v2, v3, v4], (.ref x :: st), w) := (zE_ (i := .aload_n 0) (by decide +kernel) _ _ _).trans rfl
theorem e175_1 (ls : List Value) (a : Nat) (st : List Value) (w : zH) : zrun none (175, 1, ls, (.ref a :: st), w) = zo (zf w a 1228) (fun x => zrun none (175, 4, ls, (x :: st), w)) := (zE_ (i := .getfield 1228) (by decide +kernel) _ _ _).trans zq_getf
theorem e175_4 (ls : List Value) (a : Int32) (st : List Value) (w : zH) : zrun none (175, 4, ls, (.int a :: st), w) = if a ≤ 0 then zrun none (175, 9, ls, st, w) else zrun none (175, 7, ls, st, w) := (zE_ (i := .ifCond .le 5) (by decide +kernel) _ _ _).trans (zq_if_le rfl rfl)
theorem e175_7 (ls st : List Value) (w : zH) : zrun none (175, 7, ls, st, w) = zrun none (175, 8, ls, (.int 0 :: st), w) := (zE_ (i := .iconst 0) (by decide +kernel) _ _ _).trans rfl
theorem e175_8 (ls : List Value) (x : Int32) (w : zH) : zrun none (175, 8, ls, [.int x], w) = some (some (.int x), w) := by
  refine (zE_ (i := .ireturn) (by decide +kernel) _ _ _).trans ?_
  show zres (if narrow .int (.int x) = .int x then _ else none) = _
  rw [if_pos (show narrow .int (.int x) = .int x from rfl)]
  rfl
theorem e175_9 (ls st : List Value) (w : zH) : zrun none (175, 9, ls, st, w) = zrun none (175, 10, ls, (.int 0 :: st), w) := (zE_ (i := .iconst 0) (by decide +kernel) _ _ _).trans rfl
theorem e175_10 (v0 v1 v2 v3 v4 : Value) (x : Int32) (st : List Value) (w : zH) (h : v2.category = 1) : zrun none (175, 10, [v0, v1, v2, v3, v4], (.int x :: st), w) = zrun none (175, 11, [v0, v1, v2, .int x, v4], st, w) := by
  refine (zE_ (i := .istore_n 3) (by decide +kernel) _ _ _).trans ?_
  have hz : zfree [v0, v1, v2, v3, v4] 3 = true := by show decide (v2.category = 1) = true; exact decide_eq_true h
  show zres (zst zint 3 1 175 10 [v0, v1, v2, v3, v4] (.int x :: st) w) = _
  unfold zst
  dsimp only
  rw [if_pos ⟨rfl, Nat.le_of_ble_eq_true rfl, hz⟩]
  rfl
theorem e175_11 (v1 v2 v3 v4 : Value) (x : Nat) (st : List Value) (w : zH) : zrun none (175, 11, [.ref x, v1, v2, v3, v4], st, w) = zrun none (175, 12, [.ref x, v1, v2, v3, v4], (.ref x :: st), w) := (zE_ (i := .aload_n 0) (by decide +kernel) _ _ _).trans rfl
theorem e175_12 (ls : List Value) (a : Nat) (st : List Value) (w : zH) : zrun none (175, 12, ls, (.ref a :: st), w) = zo (zf w a 1226) (fun x => zrun none (175, 15, ls, (x :: st), w)) := (zE_ (i := .getfield 1226) (by decide +kernel) _ _ _).trans zq_getf
theorem e175_15 (v0 v1 v2 v3 v4 : Value) (x : Int32) (st : List Value) (w : zH) (h : v3.category = 1) : zrun none (175, 15, [v0, v1, v2, v3, v4], (.int x :: st), w) = zrun none (175, 17, [v0, v1, v2, v3, .int x], st, w) := by
  refine (zE_ (i := .istore 4) (by decide +kernel) _ _ _).trans ?_
  have hz : zfree [v0, v1, v2, v3, v4] 4 = true := by show decide (v3.category = 1) = true; exact decide_eq_true h
  show zres (zst zint 4 2 175 15 [v0, v1, v2, v3, v4] (.int x :: st) w) = _
  unfold zst
  dsimp only
  rw [if_pos ⟨rfl, Nat.le_of_ble_eq_true rfl, hz⟩]
  rfl
theorem e175_17 (v0 v1 v2 v3 : Value) (x : Int32) (st : List Value) (w : zH) : zrun none (175, 17, [v0, v1, v2, v3, .int x], st, w) = zrun none (175, 19, [v0, v1, v2, v3, .int x], (.int x :: st), w) := (zE_ (i := .iload 4) (by decide +kernel) _ _ _).trans rfl
theorem e175_19 (v1 v2 v3 v4 : Value) (x : Nat) (st : List Value) (w : zH) : zrun none (175, 19, [.ref x, v1, v2, v3, v4], st, w) = zrun none (175, 20, [.ref x, v1, v2, v3, v4], (.ref x :: st), w) := (zE_ (i := .aload_n 0) (by decide +kernel) _ _ _).trans rfl
theorem e175_20 (ls : List Value) (a : Nat) (st : List Value) (w : zH) : zrun none (175, 20, ls, (.ref a :: st), w) = zo (zf w a 1227) (fun x => zrun none (175, 23, ls, (x :: st), w)) := (zE_ (i := .getfield 1227) (by decide +kernel) _ _ _).trans zq_getf
theorem e175_23 (ls : List Value) (a b : Int32) (st : List Value) (w : zH) : zrun none (175, 23, ls, (.int b :: .int a :: st), w) = if b ≤ a then zrun none (175, 56, ls, st, w) else zrun none (175, 26, ls, st, w) := (zE_ (i := .if_icmp .ge 33) (by decide +kernel) _ _ _).trans (zq_ic_ge rfl rfl)
theorem e175_26 (v1 v2 v3 v4 : Value) (x : Nat) (st : List Value) (w : zH) : zrun none (175, 26, [.ref x, v1, v2, v3, v4], st, w) = zrun none (175, 27, [.ref x, v1, v2, v3, v4], (.ref x :: st), w) := (zE_ (i := .aload_n 0) (by decide +kernel) _ _ _).trans rfl
theorem e175_27 (ls : List Value) (a : Nat) (st : List Value) (w : zH) : zrun none (175, 27, ls, (.ref a :: st), w) = zo (zf w a 1225) (fun x => zrun none (175, 30, ls, (x :: st), w)) := (zE_ (i := .getfield 1225) (by decide +kernel) _ _ _).trans zq_getf
theorem e175_30 (ls st : List Value) (w : zH) : zrun none (175, 30, ls, st, w) = zrun none (175, 31, ls, (.int 3 :: st), w) := (zE_ (i := .iconst 3) (by decide +kernel) _ _ _).trans rfl
theorem e175_31 (ls : List Value) (a b : Int32) (st : List Value) (w : zH) : zrun none (175, 31, ls, (.int b :: .int a :: st), w) = if a = b then zrun none (175, 34, ls, st, w) else zrun none (175, 56, ls, st, w) := (zE_ (i := .if_icmp .ne 25) (by decide +kernel) _ _ _).trans (zq_ic_ne rfl rfl)
theorem e175_34 (ls st : List Value) (w : zH) : zrun none (175, 34, ls, st, w) = zrun none (175, 36, ls, (.int 10 :: st), w) := (zE_ (i := .bipush 10) (by decide +kernel) _ _ _).trans rfl
theorem e175_36 (v0 v1 v2 v4 : Value) (x : Int32) (st : List Value) (w : zH) : zrun none (175, 36, [v0, v1, v2, .int x, v4], st, w) = zrun none (175, 37, [v0, v1, v2, .int x, v4], (.int x :: st), w) := (zE_ (i := .iload_n 3) (by decide +kernel) _ _ _).trans rfl
theorem e175_37 (ls : List Value) (a b : Int32) (st : List Value) (w : zH) : zrun none (175, 37, ls, (.int b :: .int a :: st), w) = zrun none (175, 38, ls, (.int (a * b) :: st), w) := (zE_ (i := .imul) (by decide +kernel) _ _ _).trans rfl
theorem e175_38 (v1 v2 v3 v4 : Value) (x : Nat) (st : List Value) (w : zH) : zrun none (175, 38, [.ref x, v1, v2, v3, v4], st, w) = zrun none (175, 39, [.ref x, v1, v2, v3, v4], (.ref x :: st), w) := (zE_ (i := .aload_n 0) (by decide +kernel) _ _ _).trans rfl
theorem e175_39 (ls : List Value) (a : Nat) (st : List Value) (w : zH) : zrun none (175, 39, ls, (.ref a :: st), w) = zo (zf w a 1220) (fun x => zrun none (175, 42, ls, (x :: st), w)) := (zE_ (i := .getfield 1220) (by decide +kernel) _ _ _).trans zq_getf
theorem e175_42 (v0 v1 v2 v3 : Value) (x : Int32) (st : List Value) (w : zH) : zrun none (175, 42, [v0, v1, v2, v3, .int x], st, w) = zrun none (175, 44, [v0, v1, v2, v3, .int x], (.int x :: st), w) := (zE_ (i := .iload 4) (by decide +kernel) _ _ _).trans rfl
theorem e175_44 (ls : List Value) (j : Int32) (a : Nat) (st : List Value) (w : zH) : zrun none (175, 44, ls, (.int j :: .ref a :: st), w) = zoi (zai w a 100 j) (fun x => zrun none (175, 45, ls, (.int x :: st), w)) := (zE_ (i := .iaload) (by decide +kernel) _ _ _).trans zq_iald
theorem e175_45 (ls : List Value) (a b : Int32) (st : List Value) (w : zH) : zrun none (175, 45, ls, (.int b :: .int a :: st), w) = zrun none (175, 46, ls, (.int (a + b) :: st), w) := (zE_ (i := .iadd) (by decide +kernel) _ _ _).trans rfl
theorem e175_46 (ls st : List Value) (w : zH) : zrun none (175, 46, ls, st, w) = zrun none (175, 48, ls, (.int 48 :: st), w) := (zE_ (i := .bipush 48) (by decide +kernel) _ _ _).trans rfl
theorem e175_48 (ls : List Value) (a b : Int32) (st : List Value) (w : zH) : zrun none (175, 48, ls, (.int b :: .int a :: st), w) = zrun none (175, 49, ls, (.int (a - b) :: st), w) := (zE_ (i := .isub) (by decide +kernel) _ _ _).trans rfl
theorem e175_49 (v0 v1 v2 v3 v4 : Value) (x : Int32) (st : List Value) (w : zH) (h : v2.category = 1) : zrun none (175, 49, [v0, v1, v2, v3, v4], (.int x :: st), w) = zrun none (175, 50, [v0, v1, v2, .int x, v4], st, w) := by
  refine (zE_ (i := .istore_n 3) (by decide +kernel) _ _ _).trans ?_
  have hz : zfree [v0, v1, v2, v3, v4] 3 = true := by show decide (v2.category = 1) = true; exact decide_eq_true h
  show zres (zst zint 3 1 175 49 [v0, v1, v2, v3, v4] (.int x :: st) w) = _
  unfold zst
  dsimp only
  rw [if_pos ⟨rfl, Nat.le_of_ble_eq_true rfl, hz⟩]
  rfl
theorem e175_50 (v0 v1 v2 v3 : Value) (x : Int32) (st : List Value) (w : zH) : zrun none (175, 50, [v0, v1, v2, v3, .int x], st, w) = zrun none (175, 53, [v0, v1, v2, v3, .int (x + 1)], st, w) := (zE_ (i := .iinc 4 1) (by decide +kernel) _ _ _).trans rfl
theorem e175_53 (ls st : List Value) (w : zH) : zrun none (175, 53, ls, st, w) = zrun none (175, 17, ls, st, w) := (zE_ (i := .goto (-36)) (by decide +kernel) _ _ _).trans rfl
theorem e175_56 (v1 v2 v3 v4 : Value) (x : Nat) (st : List Value) (w : zH) : zrun none (175, 56, [.ref x, v1, v2, v3, v4], st, w) = zrun none (175, 57, [.ref x, v1, v2, v3, v4], (.ref x :: st), w) := (zE_ (i := .aload_n 0) (by decide +kernel) _ _ _).trans rfl
theorem e175_57 (ls : List Value) (a : Nat) (st : List Value) (w : zH) : zrun none (175, 57, ls, (.ref a :: st), w) = zo (zf w a 1225) (fun x => zrun none (175, 60, ls, (x :: st), w)) := (zE_ (i := .getfield 1225) (by decide +kernel) _ _ _).trans zq_getf
theorem e175_60 (ls st : List Value) (w : zH) : zrun none (175, 60, ls, st, w) = zrun none (175, 61, ls, (.int 3 :: st), w) := (zE_ (i := .iconst 3) (by decide +kernel) _ _ _).trans rfl
theorem e175_61 (ls : List Value) (a b : Int32) (st : List Value) (w : zH) : zrun none (175, 61, ls, (.int b :: .int a :: st), w) = if a = b then zrun none (175, 64, ls, st, w) else zrun none (175, 81, ls, st, w) := (zE_ (i := .if_icmp .ne 20) (by decide +kernel) _ _ _).trans (zq_ic_ne rfl rfl)
theorem e175_64 (v0 v1 v2 v4 : Value) (x : Int32) (st : List Value) (w : zH) : zrun none (175, 64, [v0, v1, v2, .int x, v4], st, w) = zrun none (175, 65, [v0, v1, v2, .int x, v4], (.int x :: st), w) := (zE_ (i := .iload_n 3) (by decide +kernel) _ _ _).trans rfl
theorem e175_65 (ls : List Value) (a : Int32) (st : List Value) (w : zH) : zrun none (175, 65, ls, (.int a :: st), w) = zrun none (175, 66, ls, (.long a.toInt64 :: st), w) := (zE_ (i := .i2l) (by decide +kernel) _ _ _).trans rfl
theorem e175_66 (v0 v2 v3 v4 : Value) (x : Int32) (st : List Value) (w : zH) : zrun none (175, 66, [v0, .int x, v2, v3, v4], st, w) = zrun none (175, 67, [v0, .int x, v2, v3, v4], (.int x :: st), w) := (zE_ (i := .iload_n 1) (by decide +kernel) _ _ _).trans rfl
theorem e175_67 (ls : List Value) (a : Int32) (st : List Value) (w : zH) : zrun none (175, 67, ls, (.int a :: st), w) = zrun none (175, 68, ls, (.long a.toInt64 :: st), w) := (zE_ (i := .i2l) (by decide +kernel) _ _ _).trans rfl
theorem e175_68 (v0 v1 v3 v4 : Value) (x : Int32) (st : List Value) (w : zH) : zrun none (175, 68, [v0, v1, .int x, v3, v4], st, w) = zrun none (175, 69, [v0, v1, .int x, v3, v4], (.int x :: st), w) := (zE_ (i := .iload_n 2) (by decide +kernel) _ _ _).trans rfl
theorem e175_69 (ls : List Value) (a : Int32) (st : List Value) (w : zH) : zrun none (175, 69, ls, (.int a :: st), w) = zrun none (175, 70, ls, (.long a.toInt64 :: st), w) := (zE_ (i := .i2l) (by decide +kernel) _ _ _).trans rfl
theorem e175_70 (ls : List Value) (x0 : Int64) (x1 : Int64) (x2 : Int64) (st : List Value) (w : zH) (hr : zcat st ≤ 8) : zrun none (175, 70, ls, (.long x2 :: .long x1 :: .long x0 :: st), w) = zcl (zrun none (146, 0, [.long x0, zJ, .long x1, zJ, .long x2, zJ], [], w)) (fun r => zrun none (175, 73, ls, r.1.toList ++ st, r.2)) := by
  refine (zE_ (i := .invokestatic 146) (by decide +kernel) _ _ _).trans ?_
  show zres (if (99 : Nat) = 99 ∧ 3 ≤ ((.long x2 :: .long x1 :: .long x0 :: st) : List Value).length then zcall 146 [.long x0, .long x1, .long x2] st 175 70 ls w else none) = _
  rw [if_pos ⟨rfl, by simp⟩]
  exact zq_call hr (Nat.le_of_ble_eq_true rfl) rfl rfl
theorem e175_73 (ls : List Value) (a : Int32) (st : List Value) (w : zH) : zrun none (175, 73, ls, (.int a :: st), w) = if a = 0 then zrun none (175, 76, ls, st, w) else zrun none (175, 81, ls, st, w) := (zE_ (i := .ifCond .ne 8) (by decide +kernel) _ _ _).trans (zq_if_ne rfl rfl)
theorem e175_76 (v1 v2 v3 v4 : Value) (x : Nat) (st : List Value) (w : zH) : zrun none (175, 76, [.ref x, v1, v2, v3, v4], st, w) = zrun none (175, 77, [.ref x, v1, v2, v3, v4], (.ref x :: st), w) := (zE_ (i := .aload_n 0) (by decide +kernel) _ _ _).trans rfl
theorem e175_77 (ls st : List Value) (w : zH) : zrun none (175, 77, ls, st, w) = zrun none (175, 78, ls, (.int 2 :: st), w) := (zE_ (i := .iconst 2) (by decide +kernel) _ _ _).trans rfl
theorem e175_78 (ls : List Value) (a : Nat) (x0 : Int32) (st : List Value) (w : zH) (hr : zcat st ≤ 8) : zrun none (175, 78, ls, (.int x0 :: .ref a :: st), w) = zgd (zis w a 12) (zcl (zrun none (172, 0, [.ref a, .int x0], [], w)) (fun r => zrun none (175, 81, ls, r.1.toList ++ st, r.2))) := by
  refine (zE_ (i := .invokevirtual 172) (by decide +kernel) _ _ _).trans ?_
  show zres (zinv none 172 175 78 ls (.int x0 :: .ref a :: st) w) = _
  unfold zinv
  show zres (if zrc none 172 w (.ref a) = true then zcall 172 [.ref a, .int x0] st 175 78 ls w else none) = _
  by_cases hc : zis w a 12
  · rw [if_pos (zrc_is hc (by decide +kernel)), zgd_pos hc]
    exact zq_call hr (Nat.le_of_ble_eq_true rfl) rfl rfl
  · rw [zgd_neg hc, if_neg (fun q => hc (zrc_of q (by decide +kernel)))]
    rfl
theorem e175_81 (v1 v2 v3 v4 : Value) (x : Nat) (st : List Value) (w : zH) : zrun none (175, 81, [.ref x, v1, v2, v3, v4], st, w) = zrun none (175, 82, [.ref x, v1, v2, v3, v4], (.ref x :: st), w) := (zE_ (i := .aload_n 0) (by decide +kernel) _ _ _).trans rfl
theorem e175_82 (v1 v2 v3 v4 : Value) (x : Nat) (st : List Value) (w : zH) : zrun none (175, 82, [.ref x, v1, v2, v3, v4], st, w) = zrun none (175, 83, [.ref x, v1, v2, v3, v4], (.ref x :: st), w) := (zE_ (i := .aload_n 0) (by decide +kernel) _ _ _).trans rfl
theorem e175_83 (ls : List Value) (a : Nat) (st : List Value) (w : zH) : zrun none (175, 83, ls, (.ref a :: st), w) = zo (zf w a 1225) (fun x => zrun none (175, 86, ls, (x :: st), w)) := (zE_ (i := .getfield 1225) (by decide +kernel) _ _ _).trans zq_getf
theorem e175_86 (ls st : List Value) (w : zH) : zrun none (175, 86, ls, st, w) = zrun none (175, 87, ls, (.int 3 :: st), w) := (zE_ (i := .iconst 3) (by decide +kernel) _ _ _).trans rfl
theorem e175_87 (ls : List Value) (a b : Int32) (st : List Value) (w : zH) : zrun none (175, 87, ls, (.int b :: .int a :: st), w) = if a = b then zrun none (175, 90, ls, st, w) else zrun none (175, 94, ls, st, w) := (zE_ (i := .if_icmp .ne 7) (by decide +kernel) _ _ _).trans (zq_ic_ne rfl rfl)
theorem e175_90 (ls st : List Value) (w : zH) : zrun none (175, 90, ls, st, w) = zrun none (175, 91, ls, (.int 1 :: st), w) := (zE_ (i := .iconst 1) (by decide +kernel) _ _ _).trans rfl
theorem e175_91 (ls st : List Value) (w : zH) : zrun none (175, 91, ls, st, w) = zrun none (175, 95, ls, st, w) := (zE_ (i := .goto 4) (by decide +kernel) _ _ _).trans rfl
theorem e175_94 (ls st : List Value) (w : zH) : zrun none (175, 94, ls, st, w) = zrun none (175, 95, ls, (.int 0 :: st), w) := (zE_ (i := .iconst 0) (by decide +kernel) _ _ _).trans rfl
theorem e175_95 (ls : List Value) (a : Nat) (x0 : Int32) (st : List Value) (w : zH) (hr : zcat st ≤ 8) : zrun none (175, 95, ls, (.int x0 :: .ref a :: st), w) = zgd (zis w a 12) (zcl (zrun none (173, 0, [.ref a, .int x0], [], w)) (fun r => zrun none (175, 98, ls, r.1.toList ++ st, r.2))) := by
  refine (zE_ (i := .invokevirtual 173) (by decide +kernel) _ _ _).trans ?_
  show zres (zinv none 173 175 95 ls (.int x0 :: .ref a :: st) w) = _
  unfold zinv
  show zres (if zrc none 173 w (.ref a) = true then zcall 173 [.ref a, .int x0] st 175 95 ls w else none) = _
  by_cases hc : zis w a 12
  · rw [if_pos (zrc_is hc (by decide +kernel)), zgd_pos hc]
    exact zq_call hr (Nat.le_of_ble_eq_true rfl) rfl rfl
  · rw [zgd_neg hc, if_neg (fun q => hc (zrc_of q (by decide +kernel)))]
    rfl
theorem e175_98 (v0 v1 v2 v4 : Value) (x : Int32) (st : List Value) (w : zH) : zrun none (175, 98, [v0, v1, v2, .int x, v4], st, w) = zrun none (175, 99, [v0, v1, v2, .int x, v4], (.int x :: st), w) := (zE_ (i := .iload_n 3) (by decide +kernel) _ _ _).trans rfl
theorem e175_99 (ls : List Value) (x : Int32) (w : zH) : zrun none (175, 99, ls, [.int x], w) = some (some (.int x), w) := by
  refine (zE_ (i := .ireturn) (by decide +kernel) _ _ _).trans ?_
  show zres (if narrow .int (.int x) = .int x then _ else none) = _
  rw [if_pos (show narrow .int (.int x) = .int x from rfl)]
  rfl
theorem e176_0 (v1 v2 : Value) (x : Nat) (st : List Value) (w : zH) : zrun none (176, 0, [.ref x, v1, v2], st, w) = zrun none (176, 1, [.ref x, v1, v2], (.ref x :: st), w) := (zE_ (i := .aload_n 0) (by decide +kernel) _ _ _).trans rfl
theorem e176_1 (ls : List Value) (a : Nat) (st : List Value) (w : zH) (hr : zcat st ≤ 8) : zrun none (176, 1, ls, (.ref a :: st), w) = zgd (zis w a 12) (zcl (zrun none (174, 0, [.ref a, zJ, zJ, zJ], [], w)) (fun r => zrun none (176, 4, ls, r.1.toList ++ st, r.2))) := by
  refine (zE_ (i := .invokevirtual 174) (by decide +kernel) _ _ _).trans ?_
  show zres (zinv none 174 176 1 ls (.ref a :: st) w) = _
  unfold zinv
  show zres (if zrc none 174 w (.ref a) = true then zcall 174 [.ref a] st 176 1 ls w else none) = _
  by_cases hc : zis w a 12
  · rw [if_pos (zrc_is hc (by decide +kernel)), zgd_pos hc]
    exact zq_call hr (Nat.le_of_ble_eq_true rfl) rfl rfl
  · rw [zgd_neg hc, if_neg (fun q => hc (zrc_of q (by decide +kernel)))]
    rfl
theorem e176_4 (v0 v1 v2 : Value) (x : Int64) (st : List Value) (w : zH) (h : v0.category = 1) : zrun none (176, 4, [v0, v1, v2], (.long x :: st), w) = zrun none (176, 5, [v0, .long x, zJ], st, w) := by
  refine (zE_ (i := .lstore_n 1) (by decide +kernel) _ _ _).trans ?_
  have hz : zfree [v0, v1, v2] 1 = true := by show decide (v0.category = 1) = true; exact decide_eq_true h
  show zres (zstl 1 1 176 4 [v0, v1, v2] (.long x :: st) w) = _
  unfold zstl
  dsimp only
  rw [if_pos ⟨Nat.le_of_ble_eq_true rfl, hz⟩]
  rfl
theorem e176_5 (v0 v2 : Value) (x : Int64) (st : List Value) (w : zH) : zrun none (176, 5, [v0, .long x, v2], st, w) = zrun none (176, 6, [v0, .long x, v2], (.long x :: st), w) := (zE_ (i := .lload_n 1) (by decide +kernel) _ _ _).trans rfl
theorem e176_6 (ls st : List Value) (w : zH) : zrun none (176, 6, ls, st, w) = zrun none (176, 9, ls, (.long 131294707347319 :: st), w) := (zE_ (i := .ldc2_w 131294707347319) (by decide +kernel) _ _ _).trans rfl
theorem e176_9 (ls : List Value) (a b : Int64) (st : List Value) (w : zH) : zrun none (176, 9, ls, (.long b :: .long a :: st), w) = zrun none (176, 10, ls, (.int (lg_cmp a b) :: st), w) := (zE_ (i := .lcmp) (by decide +kernel) _ _ _).trans rfl
theorem e176_10 (ls : List Value) (a : Int32) (st : List Value) (w : zH) : zrun none (176, 10, ls, (.int a :: st), w) = if a = 0 then zrun none (176, 13, ls, st, w) else zrun none (176, 17, ls, st, w) := (zE_ (i := .ifCond .ne 7) (by decide +kernel) _ _ _).trans (zq_if_ne rfl rfl)
theorem e176_13 (ls st : List Value) (w : zH) : zrun none (176, 13, ls, st, w) = zrun none (176, 14, ls, (.int 0 :: st), w) := (zE_ (i := .iconst 0) (by decide +kernel) _ _ _).trans rfl
theorem e176_14 (ls st : List Value) (w : zH) : zrun none (176, 14, ls, st, w) = zrun none (176, 79, ls, st, w) := (zE_ (i := .goto 65) (by decide +kernel) _ _ _).trans rfl
theorem e176_17 (v0 v2 : Value) (x : Int64) (st : List Value) (w : zH) : zrun none (176, 17, [v0, .long x, v2], st, w) = zrun none (176, 18, [v0, .long x, v2], (.long x :: st), w) := (zE_ (i := .lload_n 1) (by decide +kernel) _ _ _).trans rfl
theorem e176_18 (ls st : List Value) (w : zH) : zrun none (176, 18, ls, st, w) = zrun none (176, 21, ls, (.long 2002873452 :: st), w) := (zE_ (i := .ldc2_w 2002873452) (by decide +kernel) _ _ _).trans rfl
theorem e176_21 (ls : List Value) (a b : Int64) (st : List Value) (w : zH) : zrun none (176, 21, ls, (.long b :: .long a :: st), w) = zrun none (176, 22, ls, (.int (lg_cmp a b) :: st), w) := (zE_ (i := .lcmp) (by decide +kernel) _ _ _).trans rfl
theorem e176_22 (ls : List Value) (a : Int32) (st : List Value) (w : zH) : zrun none (176, 22, ls, (.int a :: st), w) = if a = 0 then zrun none (176, 25, ls, st, w) else zrun none (176, 29, ls, st, w) := (zE_ (i := .ifCond .ne 7) (by decide +kernel) _ _ _).trans (zq_if_ne rfl rfl)
theorem e176_25 (ls st : List Value) (w : zH) : zrun none (176, 25, ls, st, w) = zrun none (176, 26, ls, (.int 1 :: st), w) := (zE_ (i := .iconst 1) (by decide +kernel) _ _ _).trans rfl
theorem e176_26 (ls st : List Value) (w : zH) : zrun none (176, 26, ls, st, w) = zrun none (176, 79, ls, st, w) := (zE_ (i := .goto 53) (by decide +kernel) _ _ _).trans rfl
theorem e176_29 (v0 v2 : Value) (x : Int64) (st : List Value) (w : zH) : zrun none (176, 29, [v0, .long x, v2], st, w) = zrun none (176, 30, [v0, .long x, v2], (.long x :: st), w) := (zE_ (i := .lload_n 1) (by decide +kernel) _ _ _).trans rfl
theorem e176_30 (ls st : List Value) (w : zH) : zrun none (176, 30, ls, st, w) = zrun none (176, 33, ls, (.long 1919905638 :: st), w) := (zE_ (i := .ldc2_w 1919905638) (by decide +kernel) _ _ _).trans rfl
theorem e176_33 (ls : List Value) (a b : Int64) (st : List Value) (w : zH) : zrun none (176, 33, ls, (.long b :: .long a :: st), w) = zrun none (176, 34, ls, (.int (lg_cmp a b) :: st), w) := (zE_ (i := .lcmp) (by decide +kernel) _ _ _).trans rfl
theorem e176_34 (ls : List Value) (a : Int32) (st : List Value) (w : zH) : zrun none (176, 34, ls, (.int a :: st), w) = if a = 0 then zrun none (176, 37, ls, st, w) else zrun none (176, 41, ls, st, w) := (zE_ (i := .ifCond .ne 7) (by decide +kernel) _ _ _).trans (zq_if_ne rfl rfl)
theorem e176_37 (ls st : List Value) (w : zH) : zrun none (176, 37, ls, st, w) = zrun none (176, 38, ls, (.int 2 :: st), w) := (zE_ (i := .iconst 2) (by decide +kernel) _ _ _).trans rfl
theorem e176_38 (ls st : List Value) (w : zH) : zrun none (176, 38, ls, st, w) = zrun none (176, 79, ls, st, w) := (zE_ (i := .goto 41) (by decide +kernel) _ _ _).trans rfl
theorem e176_41 (v0 v2 : Value) (x : Int64) (st : List Value) (w : zH) : zrun none (176, 41, [v0, .long x, v2], st, w) = zrun none (176, 42, [v0, .long x, v2], (.long x :: st), w) := (zE_ (i := .lload_n 1) (by decide +kernel) _ _ _).trans rfl
theorem e176_42 (ls st : List Value) (w : zH) : zrun none (176, 42, ls, st, w) = zrun none (176, 45, ls, (.long 1685024626 :: st), w) := (zE_ (i := .ldc2_w 1685024626) (by decide +kernel) _ _ _).trans rfl
theorem e176_45 (ls : List Value) (a b : Int64) (st : List Value) (w : zH) : zrun none (176, 45, ls, (.long b :: .long a :: st), w) = zrun none (176, 46, ls, (.int (lg_cmp a b) :: st), w) := (zE_ (i := .lcmp) (by decide +kernel) _ _ _).trans rfl
theorem e176_46 (ls : List Value) (a : Int32) (st : List Value) (w : zH) : zrun none (176, 46, ls, (.int a :: st), w) = if a = 0 then zrun none (176, 49, ls, st, w) else zrun none (176, 53, ls, st, w) := (zE_ (i := .ifCond .ne 7) (by decide +kernel) _ _ _).trans (zq_if_ne rfl rfl)
theorem e176_49 (ls st : List Value) (w : zH) : zrun none (176, 49, ls, st, w) = zrun none (176, 50, ls, (.int 3 :: st), w) := (zE_ (i := .iconst 3) (by decide +kernel) _ _ _).trans rfl
theorem e176_50 (ls st : List Value) (w : zH) : zrun none (176, 50, ls, st, w) = zrun none (176, 79, ls, st, w) := (zE_ (i := .goto 29) (by decide +kernel) _ _ _).trans rfl
theorem e176_53 (v0 v2 : Value) (x : Int64) (st : List Value) (w : zH) : zrun none (176, 53, [v0, .long x, v2], st, w) = zrun none (176, 54, [v0, .long x, v2], (.long x :: st), w) := (zE_ (i := .lload_n 1) (by decide +kernel) _ _ _).trans rfl
theorem e176_54 (ls st : List Value) (w : zH) : zrun none (176, 54, ls, st, w) = zrun none (176, 57, ls, (.long 439905906546 :: st), w) := (zE_ (i := .ldc2_w 439905906546) (by decide +kernel) _ _ _).trans rfl
theorem e176_57 (ls : List Value) (a b : Int64) (st : List Value) (w : zH) : zrun none (176, 57, ls, (.long b :: .long a :: st), w) = zrun none (176, 58, ls, (.int (lg_cmp a b) :: st), w) := (zE_ (i := .lcmp) (by decide +kernel) _ _ _).trans rfl
theorem e176_58 (ls : List Value) (a : Int32) (st : List Value) (w : zH) : zrun none (176, 58, ls, (.int a :: st), w) = if a = 0 then zrun none (176, 61, ls, st, w) else zrun none (176, 65, ls, st, w) := (zE_ (i := .ifCond .ne 7) (by decide +kernel) _ _ _).trans (zq_if_ne rfl rfl)
theorem e176_61 (ls st : List Value) (w : zH) : zrun none (176, 61, ls, st, w) = zrun none (176, 62, ls, (.int 4 :: st), w) := (zE_ (i := .iconst 4) (by decide +kernel) _ _ _).trans rfl
theorem e176_62 (ls st : List Value) (w : zH) : zrun none (176, 62, ls, st, w) = zrun none (176, 79, ls, st, w) := (zE_ (i := .goto 17) (by decide +kernel) _ _ _).trans rfl
theorem e176_65 (v0 v2 : Value) (x : Int64) (st : List Value) (w : zH) : zrun none (176, 65, [v0, .long x, v2], st, w) = zrun none (176, 66, [v0, .long x, v2], (.long x :: st), w) := (zE_ (i := .lload_n 1) (by decide +kernel) _ _ _).trans rfl
theorem e176_66 (ls st : List Value) (w : zH) : zrun none (176, 66, ls, st, w) = zrun none (176, 69, ls, (.long 6385273 :: st), w) := (zE_ (i := .ldc2_w 6385273) (by decide +kernel) _ _ _).trans rfl
theorem e176_69 (ls : List Value) (a b : Int64) (st : List Value) (w : zH) : zrun none (176, 69, ls, (.long b :: .long a :: st), w) = zrun none (176, 70, ls, (.int (lg_cmp a b) :: st), w) := (zE_ (i := .lcmp) (by decide +kernel) _ _ _).trans rfl
theorem e176_70 (ls : List Value) (a : Int32) (st : List Value) (w : zH) : zrun none (176, 70, ls, (.int a :: st), w) = if a = 0 then zrun none (176, 73, ls, st, w) else zrun none (176, 77, ls, st, w) := (zE_ (i := .ifCond .ne 7) (by decide +kernel) _ _ _).trans (zq_if_ne rfl rfl)
theorem e176_73 (ls st : List Value) (w : zH) : zrun none (176, 73, ls, st, w) = zrun none (176, 74, ls, (.int 5 :: st), w) := (zE_ (i := .iconst 5) (by decide +kernel) _ _ _).trans rfl
theorem e176_74 (ls st : List Value) (w : zH) : zrun none (176, 74, ls, st, w) = zrun none (176, 79, ls, st, w) := (zE_ (i := .goto 5) (by decide +kernel) _ _ _).trans rfl
theorem e176_77 (ls st : List Value) (w : zH) : zrun none (176, 77, ls, st, w) = zrun none (176, 79, ls, (.int (-1000000) :: st), w) := (zE_ (i := .bipush (-1000000)) (by decide +kernel) _ _ _).trans rfl
theorem e176_79 (ls : List Value) (x : Int32) (w : zH) : zrun none (176, 79, ls, [.int x], w) = some (some (.int x), w) := by
  refine (zE_ (i := .ireturn) (by decide +kernel) _ _ _).trans ?_
  show zres (if narrow .int (.int x) = .int x then _ else none) = _
  rw [if_pos (show narrow .int (.int x) = .int x from rfl)]
  rfl
theorem e177_0 (v1 v2 : Value) (x : Nat) (st : List Value) (w : zH) : zrun none (177, 0, [.ref x, v1, v2], st, w) = zrun none (177, 1, [.ref x, v1, v2], (.ref x :: st), w) := (zE_ (i := .aload_n 0) (by decide +kernel) _ _ _).trans rfl
theorem e177_1 (ls : List Value) (a : Nat) (st : List Value) (w : zH) (hr : zcat st ≤ 8) : zrun none (177, 1, ls, (.ref a :: st), w) = zgd (zis w a 12) (zcl (zrun none (174, 0, [.ref a, zJ, zJ, zJ], [], w)) (fun r => zrun none (177, 4, ls, r.1.toList ++ st, r.2))) := by
  refine (zE_ (i := .invokevirtual 174) (by decide +kernel) _ _ _).trans ?_
  show zres (zinv none 174 177 1 ls (.ref a :: st) w) = _
  unfold zinv
  show zres (if zrc none 174 w (.ref a) = true then zcall 174 [.ref a] st 177 1 ls w else none) = _
  by_cases hc : zis w a 12
  · rw [if_pos (zrc_is hc (by decide +kernel)), zgd_pos hc]
    exact zq_call hr (Nat.le_of_ble_eq_true rfl) rfl rfl
  · rw [zgd_neg hc, if_neg (fun q => hc (zrc_of q (by decide +kernel)))]
    rfl
theorem e177_4 (v0 v1 v2 : Value) (x : Int64) (st : List Value) (w : zH) (h : v0.category = 1) : zrun none (177, 4, [v0, v1, v2], (.long x :: st), w) = zrun none (177, 5, [v0, .long x, zJ], st, w) := by
  refine (zE_ (i := .lstore_n 1) (by decide +kernel) _ _ _).trans ?_
  have hz : zfree [v0, v1, v2] 1 = true := by show decide (v0.category = 1) = true; exact decide_eq_true h
  show zres (zstl 1 1 177 4 [v0, v1, v2] (.long x :: st) w) = _
  unfold zstl
  dsimp only
  rw [if_pos ⟨Nat.le_of_ble_eq_true rfl, hz⟩]
  rfl
theorem e177_5 (v0 v2 : Value) (x : Int64) (st : List Value) (w : zH) : zrun none (177, 5, [v0, .long x, v2], st, w) = zrun none (177, 6, [v0, .long x, v2], (.long x :: st), w) := (zE_ (i := .lload_n 1) (by decide +kernel) _ _ _).trans rfl
theorem e177_6 (ls st : List Value) (w : zH) : zrun none (177, 6, ls, st, w) = zrun none (177, 9, ls, (.long 125780002695538 :: st), w) := (zE_ (i := .ldc2_w 125780002695538) (by decide +kernel) _ _ _).trans rfl
theorem e177_9 (ls : List Value) (a b : Int64) (st : List Value) (w : zH) : zrun none (177, 9, ls, (.long b :: .long a :: st), w) = zrun none (177, 10, ls, (.int (lg_cmp a b) :: st), w) := (zE_ (i := .lcmp) (by decide +kernel) _ _ _).trans rfl
theorem e177_10 (ls : List Value) (a : Int32) (st : List Value) (w : zH) : zrun none (177, 10, ls, (.int a :: st), w) = if a = 0 then zrun none (177, 13, ls, st, w) else zrun none (177, 17, ls, st, w) := (zE_ (i := .ifCond .ne 7) (by decide +kernel) _ _ _).trans (zq_if_ne rfl rfl)
theorem e177_13 (ls st : List Value) (w : zH) : zrun none (177, 13, ls, st, w) = zrun none (177, 14, ls, (.int 0 :: st), w) := (zE_ (i := .iconst 0) (by decide +kernel) _ _ _).trans rfl
theorem e177_14 (ls st : List Value) (w : zH) : zrun none (177, 14, ls, st, w) = zrun none (177, 55, ls, st, w) := (zE_ (i := .goto 41) (by decide +kernel) _ _ _).trans rfl
theorem e177_17 (v0 v2 : Value) (x : Int64) (st : List Value) (w : zH) : zrun none (177, 17, [v0, .long x, v2], st, w) = zrun none (177, 18, [v0, .long x, v2], (.long x :: st), w) := (zE_ (i := .lload_n 1) (by decide +kernel) _ _ _).trans rfl
theorem e177_18 (ls st : List Value) (w : zH) : zrun none (177, 18, ls, st, w) = zrun none (177, 21, ls, (.long 109299962373989 :: st), w) := (zE_ (i := .ldc2_w 109299962373989) (by decide +kernel) _ _ _).trans rfl
theorem e177_21 (ls : List Value) (a b : Int64) (st : List Value) (w : zH) : zrun none (177, 21, ls, (.long b :: .long a :: st), w) = zrun none (177, 22, ls, (.int (lg_cmp a b) :: st), w) := (zE_ (i := .lcmp) (by decide +kernel) _ _ _).trans rfl
theorem e177_22 (ls : List Value) (a : Int32) (st : List Value) (w : zH) : zrun none (177, 22, ls, (.int a :: st), w) = if a = 0 then zrun none (177, 25, ls, st, w) else zrun none (177, 29, ls, st, w) := (zE_ (i := .ifCond .ne 7) (by decide +kernel) _ _ _).trans (zq_if_ne rfl rfl)
theorem e177_25 (ls st : List Value) (w : zH) : zrun none (177, 25, ls, st, w) = zrun none (177, 26, ls, (.int 1 :: st), w) := (zE_ (i := .iconst 1) (by decide +kernel) _ _ _).trans rfl
theorem e177_26 (ls st : List Value) (w : zH) : zrun none (177, 26, ls, st, w) = zrun none (177, 55, ls, st, w) := (zE_ (i := .goto 29) (by decide +kernel) _ _ _).trans rfl
theorem e177_29 (v0 v2 : Value) (x : Int64) (st : List Value) (w : zH) : zrun none (177, 29, [v0, .long x, v2], st, w) = zrun none (177, 30, [v0, .long x, v2], (.long x :: st), w) := (zE_ (i := .lload_n 1) (by decide +kernel) _ _ _).trans rfl
theorem e177_30 (ls st : List Value) (w : zH) : zrun none (177, 30, ls, st, w) = zrun none (177, 33, ls, (.long 125779953284709 :: st), w) := (zE_ (i := .ldc2_w 125779953284709) (by decide +kernel) _ _ _).trans rfl
theorem e177_33 (ls : List Value) (a b : Int64) (st : List Value) (w : zH) : zrun none (177, 33, ls, (.long b :: .long a :: st), w) = zrun none (177, 34, ls, (.int (lg_cmp a b) :: st), w) := (zE_ (i := .lcmp) (by decide +kernel) _ _ _).trans rfl
theorem e177_34 (ls : List Value) (a : Int32) (st : List Value) (w : zH) : zrun none (177, 34, ls, (.int a :: st), w) = if a = 0 then zrun none (177, 37, ls, st, w) else zrun none (177, 41, ls, st, w) := (zE_ (i := .ifCond .ne 7) (by decide +kernel) _ _ _).trans (zq_if_ne rfl rfl)
theorem e177_37 (ls st : List Value) (w : zH) : zrun none (177, 37, ls, st, w) = zrun none (177, 38, ls, (.int 2 :: st), w) := (zE_ (i := .iconst 2) (by decide +kernel) _ _ _).trans rfl
theorem e177_38 (ls st : List Value) (w : zH) : zrun none (177, 38, ls, st, w) = zrun none (177, 55, ls, st, w) := (zE_ (i := .goto 17) (by decide +kernel) _ _ _).trans rfl
theorem e177_41 (v0 v2 : Value) (x : Int64) (st : List Value) (w : zH) : zrun none (177, 41, [v0, .long x, v2], st, w) = zrun none (177, 42, [v0, .long x, v2], (.long x :: st), w) := (zE_ (i := .lload_n 1) (by decide +kernel) _ _ _).trans rfl
theorem e177_42 (ls st : List Value) (w : zH) : zrun none (177, 42, ls, st, w) = zrun none (177, 45, ls, (.long 482670636660 :: st), w) := (zE_ (i := .ldc2_w 482670636660) (by decide +kernel) _ _ _).trans rfl
theorem e177_45 (ls : List Value) (a b : Int64) (st : List Value) (w : zH) : zrun none (177, 45, ls, (.long b :: .long a :: st), w) = zrun none (177, 46, ls, (.int (lg_cmp a b) :: st), w) := (zE_ (i := .lcmp) (by decide +kernel) _ _ _).trans rfl
theorem e177_46 (ls : List Value) (a : Int32) (st : List Value) (w : zH) : zrun none (177, 46, ls, (.int a :: st), w) = if a = 0 then zrun none (177, 49, ls, st, w) else zrun none (177, 53, ls, st, w) := (zE_ (i := .ifCond .ne 7) (by decide +kernel) _ _ _).trans (zq_if_ne rfl rfl)
theorem e177_49 (ls st : List Value) (w : zH) : zrun none (177, 49, ls, st, w) = zrun none (177, 50, ls, (.int 3 :: st), w) := (zE_ (i := .iconst 3) (by decide +kernel) _ _ _).trans rfl
theorem e177_50 (ls st : List Value) (w : zH) : zrun none (177, 50, ls, st, w) = zrun none (177, 55, ls, st, w) := (zE_ (i := .goto 5) (by decide +kernel) _ _ _).trans rfl
theorem e177_53 (ls st : List Value) (w : zH) : zrun none (177, 53, ls, st, w) = zrun none (177, 55, ls, (.int (-1000000) :: st), w) := (zE_ (i := .bipush (-1000000)) (by decide +kernel) _ _ _).trans rfl
theorem e177_55 (ls : List Value) (x : Int32) (w : zH) : zrun none (177, 55, ls, [.int x], w) = some (some (.int x), w) := by
  refine (zE_ (i := .ireturn) (by decide +kernel) _ _ _).trans ?_
  show zres (if narrow .int (.int x) = .int x then _ else none) = _
  rw [if_pos (show narrow .int (.int x) = .int x from rfl)]
  rfl
theorem e178_0 (v1 : Value) (x : Nat) (st : List Value) (w : zH) : zrun none (178, 0, [.ref x, v1], st, w) = zrun none (178, 1, [.ref x, v1], (.ref x :: st), w) := (zE_ (i := .aload_n 0) (by decide +kernel) _ _ _).trans rfl
theorem e178_1 (ls : List Value) (a : Nat) (st : List Value) (w : zH) (hr : zcat st ≤ 8) : zrun none (178, 1, ls, (.ref a :: st), w) = zgd (zis w a 12) (zcl (zrun none (174, 0, [.ref a, zJ, zJ, zJ], [], w)) (fun r => zrun none (178, 4, ls, r.1.toList ++ st, r.2))) := by
  refine (zE_ (i := .invokevirtual 174) (by decide +kernel) _ _ _).trans ?_
  show zres (zinv none 174 178 1 ls (.ref a :: st) w) = _
  unfold zinv
  show zres (if zrc none 174 w (.ref a) = true then zcall 174 [.ref a] st 178 1 ls w else none) = _
  by_cases hc : zis w a 12
  · rw [if_pos (zrc_is hc (by decide +kernel)), zgd_pos hc]
    exact zq_call hr (Nat.le_of_ble_eq_true rfl) rfl rfl
  · rw [zgd_neg hc, if_neg (fun q => hc (zrc_of q (by decide +kernel)))]
    rfl
theorem e178_4 (ls st : List Value) (w : zH) : zrun none (178, 4, ls, st, w) = zrun none (178, 7, ls, (.long 6382452 :: st), w) := (zE_ (i := .ldc2_w 6382452) (by decide +kernel) _ _ _).trans rfl
theorem e178_7 (ls : List Value) (a b : Int64) (st : List Value) (w : zH) : zrun none (178, 7, ls, (.long b :: .long a :: st), w) = zrun none (178, 8, ls, (.int (lg_cmp a b) :: st), w) := (zE_ (i := .lcmp) (by decide +kernel) _ _ _).trans rfl
theorem e178_8 (ls : List Value) (a : Int32) (st : List Value) (w : zH) : zrun none (178, 8, ls, (.int a :: st), w) = if a = 0 then zrun none (178, 11, ls, st, w) else zrun none (178, 25, ls, st, w) := (zE_ (i := .ifCond .ne 17) (by decide +kernel) _ _ _).trans (zq_if_ne rfl rfl)
theorem e178_11 (v1 : Value) (x : Nat) (st : List Value) (w : zH) : zrun none (178, 11, [.ref x, v1], st, w) = zrun none (178, 12, [.ref x, v1], (.ref x :: st), w) := (zE_ (i := .aload_n 0) (by decide +kernel) _ _ _).trans rfl
theorem e178_12 (ls : List Value) (a : Nat) (st : List Value) (w : zH) : zrun none (178, 12, ls, (.ref a :: st), w) = zo (zf w a 1219) (fun x => zrun none (178, 15, ls, (x :: st), w)) := (zE_ (i := .getfield 1219) (by decide +kernel) _ _ _).trans zq_getf
theorem e178_15 (ls st : List Value) (w : zH) : zrun none (178, 15, ls, st, w) = zrun none (178, 17, ls, (.int 24 :: st), w) := (zE_ (i := .bipush 24) (by decide +kernel) _ _ _).trans rfl
theorem e178_17 (ls : List Value) (a b : Int32) (st : List Value) (w : zH) : zrun none (178, 17, ls, (.int b :: .int a :: st), w) = if a = b then zrun none (178, 20, ls, st, w) else zrun none (178, 25, ls, st, w) := (zE_ (i := .if_icmp .ne 8) (by decide +kernel) _ _ _).trans (zq_ic_ne rfl rfl)
theorem e178_20 (v1 : Value) (x : Nat) (st : List Value) (w : zH) : zrun none (178, 20, [.ref x, v1], st, w) = zrun none (178, 21, [.ref x, v1], (.ref x :: st), w) := (zE_ (i := .aload_n 0) (by decide +kernel) _ _ _).trans rfl
theorem e178_21 (ls st : List Value) (w : zH) : zrun none (178, 21, ls, st, w) = zrun none (178, 22, ls, (.int 3 :: st), w) := (zE_ (i := .iconst 3) (by decide +kernel) _ _ _).trans rfl
theorem e178_22 (ls : List Value) (a : Nat) (x0 : Int32) (st : List Value) (w : zH) (hr : zcat st ≤ 8) : zrun none (178, 22, ls, (.int x0 :: .ref a :: st), w) = zgd (zis w a 12) (zcl (zrun none (172, 0, [.ref a, .int x0], [], w)) (fun r => zrun none (178, 25, ls, r.1.toList ++ st, r.2))) := by
  refine (zE_ (i := .invokevirtual 172) (by decide +kernel) _ _ _).trans ?_
  show zres (zinv none 172 178 22 ls (.int x0 :: .ref a :: st) w) = _
  unfold zinv
  show zres (if zrc none 172 w (.ref a) = true then zcall 172 [.ref a, .int x0] st 178 22 ls w else none) = _
  by_cases hc : zis w a 12
  · rw [if_pos (zrc_is hc (by decide +kernel)), zgd_pos hc]
    exact zq_call hr (Nat.le_of_ble_eq_true rfl) rfl rfl
  · rw [zgd_neg hc, if_neg (fun q => hc (zrc_of q (by decide +kernel)))]
    rfl
theorem e178_25 (v1 : Value) (x : Nat) (st : List Value) (w : zH) : zrun none (178, 25, [.ref x, v1], st, w) = zrun none (178, 26, [.ref x, v1], (.ref x :: st), w) := (zE_ (i := .aload_n 0) (by decide +kernel) _ _ _).trans rfl
theorem e178_26 (v1 : Value) (x : Nat) (st : List Value) (w : zH) : zrun none (178, 26, [.ref x, v1], st, w) = zrun none (178, 27, [.ref x, v1], (.ref x :: st), w) := (zE_ (i := .aload_n 0) (by decide +kernel) _ _ _).trans rfl
theorem e178_27 (ls : List Value) (a : Nat) (st : List Value) (w : zH) (hr : zcat st ≤ 8) : zrun none (178, 27, ls, (.ref a :: st), w) = zgd (zis w a 12) (zcl (zrun none (174, 0, [.ref a, zJ, zJ, zJ], [], w)) (fun r => zrun none (178, 30, ls, r.1.toList ++ st, r.2))) := by
  refine (zE_ (i := .invokevirtual 174) (by decide +kernel) _ _ _).trans ?_
  show zres (zinv none 174 178 27 ls (.ref a :: st) w) = _
  unfold zinv
  show zres (if zrc none 174 w (.ref a) = true then zcall 174 [.ref a] st 178 27 ls w else none) = _
  by_cases hc : zis w a 12
  · rw [if_pos (zrc_is hc (by decide +kernel)), zgd_pos hc]
    exact zq_call hr (Nat.le_of_ble_eq_true rfl) rfl rfl
  · rw [zgd_neg hc, if_neg (fun q => hc (zrc_of q (by decide +kernel)))]
    rfl
theorem e178_30 (ls st : List Value) (w : zH) : zrun none (178, 30, ls, st, w) = zrun none (178, 33, ls, (.long 6382452 :: st), w) := (zE_ (i := .ldc2_w 6382452) (by decide +kernel) _ _ _).trans rfl
theorem e178_33 (ls : List Value) (a b : Int64) (st : List Value) (w : zH) : zrun none (178, 33, ls, (.long b :: .long a :: st), w) = zrun none (178, 34, ls, (.int (lg_cmp a b) :: st), w) := (zE_ (i := .lcmp) (by decide +kernel) _ _ _).trans rfl
theorem e178_34 (ls : List Value) (a : Int32) (st : List Value) (w : zH) : zrun none (178, 34, ls, (.int a :: st), w) = if a = 0 then zrun none (178, 37, ls, st, w) else zrun none (178, 41, ls, st, w) := (zE_ (i := .ifCond .ne 7) (by decide +kernel) _ _ _).trans (zq_if_ne rfl rfl)
theorem e178_37 (ls st : List Value) (w : zH) : zrun none (178, 37, ls, st, w) = zrun none (178, 38, ls, (.int 1 :: st), w) := (zE_ (i := .iconst 1) (by decide +kernel) _ _ _).trans rfl
theorem e178_38 (ls st : List Value) (w : zH) : zrun none (178, 38, ls, st, w) = zrun none (178, 42, ls, st, w) := (zE_ (i := .goto 4) (by decide +kernel) _ _ _).trans rfl
theorem e178_41 (ls st : List Value) (w : zH) : zrun none (178, 41, ls, st, w) = zrun none (178, 42, ls, (.int 0 :: st), w) := (zE_ (i := .iconst 0) (by decide +kernel) _ _ _).trans rfl
theorem e178_42 (ls : List Value) (a : Nat) (x0 : Int32) (st : List Value) (w : zH) (hr : zcat st ≤ 8) : zrun none (178, 42, ls, (.int x0 :: .ref a :: st), w) = zgd (zis w a 12) (zcl (zrun none (173, 0, [.ref a, .int x0], [], w)) (fun r => zrun none (178, 45, ls, r.1.toList ++ st, r.2))) := by
  refine (zE_ (i := .invokevirtual 173) (by decide +kernel) _ _ _).trans ?_
  show zres (zinv none 173 178 42 ls (.int x0 :: .ref a :: st) w) = _
  unfold zinv
  show zres (if zrc none 173 w (.ref a) = true then zcall 173 [.ref a, .int x0] st 178 42 ls w else none) = _
  by_cases hc : zis w a 12
  · rw [if_pos (zrc_is hc (by decide +kernel)), zgd_pos hc]
    exact zq_call hr (Nat.le_of_ble_eq_true rfl) rfl rfl
  · rw [zgd_neg hc, if_neg (fun q => hc (zrc_of q (by decide +kernel)))]
    rfl
theorem e178_45 (v1 : Value) (x : Nat) (st : List Value) (w : zH) : zrun none (178, 45, [.ref x, v1], st, w) = zrun none (178, 46, [.ref x, v1], (.ref x :: st), w) := (zE_ (i := .aload_n 0) (by decide +kernel) _ _ _).trans rfl
theorem e178_46 (ls : List Value) (a : Nat) (st : List Value) (w : zH) : zrun none (178, 46, ls, (.ref a :: st), w) = zo (zf w a 1228) (fun x => zrun none (178, 49, ls, (x :: st), w)) := (zE_ (i := .getfield 1228) (by decide +kernel) _ _ _).trans zq_getf
theorem e178_49 (ls : List Value) (a : Int32) (st : List Value) (w : zH) : zrun none (178, 49, ls, (.int a :: st), w) = if a ≤ 0 then zrun none (178, 53, ls, st, w) else zrun none (178, 52, ls, st, w) := (zE_ (i := .ifCond .le 4) (by decide +kernel) _ _ _).trans (zq_if_le rfl rfl)
theorem e178_52 (ls : List Value) (w : zH) : zrun none (178, 52, ls, [], w) = some (none, w) := (zE_ (i := .return_) (by decide +kernel) _ _ _).trans rfl
theorem e178_53 (ls st : List Value) (w : zH) : zrun none (178, 53, ls, st, w) = zrun none (178, 55, ls, (.int 6 :: st), w) := (zE_ (i := .bipush 6) (by decide +kernel) _ _ _).trans rfl
theorem e178_55 (v1 : Value) (x : Nat) (st : List Value) (w : zH) : zrun none (178, 55, [.ref x, v1], st, w) = zrun none (178, 56, [.ref x, v1], (.ref x :: st), w) := (zE_ (i := .aload_n 0) (by decide +kernel) _ _ _).trans rfl
theorem e178_56 (ls : List Value) (a : Nat) (st : List Value) (w : zH) : zrun none (178, 56, ls, (.ref a :: st), w) = zo (zf w a 1219) (fun x => zrun none (178, 59, ls, (x :: st), w)) := (zE_ (i := .getfield 1219) (by decide +kernel) _ _ _).trans zq_getf
theorem e178_59 (ls : List Value) (a b : Int32) (st : List Value) (w : zH) : zrun none (178, 59, ls, (.int b :: .int a :: st), w) = zrun none (178, 60, ls, (.int (a * b) :: st), w) := (zE_ (i := .imul) (by decide +kernel) _ _ _).trans rfl
theorem e178_60 (v0 v1 : Value) (x : Int32) (st : List Value) (w : zH) (h : v0.category = 1) : zrun none (178, 60, [v0, v1], (.int x :: st), w) = zrun none (178, 61, [v0, .int x], st, w) := by
  refine (zE_ (i := .istore_n 1) (by decide +kernel) _ _ _).trans ?_
  have hz : zfree [v0, v1] 1 = true := by show decide (v0.category = 1) = true; exact decide_eq_true h
  show zres (zst zint 1 1 178 60 [v0, v1] (.int x :: st) w) = _
  unfold zst
  dsimp only
  rw [if_pos ⟨rfl, Nat.le_of_ble_eq_true rfl, hz⟩]
  rfl
theorem e178_61 (v1 : Value) (x : Nat) (st : List Value) (w : zH) : zrun none (178, 61, [.ref x, v1], st, w) = zrun none (178, 62, [.ref x, v1], (.ref x :: st), w) := (zE_ (i := .aload_n 0) (by decide +kernel) _ _ _).trans rfl
theorem e178_62 (ls : List Value) (a : Nat) (st : List Value) (w : zH) : zrun none (178, 62, ls, (.ref a :: st), w) = zo (zf w a 1218) (fun x => zrun none (178, 65, ls, (x :: st), w)) := (zE_ (i := .getfield 1218) (by decide +kernel) _ _ _).trans zq_getf
theorem e178_65 (v0 : Value) (x : Int32) (st : List Value) (w : zH) : zrun none (178, 65, [v0, .int x], st, w) = zrun none (178, 66, [v0, .int x], (.int x :: st), w) := (zE_ (i := .iload_n 1) (by decide +kernel) _ _ _).trans rfl
theorem e178_66 (v1 : Value) (x : Nat) (st : List Value) (w : zH) : zrun none (178, 66, [.ref x, v1], st, w) = zrun none (178, 67, [.ref x, v1], (.ref x :: st), w) := (zE_ (i := .aload_n 0) (by decide +kernel) _ _ _).trans rfl
theorem e178_67 (ls st : List Value) (w : zH) : zrun none (178, 67, ls, st, w) = zrun none (178, 68, ls, (.int 0 :: st), w) := (zE_ (i := .iconst 0) (by decide +kernel) _ _ _).trans rfl
theorem e178_68 (ls st : List Value) (w : zH) : zrun none (178, 68, ls, st, w) = zrun none (178, 70, ls, (.int 99999 :: st), w) := (zE_ (i := .bipush (99999)) (by decide +kernel) _ _ _).trans rfl
theorem e178_70 (ls : List Value) (a : Nat) (x0 : Int32) (x1 : Int32) (st : List Value) (w : zH) (hr : zcat st ≤ 8) : zrun none (178, 70, ls, (.int x1 :: .int x0 :: .ref a :: st), w) = zgd (zis w a 12) (zcl (zrun none (175, 0, [.ref a, .int x0, .int x1, zJ, zJ], [], w)) (fun r => zrun none (178, 73, ls, r.1.toList ++ st, r.2))) := by
  refine (zE_ (i := .invokevirtual 175) (by decide +kernel) _ _ _).trans ?_
  show zres (zinv none 175 178 70 ls (.int x1 :: .int x0 :: .ref a :: st) w) = _
  unfold zinv
  show zres (if zrc none 175 w (.ref a) = true then zcall 175 [.ref a, .int x0, .int x1] st 178 70 ls w else none) = _
  by_cases hc : zis w a 12
  · rw [if_pos (zrc_is hc (by decide +kernel)), zgd_pos hc]
    exact zq_call hr (Nat.le_of_ble_eq_true rfl) rfl rfl
  · rw [zgd_neg hc, if_neg (fun q => hc (zrc_of q (by decide +kernel)))]
    rfl
theorem e178_73 (ls : List Value) (x j : Int32) (a : Nat) (st : List Value) (w : zH) : zrun none (178, 73, ls, (.int x :: .int j :: .ref a :: st), w) = zgd (zin? w a 100 j) (zrun none (178, 74, ls, st, zas w a j (.int x))) := by
  refine (zE_ (i := .iastore) (by decide +kernel) _ _ _).trans ?_
  by_cases hg : zin? w a 100 j
  · rw [zgd_pos hg]
    exact zq_iast hg
  · rw [zgd_neg hg]
    exact zq_iast_no hg
theorem e178_74 (v1 : Value) (x : Nat) (st : List Value) (w : zH) : zrun none (178, 74, [.ref x, v1], st, w) = zrun none (178, 75, [.ref x, v1], (.ref x :: st), w) := (zE_ (i := .aload_n 0) (by decide +kernel) _ _ _).trans rfl
theorem e178_75 (ls : List Value) (a : Nat) (st : List Value) (w : zH) : zrun none (178, 75, ls, (.ref a :: st), w) = zo (zf w a 1228) (fun x => zrun none (178, 78, ls, (x :: st), w)) := (zE_ (i := .getfield 1228) (by decide +kernel) _ _ _).trans zq_getf
theorem e178_78 (ls : List Value) (a : Int32) (st : List Value) (w : zH) : zrun none (178, 78, ls, (.int a :: st), w) = if a = 0 then zrun none (178, 81, ls, st, w) else zrun none (178, 101, ls, st, w) := (zE_ (i := .ifCond .ne 23) (by decide +kernel) _ _ _).trans (zq_if_ne rfl rfl)
theorem e178_81 (v1 : Value) (x : Nat) (st : List Value) (w : zH) : zrun none (178, 81, [.ref x, v1], st, w) = zrun none (178, 82, [.ref x, v1], (.ref x :: st), w) := (zE_ (i := .aload_n 0) (by decide +kernel) _ _ _).trans rfl
theorem e178_82 (v1 : Value) (x : Nat) (st : List Value) (w : zH) : zrun none (178, 82, [.ref x, v1], st, w) = zrun none (178, 83, [.ref x, v1], (.ref x :: st), w) := (zE_ (i := .aload_n 0) (by decide +kernel) _ _ _).trans rfl
theorem e178_83 (ls : List Value) (a : Nat) (st : List Value) (w : zH) (hr : zcat st ≤ 8) : zrun none (178, 83, ls, (.ref a :: st), w) = zgd (zis w a 12) (zcl (zrun none (174, 0, [.ref a, zJ, zJ, zJ], [], w)) (fun r => zrun none (178, 86, ls, r.1.toList ++ st, r.2))) := by
  refine (zE_ (i := .invokevirtual 174) (by decide +kernel) _ _ _).trans ?_
  show zres (zinv none 174 178 83 ls (.ref a :: st) w) = _
  unfold zinv
  show zres (if zrc none 174 w (.ref a) = true then zcall 174 [.ref a] st 178 83 ls w else none) = _
  by_cases hc : zis w a 12
  · rw [if_pos (zrc_is hc (by decide +kernel)), zgd_pos hc]
    exact zq_call hr (Nat.le_of_ble_eq_true rfl) rfl rfl
  · rw [zgd_neg hc, if_neg (fun q => hc (zrc_of q (by decide +kernel)))]
    rfl
theorem e178_86 (ls st : List Value) (w : zH) : zrun none (178, 86, ls, st, w) = zrun none (178, 89, ls, (.long 444300616805 :: st), w) := (zE_ (i := .ldc2_w 444300616805) (by decide +kernel) _ _ _).trans rfl
theorem e178_89 (ls : List Value) (a b : Int64) (st : List Value) (w : zH) : zrun none (178, 89, ls, (.long b :: .long a :: st), w) = zrun none (178, 90, ls, (.int (lg_cmp a b) :: st), w) := (zE_ (i := .lcmp) (by decide +kernel) _ _ _).trans rfl
theorem e178_90 (ls : List Value) (a : Int32) (st : List Value) (w : zH) : zrun none (178, 90, ls, (.int a :: st), w) = if a = 0 then zrun none (178, 93, ls, st, w) else zrun none (178, 97, ls, st, w) := (zE_ (i := .ifCond .ne 7) (by decide +kernel) _ _ _).trans (zq_if_ne rfl rfl)
theorem e178_93 (ls st : List Value) (w : zH) : zrun none (178, 93, ls, st, w) = zrun none (178, 94, ls, (.int 1 :: st), w) := (zE_ (i := .iconst 1) (by decide +kernel) _ _ _).trans rfl
theorem e178_94 (ls st : List Value) (w : zH) : zrun none (178, 94, ls, st, w) = zrun none (178, 98, ls, st, w) := (zE_ (i := .goto 4) (by decide +kernel) _ _ _).trans rfl
theorem e178_97 (ls st : List Value) (w : zH) : zrun none (178, 97, ls, st, w) = zrun none (178, 98, ls, (.int 0 :: st), w) := (zE_ (i := .iconst 0) (by decide +kernel) _ _ _).trans rfl
theorem e178_98 (ls : List Value) (a : Nat) (x0 : Int32) (st : List Value) (w : zH) (hr : zcat st ≤ 8) : zrun none (178, 98, ls, (.int x0 :: .ref a :: st), w) = zgd (zis w a 12) (zcl (zrun none (173, 0, [.ref a, .int x0], [], w)) (fun r => zrun none (178, 101, ls, r.1.toList ++ st, r.2))) := by
  refine (zE_ (i := .invokevirtual 173) (by decide +kernel) _ _ _).trans ?_
  show zres (zinv none 173 178 98 ls (.int x0 :: .ref a :: st) w) = _
  unfold zinv
  show zres (if zrc none 173 w (.ref a) = true then zcall 173 [.ref a, .int x0] st 178 98 ls w else none) = _
  by_cases hc : zis w a 12
  · rw [if_pos (zrc_is hc (by decide +kernel)), zgd_pos hc]
    exact zq_call hr (Nat.le_of_ble_eq_true rfl) rfl rfl
  · rw [zgd_neg hc, if_neg (fun q => hc (zrc_of q (by decide +kernel)))]
    rfl
theorem e178_101 (v1 : Value) (x : Nat) (st : List Value) (w : zH) : zrun none (178, 101, [.ref x, v1], st, w) = zrun none (178, 102, [.ref x, v1], (.ref x :: st), w) := (zE_ (i := .aload_n 0) (by decide +kernel) _ _ _).trans rfl
theorem e178_102 (ls : List Value) (a : Nat) (st : List Value) (w : zH) : zrun none (178, 102, ls, (.ref a :: st), w) = zo (zf w a 1218) (fun x => zrun none (178, 105, ls, (x :: st), w)) := (zE_ (i := .getfield 1218) (by decide +kernel) _ _ _).trans zq_getf
theorem e178_105 (v0 : Value) (x : Int32) (st : List Value) (w : zH) : zrun none (178, 105, [v0, .int x], st, w) = zrun none (178, 106, [v0, .int x], (.int x :: st), w) := (zE_ (i := .iload_n 1) (by decide +kernel) _ _ _).trans rfl
theorem e178_106 (ls st : List Value) (w : zH) : zrun none (178, 106, ls, st, w) = zrun none (178, 107, ls, (.int 1 :: st), w) := (zE_ (i := .iconst 1) (by decide +kernel) _ _ _).trans rfl
theorem e178_107 (ls : List Value) (a b : Int32) (st : List Value) (w : zH) : zrun none (178, 107, ls, (.int b :: .int a :: st), w) = zrun none (178, 108, ls, (.int (a + b) :: st), w) := (zE_ (i := .iadd) (by decide +kernel) _ _ _).trans rfl
theorem e178_108 (v1 : Value) (x : Nat) (st : List Value) (w : zH) : zrun none (178, 108, [.ref x, v1], st, w) = zrun none (178, 109, [.ref x, v1], (.ref x :: st), w) := (zE_ (i := .aload_n 0) (by decide +kernel) _ _ _).trans rfl
theorem e178_109 (ls st : List Value) (w : zH) : zrun none (178, 109, ls, st, w) = zrun none (178, 110, ls, (.int 1 :: st), w) := (zE_ (i := .iconst 1) (by decide +kernel) _ _ _).trans rfl
theorem e178_110 (ls st : List Value) (w : zH) : zrun none (178, 110, ls, st, w) = zrun none (178, 111, ls, (.int 3 :: st), w) := (zE_ (i := .iconst 3) (by decide +kernel) _ _ _).trans rfl
theorem e178_111 (ls : List Value) (a : Nat) (x0 : Int32) (x1 : Int32) (st : List Value) (w : zH) (hr : zcat st ≤ 8) : zrun none (178, 111, ls, (.int x1 :: .int x0 :: .ref a :: st), w) = zgd (zis w a 12) (zcl (zrun none (175, 0, [.ref a, .int x0, .int x1, zJ, zJ], [], w)) (fun r => zrun none (178, 114, ls, r.1.toList ++ st, r.2))) := by
  refine (zE_ (i := .invokevirtual 175) (by decide +kernel) _ _ _).trans ?_
  show zres (zinv none 175 178 111 ls (.int x1 :: .int x0 :: .ref a :: st) w) = _
  unfold zinv
  show zres (if zrc none 175 w (.ref a) = true then zcall 175 [.ref a, .int x0, .int x1] st 178 111 ls w else none) = _
  by_cases hc : zis w a 12
  · rw [if_pos (zrc_is hc (by decide +kernel)), zgd_pos hc]
    exact zq_call hr (Nat.le_of_ble_eq_true rfl) rfl rfl
  · rw [zgd_neg hc, if_neg (fun q => hc (zrc_of q (by decide +kernel)))]
    rfl
theorem e178_114 (ls : List Value) (x j : Int32) (a : Nat) (st : List Value) (w : zH) : zrun none (178, 114, ls, (.int x :: .int j :: .ref a :: st), w) = zgd (zin? w a 100 j) (zrun none (178, 115, ls, st, zas w a j (.int x))) := by
  refine (zE_ (i := .iastore) (by decide +kernel) _ _ _).trans ?_
  by_cases hg : zin? w a 100 j
  · rw [zgd_pos hg]
    exact zq_iast hg
  · rw [zgd_neg hg]
    exact zq_iast_no hg
theorem e178_115 (v1 : Value) (x : Nat) (st : List Value) (w : zH) : zrun none (178, 115, [.ref x, v1], st, w) = zrun none (178, 116, [.ref x, v1], (.ref x :: st), w) := (zE_ (i := .aload_n 0) (by decide +kernel) _ _ _).trans rfl
theorem e178_116 (ls : List Value) (a : Nat) (st : List Value) (w : zH) : zrun none (178, 116, ls, (.ref a :: st), w) = zo (zf w a 1228) (fun x => zrun none (178, 119, ls, (x :: st), w)) := (zE_ (i := .getfield 1228) (by decide +kernel) _ _ _).trans zq_getf
theorem e178_119 (ls : List Value) (a : Int32) (st : List Value) (w : zH) : zrun none (178, 119, ls, (.int a :: st), w) = if a = 0 then zrun none (178, 122, ls, st, w) else zrun none (178, 156, ls, st, w) := (zE_ (i := .ifCond .ne 37) (by decide +kernel) _ _ _).trans (zq_if_ne rfl rfl)
theorem e178_122 (v1 : Value) (x : Nat) (st : List Value) (w : zH) : zrun none (178, 122, [.ref x, v1], st, w) = zrun none (178, 123, [.ref x, v1], (.ref x :: st), w) := (zE_ (i := .aload_n 0) (by decide +kernel) _ _ _).trans rfl
theorem e178_123 (ls : List Value) (a : Nat) (st : List Value) (w : zH) : zrun none (178, 123, ls, (.ref a :: st), w) = zo (zf w a 1218) (fun x => zrun none (178, 126, ls, (x :: st), w)) := (zE_ (i := .getfield 1218) (by decide +kernel) _ _ _).trans zq_getf
theorem e178_126 (v0 : Value) (x : Int32) (st : List Value) (w : zH) : zrun none (178, 126, [v0, .int x], st, w) = zrun none (178, 127, [v0, .int x], (.int x :: st), w) := (zE_ (i := .iload_n 1) (by decide +kernel) _ _ _).trans rfl
theorem e178_127 (ls st : List Value) (w : zH) : zrun none (178, 127, ls, st, w) = zrun none (178, 128, ls, (.int 2 :: st), w) := (zE_ (i := .iconst 2) (by decide +kernel) _ _ _).trans rfl
theorem e178_128 (ls : List Value) (a b : Int32) (st : List Value) (w : zH) : zrun none (178, 128, ls, (.int b :: .int a :: st), w) = zrun none (178, 129, ls, (.int (a + b) :: st), w) := (zE_ (i := .iadd) (by decide +kernel) _ _ _).trans rfl
theorem e178_129 (v1 : Value) (x : Nat) (st : List Value) (w : zH) : zrun none (178, 129, [.ref x, v1], st, w) = zrun none (178, 130, [.ref x, v1], (.ref x :: st), w) := (zE_ (i := .aload_n 0) (by decide +kernel) _ _ _).trans rfl
theorem e178_130 (ls : List Value) (a : Nat) (st : List Value) (w : zH) (hr : zcat st ≤ 8) : zrun none (178, 130, ls, (.ref a :: st), w) = zgd (zis w a 12) (zcl (zrun none (176, 0, [.ref a, zJ, zJ], [], w)) (fun r => zrun none (178, 133, ls, r.1.toList ++ st, r.2))) := by
  refine (zE_ (i := .invokevirtual 176) (by decide +kernel) _ _ _).trans ?_
  show zres (zinv none 176 178 130 ls (.ref a :: st) w) = _
  unfold zinv
  show zres (if zrc none 176 w (.ref a) = true then zcall 176 [.ref a] st 178 130 ls w else none) = _
  by_cases hc : zis w a 12
  · rw [if_pos (zrc_is hc (by decide +kernel)), zgd_pos hc]
    exact zq_call hr (Nat.le_of_ble_eq_true rfl) rfl rfl
  · rw [zgd_neg hc, if_neg (fun q => hc (zrc_of q (by decide +kernel)))]
    rfl
theorem e178_133 (ls : List Value) (x j : Int32) (a : Nat) (st : List Value) (w : zH) : zrun none (178, 133, ls, (.int x :: .int j :: .ref a :: st), w) = zgd (zin? w a 100 j) (zrun none (178, 134, ls, st, zas w a j (.int x))) := by
  refine (zE_ (i := .iastore) (by decide +kernel) _ _ _).trans ?_
  by_cases hg : zin? w a 100 j
  · rw [zgd_pos hg]
    exact zq_iast hg
  · rw [zgd_neg hg]
    exact zq_iast_no hg
theorem e178_134 (v1 : Value) (x : Nat) (st : List Value) (w : zH) : zrun none (178, 134, [.ref x, v1], st, w) = zrun none (178, 135, [.ref x, v1], (.ref x :: st), w) := (zE_ (i := .aload_n 0) (by decide +kernel) _ _ _).trans rfl
theorem e178_135 (v1 : Value) (x : Nat) (st : List Value) (w : zH) : zrun none (178, 135, [.ref x, v1], st, w) = zrun none (178, 136, [.ref x, v1], (.ref x :: st), w) := (zE_ (i := .aload_n 0) (by decide +kernel) _ _ _).trans rfl
theorem e178_136 (ls : List Value) (a : Nat) (st : List Value) (w : zH) : zrun none (178, 136, ls, (.ref a :: st), w) = zo (zf w a 1218) (fun x => zrun none (178, 139, ls, (x :: st), w)) := (zE_ (i := .getfield 1218) (by decide +kernel) _ _ _).trans zq_getf
theorem e178_139 (v0 : Value) (x : Int32) (st : List Value) (w : zH) : zrun none (178, 139, [v0, .int x], st, w) = zrun none (178, 140, [v0, .int x], (.int x :: st), w) := (zE_ (i := .iload_n 1) (by decide +kernel) _ _ _).trans rfl
theorem e178_140 (ls st : List Value) (w : zH) : zrun none (178, 140, ls, st, w) = zrun none (178, 141, ls, (.int 2 :: st), w) := (zE_ (i := .iconst 2) (by decide +kernel) _ _ _).trans rfl
theorem e178_141 (ls : List Value) (a b : Int32) (st : List Value) (w : zH) : zrun none (178, 141, ls, (.int b :: .int a :: st), w) = zrun none (178, 142, ls, (.int (a + b) :: st), w) := (zE_ (i := .iadd) (by decide +kernel) _ _ _).trans rfl
theorem e178_142 (ls : List Value) (j : Int32) (a : Nat) (st : List Value) (w : zH) : zrun none (178, 142, ls, (.int j :: .ref a :: st), w) = zoi (zai w a 100 j) (fun x => zrun none (178, 143, ls, (.int x :: st), w)) := (zE_ (i := .iaload) (by decide +kernel) _ _ _).trans zq_iald
theorem e178_143 (ls st : List Value) (w : zH) : zrun none (178, 143, ls, st, w) = zrun none (178, 145, ls, (.int (-1000000) :: st), w) := (zE_ (i := .bipush (-1000000)) (by decide +kernel) _ _ _).trans rfl
theorem e178_145 (ls : List Value) (a b : Int32) (st : List Value) (w : zH) : zrun none (178, 145, ls, (.int b :: .int a :: st), w) = if a = b then zrun none (178, 152, ls, st, w) else zrun none (178, 148, ls, st, w) := (zE_ (i := .if_icmp .eq 7) (by decide +kernel) _ _ _).trans (zq_ic_eq rfl rfl)
theorem e178_148 (ls st : List Value) (w : zH) : zrun none (178, 148, ls, st, w) = zrun none (178, 149, ls, (.int 1 :: st), w) := (zE_ (i := .iconst 1) (by decide +kernel) _ _ _).trans rfl
theorem e178_149 (ls st : List Value) (w : zH) : zrun none (178, 149, ls, st, w) = zrun none (178, 153, ls, st, w) := (zE_ (i := .goto 4) (by decide +kernel) _ _ _).trans rfl
theorem e178_152 (ls st : List Value) (w : zH) : zrun none (178, 152, ls, st, w) = zrun none (178, 153, ls, (.int 0 :: st), w) := (zE_ (i := .iconst 0) (by decide +kernel) _ _ _).trans rfl
theorem e178_153 (ls : List Value) (a : Nat) (x0 : Int32) (st : List Value) (w : zH) (hr : zcat st ≤ 8) : zrun none (178, 153, ls, (.int x0 :: .ref a :: st), w) = zgd (zis w a 12) (zcl (zrun none (173, 0, [.ref a, .int x0], [], w)) (fun r => zrun none (178, 156, ls, r.1.toList ++ st, r.2))) := by
  refine (zE_ (i := .invokevirtual 173) (by decide +kernel) _ _ _).trans ?_
  show zres (zinv none 173 178 153 ls (.int x0 :: .ref a :: st) w) = _
  unfold zinv
  show zres (if zrc none 173 w (.ref a) = true then zcall 173 [.ref a, .int x0] st 178 153 ls w else none) = _
  by_cases hc : zis w a 12
  · rw [if_pos (zrc_is hc (by decide +kernel)), zgd_pos hc]
    exact zq_call hr (Nat.le_of_ble_eq_true rfl) rfl rfl
  · rw [zgd_neg hc, if_neg (fun q => hc (zrc_of q (by decide +kernel)))]
    rfl
theorem e178_156 (v1 : Value) (x : Nat) (st : List Value) (w : zH) : zrun none (178, 156, [.ref x, v1], st, w) = zrun none (178, 157, [.ref x, v1], (.ref x :: st), w) := (zE_ (i := .aload_n 0) (by decide +kernel) _ _ _).trans rfl
theorem e178_157 (ls : List Value) (a : Nat) (st : List Value) (w : zH) : zrun none (178, 157, ls, (.ref a :: st), w) = zo (zf w a 1228) (fun x => zrun none (178, 160, ls, (x :: st), w)) := (zE_ (i := .getfield 1228) (by decide +kernel) _ _ _).trans zq_getf
theorem e178_160 (ls : List Value) (a : Int32) (st : List Value) (w : zH) : zrun none (178, 160, ls, (.int a :: st), w) = if a = 0 then zrun none (178, 163, ls, st, w) else zrun none (178, 197, ls, st, w) := (zE_ (i := .ifCond .ne 37) (by decide +kernel) _ _ _).trans (zq_if_ne rfl rfl)
theorem e178_163 (v1 : Value) (x : Nat) (st : List Value) (w : zH) : zrun none (178, 163, [.ref x, v1], st, w) = zrun none (178, 164, [.ref x, v1], (.ref x :: st), w) := (zE_ (i := .aload_n 0) (by decide +kernel) _ _ _).trans rfl
theorem e178_164 (ls : List Value) (a : Nat) (st : List Value) (w : zH) : zrun none (178, 164, ls, (.ref a :: st), w) = zo (zf w a 1218) (fun x => zrun none (178, 167, ls, (x :: st), w)) := (zE_ (i := .getfield 1218) (by decide +kernel) _ _ _).trans zq_getf
theorem e178_167 (v0 : Value) (x : Int32) (st : List Value) (w : zH) : zrun none (178, 167, [v0, .int x], st, w) = zrun none (178, 168, [v0, .int x], (.int x :: st), w) := (zE_ (i := .iload_n 1) (by decide +kernel) _ _ _).trans rfl
theorem e178_168 (ls st : List Value) (w : zH) : zrun none (178, 168, ls, st, w) = zrun none (178, 169, ls, (.int 3 :: st), w) := (zE_ (i := .iconst 3) (by decide +kernel) _ _ _).trans rfl
theorem e178_169 (ls : List Value) (a b : Int32) (st : List Value) (w : zH) : zrun none (178, 169, ls, (.int b :: .int a :: st), w) = zrun none (178, 170, ls, (.int (a + b) :: st), w) := (zE_ (i := .iadd) (by decide +kernel) _ _ _).trans rfl
theorem e178_170 (v1 : Value) (x : Nat) (st : List Value) (w : zH) : zrun none (178, 170, [.ref x, v1], st, w) = zrun none (178, 171, [.ref x, v1], (.ref x :: st), w) := (zE_ (i := .aload_n 0) (by decide +kernel) _ _ _).trans rfl
theorem e178_171 (ls : List Value) (a : Nat) (st : List Value) (w : zH) (hr : zcat st ≤ 8) : zrun none (178, 171, ls, (.ref a :: st), w) = zgd (zis w a 12) (zcl (zrun none (177, 0, [.ref a, zJ, zJ], [], w)) (fun r => zrun none (178, 174, ls, r.1.toList ++ st, r.2))) := by
  refine (zE_ (i := .invokevirtual 177) (by decide +kernel) _ _ _).trans ?_
  show zres (zinv none 177 178 171 ls (.ref a :: st) w) = _
  unfold zinv
  show zres (if zrc none 177 w (.ref a) = true then zcall 177 [.ref a] st 178 171 ls w else none) = _
  by_cases hc : zis w a 12
  · rw [if_pos (zrc_is hc (by decide +kernel)), zgd_pos hc]
    exact zq_call hr (Nat.le_of_ble_eq_true rfl) rfl rfl
  · rw [zgd_neg hc, if_neg (fun q => hc (zrc_of q (by decide +kernel)))]
    rfl
theorem e178_174 (ls : List Value) (x j : Int32) (a : Nat) (st : List Value) (w : zH) : zrun none (178, 174, ls, (.int x :: .int j :: .ref a :: st), w) = zgd (zin? w a 100 j) (zrun none (178, 175, ls, st, zas w a j (.int x))) := by
  refine (zE_ (i := .iastore) (by decide +kernel) _ _ _).trans ?_
  by_cases hg : zin? w a 100 j
  · rw [zgd_pos hg]
    exact zq_iast hg
  · rw [zgd_neg hg]
    exact zq_iast_no hg
theorem e178_175 (v1 : Value) (x : Nat) (st : List Value) (w : zH) : zrun none (178, 175, [.ref x, v1], st, w) = zrun none (178, 176, [.ref x, v1], (.ref x :: st), w) := (zE_ (i := .aload_n 0) (by decide +kernel) _ _ _).trans rfl
theorem e178_176 (v1 : Value) (x : Nat) (st : List Value) (w : zH) : zrun none (178, 176, [.ref x, v1], st, w) = zrun none (178, 177, [.ref x, v1], (.ref x :: st), w) := (zE_ (i := .aload_n 0) (by decide +kernel) _ _ _).trans rfl
theorem e178_177 (ls : List Value) (a : Nat) (st : List Value) (w : zH) : zrun none (178, 177, ls, (.ref a :: st), w) = zo (zf w a 1218) (fun x => zrun none (178, 180, ls, (x :: st), w)) := (zE_ (i := .getfield 1218) (by decide +kernel) _ _ _).trans zq_getf
theorem e178_180 (v0 : Value) (x : Int32) (st : List Value) (w : zH) : zrun none (178, 180, [v0, .int x], st, w) = zrun none (178, 181, [v0, .int x], (.int x :: st), w) := (zE_ (i := .iload_n 1) (by decide +kernel) _ _ _).trans rfl
theorem e178_181 (ls st : List Value) (w : zH) : zrun none (178, 181, ls, st, w) = zrun none (178, 182, ls, (.int 3 :: st), w) := (zE_ (i := .iconst 3) (by decide +kernel) _ _ _).trans rfl
theorem e178_182 (ls : List Value) (a b : Int32) (st : List Value) (w : zH) : zrun none (178, 182, ls, (.int b :: .int a :: st), w) = zrun none (178, 183, ls, (.int (a + b) :: st), w) := (zE_ (i := .iadd) (by decide +kernel) _ _ _).trans rfl
theorem e178_183 (ls : List Value) (j : Int32) (a : Nat) (st : List Value) (w : zH) : zrun none (178, 183, ls, (.int j :: .ref a :: st), w) = zoi (zai w a 100 j) (fun x => zrun none (178, 184, ls, (.int x :: st), w)) := (zE_ (i := .iaload) (by decide +kernel) _ _ _).trans zq_iald
theorem e178_184 (ls st : List Value) (w : zH) : zrun none (178, 184, ls, st, w) = zrun none (178, 186, ls, (.int (-1000000) :: st), w) := (zE_ (i := .bipush (-1000000)) (by decide +kernel) _ _ _).trans rfl
theorem e178_186 (ls : List Value) (a b : Int32) (st : List Value) (w : zH) : zrun none (178, 186, ls, (.int b :: .int a :: st), w) = if a = b then zrun none (178, 193, ls, st, w) else zrun none (178, 189, ls, st, w) := (zE_ (i := .if_icmp .eq 7) (by decide +kernel) _ _ _).trans (zq_ic_eq rfl rfl)
theorem e178_189 (ls st : List Value) (w : zH) : zrun none (178, 189, ls, st, w) = zrun none (178, 190, ls, (.int 1 :: st), w) := (zE_ (i := .iconst 1) (by decide +kernel) _ _ _).trans rfl
theorem e178_190 (ls st : List Value) (w : zH) : zrun none (178, 190, ls, st, w) = zrun none (178, 194, ls, st, w) := (zE_ (i := .goto 4) (by decide +kernel) _ _ _).trans rfl
theorem e178_193 (ls st : List Value) (w : zH) : zrun none (178, 193, ls, st, w) = zrun none (178, 194, ls, (.int 0 :: st), w) := (zE_ (i := .iconst 0) (by decide +kernel) _ _ _).trans rfl
theorem e178_194 (ls : List Value) (a : Nat) (x0 : Int32) (st : List Value) (w : zH) (hr : zcat st ≤ 8) : zrun none (178, 194, ls, (.int x0 :: .ref a :: st), w) = zgd (zis w a 12) (zcl (zrun none (173, 0, [.ref a, .int x0], [], w)) (fun r => zrun none (178, 197, ls, r.1.toList ++ st, r.2))) := by
  refine (zE_ (i := .invokevirtual 173) (by decide +kernel) _ _ _).trans ?_
  show zres (zinv none 173 178 194 ls (.int x0 :: .ref a :: st) w) = _
  unfold zinv
  show zres (if zrc none 173 w (.ref a) = true then zcall 173 [.ref a, .int x0] st 178 194 ls w else none) = _
  by_cases hc : zis w a 12
  · rw [if_pos (zrc_is hc (by decide +kernel)), zgd_pos hc]
    exact zq_call hr (Nat.le_of_ble_eq_true rfl) rfl rfl
  · rw [zgd_neg hc, if_neg (fun q => hc (zrc_of q (by decide +kernel)))]
    rfl
theorem e178_197 (v1 : Value) (x : Nat) (st : List Value) (w : zH) : zrun none (178, 197, [.ref x, v1], st, w) = zrun none (178, 198, [.ref x, v1], (.ref x :: st), w) := (zE_ (i := .aload_n 0) (by decide +kernel) _ _ _).trans rfl
theorem e178_198 (ls : List Value) (a : Nat) (st : List Value) (w : zH) : zrun none (178, 198, ls, (.ref a :: st), w) = zo (zf w a 1218) (fun x => zrun none (178, 201, ls, (x :: st), w)) := (zE_ (i := .getfield 1218) (by decide +kernel) _ _ _).trans zq_getf
theorem e178_201 (v0 : Value) (x : Int32) (st : List Value) (w : zH) : zrun none (178, 201, [v0, .int x], st, w) = zrun none (178, 202, [v0, .int x], (.int x :: st), w) := (zE_ (i := .iload_n 1) (by decide +kernel) _ _ _).trans rfl
theorem e178_202 (ls st : List Value) (w : zH) : zrun none (178, 202, ls, st, w) = zrun none (178, 203, ls, (.int 4 :: st), w) := (zE_ (i := .iconst 4) (by decide +kernel) _ _ _).trans rfl
theorem e178_203 (ls : List Value) (a b : Int32) (st : List Value) (w : zH) : zrun none (178, 203, ls, (.int b :: .int a :: st), w) = zrun none (178, 204, ls, (.int (a + b) :: st), w) := (zE_ (i := .iadd) (by decide +kernel) _ _ _).trans rfl
theorem e178_204 (ls st : List Value) (w : zH) : zrun none (178, 204, ls, st, w) = zrun none (178, 205, ls, (.int 0 :: st), w) := (zE_ (i := .iconst 0) (by decide +kernel) _ _ _).trans rfl
theorem e178_205 (ls : List Value) (x j : Int32) (a : Nat) (st : List Value) (w : zH) : zrun none (178, 205, ls, (.int x :: .int j :: .ref a :: st), w) = zgd (zin? w a 100 j) (zrun none (178, 206, ls, st, zas w a j (.int x))) := by
  refine (zE_ (i := .iastore) (by decide +kernel) _ _ _).trans ?_
  by_cases hg : zin? w a 100 j
  · rw [zgd_pos hg]
    exact zq_iast hg
  · rw [zgd_neg hg]
    exact zq_iast_no hg
theorem e178_206 (v1 : Value) (x : Nat) (st : List Value) (w : zH) : zrun none (178, 206, [.ref x, v1], st, w) = zrun none (178, 207, [.ref x, v1], (.ref x :: st), w) := (zE_ (i := .aload_n 0) (by decide +kernel) _ _ _).trans rfl
theorem e178_207 (ls : List Value) (a : Nat) (st : List Value) (w : zH) : zrun none (178, 207, ls, (.ref a :: st), w) = zo (zf w a 1228) (fun x => zrun none (178, 210, ls, (x :: st), w)) := (zE_ (i := .getfield 1228) (by decide +kernel) _ _ _).trans zq_getf
theorem e178_210 (ls : List Value) (a : Int32) (st : List Value) (w : zH) : zrun none (178, 210, ls, (.int a :: st), w) = if a = 0 then zrun none (178, 213, ls, st, w) else zrun none (178, 244, ls, st, w) := (zE_ (i := .ifCond .ne 34) (by decide +kernel) _ _ _).trans (zq_if_ne rfl rfl)
theorem e178_213 (v1 : Value) (x : Nat) (st : List Value) (w : zH) : zrun none (178, 213, [.ref x, v1], st, w) = zrun none (178, 214, [.ref x, v1], (.ref x :: st), w) := (zE_ (i := .aload_n 0) (by decide +kernel) _ _ _).trans rfl
theorem e178_214 (ls : List Value) (a : Nat) (st : List Value) (w : zH) (hr : zcat st ≤ 8) : zrun none (178, 214, ls, (.ref a :: st), w) = zgd (zis w a 12) (zcl (zrun none (174, 0, [.ref a, zJ, zJ, zJ], [], w)) (fun r => zrun none (178, 217, ls, r.1.toList ++ st, r.2))) := by
  refine (zE_ (i := .invokevirtual 174) (by decide +kernel) _ _ _).trans ?_
  show zres (zinv none 174 178 214 ls (.ref a :: st) w) = _
  unfold zinv
  show zres (if zrc none 174 w (.ref a) = true then zcall 174 [.ref a] st 178 214 ls w else none) = _
  by_cases hc : zis w a 12
  · rw [if_pos (zrc_is hc (by decide +kernel)), zgd_pos hc]
    exact zq_call hr (Nat.le_of_ble_eq_true rfl) rfl rfl
  · rw [zgd_neg hc, if_neg (fun q => hc (zrc_of q (by decide +kernel)))]
    rfl
theorem e178_217 (ls st : List Value) (w : zH) : zrun none (178, 217, ls, st, w) = zrun none (178, 220, ls, (.long 478559888754 :: st), w) := (zE_ (i := .ldc2_w 478559888754) (by decide +kernel) _ _ _).trans rfl
theorem e178_220 (ls : List Value) (a b : Int64) (st : List Value) (w : zH) : zrun none (178, 220, ls, (.long b :: .long a :: st), w) = zrun none (178, 221, ls, (.int (lg_cmp a b) :: st), w) := (zE_ (i := .lcmp) (by decide +kernel) _ _ _).trans rfl
theorem e178_221 (ls : List Value) (a : Int32) (st : List Value) (w : zH) : zrun none (178, 221, ls, (.int a :: st), w) = if a = 0 then zrun none (178, 224, ls, st, w) else zrun none (178, 244, ls, st, w) := (zE_ (i := .ifCond .ne 23) (by decide +kernel) _ _ _).trans (zq_if_ne rfl rfl)
theorem e178_224 (v1 : Value) (x : Nat) (st : List Value) (w : zH) : zrun none (178, 224, [.ref x, v1], st, w) = zrun none (178, 225, [.ref x, v1], (.ref x :: st), w) := (zE_ (i := .aload_n 0) (by decide +kernel) _ _ _).trans rfl
theorem e178_225 (ls : List Value) (a : Nat) (st : List Value) (w : zH) (hr : zcat st ≤ 8) : zrun none (178, 225, ls, (.ref a :: st), w) = zgd (zis w a 12) (zcl (zrun none (171, 0, [.ref a, zJ], [], w)) (fun r => zrun none (178, 228, ls, r.1.toList ++ st, r.2))) := by
  refine (zE_ (i := .invokevirtual 171) (by decide +kernel) _ _ _).trans ?_
  show zres (zinv none 171 178 225 ls (.ref a :: st) w) = _
  unfold zinv
  show zres (if zrc none 171 w (.ref a) = true then zcall 171 [.ref a] st 178 225 ls w else none) = _
  by_cases hc : zis w a 12
  · rw [if_pos (zrc_is hc (by decide +kernel)), zgd_pos hc]
    exact zq_call hr (Nat.le_of_ble_eq_true rfl) rfl rfl
  · rw [zgd_neg hc, if_neg (fun q => hc (zrc_of q (by decide +kernel)))]
    rfl
theorem e178_228 (v1 : Value) (x : Nat) (st : List Value) (w : zH) : zrun none (178, 228, [.ref x, v1], st, w) = zrun none (178, 229, [.ref x, v1], (.ref x :: st), w) := (zE_ (i := .aload_n 0) (by decide +kernel) _ _ _).trans rfl
theorem e178_229 (ls : List Value) (a : Nat) (st : List Value) (w : zH) : zrun none (178, 229, ls, (.ref a :: st), w) = zo (zf w a 1218) (fun x => zrun none (178, 232, ls, (x :: st), w)) := (zE_ (i := .getfield 1218) (by decide +kernel) _ _ _).trans zq_getf
theorem e178_232 (v0 : Value) (x : Int32) (st : List Value) (w : zH) : zrun none (178, 232, [v0, .int x], st, w) = zrun none (178, 233, [v0, .int x], (.int x :: st), w) := (zE_ (i := .iload_n 1) (by decide +kernel) _ _ _).trans rfl
theorem e178_233 (ls st : List Value) (w : zH) : zrun none (178, 233, ls, st, w) = zrun none (178, 234, ls, (.int 4 :: st), w) := (zE_ (i := .iconst 4) (by decide +kernel) _ _ _).trans rfl
theorem e178_234 (ls : List Value) (a b : Int32) (st : List Value) (w : zH) : zrun none (178, 234, ls, (.int b :: .int a :: st), w) = zrun none (178, 235, ls, (.int (a + b) :: st), w) := (zE_ (i := .iadd) (by decide +kernel) _ _ _).trans rfl
theorem e178_235 (v1 : Value) (x : Nat) (st : List Value) (w : zH) : zrun none (178, 235, [.ref x, v1], st, w) = zrun none (178, 236, [.ref x, v1], (.ref x :: st), w) := (zE_ (i := .aload_n 0) (by decide +kernel) _ _ _).trans rfl
theorem e178_236 (ls st : List Value) (w : zH) : zrun none (178, 236, ls, st, w) = zrun none (178, 237, ls, (.int 0 :: st), w) := (zE_ (i := .iconst 0) (by decide +kernel) _ _ _).trans rfl
theorem e178_237 (ls st : List Value) (w : zH) : zrun none (178, 237, ls, st, w) = zrun none (178, 240, ls, (.int 999 :: st), w) := (zE_ (i := .sipush 999) (by decide +kernel) _ _ _).trans rfl
theorem e178_240 (ls : List Value) (a : Nat) (x0 : Int32) (x1 : Int32) (st : List Value) (w : zH) (hr : zcat st ≤ 8) : zrun none (178, 240, ls, (.int x1 :: .int x0 :: .ref a :: st), w) = zgd (zis w a 12) (zcl (zrun none (175, 0, [.ref a, .int x0, .int x1, zJ, zJ], [], w)) (fun r => zrun none (178, 243, ls, r.1.toList ++ st, r.2))) := by
  refine (zE_ (i := .invokevirtual 175) (by decide +kernel) _ _ _).trans ?_
  show zres (zinv none 175 178 240 ls (.int x1 :: .int x0 :: .ref a :: st) w) = _
  unfold zinv
  show zres (if zrc none 175 w (.ref a) = true then zcall 175 [.ref a, .int x0, .int x1] st 178 240 ls w else none) = _
  by_cases hc : zis w a 12
  · rw [if_pos (zrc_is hc (by decide +kernel)), zgd_pos hc]
    exact zq_call hr (Nat.le_of_ble_eq_true rfl) rfl rfl
  · rw [zgd_neg hc, if_neg (fun q => hc (zrc_of q (by decide +kernel)))]
    rfl
theorem e178_243 (ls : List Value) (x j : Int32) (a : Nat) (st : List Value) (w : zH) : zrun none (178, 243, ls, (.int x :: .int j :: .ref a :: st), w) = zgd (zin? w a 100 j) (zrun none (178, 244, ls, st, zas w a j (.int x))) := by
  refine (zE_ (i := .iastore) (by decide +kernel) _ _ _).trans ?_
  by_cases hg : zin? w a 100 j
  · rw [zgd_pos hg]
    exact zq_iast hg
  · rw [zgd_neg hg]
    exact zq_iast_no hg
theorem e178_244 (v1 : Value) (x : Nat) (st : List Value) (w : zH) : zrun none (178, 244, [.ref x, v1], st, w) = zrun none (178, 245, [.ref x, v1], (.ref x :: st), w) := (zE_ (i := .aload_n 0) (by decide +kernel) _ _ _).trans rfl
theorem e178_245 (ls : List Value) (a : Nat) (st : List Value) (w : zH) : zrun none (178, 245, ls, (.ref a :: st), w) = zo (zf w a 1228) (fun x => zrun none (178, 248, ls, (x :: st), w)) := (zE_ (i := .getfield 1228) (by decide +kernel) _ _ _).trans zq_getf
theorem e178_248 (ls : List Value) (a : Int32) (st : List Value) (w : zH) : zrun none (178, 248, ls, (.int a :: st), w) = if a = 0 then zrun none (178, 251, ls, st, w) else zrun none (178, 306, ls, st, w) := (zE_ (i := .ifCond .ne 58) (by decide +kernel) _ _ _).trans (zq_if_ne rfl rfl)
theorem e178_251 (v1 : Value) (x : Nat) (st : List Value) (w : zH) : zrun none (178, 251, [.ref x, v1], st, w) = zrun none (178, 252, [.ref x, v1], (.ref x :: st), w) := (zE_ (i := .aload_n 0) (by decide +kernel) _ _ _).trans rfl
theorem e178_252 (ls : List Value) (a : Nat) (st : List Value) (w : zH) : zrun none (178, 252, ls, (.ref a :: st), w) = zo (zf w a 1218) (fun x => zrun none (178, 255, ls, (x :: st), w)) := (zE_ (i := .getfield 1218) (by decide +kernel) _ _ _).trans zq_getf
theorem e178_255 (v0 : Value) (x : Int32) (st : List Value) (w : zH) : zrun none (178, 255, [v0, .int x], st, w) = zrun none (178, 256, [v0, .int x], (.int x :: st), w) := (zE_ (i := .iload_n 1) (by decide +kernel) _ _ _).trans rfl
theorem e178_256 (ls st : List Value) (w : zH) : zrun none (178, 256, ls, st, w) = zrun none (178, 257, ls, (.int 5 :: st), w) := (zE_ (i := .iconst 5) (by decide +kernel) _ _ _).trans rfl
theorem e178_257 (ls : List Value) (a b : Int32) (st : List Value) (w : zH) : zrun none (178, 257, ls, (.int b :: .int a :: st), w) = zrun none (178, 258, ls, (.int (a + b) :: st), w) := (zE_ (i := .iadd) (by decide +kernel) _ _ _).trans rfl
theorem e178_258 (v1 : Value) (x : Nat) (st : List Value) (w : zH) : zrun none (178, 258, [.ref x, v1], st, w) = zrun none (178, 259, [.ref x, v1], (.ref x :: st), w) := (zE_ (i := .aload_n 0) (by decide +kernel) _ _ _).trans rfl
theorem e178_259 (ls : List Value) (a : Nat) (st : List Value) (w : zH) (hr : zcat st ≤ 8) : zrun none (178, 259, ls, (.ref a :: st), w) = zgd (zis w a 12) (zcl (zrun none (174, 0, [.ref a, zJ, zJ, zJ], [], w)) (fun r => zrun none (178, 262, ls, r.1.toList ++ st, r.2))) := by
  refine (zE_ (i := .invokevirtual 174) (by decide +kernel) _ _ _).trans ?_
  show zres (zinv none 174 178 259 ls (.ref a :: st) w) = _
  unfold zinv
  show zres (if zrc none 174 w (.ref a) = true then zcall 174 [.ref a] st 178 259 ls w else none) = _
  by_cases hc : zis w a 12
  · rw [if_pos (zrc_is hc (by decide +kernel)), zgd_pos hc]
    exact zq_call hr (Nat.le_of_ble_eq_true rfl) rfl rfl
  · rw [zgd_neg hc, if_neg (fun q => hc (zrc_of q (by decide +kernel)))]
    rfl
theorem e178_262 (ls st : List Value) (w : zH) : zrun none (178, 262, ls, st, w) = zrun none (178, 265, ls, (.long 474147546227 :: st), w) := (zE_ (i := .ldc2_w 474147546227) (by decide +kernel) _ _ _).trans rfl
theorem e178_265 (ls : List Value) (a b : Int64) (st : List Value) (w : zH) : zrun none (178, 265, ls, (.long b :: .long a :: st), w) = zrun none (178, 266, ls, (.int (lg_cmp a b) :: st), w) := (zE_ (i := .lcmp) (by decide +kernel) _ _ _).trans rfl
theorem e178_266 (ls : List Value) (a : Int32) (st : List Value) (w : zH) : zrun none (178, 266, ls, (.int a :: st), w) = if a = 0 then zrun none (178, 269, ls, st, w) else zrun none (178, 273, ls, st, w) := (zE_ (i := .ifCond .ne 7) (by decide +kernel) _ _ _).trans (zq_if_ne rfl rfl)
theorem e178_269 (ls st : List Value) (w : zH) : zrun none (178, 269, ls, st, w) = zrun none (178, 270, ls, (.int 1 :: st), w) := (zE_ (i := .iconst 1) (by decide +kernel) _ _ _).trans rfl
theorem e178_270 (ls st : List Value) (w : zH) : zrun none (178, 270, ls, st, w) = zrun none (178, 274, ls, st, w) := (zE_ (i := .goto 4) (by decide +kernel) _ _ _).trans rfl
theorem e178_273 (ls st : List Value) (w : zH) : zrun none (178, 273, ls, st, w) = zrun none (178, 274, ls, (.int 0 :: st), w) := (zE_ (i := .iconst 0) (by decide +kernel) _ _ _).trans rfl
theorem e178_274 (ls : List Value) (x j : Int32) (a : Nat) (st : List Value) (w : zH) : zrun none (178, 274, ls, (.int x :: .int j :: .ref a :: st), w) = zgd (zin? w a 100 j) (zrun none (178, 275, ls, st, zas w a j (.int x))) := by
  refine (zE_ (i := .iastore) (by decide +kernel) _ _ _).trans ?_
  by_cases hg : zin? w a 100 j
  · rw [zgd_pos hg]
    exact zq_iast hg
  · rw [zgd_neg hg]
    exact zq_iast_no hg
theorem e178_275 (v1 : Value) (x : Nat) (st : List Value) (w : zH) : zrun none (178, 275, [.ref x, v1], st, w) = zrun none (178, 276, [.ref x, v1], (.ref x :: st), w) := (zE_ (i := .aload_n 0) (by decide +kernel) _ _ _).trans rfl
theorem e178_276 (v1 : Value) (x : Nat) (st : List Value) (w : zH) : zrun none (178, 276, [.ref x, v1], st, w) = zrun none (178, 277, [.ref x, v1], (.ref x :: st), w) := (zE_ (i := .aload_n 0) (by decide +kernel) _ _ _).trans rfl
theorem e178_277 (ls : List Value) (a : Nat) (st : List Value) (w : zH) (hr : zcat st ≤ 8) : zrun none (178, 277, ls, (.ref a :: st), w) = zgd (zis w a 12) (zcl (zrun none (174, 0, [.ref a, zJ, zJ, zJ], [], w)) (fun r => zrun none (178, 280, ls, r.1.toList ++ st, r.2))) := by
  refine (zE_ (i := .invokevirtual 174) (by decide +kernel) _ _ _).trans ?_
  show zres (zinv none 174 178 277 ls (.ref a :: st) w) = _
  unfold zinv
  show zres (if zrc none 174 w (.ref a) = true then zcall 174 [.ref a] st 178 277 ls w else none) = _
  by_cases hc : zis w a 12
  · rw [if_pos (zrc_is hc (by decide +kernel)), zgd_pos hc]
    exact zq_call hr (Nat.le_of_ble_eq_true rfl) rfl rfl
  · rw [zgd_neg hc, if_neg (fun q => hc (zrc_of q (by decide +kernel)))]
    rfl
theorem e178_280 (ls st : List Value) (w : zH) : zrun none (178, 280, ls, st, w) = zrun none (178, 283, ls, (.long 474147546227 :: st), w) := (zE_ (i := .ldc2_w 474147546227) (by decide +kernel) _ _ _).trans rfl
theorem e178_283 (ls : List Value) (a b : Int64) (st : List Value) (w : zH) : zrun none (178, 283, ls, (.long b :: .long a :: st), w) = zrun none (178, 284, ls, (.int (lg_cmp a b) :: st), w) := (zE_ (i := .lcmp) (by decide +kernel) _ _ _).trans rfl
theorem e178_284 (ls : List Value) (a : Int32) (st : List Value) (w : zH) : zrun none (178, 284, ls, (.int a :: st), w) = if a = 0 then zrun none (178, 298, ls, st, w) else zrun none (178, 287, ls, st, w) := (zE_ (i := .ifCond .eq 14) (by decide +kernel) _ _ _).trans (zq_if_eq rfl rfl)
theorem e178_287 (v1 : Value) (x : Nat) (st : List Value) (w : zH) : zrun none (178, 287, [.ref x, v1], st, w) = zrun none (178, 288, [.ref x, v1], (.ref x :: st), w) := (zE_ (i := .aload_n 0) (by decide +kernel) _ _ _).trans rfl
theorem e178_288 (ls : List Value) (a : Nat) (st : List Value) (w : zH) (hr : zcat st ≤ 8) : zrun none (178, 288, ls, (.ref a :: st), w) = zgd (zis w a 12) (zcl (zrun none (174, 0, [.ref a, zJ, zJ, zJ], [], w)) (fun r => zrun none (178, 291, ls, r.1.toList ++ st, r.2))) := by
  refine (zE_ (i := .invokevirtual 174) (by decide +kernel) _ _ _).trans ?_
  show zres (zinv none 174 178 288 ls (.ref a :: st) w) = _
  unfold zinv
  show zres (if zrc none 174 w (.ref a) = true then zcall 174 [.ref a] st 178 288 ls w else none) = _
  by_cases hc : zis w a 12
  · rw [if_pos (zrc_is hc (by decide +kernel)), zgd_pos hc]
    exact zq_call hr (Nat.le_of_ble_eq_true rfl) rfl rfl
  · rw [zgd_neg hc, if_neg (fun q => hc (zrc_of q (by decide +kernel)))]
    rfl
theorem e178_291 (ls st : List Value) (w : zH) : zrun none (178, 291, ls, st, w) = zrun none (178, 294, ls, (.long 1718773093 :: st), w) := (zE_ (i := .ldc2_w 1718773093) (by decide +kernel) _ _ _).trans rfl
theorem e178_294 (ls : List Value) (a b : Int64) (st : List Value) (w : zH) : zrun none (178, 294, ls, (.long b :: .long a :: st), w) = zrun none (178, 295, ls, (.int (lg_cmp a b) :: st), w) := (zE_ (i := .lcmp) (by decide +kernel) _ _ _).trans rfl
theorem e178_295 (ls : List Value) (a : Int32) (st : List Value) (w : zH) : zrun none (178, 295, ls, (.int a :: st), w) = if a = 0 then zrun none (178, 298, ls, st, w) else zrun none (178, 302, ls, st, w) := (zE_ (i := .ifCond .ne 7) (by decide +kernel) _ _ _).trans (zq_if_ne rfl rfl)
theorem e178_298 (ls st : List Value) (w : zH) : zrun none (178, 298, ls, st, w) = zrun none (178, 299, ls, (.int 1 :: st), w) := (zE_ (i := .iconst 1) (by decide +kernel) _ _ _).trans rfl
theorem e178_299 (ls st : List Value) (w : zH) : zrun none (178, 299, ls, st, w) = zrun none (178, 303, ls, st, w) := (zE_ (i := .goto 4) (by decide +kernel) _ _ _).trans rfl
theorem e178_302 (ls st : List Value) (w : zH) : zrun none (178, 302, ls, st, w) = zrun none (178, 303, ls, (.int 0 :: st), w) := (zE_ (i := .iconst 0) (by decide +kernel) _ _ _).trans rfl
theorem e178_303 (ls : List Value) (a : Nat) (x0 : Int32) (st : List Value) (w : zH) (hr : zcat st ≤ 8) : zrun none (178, 303, ls, (.int x0 :: .ref a :: st), w) = zgd (zis w a 12) (zcl (zrun none (173, 0, [.ref a, .int x0], [], w)) (fun r => zrun none (178, 306, ls, r.1.toList ++ st, r.2))) := by
  refine (zE_ (i := .invokevirtual 173) (by decide +kernel) _ _ _).trans ?_
  show zres (zinv none 173 178 303 ls (.int x0 :: .ref a :: st) w) = _
  unfold zinv
  show zres (if zrc none 173 w (.ref a) = true then zcall 173 [.ref a, .int x0] st 178 303 ls w else none) = _
  by_cases hc : zis w a 12
  · rw [if_pos (zrc_is hc (by decide +kernel)), zgd_pos hc]
    exact zq_call hr (Nat.le_of_ble_eq_true rfl) rfl rfl
  · rw [zgd_neg hc, if_neg (fun q => hc (zrc_of q (by decide +kernel)))]
    rfl
theorem e178_306 (v1 : Value) (x : Nat) (st : List Value) (w : zH) : zrun none (178, 306, [.ref x, v1], st, w) = zrun none (178, 307, [.ref x, v1], (.ref x :: st), w) := (zE_ (i := .aload_n 0) (by decide +kernel) _ _ _).trans rfl
theorem e178_307 (ls : List Value) (a : Nat) (st : List Value) (w : zH) : zrun none (178, 307, ls, (.ref a :: st), w) = zo (zf w a 1228) (fun x => zrun none (178, 310, ls, (x :: st), w)) := (zE_ (i := .getfield 1228) (by decide +kernel) _ _ _).trans zq_getf
theorem e178_310 (ls : List Value) (a : Int32) (st : List Value) (w : zH) : zrun none (178, 310, ls, (.int a :: st), w) = if a = 0 then zrun none (178, 313, ls, st, w) else zrun none (178, 330, ls, st, w) := (zE_ (i := .ifCond .ne 20) (by decide +kernel) _ _ _).trans (zq_if_ne rfl rfl)
theorem e178_313 (v1 : Value) (x : Nat) (st : List Value) (w : zH) : zrun none (178, 313, [.ref x, v1], st, w) = zrun none (178, 314, [.ref x, v1], (.ref x :: st), w) := (zE_ (i := .aload_n 0) (by decide +kernel) _ _ _).trans rfl
theorem e178_314 (v1 : Value) (x : Nat) (st : List Value) (w : zH) : zrun none (178, 314, [.ref x, v1], st, w) = zrun none (178, 315, [.ref x, v1], (.ref x :: st), w) := (zE_ (i := .aload_n 0) (by decide +kernel) _ _ _).trans rfl
theorem e178_315 (ls : List Value) (a : Nat) (st : List Value) (w : zH) : zrun none (178, 315, ls, (.ref a :: st), w) = zo (zf w a 1225) (fun x => zrun none (178, 318, ls, (x :: st), w)) := (zE_ (i := .getfield 1225) (by decide +kernel) _ _ _).trans zq_getf
theorem e178_318 (ls st : List Value) (w : zH) : zrun none (178, 318, ls, st, w) = zrun none (178, 319, ls, (.int 4 :: st), w) := (zE_ (i := .iconst 4) (by decide +kernel) _ _ _).trans rfl
theorem e178_319 (ls : List Value) (a b : Int32) (st : List Value) (w : zH) : zrun none (178, 319, ls, (.int b :: .int a :: st), w) = if a = b then zrun none (178, 322, ls, st, w) else zrun none (178, 326, ls, st, w) := (zE_ (i := .if_icmp .ne 7) (by decide +kernel) _ _ _).trans (zq_ic_ne rfl rfl)
theorem e178_322 (ls st : List Value) (w : zH) : zrun none (178, 322, ls, st, w) = zrun none (178, 323, ls, (.int 1 :: st), w) := (zE_ (i := .iconst 1) (by decide +kernel) _ _ _).trans rfl
theorem e178_323 (ls st : List Value) (w : zH) : zrun none (178, 323, ls, st, w) = zrun none (178, 327, ls, st, w) := (zE_ (i := .goto 4) (by decide +kernel) _ _ _).trans rfl
theorem e178_326 (ls st : List Value) (w : zH) : zrun none (178, 326, ls, st, w) = zrun none (178, 327, ls, (.int 0 :: st), w) := (zE_ (i := .iconst 0) (by decide +kernel) _ _ _).trans rfl
theorem e178_327 (ls : List Value) (a : Nat) (x0 : Int32) (st : List Value) (w : zH) (hr : zcat st ≤ 8) : zrun none (178, 327, ls, (.int x0 :: .ref a :: st), w) = zgd (zis w a 12) (zcl (zrun none (173, 0, [.ref a, .int x0], [], w)) (fun r => zrun none (178, 330, ls, r.1.toList ++ st, r.2))) := by
  refine (zE_ (i := .invokevirtual 173) (by decide +kernel) _ _ _).trans ?_
  show zres (zinv none 173 178 327 ls (.int x0 :: .ref a :: st) w) = _
  unfold zinv
  show zres (if zrc none 173 w (.ref a) = true then zcall 173 [.ref a, .int x0] st 178 327 ls w else none) = _
  by_cases hc : zis w a 12
  · rw [if_pos (zrc_is hc (by decide +kernel)), zgd_pos hc]
    exact zq_call hr (Nat.le_of_ble_eq_true rfl) rfl rfl
  · rw [zgd_neg hc, if_neg (fun q => hc (zrc_of q (by decide +kernel)))]
    rfl
theorem e178_330 (v1 : Value) (x : Nat) (st : List Value) (w : zH) : zrun none (178, 330, [.ref x, v1], st, w) = zrun none (178, 331, [.ref x, v1], (.ref x :: st), w) := (zE_ (i := .aload_n 0) (by decide +kernel) _ _ _).trans rfl
theorem e178_331 (ls : List Value) (x : Int32) (st : List Value) (w : zH) : zrun none (178, 331, ls, (.int x :: st), w) = zrun none (178, 332, ls, (.int x :: .int x :: st), w) := (zE_ (i := .dup) (by decide +kernel) _ _ _).trans rfl
theorem e178_331r (ls : List Value) (x : Nat) (st : List Value) (w : zH) : zrun none (178, 331, ls, (.ref x :: st), w) = zrun none (178, 332, ls, (.ref x :: .ref x :: st), w) := (zE_ (i := .dup) (by decide +kernel) _ _ _).trans rfl
theorem e178_332 (ls : List Value) (a : Nat) (st : List Value) (w : zH) : zrun none (178, 332, ls, (.ref a :: st), w) = zo (zf w a 1219) (fun x => zrun none (178, 335, ls, (x :: st), w)) := (zE_ (i := .getfield 1219) (by decide +kernel) _ _ _).trans zq_getf
theorem e178_335 (ls st : List Value) (w : zH) : zrun none (178, 335, ls, st, w) = zrun none (178, 336, ls, (.int 1 :: st), w) := (zE_ (i := .iconst 1) (by decide +kernel) _ _ _).trans rfl
theorem e178_336 (ls : List Value) (a b : Int32) (st : List Value) (w : zH) : zrun none (178, 336, ls, (.int b :: .int a :: st), w) = zrun none (178, 337, ls, (.int (a + b) :: st), w) := (zE_ (i := .iadd) (by decide +kernel) _ _ _).trans rfl
theorem e178_337 (ls : List Value) (x : Int32) (a : Nat) (st : List Value) (w : zH) : zrun none (178, 337, ls, (.int x :: .ref a :: st), w) = zgd (a < zX ∧ (zf w a 1219).isSome = true) (zrun none (178, 340, ls, st, zpf w a 1219 (.int x))) := by
  refine (zE_ (i := .putfield 1219) (by decide +kernel) _ _ _).trans ?_
  by_cases hg : a < zX ∧ (zf w a 1219).isSome = true
  · rw [zgd_pos hg]
    obtain ⟨ha, h⟩ := hg
    exact zq_putf ha h rfl rfl
  · rw [zgd_neg hg]
    exact zq_putf_no (fun h1 h2 h3 => hg ⟨h1, h2⟩)
theorem e178_340 (ls : List Value) (w : zH) : zrun none (178, 340, ls, [], w) = some (none, w) := (zE_ (i := .return_) (by decide +kernel) _ _ _).trans rfl
theorem e179_0 (x : Nat) (st : List Value) (w : zH) : zrun none (179, 0, [.ref x], st, w) = zrun none (179, 1, [.ref x], (.ref x :: st), w) := (zE_ (i := .aload_n 0) (by decide +kernel) _ _ _).trans rfl
theorem e179_1 (ls st : List Value) (w : zH) : zrun none (179, 1, ls, st, w) = zrun none (179, 2, ls, (.int 0 :: st), w) := (zE_ (i := .iconst 0) (by decide +kernel) _ _ _).trans rfl
theorem e179_2 (ls : List Value) (x : Int32) (a : Nat) (st : List Value) (w : zH) : zrun none (179, 2, ls, (.int x :: .ref a :: st), w) = zgd (a < zX ∧ (zf w a 1200).isSome = true) (zrun none (179, 5, ls, st, zpf w a 1200 (.int x))) := by
  refine (zE_ (i := .putfield 1200) (by decide +kernel) _ _ _).trans ?_
  by_cases hg : a < zX ∧ (zf w a 1200).isSome = true
  · rw [zgd_pos hg]
    obtain ⟨ha, h⟩ := hg
    exact zq_putf ha h rfl rfl
  · rw [zgd_neg hg]
    exact zq_putf_no (fun h1 h2 h3 => hg ⟨h1, h2⟩)
theorem e179_5 (x : Nat) (st : List Value) (w : zH) : zrun none (179, 5, [.ref x], st, w) = zrun none (179, 6, [.ref x], (.ref x :: st), w) := (zE_ (i := .aload_n 0) (by decide +kernel) _ _ _).trans rfl
theorem e179_6 (x : Nat) (st : List Value) (w : zH) : zrun none (179, 6, [.ref x], st, w) = zrun none (179, 7, [.ref x], (.ref x :: st), w) := (zE_ (i := .aload_n 0) (by decide +kernel) _ _ _).trans rfl
theorem e179_7 (ls : List Value) (a : Nat) (st : List Value) (w : zH) : zrun none (179, 7, ls, (.ref a :: st), w) = zo (zf w a 1221) (fun x => zrun none (179, 10, ls, (x :: st), w)) := (zE_ (i := .getfield 1221) (by decide +kernel) _ _ _).trans zq_getf
theorem e179_10 (ls : List Value) (x : Int32) (a : Nat) (st : List Value) (w : zH) : zrun none (179, 10, ls, (.int x :: .ref a :: st), w) = zgd (a < zX ∧ (zf w a 1223).isSome = true) (zrun none (179, 13, ls, st, zpf w a 1223 (.int x))) := by
  refine (zE_ (i := .putfield 1223) (by decide +kernel) _ _ _).trans ?_
  by_cases hg : a < zX ∧ (zf w a 1223).isSome = true
  · rw [zgd_pos hg]
    obtain ⟨ha, h⟩ := hg
    exact zq_putf ha h rfl rfl
  · rw [zgd_neg hg]
    exact zq_putf_no (fun h1 h2 h3 => hg ⟨h1, h2⟩)
theorem e179_13 (x : Nat) (st : List Value) (w : zH) : zrun none (179, 13, [.ref x], st, w) = zrun none (179, 14, [.ref x], (.ref x :: st), w) := (zE_ (i := .aload_n 0) (by decide +kernel) _ _ _).trans rfl
theorem e179_14 (ls st : List Value) (w : zH) : zrun none (179, 14, ls, st, w) = zrun none (179, 15, ls, (.int 0 :: st), w) := (zE_ (i := .iconst 0) (by decide +kernel) _ _ _).trans rfl
theorem e179_15 (ls : List Value) (x : Int32) (a : Nat) (st : List Value) (w : zH) : zrun none (179, 15, ls, (.int x :: .ref a :: st), w) = zgd (a < zX ∧ (zf w a 1221).isSome = true) (zrun none (179, 18, ls, st, zpf w a 1221 (.int x))) := by
  refine (zE_ (i := .putfield 1221) (by decide +kernel) _ _ _).trans ?_
  by_cases hg : a < zX ∧ (zf w a 1221).isSome = true
  · rw [zgd_pos hg]
    obtain ⟨ha, h⟩ := hg
    exact zq_putf ha h rfl rfl
  · rw [zgd_neg hg]
    exact zq_putf_no (fun h1 h2 h3 => hg ⟨h1, h2⟩)
theorem e179_18 (x : Nat) (st : List Value) (w : zH) : zrun none (179, 18, [.ref x], st, w) = zrun none (179, 19, [.ref x], (.ref x :: st), w) := (zE_ (i := .aload_n 0) (by decide +kernel) _ _ _).trans rfl
theorem e179_19 (ls st : List Value) (w : zH) : zrun none (179, 19, ls, st, w) = zrun none (179, 20, ls, (.int 0 :: st), w) := (zE_ (i := .iconst 0) (by decide +kernel) _ _ _).trans rfl
theorem e179_20 (ls : List Value) (x : Int32) (a : Nat) (st : List Value) (w : zH) : zrun none (179, 20, ls, (.int x :: .ref a :: st), w) = zgd (a < zX ∧ (zf w a 1224).isSome = true) (zrun none (179, 23, ls, st, zpf w a 1224 (.int x))) := by
  refine (zE_ (i := .putfield 1224) (by decide +kernel) _ _ _).trans ?_
  by_cases hg : a < zX ∧ (zf w a 1224).isSome = true
  · rw [zgd_pos hg]
    obtain ⟨ha, h⟩ := hg
    exact zq_putf ha h rfl rfl
  · rw [zgd_neg hg]
    exact zq_putf_no (fun h1 h2 h3 => hg ⟨h1, h2⟩)
theorem e179_23 (x : Nat) (st : List Value) (w : zH) : zrun none (179, 23, [.ref x], st, w) = zrun none (179, 24, [.ref x], (.ref x :: st), w) := (zE_ (i := .aload_n 0) (by decide +kernel) _ _ _).trans rfl
theorem e179_24 (ls st : List Value) (w : zH) : zrun none (179, 24, ls, st, w) = zrun none (179, 25, ls, (.int 0 :: st), w) := (zE_ (i := .iconst 0) (by decide +kernel) _ _ _).trans rfl
theorem e179_25 (ls : List Value) (x : Int32) (a : Nat) (st : List Value) (w : zH) : zrun none (179, 25, ls, (.int x :: .ref a :: st), w) = zgd (a < zX ∧ (zf w a 1228).isSome = true) (zrun none (179, 28, ls, st, zpf w a 1228 (.int x))) := by
  refine (zE_ (i := .putfield 1228) (by decide +kernel) _ _ _).trans ?_
  by_cases hg : a < zX ∧ (zf w a 1228).isSome = true
  · rw [zgd_pos hg]
    obtain ⟨ha, h⟩ := hg
    exact zq_putf ha h rfl rfl
  · rw [zgd_neg hg]
    exact zq_putf_no (fun h1 h2 h3 => hg ⟨h1, h2⟩)
theorem e179_28 (x : Nat) (st : List Value) (w : zH) : zrun none (179, 28, [.ref x], st, w) = zrun none (179, 29, [.ref x], (.ref x :: st), w) := (zE_ (i := .aload_n 0) (by decide +kernel) _ _ _).trans rfl
theorem e179_29 (x : Nat) (st : List Value) (w : zH) : zrun none (179, 29, [.ref x], st, w) = zrun none (179, 30, [.ref x], (.ref x :: st), w) := (zE_ (i := .aload_n 0) (by decide +kernel) _ _ _).trans rfl
theorem e179_30 (ls : List Value) (a : Nat) (st : List Value) (w : zH) : zrun none (179, 30, ls, (.ref a :: st), w) = zo (zf w a 1217) (fun x => zrun none (179, 33, ls, (x :: st), w)) := (zE_ (i := .getfield 1217) (by decide +kernel) _ _ _).trans zq_getf
theorem e179_33 (ls : List Value) (x : Int32) (a : Nat) (st : List Value) (w : zH) : zrun none (179, 33, ls, (.int x :: .ref a :: st), w) = zgd (a < zX ∧ (zf w a 1219).isSome = true) (zrun none (179, 36, ls, st, zpf w a 1219 (.int x))) := by
  refine (zE_ (i := .putfield 1219) (by decide +kernel) _ _ _).trans ?_
  by_cases hg : a < zX ∧ (zf w a 1219).isSome = true
  · rw [zgd_pos hg]
    obtain ⟨ha, h⟩ := hg
    exact zq_putf ha h rfl rfl
  · rw [zgd_neg hg]
    exact zq_putf_no (fun h1 h2 h3 => hg ⟨h1, h2⟩)
theorem e179_36 (x : Nat) (st : List Value) (w : zH) : zrun none (179, 36, [.ref x], st, w) = zrun none (179, 37, [.ref x], (.ref x :: st), w) := (zE_ (i := .aload_n 0) (by decide +kernel) _ _ _).trans rfl
theorem e179_37 (ls : List Value) (a : Nat) (st : List Value) (w : zH) (hr : zcat st ≤ 8) : zrun none (179, 37, ls, (.ref a :: st), w) = zgd (zis w a 12) (zcl (zrun none (171, 0, [.ref a, zJ], [], w)) (fun r => zrun none (179, 40, ls, r.1.toList ++ st, r.2))) := by
  refine (zE_ (i := .invokevirtual 171) (by decide +kernel) _ _ _).trans ?_
  show zres (zinv none 171 179 37 ls (.ref a :: st) w) = _
  unfold zinv
  show zres (if zrc none 171 w (.ref a) = true then zcall 171 [.ref a] st 179 37 ls w else none) = _
  by_cases hc : zis w a 12
  · rw [if_pos (zrc_is hc (by decide +kernel)), zgd_pos hc]
    exact zq_call hr (Nat.le_of_ble_eq_true rfl) rfl rfl
  · rw [zgd_neg hc, if_neg (fun q => hc (zrc_of q (by decide +kernel)))]
    rfl
theorem e179_40 (x : Nat) (st : List Value) (w : zH) : zrun none (179, 40, [.ref x], st, w) = zrun none (179, 41, [.ref x], (.ref x :: st), w) := (zE_ (i := .aload_n 0) (by decide +kernel) _ _ _).trans rfl
theorem e179_41 (ls : List Value) (a : Nat) (st : List Value) (w : zH) : zrun none (179, 41, ls, (.ref a :: st), w) = zo (zf w a 1228) (fun x => zrun none (179, 44, ls, (x :: st), w)) := (zE_ (i := .getfield 1228) (by decide +kernel) _ _ _).trans zq_getf
theorem e179_44 (ls : List Value) (a : Int32) (st : List Value) (w : zH) : zrun none (179, 44, ls, (.int a :: st), w) = if a = 0 then zrun none (179, 47, ls, st, w) else zrun none (179, 62, ls, st, w) := (zE_ (i := .ifCond .ne 18) (by decide +kernel) _ _ _).trans (zq_if_ne rfl rfl)
theorem e179_47 (x : Nat) (st : List Value) (w : zH) : zrun none (179, 47, [.ref x], st, w) = zrun none (179, 48, [.ref x], (.ref x :: st), w) := (zE_ (i := .aload_n 0) (by decide +kernel) _ _ _).trans rfl
theorem e179_48 (ls : List Value) (a : Nat) (st : List Value) (w : zH) : zrun none (179, 48, ls, (.ref a :: st), w) = zo (zf w a 1225) (fun x => zrun none (179, 51, ls, (x :: st), w)) := (zE_ (i := .getfield 1225) (by decide +kernel) _ _ _).trans zq_getf
theorem e179_51 (ls st : List Value) (w : zH) : zrun none (179, 51, ls, st, w) = zrun none (179, 52, ls, (.int 1 :: st), w) := (zE_ (i := .iconst 1) (by decide +kernel) _ _ _).trans rfl
theorem e179_52 (ls : List Value) (a b : Int32) (st : List Value) (w : zH) : zrun none (179, 52, ls, (.int b :: .int a :: st), w) = if a = b then zrun none (179, 62, ls, st, w) else zrun none (179, 55, ls, st, w) := (zE_ (i := .if_icmp .eq 10) (by decide +kernel) _ _ _).trans (zq_ic_eq rfl rfl)
theorem e179_55 (x : Nat) (st : List Value) (w : zH) : zrun none (179, 55, [.ref x], st, w) = zrun none (179, 56, [.ref x], (.ref x :: st), w) := (zE_ (i := .aload_n 0) (by decide +kernel) _ _ _).trans rfl
theorem e179_56 (ls : List Value) (a : Nat) (st : List Value) (w : zH) (hr : zcat st ≤ 8) : zrun none (179, 56, ls, (.ref a :: st), w) = zgd (zis w a 12) (zcl (zrun none (178, 0, [.ref a, zJ], [], w)) (fun r => zrun none (179, 59, ls, r.1.toList ++ st, r.2))) := by
  refine (zE_ (i := .invokevirtual 178) (by decide +kernel) _ _ _).trans ?_
  show zres (zinv none 178 179 56 ls (.ref a :: st) w) = _
  unfold zinv
  show zres (if zrc none 178 w (.ref a) = true then zcall 178 [.ref a] st 179 56 ls w else none) = _
  by_cases hc : zis w a 12
  · rw [if_pos (zrc_is hc (by decide +kernel)), zgd_pos hc]
    exact zq_call hr (Nat.le_of_ble_eq_true rfl) rfl rfl
  · rw [zgd_neg hc, if_neg (fun q => hc (zrc_of q (by decide +kernel)))]
    rfl
theorem e179_59 (ls st : List Value) (w : zH) : zrun none (179, 59, ls, st, w) = zrun none (179, 40, ls, st, w) := (zE_ (i := .goto (-19)) (by decide +kernel) _ _ _).trans rfl
theorem e179_62 (x : Nat) (st : List Value) (w : zH) : zrun none (179, 62, [.ref x], st, w) = zrun none (179, 63, [.ref x], (.ref x :: st), w) := (zE_ (i := .aload_n 0) (by decide +kernel) _ _ _).trans rfl
theorem e179_63 (ls : List Value) (a : Nat) (st : List Value) (w : zH) : zrun none (179, 63, ls, (.ref a :: st), w) = zo (zf w a 1228) (fun x => zrun none (179, 66, ls, (x :: st), w)) := (zE_ (i := .getfield 1228) (by decide +kernel) _ _ _).trans zq_getf
theorem e179_66 (ls : List Value) (a : Int32) (st : List Value) (w : zH) : zrun none (179, 66, ls, (.int a :: st), w) = if a ≤ 0 then zrun none (179, 86, ls, st, w) else zrun none (179, 69, ls, st, w) := (zE_ (i := .ifCond .le 20) (by decide +kernel) _ _ _).trans (zq_if_le rfl rfl)
theorem e179_69 (x : Nat) (st : List Value) (w : zH) : zrun none (179, 69, [.ref x], st, w) = zrun none (179, 70, [.ref x], (.ref x :: st), w) := (zE_ (i := .aload_n 0) (by decide +kernel) _ _ _).trans rfl
theorem e179_70 (x : Nat) (st : List Value) (w : zH) : zrun none (179, 70, [.ref x], st, w) = zrun none (179, 71, [.ref x], (.ref x :: st), w) := (zE_ (i := .aload_n 0) (by decide +kernel) _ _ _).trans rfl
theorem e179_71 (ls : List Value) (a : Nat) (st : List Value) (w : zH) : zrun none (179, 71, ls, (.ref a :: st), w) = zo (zf w a 1228) (fun x => zrun none (179, 74, ls, (x :: st), w)) := (zE_ (i := .getfield 1228) (by decide +kernel) _ _ _).trans zq_getf
theorem e179_74 (ls : List Value) (x : Int32) (a : Nat) (st : List Value) (w : zH) : zrun none (179, 74, ls, (.int x :: .ref a :: st), w) = zgd (a < zX ∧ (zf w a 1222).isSome = true) (zrun none (179, 77, ls, st, zpf w a 1222 (.int x))) := by
  refine (zE_ (i := .putfield 1222) (by decide +kernel) _ _ _).trans ?_
  by_cases hg : a < zX ∧ (zf w a 1222).isSome = true
  · rw [zgd_pos hg]
    obtain ⟨ha, h⟩ := hg
    exact zq_putf ha h rfl rfl
  · rw [zgd_neg hg]
    exact zq_putf_no (fun h1 h2 h3 => hg ⟨h1, h2⟩)
theorem e179_77 (ls st : List Value) (w : zH) : zrun none (179, 77, ls, st, w) = zrun none (179, 80, ls, (.int (-1000100) :: st), w) := (zE_ (i := .sipush (-1000100)) (by decide +kernel) _ _ _).trans rfl
theorem e179_80 (x : Nat) (st : List Value) (w : zH) : zrun none (179, 80, [.ref x], st, w) = zrun none (179, 81, [.ref x], (.ref x :: st), w) := (zE_ (i := .aload_n 0) (by decide +kernel) _ _ _).trans rfl
theorem e179_81 (ls : List Value) (a : Nat) (st : List Value) (w : zH) : zrun none (179, 81, ls, (.ref a :: st), w) = zo (zf w a 1229) (fun x => zrun none (179, 84, ls, (x :: st), w)) := (zE_ (i := .getfield 1229) (by decide +kernel) _ _ _).trans zq_getf
theorem e179_84 (ls : List Value) (a b : Int32) (st : List Value) (w : zH) : zrun none (179, 84, ls, (.int b :: .int a :: st), w) = zrun none (179, 85, ls, (.int (a - b) :: st), w) := (zE_ (i := .isub) (by decide +kernel) _ _ _).trans rfl
theorem e179_85 (ls : List Value) (x : Int32) (w : zH) : zrun none (179, 85, ls, [.int x], w) = some (some (.int x), w) := by
  refine (zE_ (i := .ireturn) (by decide +kernel) _ _ _).trans ?_
  show zres (if narrow .int (.int x) = .int x then _ else none) = _
  rw [if_pos (show narrow .int (.int x) = .int x from rfl)]
  rfl
theorem e179_86 (x : Nat) (st : List Value) (w : zH) : zrun none (179, 86, [.ref x], st, w) = zrun none (179, 87, [.ref x], (.ref x :: st), w) := (zE_ (i := .aload_n 0) (by decide +kernel) _ _ _).trans rfl
theorem e179_87 (x : Nat) (st : List Value) (w : zH) : zrun none (179, 87, [.ref x], st, w) = zrun none (179, 88, [.ref x], (.ref x :: st), w) := (zE_ (i := .aload_n 0) (by decide +kernel) _ _ _).trans rfl
theorem e179_88 (ls : List Value) (a : Nat) (st : List Value) (w : zH) : zrun none (179, 88, ls, (.ref a :: st), w) = zo (zf w a 1219) (fun x => zrun none (179, 91, ls, (x :: st), w)) := (zE_ (i := .getfield 1219) (by decide +kernel) _ _ _).trans zq_getf
theorem e179_91 (ls : List Value) (x : Int32) (a : Nat) (st : List Value) (w : zH) : zrun none (179, 91, ls, (.int x :: .ref a :: st), w) = zgd (a < zX ∧ (zf w a 1217).isSome = true) (zrun none (179, 94, ls, st, zpf w a 1217 (.int x))) := by
  refine (zE_ (i := .putfield 1217) (by decide +kernel) _ _ _).trans ?_
  by_cases hg : a < zX ∧ (zf w a 1217).isSome = true
  · rw [zgd_pos hg]
    obtain ⟨ha, h⟩ := hg
    exact zq_putf ha h rfl rfl
  · rw [zgd_neg hg]
    exact zq_putf_no (fun h1 h2 h3 => hg ⟨h1, h2⟩)
theorem e179_94 (x : Nat) (st : List Value) (w : zH) : zrun none (179, 94, [.ref x], st, w) = zrun none (179, 95, [.ref x], (.ref x :: st), w) := (zE_ (i := .aload_n 0) (by decide +kernel) _ _ _).trans rfl
theorem e179_95 (ls : List Value) (a : Nat) (st : List Value) (w : zH) : zrun none (179, 95, ls, (.ref a :: st), w) = zo (zf w a 1217) (fun x => zrun none (179, 98, ls, (x :: st), w)) := (zE_ (i := .getfield 1217) (by decide +kernel) _ _ _).trans zq_getf
theorem e179_98 (ls : List Value) (x : Int32) (w : zH) : zrun none (179, 98, ls, [.int x], w) = some (some (.int x), w) := by
  refine (zE_ (i := .ireturn) (by decide +kernel) _ _ _).trans ?_
  show zres (if narrow .int (.int x) = .int x then _ else none) = _
  rw [if_pos (show narrow .int (.int x) = .int x from rfl)]
  rfl
theorem e180_0 (x : Nat) (st : List Value) (w : zH) : zrun none (180, 0, [.ref x], st, w) = zrun none (180, 1, [.ref x], (.ref x :: st), w) := (zE_ (i := .aload_n 0) (by decide +kernel) _ _ _).trans rfl
theorem e180_1 (ls st : List Value) (w : zH) : zrun none (180, 1, ls, st, w) = zrun none (180, 2, ls, (.int 0 :: st), w) := (zE_ (i := .iconst 0) (by decide +kernel) _ _ _).trans rfl
theorem e180_2 (ls : List Value) (x : Int32) (a : Nat) (st : List Value) (w : zH) : zrun none (180, 2, ls, (.int x :: .ref a :: st), w) = zgd (a < zX ∧ (zf w a 1200).isSome = true) (zrun none (180, 5, ls, st, zpf w a 1200 (.int x))) := by
  refine (zE_ (i := .putfield 1200) (by decide +kernel) _ _ _).trans ?_
  by_cases hg : a < zX ∧ (zf w a 1200).isSome = true
  · rw [zgd_pos hg]
    obtain ⟨ha, h⟩ := hg
    exact zq_putf ha h rfl rfl
  · rw [zgd_neg hg]
    exact zq_putf_no (fun h1 h2 h3 => hg ⟨h1, h2⟩)
theorem e180_5 (x : Nat) (st : List Value) (w : zH) : zrun none (180, 5, [.ref x], st, w) = zrun none (180, 6, [.ref x], (.ref x :: st), w) := (zE_ (i := .aload_n 0) (by decide +kernel) _ _ _).trans rfl
theorem e180_6 (ls : List Value) (a : Nat) (st : List Value) (w : zH) : zrun none (180, 6, ls, (.ref a :: st), w) = zo (zf w a 1222) (fun x => zrun none (180, 9, ls, (x :: st), w)) := (zE_ (i := .getfield 1222) (by decide +kernel) _ _ _).trans zq_getf
theorem e180_9 (ls : List Value) (x : Int32) (w : zH) : zrun none (180, 9, ls, [.int x], w) = some (some (.int x), w) := by
  refine (zE_ (i := .ireturn) (by decide +kernel) _ _ _).trans ?_
  show zres (if narrow .int (.int x) = .int x then _ else none) = _
  rw [if_pos (show narrow .int (.int x) = .int x from rfl)]
  rfl
theorem e181_0 (v1 v2 v3 v4 v5 v6 v7 v8 : Value) (x : Nat) (st : List Value) (w : zH) : zrun none (181, 0, [.ref x, v1, v2, v3, v4, v5, v6, v7, v8], st, w) = zrun none (181, 1, [.ref x, v1, v2, v3, v4, v5, v6, v7, v8], (.ref x :: st), w) := (zE_ (i := .aload_n 0) (by decide +kernel) _ _ _).trans rfl
theorem e181_1 (v0 v2 v3 v4 v5 v6 v7 v8 : Value) (x : Int32) (st : List Value) (w : zH) : zrun none (181, 1, [v0, .int x, v2, v3, v4, v5, v6, v7, v8], st, w) = zrun none (181, 2, [v0, .int x, v2, v3, v4, v5, v6, v7, v8], (.int x :: st), w) := (zE_ (i := .iload_n 1) (by decide +kernel) _ _ _).trans rfl
theorem e181_2 (v0 v1 v2 v4 v5 v6 v7 v8 : Value) (x : Int32) (st : List Value) (w : zH) : zrun none (181, 2, [v0, v1, v2, .int x, v4, v5, v6, v7, v8], st, w) = zrun none (181, 3, [v0, v1, v2, .int x, v4, v5, v6, v7, v8], (.int x :: st), w) := (zE_ (i := .iload_n 3) (by decide +kernel) _ _ _).trans rfl
theorem e181_3 (ls : List Value) (a : Nat) (x0 : Int32) (x1 : Int32) (st : List Value) (w : zH) (hr : zcat st ≤ 8) : zrun none (181, 3, ls, (.int x1 :: .int x0 :: .ref a :: st), w) = zgd (zis w a 12) (zcl (zrun none (164, 0, [.ref a, .int x0, .int x1], [], w)) (fun r => zrun none (181, 6, ls, r.1.toList ++ st, r.2))) := by
  refine (zE_ (i := .invokevirtual 164) (by decide +kernel) _ _ _).trans ?_
  show zres (zinv none 164 181 3 ls (.int x1 :: .int x0 :: .ref a :: st) w) = _
  unfold zinv
  show zres (if zrc none 164 w (.ref a) = true then zcall 164 [.ref a, .int x0, .int x1] st 181 3 ls w else none) = _
  by_cases hc : zis w a 12
  · rw [if_pos (zrc_is hc (by decide +kernel)), zgd_pos hc]
    exact zq_call hr (Nat.le_of_ble_eq_true rfl) rfl rfl
  · rw [zgd_neg hc, if_neg (fun q => hc (zrc_of q (by decide +kernel)))]
    rfl
theorem e181_6 (v0 v1 v2 v3 v4 v5 v6 v7 v8 : Value) (x : Int32) (st : List Value) (w : zH) (h : v3.category = 1) : zrun none (181, 6, [v0, v1, v2, v3, v4, v5, v6, v7, v8], (.int x :: st), w) = zrun none (181, 8, [v0, v1, v2, v3, .int x, v5, v6, v7, v8], st, w) := by
  refine (zE_ (i := .istore 4) (by decide +kernel) _ _ _).trans ?_
  have hz : zfree [v0, v1, v2, v3, v4, v5, v6, v7, v8] 4 = true := by show decide (v3.category = 1) = true; exact decide_eq_true h
  show zres (zst zint 4 2 181 6 [v0, v1, v2, v3, v4, v5, v6, v7, v8] (.int x :: st) w) = _
  unfold zst
  dsimp only
  rw [if_pos ⟨rfl, Nat.le_of_ble_eq_true rfl, hz⟩]
  rfl
theorem e181_8 (ls st : List Value) (w : zH) : zrun none (181, 8, ls, st, w) = zrun none (181, 10, ls, (.int (-1000000) :: st), w) := (zE_ (i := .bipush (-1000000)) (by decide +kernel) _ _ _).trans rfl
theorem e181_10 (v0 v1 v2 v3 v4 v5 v6 v7 v8 : Value) (x : Int32) (st : List Value) (w : zH) (h : v4.category = 1) : zrun none (181, 10, [v0, v1, v2, v3, v4, v5, v6, v7, v8], (.int x :: st), w) = zrun none (181, 12, [v0, v1, v2, v3, v4, .int x, v6, v7, v8], st, w) := by
  refine (zE_ (i := .istore 5) (by decide +kernel) _ _ _).trans ?_
  have hz : zfree [v0, v1, v2, v3, v4, v5, v6, v7, v8] 5 = true := by show decide (v4.category = 1) = true; exact decide_eq_true h
  show zres (zst zint 5 2 181 10 [v0, v1, v2, v3, v4, v5, v6, v7, v8] (.int x :: st) w) = _
  unfold zst
  dsimp only
  rw [if_pos ⟨rfl, Nat.le_of_ble_eq_true rfl, hz⟩]
  rfl
theorem e181_12 (ls st : List Value) (w : zH) : zrun none (181, 12, ls, st, w) = zrun none (181, 13, ls, (.int 0 :: st), w) := (zE_ (i := .iconst 0) (by decide +kernel) _ _ _).trans rfl
theorem e181_13 (v0 v1 v2 v3 v4 v5 v6 v7 v8 : Value) (x : Int32) (st : List Value) (w : zH) (h : v5.category = 1) : zrun none (181, 13, [v0, v1, v2, v3, v4, v5, v6, v7, v8], (.int x :: st), w) = zrun none (181, 15, [v0, v1, v2, v3, v4, v5, .int x, v7, v8], st, w) := by
  refine (zE_ (i := .istore 6) (by decide +kernel) _ _ _).trans ?_
  have hz : zfree [v0, v1, v2, v3, v4, v5, v6, v7, v8] 6 = true := by show decide (v5.category = 1) = true; exact decide_eq_true h
  show zres (zst zint 6 2 181 13 [v0, v1, v2, v3, v4, v5, v6, v7, v8] (.int x :: st) w) = _
  unfold zst
  dsimp only
  rw [if_pos ⟨rfl, Nat.le_of_ble_eq_true rfl, hz⟩]
  rfl
theorem e181_15 (v0 v1 v2 v3 v4 v5 v7 v8 : Value) (x : Int32) (st : List Value) (w : zH) : zrun none (181, 15, [v0, v1, v2, v3, v4, v5, .int x, v7, v8], st, w) = zrun none (181, 17, [v0, v1, v2, v3, v4, v5, .int x, v7, v8], (.int x :: st), w) := (zE_ (i := .iload 6) (by decide +kernel) _ _ _).trans rfl
theorem e181_17 (v1 v2 v3 v4 v5 v6 v7 v8 : Value) (x : Nat) (st : List Value) (w : zH) : zrun none (181, 17, [.ref x, v1, v2, v3, v4, v5, v6, v7, v8], st, w) = zrun none (181, 18, [.ref x, v1, v2, v3, v4, v5, v6, v7, v8], (.ref x :: st), w) := (zE_ (i := .aload_n 0) (by decide +kernel) _ _ _).trans rfl
theorem e181_18 (ls : List Value) (a : Nat) (st : List Value) (w : zH) : zrun none (181, 18, ls, (.ref a :: st), w) = zo (zf w a 1217) (fun x => zrun none (181, 21, ls, (x :: st), w)) := (zE_ (i := .getfield 1217) (by decide +kernel) _ _ _).trans zq_getf
theorem e181_21 (ls : List Value) (a b : Int32) (st : List Value) (w : zH) : zrun none (181, 21, ls, (.int b :: .int a :: st), w) = if b ≤ a then zrun none (181, 172, ls, st, w) else zrun none (181, 24, ls, st, w) := (zE_ (i := .if_icmp .ge 151) (by decide +kernel) _ _ _).trans (zq_ic_ge rfl rfl)
theorem e181_24 (ls st : List Value) (w : zH) : zrun none (181, 24, ls, st, w) = zrun none (181, 26, ls, (.int 6 :: st), w) := (zE_ (i := .bipush 6) (by decide +kernel) _ _ _).trans rfl
theorem e181_26 (v0 v1 v2 v3 v4 v5 v7 v8 : Value) (x : Int32) (st : List Value) (w : zH) : zrun none (181, 26, [v0, v1, v2, v3, v4, v5, .int x, v7, v8], st, w) = zrun none (181, 28, [v0, v1, v2, v3, v4, v5, .int x, v7, v8], (.int x :: st), w) := (zE_ (i := .iload 6) (by decide +kernel) _ _ _).trans rfl
theorem e181_28 (ls : List Value) (a b : Int32) (st : List Value) (w : zH) : zrun none (181, 28, ls, (.int b :: .int a :: st), w) = zrun none (181, 29, ls, (.int (a * b) :: st), w) := (zE_ (i := .imul) (by decide +kernel) _ _ _).trans rfl
theorem e181_29 (v0 v1 v2 v3 v4 v5 v6 v7 v8 : Value) (x : Int32) (st : List Value) (w : zH) (h : v6.category = 1) : zrun none (181, 29, [v0, v1, v2, v3, v4, v5, v6, v7, v8], (.int x :: st), w) = zrun none (181, 31, [v0, v1, v2, v3, v4, v5, v6, .int x, v8], st, w) := by
  refine (zE_ (i := .istore 7) (by decide +kernel) _ _ _).trans ?_
  have hz : zfree [v0, v1, v2, v3, v4, v5, v6, v7, v8] 7 = true := by show decide (v6.category = 1) = true; exact decide_eq_true h
  show zres (zst zint 7 2 181 29 [v0, v1, v2, v3, v4, v5, v6, v7, v8] (.int x :: st) w) = _
  unfold zst
  dsimp only
  rw [if_pos ⟨rfl, Nat.le_of_ble_eq_true rfl, hz⟩]
  rfl
theorem e181_31 (v1 v2 v3 v4 v5 v6 v7 v8 : Value) (x : Nat) (st : List Value) (w : zH) : zrun none (181, 31, [.ref x, v1, v2, v3, v4, v5, v6, v7, v8], st, w) = zrun none (181, 32, [.ref x, v1, v2, v3, v4, v5, v6, v7, v8], (.ref x :: st), w) := (zE_ (i := .aload_n 0) (by decide +kernel) _ _ _).trans rfl
theorem e181_32 (ls : List Value) (a : Nat) (st : List Value) (w : zH) : zrun none (181, 32, ls, (.ref a :: st), w) = zo (zf w a 1218) (fun x => zrun none (181, 35, ls, (x :: st), w)) := (zE_ (i := .getfield 1218) (by decide +kernel) _ _ _).trans zq_getf
theorem e181_35 (v0 v1 v2 v3 v4 v5 v6 v8 : Value) (x : Int32) (st : List Value) (w : zH) : zrun none (181, 35, [v0, v1, v2, v3, v4, v5, v6, .int x, v8], st, w) = zrun none (181, 37, [v0, v1, v2, v3, v4, v5, v6, .int x, v8], (.int x :: st), w) := (zE_ (i := .iload 7) (by decide +kernel) _ _ _).trans rfl
theorem e181_37 (ls : List Value) (j : Int32) (a : Nat) (st : List Value) (w : zH) : zrun none (181, 37, ls, (.int j :: .ref a :: st), w) = zoi (zai w a 100 j) (fun x => zrun none (181, 38, ls, (.int x :: st), w)) := (zE_ (i := .iaload) (by decide +kernel) _ _ _).trans zq_iald
theorem e181_38 (v0 v1 v2 v4 v5 v6 v7 v8 : Value) (x : Int32) (st : List Value) (w : zH) : zrun none (181, 38, [v0, v1, v2, .int x, v4, v5, v6, v7, v8], st, w) = zrun none (181, 39, [v0, v1, v2, .int x, v4, v5, v6, v7, v8], (.int x :: st), w) := (zE_ (i := .iload_n 3) (by decide +kernel) _ _ _).trans rfl
theorem e181_39 (ls : List Value) (a b : Int32) (st : List Value) (w : zH) : zrun none (181, 39, ls, (.int b :: .int a :: st), w) = if b < a then zrun none (181, 122, ls, st, w) else zrun none (181, 42, ls, st, w) := (zE_ (i := .if_icmp .gt 83) (by decide +kernel) _ _ _).trans (zq_ic_gt rfl rfl)
theorem e181_42 (v1 v2 v3 v4 v5 v6 v7 v8 : Value) (x : Nat) (st : List Value) (w : zH) : zrun none (181, 42, [.ref x, v1, v2, v3, v4, v5, v6, v7, v8], st, w) = zrun none (181, 43, [.ref x, v1, v2, v3, v4, v5, v6, v7, v8], (.ref x :: st), w) := (zE_ (i := .aload_n 0) (by decide +kernel) _ _ _).trans rfl
theorem e181_43 (ls : List Value) (a : Nat) (st : List Value) (w : zH) : zrun none (181, 43, ls, (.ref a :: st), w) = zo (zf w a 1218) (fun x => zrun none (181, 46, ls, (x :: st), w)) := (zE_ (i := .getfield 1218) (by decide +kernel) _ _ _).trans zq_getf
theorem e181_46 (v0 v1 v2 v3 v4 v5 v6 v8 : Value) (x : Int32) (st : List Value) (w : zH) : zrun none (181, 46, [v0, v1, v2, v3, v4, v5, v6, .int x, v8], st, w) = zrun none (181, 48, [v0, v1, v2, v3, v4, v5, v6, .int x, v8], (.int x :: st), w) := (zE_ (i := .iload 7) (by decide +kernel) _ _ _).trans rfl
theorem e181_48 (ls st : List Value) (w : zH) : zrun none (181, 48, ls, st, w) = zrun none (181, 49, ls, (.int 1 :: st), w) := (zE_ (i := .iconst 1) (by decide +kernel) _ _ _).trans rfl
theorem e181_49 (ls : List Value) (a b : Int32) (st : List Value) (w : zH) : zrun none (181, 49, ls, (.int b :: .int a :: st), w) = zrun none (181, 50, ls, (.int (a + b) :: st), w) := (zE_ (i := .iadd) (by decide +kernel) _ _ _).trans rfl
theorem e181_50 (ls : List Value) (j : Int32) (a : Nat) (st : List Value) (w : zH) : zrun none (181, 50, ls, (.int j :: .ref a :: st), w) = zoi (zai w a 100 j) (fun x => zrun none (181, 51, ls, (.int x :: st), w)) := (zE_ (i := .iaload) (by decide +kernel) _ _ _).trans zq_iald
theorem e181_51 (v0 v1 v2 v3 v5 v6 v7 v8 : Value) (x : Int32) (st : List Value) (w : zH) : zrun none (181, 51, [v0, v1, v2, v3, .int x, v5, v6, v7, v8], st, w) = zrun none (181, 53, [v0, v1, v2, v3, .int x, v5, v6, v7, v8], (.int x :: st), w) := (zE_ (i := .iload 4) (by decide +kernel) _ _ _).trans rfl
theorem e181_53 (ls : List Value) (a b : Int32) (st : List Value) (w : zH) : zrun none (181, 53, ls, (.int b :: .int a :: st), w) = if a = b then zrun none (181, 56, ls, st, w) else zrun none (181, 122, ls, st, w) := (zE_ (i := .if_icmp .ne 69) (by decide +kernel) _ _ _).trans (zq_ic_ne rfl rfl)
theorem e181_56 (v1 v2 v3 v4 v5 v6 v7 v8 : Value) (x : Nat) (st : List Value) (w : zH) : zrun none (181, 56, [.ref x, v1, v2, v3, v4, v5, v6, v7, v8], st, w) = zrun none (181, 57, [.ref x, v1, v2, v3, v4, v5, v6, v7, v8], (.ref x :: st), w) := (zE_ (i := .aload_n 0) (by decide +kernel) _ _ _).trans rfl
theorem e181_57 (ls : List Value) (a : Nat) (st : List Value) (w : zH) : zrun none (181, 57, ls, (.ref a :: st), w) = zo (zf w a 1218) (fun x => zrun none (181, 60, ls, (x :: st), w)) := (zE_ (i := .getfield 1218) (by decide +kernel) _ _ _).trans zq_getf
theorem e181_60 (v0 v1 v2 v3 v4 v5 v6 v8 : Value) (x : Int32) (st : List Value) (w : zH) : zrun none (181, 60, [v0, v1, v2, v3, v4, v5, v6, .int x, v8], st, w) = zrun none (181, 62, [v0, v1, v2, v3, v4, v5, v6, .int x, v8], (.int x :: st), w) := (zE_ (i := .iload 7) (by decide +kernel) _ _ _).trans rfl
theorem e181_62 (ls st : List Value) (w : zH) : zrun none (181, 62, ls, st, w) = zrun none (181, 63, ls, (.int 2 :: st), w) := (zE_ (i := .iconst 2) (by decide +kernel) _ _ _).trans rfl
theorem e181_63 (ls : List Value) (a b : Int32) (st : List Value) (w : zH) : zrun none (181, 63, ls, (.int b :: .int a :: st), w) = zrun none (181, 64, ls, (.int (a + b) :: st), w) := (zE_ (i := .iadd) (by decide +kernel) _ _ _).trans rfl
theorem e181_64 (ls : List Value) (j : Int32) (a : Nat) (st : List Value) (w : zH) : zrun none (181, 64, ls, (.int j :: .ref a :: st), w) = zoi (zai w a 100 j) (fun x => zrun none (181, 65, ls, (.int x :: st), w)) := (zE_ (i := .iaload) (by decide +kernel) _ _ _).trans zq_iald
theorem e181_65 (ls st : List Value) (w : zH) : zrun none (181, 65, ls, st, w) = zrun none (181, 66, ls, (.int 5 :: st), w) := (zE_ (i := .iconst 5) (by decide +kernel) _ _ _).trans rfl
theorem e181_66 (ls : List Value) (a b : Int32) (st : List Value) (w : zH) : zrun none (181, 66, ls, (.int b :: .int a :: st), w) = if a = b then zrun none (181, 87, ls, st, w) else zrun none (181, 69, ls, st, w) := (zE_ (i := .if_icmp .eq 21) (by decide +kernel) _ _ _).trans (zq_ic_eq rfl rfl)
theorem e181_69 (v1 v2 v3 v4 v5 v6 v7 v8 : Value) (x : Nat) (st : List Value) (w : zH) : zrun none (181, 69, [.ref x, v1, v2, v3, v4, v5, v6, v7, v8], st, w) = zrun none (181, 70, [.ref x, v1, v2, v3, v4, v5, v6, v7, v8], (.ref x :: st), w) := (zE_ (i := .aload_n 0) (by decide +kernel) _ _ _).trans rfl
theorem e181_70 (ls : List Value) (a : Nat) (st : List Value) (w : zH) : zrun none (181, 70, ls, (.ref a :: st), w) = zo (zf w a 1218) (fun x => zrun none (181, 73, ls, (x :: st), w)) := (zE_ (i := .getfield 1218) (by decide +kernel) _ _ _).trans zq_getf
theorem e181_73 (v0 v1 v2 v3 v4 v5 v6 v8 : Value) (x : Int32) (st : List Value) (w : zH) : zrun none (181, 73, [v0, v1, v2, v3, v4, v5, v6, .int x, v8], st, w) = zrun none (181, 75, [v0, v1, v2, v3, v4, v5, v6, .int x, v8], (.int x :: st), w) := (zE_ (i := .iload 7) (by decide +kernel) _ _ _).trans rfl
theorem e181_75 (ls st : List Value) (w : zH) : zrun none (181, 75, ls, st, w) = zrun none (181, 76, ls, (.int 2 :: st), w) := (zE_ (i := .iconst 2) (by decide +kernel) _ _ _).trans rfl
theorem e181_76 (ls : List Value) (a b : Int32) (st : List Value) (w : zH) : zrun none (181, 76, ls, (.int b :: .int a :: st), w) = zrun none (181, 77, ls, (.int (a + b) :: st), w) := (zE_ (i := .iadd) (by decide +kernel) _ _ _).trans rfl
theorem e181_77 (ls : List Value) (j : Int32) (a : Nat) (st : List Value) (w : zH) : zrun none (181, 77, ls, (.int j :: .ref a :: st), w) = zoi (zai w a 100 j) (fun x => zrun none (181, 78, ls, (.int x :: st), w)) := (zE_ (i := .iaload) (by decide +kernel) _ _ _).trans zq_iald
theorem e181_78 (v1 v2 v3 v4 v5 v6 v7 v8 : Value) (x : Nat) (st : List Value) (w : zH) : zrun none (181, 78, [.ref x, v1, v2, v3, v4, v5, v6, v7, v8], st, w) = zrun none (181, 79, [.ref x, v1, v2, v3, v4, v5, v6, v7, v8], (.ref x :: st), w) := (zE_ (i := .aload_n 0) (by decide +kernel) _ _ _).trans rfl
theorem e181_79 (ls : List Value) (a : Nat) (st : List Value) (w : zH) : zrun none (181, 79, ls, (.ref a :: st), w) = zo (zf w a 1213) (fun x => zrun none (181, 82, ls, (x :: st), w)) := (zE_ (i := .getfield 1213) (by decide +kernel) _ _ _).trans zq_getf
theorem e181_82 (v0 v2 v3 v4 v5 v6 v7 v8 : Value) (x : Int32) (st : List Value) (w : zH) : zrun none (181, 82, [v0, .int x, v2, v3, v4, v5, v6, v7, v8], st, w) = zrun none (181, 83, [v0, .int x, v2, v3, v4, v5, v6, v7, v8], (.int x :: st), w) := (zE_ (i := .iload_n 1) (by decide +kernel) _ _ _).trans rfl
theorem e181_83 (ls : List Value) (j : Int32) (a : Nat) (st : List Value) (w : zH) : zrun none (181, 83, ls, (.int j :: .ref a :: st), w) = zoi (zai w a 100 j) (fun x => zrun none (181, 84, ls, (.int x :: st), w)) := (zE_ (i := .iaload) (by decide +kernel) _ _ _).trans zq_iald
theorem e181_84 (ls : List Value) (a b : Int32) (st : List Value) (w : zH) : zrun none (181, 84, ls, (.int b :: .int a :: st), w) = if a = b then zrun none (181, 87, ls, st, w) else zrun none (181, 122, ls, st, w) := (zE_ (i := .if_icmp .ne 38) (by decide +kernel) _ _ _).trans (zq_ic_ne rfl rfl)
theorem e181_87 (v1 v2 v3 v4 v5 v6 v7 v8 : Value) (x : Nat) (st : List Value) (w : zH) : zrun none (181, 87, [.ref x, v1, v2, v3, v4, v5, v6, v7, v8], st, w) = zrun none (181, 88, [.ref x, v1, v2, v3, v4, v5, v6, v7, v8], (.ref x :: st), w) := (zE_ (i := .aload_n 0) (by decide +kernel) _ _ _).trans rfl
theorem e181_88 (ls : List Value) (a : Nat) (st : List Value) (w : zH) : zrun none (181, 88, ls, (.ref a :: st), w) = zo (zf w a 1218) (fun x => zrun none (181, 91, ls, (x :: st), w)) := (zE_ (i := .getfield 1218) (by decide +kernel) _ _ _).trans zq_getf
theorem e181_91 (v0 v1 v2 v3 v4 v5 v6 v8 : Value) (x : Int32) (st : List Value) (w : zH) : zrun none (181, 91, [v0, v1, v2, v3, v4, v5, v6, .int x, v8], st, w) = zrun none (181, 93, [v0, v1, v2, v3, v4, v5, v6, .int x, v8], (.int x :: st), w) := (zE_ (i := .iload 7) (by decide +kernel) _ _ _).trans rfl
theorem e181_93 (ls st : List Value) (w : zH) : zrun none (181, 93, ls, st, w) = zrun none (181, 94, ls, (.int 3 :: st), w) := (zE_ (i := .iconst 3) (by decide +kernel) _ _ _).trans rfl
theorem e181_94 (ls : List Value) (a b : Int32) (st : List Value) (w : zH) : zrun none (181, 94, ls, (.int b :: .int a :: st), w) = zrun none (181, 95, ls, (.int (a + b) :: st), w) := (zE_ (i := .iadd) (by decide +kernel) _ _ _).trans rfl
theorem e181_95 (ls : List Value) (j : Int32) (a : Nat) (st : List Value) (w : zH) : zrun none (181, 95, ls, (.int j :: .ref a :: st), w) = zoi (zai w a 100 j) (fun x => zrun none (181, 96, ls, (.int x :: st), w)) := (zE_ (i := .iaload) (by decide +kernel) _ _ _).trans zq_iald
theorem e181_96 (v0 v1 v3 v4 v5 v6 v7 v8 : Value) (x : Int32) (st : List Value) (w : zH) : zrun none (181, 96, [v0, v1, .int x, v3, v4, v5, v6, v7, v8], st, w) = zrun none (181, 97, [v0, v1, .int x, v3, v4, v5, v6, v7, v8], (.int x :: st), w) := (zE_ (i := .iload_n 2) (by decide +kernel) _ _ _).trans rfl
theorem e181_97 (ls : List Value) (a b : Int32) (st : List Value) (w : zH) : zrun none (181, 97, ls, (.int b :: .int a :: st), w) = if a = b then zrun none (181, 100, ls, st, w) else zrun none (181, 122, ls, st, w) := (zE_ (i := .if_icmp .ne 25) (by decide +kernel) _ _ _).trans (zq_ic_ne rfl rfl)
theorem e181_100 (v1 v2 v3 v4 v5 v6 v7 v8 : Value) (x : Nat) (st : List Value) (w : zH) : zrun none (181, 100, [.ref x, v1, v2, v3, v4, v5, v6, v7, v8], st, w) = zrun none (181, 101, [.ref x, v1, v2, v3, v4, v5, v6, v7, v8], (.ref x :: st), w) := (zE_ (i := .aload_n 0) (by decide +kernel) _ _ _).trans rfl
theorem e181_101 (v0 v2 v3 v4 v5 v6 v7 v8 : Value) (x : Int32) (st : List Value) (w : zH) : zrun none (181, 101, [v0, .int x, v2, v3, v4, v5, v6, v7, v8], st, w) = zrun none (181, 102, [v0, .int x, v2, v3, v4, v5, v6, v7, v8], (.int x :: st), w) := (zE_ (i := .iload_n 1) (by decide +kernel) _ _ _).trans rfl
theorem e181_102 (v0 v1 v2 v4 v5 v6 v7 v8 : Value) (x : Int32) (st : List Value) (w : zH) : zrun none (181, 102, [v0, v1, v2, .int x, v4, v5, v6, v7, v8], st, w) = zrun none (181, 103, [v0, v1, v2, .int x, v4, v5, v6, v7, v8], (.int x :: st), w) := (zE_ (i := .iload_n 3) (by decide +kernel) _ _ _).trans rfl
theorem e181_103 (ls : List Value) (a : Nat) (x0 : Int32) (x1 : Int32) (st : List Value) (w : zH) (hr : zcat st ≤ 8) : zrun none (181, 103, ls, (.int x1 :: .int x0 :: .ref a :: st), w) = zgd (zis w a 12) (zcl (zrun none (163, 0, [.ref a, .int x0, .int x1], [], w)) (fun r => zrun none (181, 106, ls, r.1.toList ++ st, r.2))) := by
  refine (zE_ (i := .invokevirtual 163) (by decide +kernel) _ _ _).trans ?_
  show zres (zinv none 163 181 103 ls (.int x1 :: .int x0 :: .ref a :: st) w) = _
  unfold zinv
  show zres (if zrc none 163 w (.ref a) = true then zcall 163 [.ref a, .int x0, .int x1] st 181 103 ls w else none) = _
  by_cases hc : zis w a 12
  · rw [if_pos (zrc_is hc (by decide +kernel)), zgd_pos hc]
    exact zq_call hr (Nat.le_of_ble_eq_true rfl) rfl rfl
  · rw [zgd_neg hc, if_neg (fun q => hc (zrc_of q (by decide +kernel)))]
    rfl
theorem e181_106 (v1 v2 v3 v4 v5 v6 v7 v8 : Value) (x : Nat) (st : List Value) (w : zH) : zrun none (181, 106, [.ref x, v1, v2, v3, v4, v5, v6, v7, v8], st, w) = zrun none (181, 107, [.ref x, v1, v2, v3, v4, v5, v6, v7, v8], (.ref x :: st), w) := (zE_ (i := .aload_n 0) (by decide +kernel) _ _ _).trans rfl
theorem e181_107 (ls : List Value) (a : Nat) (st : List Value) (w : zH) : zrun none (181, 107, ls, (.ref a :: st), w) = zo (zf w a 1218) (fun x => zrun none (181, 110, ls, (x :: st), w)) := (zE_ (i := .getfield 1218) (by decide +kernel) _ _ _).trans zq_getf
theorem e181_110 (v0 v1 v2 v3 v4 v5 v6 v8 : Value) (x : Int32) (st : List Value) (w : zH) : zrun none (181, 110, [v0, v1, v2, v3, v4, v5, v6, .int x, v8], st, w) = zrun none (181, 112, [v0, v1, v2, v3, v4, v5, v6, .int x, v8], (.int x :: st), w) := (zE_ (i := .iload 7) (by decide +kernel) _ _ _).trans rfl
theorem e181_112 (ls st : List Value) (w : zH) : zrun none (181, 112, ls, st, w) = zrun none (181, 113, ls, (.int 4 :: st), w) := (zE_ (i := .iconst 4) (by decide +kernel) _ _ _).trans rfl
theorem e181_113 (ls : List Value) (a b : Int32) (st : List Value) (w : zH) : zrun none (181, 113, ls, (.int b :: .int a :: st), w) = zrun none (181, 114, ls, (.int (a + b) :: st), w) := (zE_ (i := .iadd) (by decide +kernel) _ _ _).trans rfl
theorem e181_114 (ls : List Value) (j : Int32) (a : Nat) (st : List Value) (w : zH) : zrun none (181, 114, ls, (.int j :: .ref a :: st), w) = zoi (zai w a 100 j) (fun x => zrun none (181, 115, ls, (.int x :: st), w)) := (zE_ (i := .iaload) (by decide +kernel) _ _ _).trans zq_iald
theorem e181_115 (ls : List Value) (a b : Int32) (st : List Value) (w : zH) : zrun none (181, 115, ls, (.int b :: .int a :: st), w) = if a < b then zrun none (181, 122, ls, st, w) else zrun none (181, 118, ls, st, w) := (zE_ (i := .if_icmp .lt 7) (by decide +kernel) _ _ _).trans (zq_ic_lt rfl rfl)
theorem e181_118 (ls st : List Value) (w : zH) : zrun none (181, 118, ls, st, w) = zrun none (181, 119, ls, (.int 1 :: st), w) := (zE_ (i := .iconst 1) (by decide +kernel) _ _ _).trans rfl
theorem e181_119 (ls st : List Value) (w : zH) : zrun none (181, 119, ls, st, w) = zrun none (181, 123, ls, st, w) := (zE_ (i := .goto 4) (by decide +kernel) _ _ _).trans rfl
theorem e181_122 (ls st : List Value) (w : zH) : zrun none (181, 122, ls, st, w) = zrun none (181, 123, ls, (.int 0 :: st), w) := (zE_ (i := .iconst 0) (by decide +kernel) _ _ _).trans rfl
theorem e181_123 (v0 v1 v2 v3 v4 v5 v6 v7 v8 : Value) (x : Int32) (st : List Value) (w : zH) (h : v7.category = 1) : zrun none (181, 123, [v0, v1, v2, v3, v4, v5, v6, v7, v8], (.int x :: st), w) = zrun none (181, 125, [v0, v1, v2, v3, v4, v5, v6, v7, .int x], st, w) := by
  refine (zE_ (i := .istore 8) (by decide +kernel) _ _ _).trans ?_
  have hz : zfree [v0, v1, v2, v3, v4, v5, v6, v7, v8] 8 = true := by show decide (v7.category = 1) = true; exact decide_eq_true h
  show zres (zst zint 8 2 181 123 [v0, v1, v2, v3, v4, v5, v6, v7, v8] (.int x :: st) w) = _
  unfold zst
  dsimp only
  rw [if_pos ⟨rfl, Nat.le_of_ble_eq_true rfl, hz⟩]
  rfl
theorem e181_125 (v0 v1 v2 v3 v4 v5 v6 v7 : Value) (x : Int32) (st : List Value) (w : zH) : zrun none (181, 125, [v0, v1, v2, v3, v4, v5, v6, v7, .int x], st, w) = zrun none (181, 127, [v0, v1, v2, v3, v4, v5, v6, v7, .int x], (.int x :: st), w) := (zE_ (i := .iload 8) (by decide +kernel) _ _ _).trans rfl
theorem e181_127 (ls : List Value) (a : Int32) (st : List Value) (w : zH) : zrun none (181, 127, ls, (.int a :: st), w) = if a = 0 then zrun none (181, 162, ls, st, w) else zrun none (181, 130, ls, st, w) := (zE_ (i := .ifCond .eq 35) (by decide +kernel) _ _ _).trans (zq_if_eq rfl rfl)
theorem e181_130 (v0 v1 v2 v3 v4 v6 v7 v8 : Value) (x : Int32) (st : List Value) (w : zH) : zrun none (181, 130, [v0, v1, v2, v3, v4, .int x, v6, v7, v8], st, w) = zrun none (181, 132, [v0, v1, v2, v3, v4, .int x, v6, v7, v8], (.int x :: st), w) := (zE_ (i := .iload 5) (by decide +kernel) _ _ _).trans rfl
theorem e181_132 (ls st : List Value) (w : zH) : zrun none (181, 132, ls, st, w) = zrun none (181, 134, ls, (.int (-1000000) :: st), w) := (zE_ (i := .bipush (-1000000)) (by decide +kernel) _ _ _).trans rfl
theorem e181_134 (ls : List Value) (a b : Int32) (st : List Value) (w : zH) : zrun none (181, 134, ls, (.int b :: .int a :: st), w) = if a = b then zrun none (181, 157, ls, st, w) else zrun none (181, 137, ls, st, w) := (zE_ (i := .if_icmp .eq 23) (by decide +kernel) _ _ _).trans (zq_ic_eq rfl rfl)
theorem e181_137 (v1 v2 v3 v4 v5 v6 v7 v8 : Value) (x : Nat) (st : List Value) (w : zH) : zrun none (181, 137, [.ref x, v1, v2, v3, v4, v5, v6, v7, v8], st, w) = zrun none (181, 138, [.ref x, v1, v2, v3, v4, v5, v6, v7, v8], (.ref x :: st), w) := (zE_ (i := .aload_n 0) (by decide +kernel) _ _ _).trans rfl
theorem e181_138 (ls : List Value) (a : Nat) (st : List Value) (w : zH) : zrun none (181, 138, ls, (.ref a :: st), w) = zo (zf w a 1218) (fun x => zrun none (181, 141, ls, (x :: st), w)) := (zE_ (i := .getfield 1218) (by decide +kernel) _ _ _).trans zq_getf
theorem e181_141 (v0 v1 v2 v3 v4 v5 v6 v8 : Value) (x : Int32) (st : List Value) (w : zH) : zrun none (181, 141, [v0, v1, v2, v3, v4, v5, v6, .int x, v8], st, w) = zrun none (181, 143, [v0, v1, v2, v3, v4, v5, v6, .int x, v8], (.int x :: st), w) := (zE_ (i := .iload 7) (by decide +kernel) _ _ _).trans rfl
theorem e181_143 (ls : List Value) (j : Int32) (a : Nat) (st : List Value) (w : zH) : zrun none (181, 143, ls, (.int j :: .ref a :: st), w) = zoi (zai w a 100 j) (fun x => zrun none (181, 144, ls, (.int x :: st), w)) := (zE_ (i := .iaload) (by decide +kernel) _ _ _).trans zq_iald
theorem e181_144 (v1 v2 v3 v4 v5 v6 v7 v8 : Value) (x : Nat) (st : List Value) (w : zH) : zrun none (181, 144, [.ref x, v1, v2, v3, v4, v5, v6, v7, v8], st, w) = zrun none (181, 145, [.ref x, v1, v2, v3, v4, v5, v6, v7, v8], (.ref x :: st), w) := (zE_ (i := .aload_n 0) (by decide +kernel) _ _ _).trans rfl
theorem e181_145 (ls : List Value) (a : Nat) (st : List Value) (w : zH) : zrun none (181, 145, ls, (.ref a :: st), w) = zo (zf w a 1218) (fun x => zrun none (181, 148, ls, (x :: st), w)) := (zE_ (i := .getfield 1218) (by decide +kernel) _ _ _).trans zq_getf
theorem e181_148 (ls st : List Value) (w : zH) : zrun none (181, 148, ls, st, w) = zrun none (181, 150, ls, (.int 6 :: st), w) := (zE_ (i := .bipush 6) (by decide +kernel) _ _ _).trans rfl
theorem e181_150 (v0 v1 v2 v3 v4 v6 v7 v8 : Value) (x : Int32) (st : List Value) (w : zH) : zrun none (181, 150, [v0, v1, v2, v3, v4, .int x, v6, v7, v8], st, w) = zrun none (181, 152, [v0, v1, v2, v3, v4, .int x, v6, v7, v8], (.int x :: st), w) := (zE_ (i := .iload 5) (by decide +kernel) _ _ _).trans rfl
theorem e181_152 (ls : List Value) (a b : Int32) (st : List Value) (w : zH) : zrun none (181, 152, ls, (.int b :: .int a :: st), w) = zrun none (181, 153, ls, (.int (a * b) :: st), w) := (zE_ (i := .imul) (by decide +kernel) _ _ _).trans rfl
theorem e181_153 (ls : List Value) (j : Int32) (a : Nat) (st : List Value) (w : zH) : zrun none (181, 153, ls, (.int j :: .ref a :: st), w) = zoi (zai w a 100 j) (fun x => zrun none (181, 154, ls, (.int x :: st), w)) := (zE_ (i := .iaload) (by decide +kernel) _ _ _).trans zq_iald
theorem e181_154 (ls : List Value) (a b : Int32) (st : List Value) (w : zH) : zrun none (181, 154, ls, (.int b :: .int a :: st), w) = if a < b then zrun none (181, 162, ls, st, w) else zrun none (181, 157, ls, st, w) := (zE_ (i := .if_icmp .lt 8) (by decide +kernel) _ _ _).trans (zq_ic_lt rfl rfl)
theorem e181_157 (v0 v1 v2 v3 v4 v5 v7 v8 : Value) (x : Int32) (st : List Value) (w : zH) : zrun none (181, 157, [v0, v1, v2, v3, v4, v5, .int x, v7, v8], st, w) = zrun none (181, 159, [v0, v1, v2, v3, v4, v5, .int x, v7, v8], (.int x :: st), w) := (zE_ (i := .iload 6) (by decide +kernel) _ _ _).trans rfl
theorem e181_159 (ls st : List Value) (w : zH) : zrun none (181, 159, ls, st, w) = zrun none (181, 164, ls, st, w) := (zE_ (i := .goto 5) (by decide +kernel) _ _ _).trans rfl
theorem e181_162 (v0 v1 v2 v3 v4 v6 v7 v8 : Value) (x : Int32) (st : List Value) (w : zH) : zrun none (181, 162, [v0, v1, v2, v3, v4, .int x, v6, v7, v8], st, w) = zrun none (181, 164, [v0, v1, v2, v3, v4, .int x, v6, v7, v8], (.int x :: st), w) := (zE_ (i := .iload 5) (by decide +kernel) _ _ _).trans rfl
theorem e181_164 (v0 v1 v2 v3 v4 v5 v6 v7 v8 : Value) (x : Int32) (st : List Value) (w : zH) (h : v4.category = 1) : zrun none (181, 164, [v0, v1, v2, v3, v4, v5, v6, v7, v8], (.int x :: st), w) = zrun none (181, 166, [v0, v1, v2, v3, v4, .int x, v6, v7, v8], st, w) := by
  refine (zE_ (i := .istore 5) (by decide +kernel) _ _ _).trans ?_
  have hz : zfree [v0, v1, v2, v3, v4, v5, v6, v7, v8] 5 = true := by show decide (v4.category = 1) = true; exact decide_eq_true h
  show zres (zst zint 5 2 181 164 [v0, v1, v2, v3, v4, v5, v6, v7, v8] (.int x :: st) w) = _
  unfold zst
  dsimp only
  rw [if_pos ⟨rfl, Nat.le_of_ble_eq_true rfl, hz⟩]
  rfl
theorem e181_166 (v0 v1 v2 v3 v4 v5 v7 v8 : Value) (x : Int32) (st : List Value) (w : zH) : zrun none (181, 166, [v0, v1, v2, v3, v4, v5, .int x, v7, v8], st, w) = zrun none (181, 169, [v0, v1, v2, v3, v4, v5, .int (x + 1), v7, v8], st, w) := (zE_ (i := .iinc 6 1) (by decide +kernel) _ _ _).trans rfl
theorem e181_169 (ls st : List Value) (w : zH) : zrun none (181, 169, ls, st, w) = zrun none (181, 15, ls, st, w) := (zE_ (i := .goto (-154)) (by decide +kernel) _ _ _).trans rfl
theorem e181_172 (v0 v1 v2 v3 v4 v6 v7 v8 : Value) (x : Int32) (st : List Value) (w : zH) : zrun none (181, 172, [v0, v1, v2, v3, v4, .int x, v6, v7, v8], st, w) = zrun none (181, 174, [v0, v1, v2, v3, v4, .int x, v6, v7, v8], (.int x :: st), w) := (zE_ (i := .iload 5) (by decide +kernel) _ _ _).trans rfl
theorem e181_174 (ls : List Value) (x : Int32) (w : zH) : zrun none (181, 174, ls, [.int x], w) = some (some (.int x), w) := by
  refine (zE_ (i := .ireturn) (by decide +kernel) _ _ _).trans ?_
  show zres (if narrow .int (.int x) = .int x then _ else none) = _
  rw [if_pos (show narrow .int (.int x) = .int x from rfl)]
  rfl
theorem e182_0 (x : Int32) (st : List Value) (w : zH) : zrun none (182, 0, [.int x], st, w) = zrun none (182, 1, [.int x], (.int x :: st), w) := (zE_ (i := .iload_n 0) (by decide +kernel) _ _ _).trans rfl
theorem e182_1 (ls : List Value) (a : Int32) (st : List Value) (w : zH) : zrun none (182, 1, ls, (.int a :: st), w) = zrun none (182, 2, ls, (.long a.toInt64 :: st), w) := (zE_ (i := .i2l) (by decide +kernel) _ _ _).trans rfl
theorem e182_2 (ls st : List Value) (w : zH) : zrun none (182, 2, ls, st, w) = zrun none (182, 3, ls, (.long 0 :: st), w) := (zE_ (i := .lconst 0) (by decide +kernel) _ _ _).trans rfl
theorem e182_3 (ls st : List Value) (w : zH) : zrun none (182, 3, ls, st, w) = zrun none (182, 6, ls, (.long 3 :: st), w) := (zE_ (i := .ldc2_w 3) (by decide +kernel) _ _ _).trans rfl
theorem e182_6 (ls : List Value) (x0 : Int64) (x1 : Int64) (x2 : Int64) (st : List Value) (w : zH) (hr : zcat st ≤ 8) : zrun none (182, 6, ls, (.long x2 :: .long x1 :: .long x0 :: st), w) = zcl (zrun none (146, 0, [.long x0, zJ, .long x1, zJ, .long x2, zJ], [], w)) (fun r => zrun none (182, 9, ls, r.1.toList ++ st, r.2)) := by
  refine (zE_ (i := .invokestatic 146) (by decide +kernel) _ _ _).trans ?_
  show zres (if (99 : Nat) = 99 ∧ 3 ≤ ((.long x2 :: .long x1 :: .long x0 :: st) : List Value).length then zcall 146 [.long x0, .long x1, .long x2] st 182 6 ls w else none) = _
  rw [if_pos ⟨rfl, by simp⟩]
  exact zq_call hr (Nat.le_of_ble_eq_true rfl) rfl rfl
theorem e182_9 (ls : List Value) (x : Int32) (w : zH) (h : narrow .boolean (.int x) = .int x) : zrun none (182, 9, ls, [.int x], w) = some (some (.int x), w) := by
  refine (zE_ (i := .ireturn) (by decide +kernel) _ _ _).trans ?_
  show zres (if narrow .boolean (.int x) = .int x then _ else none) = _
  rw [if_pos h]
  rfl
theorem e183_0 (v1 v2 v3 v4 : Value) (x : Nat) (st : List Value) (w : zH) : zrun none (183, 0, [.ref x, v1, v2, v3, v4], st, w) = zrun none (183, 1, [.ref x, v1, v2, v3, v4], (.ref x :: st), w) := (zE_ (i := .aload_n 0) (by decide +kernel) _ _ _).trans rfl
theorem e183_1 (v0 v2 v3 v4 : Value) (x : Int32) (st : List Value) (w : zH) : zrun none (183, 1, [v0, .int x, v2, v3, v4], st, w) = zrun none (183, 2, [v0, .int x, v2, v3, v4], (.int x :: st), w) := (zE_ (i := .iload_n 1) (by decide +kernel) _ _ _).trans rfl
theorem e183_2 (v0 v1 v3 v4 : Value) (x : Int32) (st : List Value) (w : zH) : zrun none (183, 2, [v0, v1, .int x, v3, v4], st, w) = zrun none (183, 3, [v0, v1, .int x, v3, v4], (.int x :: st), w) := (zE_ (i := .iload_n 2) (by decide +kernel) _ _ _).trans rfl
theorem e183_3 (v0 v1 v2 v4 : Value) (x : Int32) (st : List Value) (w : zH) : zrun none (183, 3, [v0, v1, v2, .int x, v4], st, w) = zrun none (183, 4, [v0, v1, v2, .int x, v4], (.int x :: st), w) := (zE_ (i := .iload_n 3) (by decide +kernel) _ _ _).trans rfl
theorem e183_4 (ls : List Value) (a : Nat) (x0 : Int32) (x1 : Int32) (x2 : Int32) (st : List Value) (w : zH) (hr : zcat st ≤ 8) : zrun none (183, 4, ls, (.int x2 :: .int x1 :: .int x0 :: .ref a :: st), w) = zgd (zis w a 12) (zcl (zrun none (181, 0, [.ref a, .int x0, .int x1, .int x2, zJ, zJ, zJ, zJ, zJ], [], w)) (fun r => zrun none (183, 7, ls, r.1.toList ++ st, r.2))) := by
  refine (zE_ (i := .invokevirtual 181) (by decide +kernel) _ _ _).trans ?_
  show zres (zinv none 181 183 4 ls (.int x2 :: .int x1 :: .int x0 :: .ref a :: st) w) = _
  unfold zinv
  show zres (if zrc none 181 w (.ref a) = true then zcall 181 [.ref a, .int x0, .int x1, .int x2] st 183 4 ls w else none) = _
  by_cases hc : zis w a 12
  · rw [if_pos (zrc_is hc (by decide +kernel)), zgd_pos hc]
    exact zq_call hr (Nat.le_of_ble_eq_true rfl) rfl rfl
  · rw [zgd_neg hc, if_neg (fun q => hc (zrc_of q (by decide +kernel)))]
    rfl
theorem e183_7 (v0 v1 v2 v3 v4 : Value) (x : Int32) (st : List Value) (w : zH) (h : v3.category = 1) : zrun none (183, 7, [v0, v1, v2, v3, v4], (.int x :: st), w) = zrun none (183, 9, [v0, v1, v2, v3, .int x], st, w) := by
  refine (zE_ (i := .istore 4) (by decide +kernel) _ _ _).trans ?_
  have hz : zfree [v0, v1, v2, v3, v4] 4 = true := by show decide (v3.category = 1) = true; exact decide_eq_true h
  show zres (zst zint 4 2 183 7 [v0, v1, v2, v3, v4] (.int x :: st) w) = _
  unfold zst
  dsimp only
  rw [if_pos ⟨rfl, Nat.le_of_ble_eq_true rfl, hz⟩]
  rfl
theorem e183_9 (v0 v1 v2 v3 : Value) (x : Int32) (st : List Value) (w : zH) : zrun none (183, 9, [v0, v1, v2, v3, .int x], st, w) = zrun none (183, 11, [v0, v1, v2, v3, .int x], (.int x :: st), w) := (zE_ (i := .iload 4) (by decide +kernel) _ _ _).trans rfl
theorem e183_11 (ls st : List Value) (w : zH) : zrun none (183, 11, ls, st, w) = zrun none (183, 13, ls, (.int (-1000000) :: st), w) := (zE_ (i := .bipush (-1000000)) (by decide +kernel) _ _ _).trans rfl
theorem e183_13 (ls : List Value) (a b : Int32) (st : List Value) (w : zH) : zrun none (183, 13, ls, (.int b :: .int a :: st), w) = if a = b then zrun none (183, 36, ls, st, w) else zrun none (183, 16, ls, st, w) := (zE_ (i := .if_icmp .eq 23) (by decide +kernel) _ _ _).trans (zq_ic_eq rfl rfl)
theorem e183_16 (v1 v2 v3 v4 : Value) (x : Nat) (st : List Value) (w : zH) : zrun none (183, 16, [.ref x, v1, v2, v3, v4], st, w) = zrun none (183, 17, [.ref x, v1, v2, v3, v4], (.ref x :: st), w) := (zE_ (i := .aload_n 0) (by decide +kernel) _ _ _).trans rfl
theorem e183_17 (ls : List Value) (a : Nat) (st : List Value) (w : zH) : zrun none (183, 17, ls, (.ref a :: st), w) = zo (zf w a 1218) (fun x => zrun none (183, 20, ls, (x :: st), w)) := (zE_ (i := .getfield 1218) (by decide +kernel) _ _ _).trans zq_getf
theorem e183_20 (ls st : List Value) (w : zH) : zrun none (183, 20, ls, st, w) = zrun none (183, 22, ls, (.int 6 :: st), w) := (zE_ (i := .bipush 6) (by decide +kernel) _ _ _).trans rfl
theorem e183_22 (v0 v1 v2 v3 : Value) (x : Int32) (st : List Value) (w : zH) : zrun none (183, 22, [v0, v1, v2, v3, .int x], st, w) = zrun none (183, 24, [v0, v1, v2, v3, .int x], (.int x :: st), w) := (zE_ (i := .iload 4) (by decide +kernel) _ _ _).trans rfl
theorem e183_24 (ls : List Value) (a b : Int32) (st : List Value) (w : zH) : zrun none (183, 24, ls, (.int b :: .int a :: st), w) = zrun none (183, 25, ls, (.int (a * b) :: st), w) := (zE_ (i := .imul) (by decide +kernel) _ _ _).trans rfl
theorem e183_25 (ls st : List Value) (w : zH) : zrun none (183, 25, ls, st, w) = zrun none (183, 26, ls, (.int 5 :: st), w) := (zE_ (i := .iconst 5) (by decide +kernel) _ _ _).trans rfl
theorem e183_26 (ls : List Value) (a b : Int32) (st : List Value) (w : zH) : zrun none (183, 26, ls, (.int b :: .int a :: st), w) = zrun none (183, 27, ls, (.int (a + b) :: st), w) := (zE_ (i := .iadd) (by decide +kernel) _ _ _).trans rfl
theorem e183_27 (ls : List Value) (j : Int32) (a : Nat) (st : List Value) (w : zH) : zrun none (183, 27, ls, (.int j :: .ref a :: st), w) = zoi (zai w a 100 j) (fun x => zrun none (183, 28, ls, (.int x :: st), w)) := (zE_ (i := .iaload) (by decide +kernel) _ _ _).trans zq_iald
theorem e183_28 (ls st : List Value) (w : zH) : zrun none (183, 28, ls, st, w) = zrun none (183, 29, ls, (.int 1 :: st), w) := (zE_ (i := .iconst 1) (by decide +kernel) _ _ _).trans rfl
theorem e183_29 (ls : List Value) (a b : Int32) (st : List Value) (w : zH) : zrun none (183, 29, ls, (.int b :: .int a :: st), w) = if a = b then zrun none (183, 32, ls, st, w) else zrun none (183, 36, ls, st, w) := (zE_ (i := .if_icmp .ne 7) (by decide +kernel) _ _ _).trans (zq_ic_ne rfl rfl)
theorem e183_32 (ls st : List Value) (w : zH) : zrun none (183, 32, ls, st, w) = zrun none (183, 33, ls, (.int 1 :: st), w) := (zE_ (i := .iconst 1) (by decide +kernel) _ _ _).trans rfl
theorem e183_33 (ls st : List Value) (w : zH) : zrun none (183, 33, ls, st, w) = zrun none (183, 37, ls, st, w) := (zE_ (i := .goto 4) (by decide +kernel) _ _ _).trans rfl
theorem e183_36 (ls st : List Value) (w : zH) : zrun none (183, 36, ls, st, w) = zrun none (183, 37, ls, (.int 0 :: st), w) := (zE_ (i := .iconst 0) (by decide +kernel) _ _ _).trans rfl
theorem e183_37 (ls : List Value) (x : Int32) (w : zH) (h : narrow .boolean (.int x) = .int x) : zrun none (183, 37, ls, [.int x], w) = some (some (.int x), w) := by
  refine (zE_ (i := .ireturn) (by decide +kernel) _ _ _).trans ?_
  show zres (if narrow .boolean (.int x) = .int x then _ else none) = _
  rw [if_pos h]
  rfl
theorem e184_0 (v1 v2 v3 v4 : Value) (x : Nat) (st : List Value) (w : zH) : zrun none (184, 0, [.ref x, v1, v2, v3, v4], st, w) = zrun none (184, 1, [.ref x, v1, v2, v3, v4], (.ref x :: st), w) := (zE_ (i := .aload_n 0) (by decide +kernel) _ _ _).trans rfl
theorem e184_1 (ls st : List Value) (w : zH) : zrun none (184, 1, ls, st, w) = zrun none (184, 2, ls, (.int 0 :: st), w) := (zE_ (i := .iconst 0) (by decide +kernel) _ _ _).trans rfl
theorem e184_2 (ls : List Value) (x : Int32) (a : Nat) (st : List Value) (w : zH) : zrun none (184, 2, ls, (.int x :: .ref a :: st), w) = zgd (a < zX ∧ (zf w a 1200).isSome = true) (zrun none (184, 5, ls, st, zpf w a 1200 (.int x))) := by
  refine (zE_ (i := .putfield 1200) (by decide +kernel) _ _ _).trans ?_
  by_cases hg : a < zX ∧ (zf w a 1200).isSome = true
  · rw [zgd_pos hg]
    obtain ⟨ha, h⟩ := hg
    exact zq_putf ha h rfl rfl
  · rw [zgd_neg hg]
    exact zq_putf_no (fun h1 h2 h3 => hg ⟨h1, h2⟩)
theorem e184_5 (v1 v2 v3 v4 : Value) (x : Nat) (st : List Value) (w : zH) : zrun none (184, 5, [.ref x, v1, v2, v3, v4], st, w) = zrun none (184, 6, [.ref x, v1, v2, v3, v4], (.ref x :: st), w) := (zE_ (i := .aload_n 0) (by decide +kernel) _ _ _).trans rfl
theorem e184_6 (v0 v2 v3 v4 : Value) (x : Int32) (st : List Value) (w : zH) : zrun none (184, 6, [v0, .int x, v2, v3, v4], st, w) = zrun none (184, 7, [v0, .int x, v2, v3, v4], (.int x :: st), w) := (zE_ (i := .iload_n 1) (by decide +kernel) _ _ _).trans rfl
theorem e184_7 (ls : List Value) (a : Nat) (x0 : Int32) (st : List Value) (w : zH) (hr : zcat st ≤ 8) : zrun none (184, 7, ls, (.int x0 :: .ref a :: st), w) = zgd (zis w a 12) (zcl (zrun none (162, 0, [.ref a, .int x0], [], w)) (fun r => zrun none (184, 10, ls, r.1.toList ++ st, r.2))) := by
  refine (zE_ (i := .invokevirtual 162) (by decide +kernel) _ _ _).trans ?_
  show zres (zinv none 162 184 7 ls (.int x0 :: .ref a :: st) w) = _
  unfold zinv
  show zres (if zrc none 162 w (.ref a) = true then zcall 162 [.ref a, .int x0] st 184 7 ls w else none) = _
  by_cases hc : zis w a 12
  · rw [if_pos (zrc_is hc (by decide +kernel)), zgd_pos hc]
    exact zq_call hr (Nat.le_of_ble_eq_true rfl) rfl rfl
  · rw [zgd_neg hc, if_neg (fun q => hc (zrc_of q (by decide +kernel)))]
    rfl
theorem e184_10 (ls : List Value) (a : Int32) (st : List Value) (w : zH) : zrun none (184, 10, ls, (.int a :: st), w) = if a = 0 then zrun none (184, 38, ls, st, w) else zrun none (184, 13, ls, st, w) := (zE_ (i := .ifCond .eq 28) (by decide +kernel) _ _ _).trans (zq_if_eq rfl rfl)
theorem e184_13 (v0 v1 v3 v4 : Value) (x : Int32) (st : List Value) (w : zH) : zrun none (184, 13, [v0, v1, .int x, v3, v4], st, w) = zrun none (184, 14, [v0, v1, .int x, v3, v4], (.int x :: st), w) := (zE_ (i := .iload_n 2) (by decide +kernel) _ _ _).trans rfl
theorem e184_14 (ls : List Value) (x0 : Int32) (st : List Value) (w : zH) (hr : zcat st ≤ 8) : zrun none (184, 14, ls, (.int x0 :: st), w) = zcl (zrun none (182, 0, [.int x0], [], w)) (fun r => zrun none (184, 17, ls, r.1.toList ++ st, r.2)) := by
  refine (zE_ (i := .invokestatic 182) (by decide +kernel) _ _ _).trans ?_
  show zres (if (99 : Nat) = 99 ∧ 1 ≤ ((.int x0 :: st) : List Value).length then zcall 182 [.int x0] st 184 14 ls w else none) = _
  rw [if_pos ⟨rfl, by simp⟩]
  exact zq_call hr (Nat.le_of_ble_eq_true rfl) rfl rfl
theorem e184_17 (ls : List Value) (a : Int32) (st : List Value) (w : zH) : zrun none (184, 17, ls, (.int a :: st), w) = if a = 0 then zrun none (184, 38, ls, st, w) else zrun none (184, 20, ls, st, w) := (zE_ (i := .ifCond .eq 21) (by decide +kernel) _ _ _).trans (zq_if_eq rfl rfl)
theorem e184_20 (v0 v1 v2 v4 : Value) (x : Int32) (st : List Value) (w : zH) : zrun none (184, 20, [v0, v1, v2, .int x, v4], st, w) = zrun none (184, 21, [v0, v1, v2, .int x, v4], (.int x :: st), w) := (zE_ (i := .iload_n 3) (by decide +kernel) _ _ _).trans rfl
theorem e184_21 (ls : List Value) (x0 : Int32) (st : List Value) (w : zH) (hr : zcat st ≤ 8) : zrun none (184, 21, ls, (.int x0 :: st), w) = zcl (zrun none (155, 0, [.int x0], [], w)) (fun r => zrun none (184, 24, ls, r.1.toList ++ st, r.2)) := by
  refine (zE_ (i := .invokestatic 155) (by decide +kernel) _ _ _).trans ?_
  show zres (if (99 : Nat) = 99 ∧ 1 ≤ ((.int x0 :: st) : List Value).length then zcall 155 [.int x0] st 184 21 ls w else none) = _
  rw [if_pos ⟨rfl, by simp⟩]
  exact zq_call hr (Nat.le_of_ble_eq_true rfl) rfl rfl
theorem e184_24 (ls : List Value) (a : Int32) (st : List Value) (w : zH) : zrun none (184, 24, ls, (.int a :: st), w) = if a = 0 then zrun none (184, 38, ls, st, w) else zrun none (184, 27, ls, st, w) := (zE_ (i := .ifCond .eq 14) (by decide +kernel) _ _ _).trans (zq_if_eq rfl rfl)
theorem e184_27 (v0 v1 v2 v3 : Value) (x : Int32) (st : List Value) (w : zH) : zrun none (184, 27, [v0, v1, v2, v3, .int x], st, w) = zrun none (184, 29, [v0, v1, v2, v3, .int x], (.int x :: st), w) := (zE_ (i := .iload 4) (by decide +kernel) _ _ _).trans rfl
theorem e184_29 (ls : List Value) (a : Int32) (st : List Value) (w : zH) : zrun none (184, 29, ls, (.int a :: st), w) = zrun none (184, 30, ls, (.long a.toInt64 :: st), w) := (zE_ (i := .i2l) (by decide +kernel) _ _ _).trans rfl
theorem e184_30 (ls st : List Value) (w : zH) : zrun none (184, 30, ls, st, w) = zrun none (184, 31, ls, (.long 0 :: st), w) := (zE_ (i := .lconst 0) (by decide +kernel) _ _ _).trans rfl
theorem e184_31 (ls st : List Value) (w : zH) : zrun none (184, 31, ls, st, w) = zrun none (184, 32, ls, (.long 1 :: st), w) := (zE_ (i := .lconst 1) (by decide +kernel) _ _ _).trans rfl
theorem e184_32 (ls : List Value) (x0 : Int64) (x1 : Int64) (x2 : Int64) (st : List Value) (w : zH) (hr : zcat st ≤ 8) : zrun none (184, 32, ls, (.long x2 :: .long x1 :: .long x0 :: st), w) = zcl (zrun none (146, 0, [.long x0, zJ, .long x1, zJ, .long x2, zJ], [], w)) (fun r => zrun none (184, 35, ls, r.1.toList ++ st, r.2)) := by
  refine (zE_ (i := .invokestatic 146) (by decide +kernel) _ _ _).trans ?_
  show zres (if (99 : Nat) = 99 ∧ 3 ≤ ((.long x2 :: .long x1 :: .long x0 :: st) : List Value).length then zcall 146 [.long x0, .long x1, .long x2] st 184 32 ls w else none) = _
  rw [if_pos ⟨rfl, by simp⟩]
  exact zq_call hr (Nat.le_of_ble_eq_true rfl) rfl rfl
theorem e184_35 (ls : List Value) (a : Int32) (st : List Value) (w : zH) : zrun none (184, 35, ls, (.int a :: st), w) = if a = 0 then zrun none (184, 38, ls, st, w) else zrun none (184, 41, ls, st, w) := (zE_ (i := .ifCond .ne 6) (by decide +kernel) _ _ _).trans (zq_if_ne rfl rfl)
theorem e184_38 (ls st : List Value) (w : zH) : zrun none (184, 38, ls, st, w) = zrun none (184, 40, ls, (.int (-1000001) :: st), w) := (zE_ (i := .bipush (-1000001)) (by decide +kernel) _ _ _).trans rfl
theorem e184_40 (ls : List Value) (x : Int32) (w : zH) : zrun none (184, 40, ls, [.int x], w) = some (some (.int x), w) := by
  refine (zE_ (i := .ireturn) (by decide +kernel) _ _ _).trans ?_
  show zres (if narrow .int (.int x) = .int x then _ else none) = _
  rw [if_pos (show narrow .int (.int x) = .int x from rfl)]
  rfl
theorem e184_41 (v0 v1 v2 v3 : Value) (x : Int32) (st : List Value) (w : zH) : zrun none (184, 41, [v0, v1, v2, v3, .int x], st, w) = zrun none (184, 43, [v0, v1, v2, v3, .int x], (.int x :: st), w) := (zE_ (i := .iload 4) (by decide +kernel) _ _ _).trans rfl
theorem e184_43 (ls st : List Value) (w : zH) : zrun none (184, 43, ls, st, w) = zrun none (184, 44, ls, (.int 1 :: st), w) := (zE_ (i := .iconst 1) (by decide +kernel) _ _ _).trans rfl
theorem e184_44 (ls : List Value) (a b : Int32) (st : List Value) (w : zH) : zrun none (184, 44, ls, (.int b :: .int a :: st), w) = if a = b then zrun none (184, 47, ls, st, w) else zrun none (184, 57, ls, st, w) := (zE_ (i := .if_icmp .ne 13) (by decide +kernel) _ _ _).trans (zq_ic_ne rfl rfl)
theorem e184_47 (v1 v2 v3 v4 : Value) (x : Nat) (st : List Value) (w : zH) : zrun none (184, 47, [.ref x, v1, v2, v3, v4], st, w) = zrun none (184, 48, [.ref x, v1, v2, v3, v4], (.ref x :: st), w) := (zE_ (i := .aload_n 0) (by decide +kernel) _ _ _).trans rfl
theorem e184_48 (v0 v2 v3 v4 : Value) (x : Int32) (st : List Value) (w : zH) : zrun none (184, 48, [v0, .int x, v2, v3, v4], st, w) = zrun none (184, 49, [v0, .int x, v2, v3, v4], (.int x :: st), w) := (zE_ (i := .iload_n 1) (by decide +kernel) _ _ _).trans rfl
theorem e184_49 (v0 v1 v3 v4 : Value) (x : Int32) (st : List Value) (w : zH) : zrun none (184, 49, [v0, v1, .int x, v3, v4], st, w) = zrun none (184, 50, [v0, v1, .int x, v3, v4], (.int x :: st), w) := (zE_ (i := .iload_n 2) (by decide +kernel) _ _ _).trans rfl
theorem e184_50 (v0 v1 v2 v4 : Value) (x : Int32) (st : List Value) (w : zH) : zrun none (184, 50, [v0, v1, v2, .int x, v4], st, w) = zrun none (184, 51, [v0, v1, v2, .int x, v4], (.int x :: st), w) := (zE_ (i := .iload_n 3) (by decide +kernel) _ _ _).trans rfl
theorem e184_51 (ls : List Value) (a : Nat) (x0 : Int32) (x1 : Int32) (x2 : Int32) (st : List Value) (w : zH) (hr : zcat st ≤ 8) : zrun none (184, 51, ls, (.int x2 :: .int x1 :: .int x0 :: .ref a :: st), w) = zgd (zis w a 12) (zcl (zrun none (181, 0, [.ref a, .int x0, .int x1, .int x2, zJ, zJ, zJ, zJ, zJ], [], w)) (fun r => zrun none (184, 54, ls, r.1.toList ++ st, r.2))) := by
  refine (zE_ (i := .invokevirtual 181) (by decide +kernel) _ _ _).trans ?_
  show zres (zinv none 181 184 51 ls (.int x2 :: .int x1 :: .int x0 :: .ref a :: st) w) = _
  unfold zinv
  show zres (if zrc none 181 w (.ref a) = true then zcall 181 [.ref a, .int x0, .int x1, .int x2] st 184 51 ls w else none) = _
  by_cases hc : zis w a 12
  · rw [if_pos (zrc_is hc (by decide +kernel)), zgd_pos hc]
    exact zq_call hr (Nat.le_of_ble_eq_true rfl) rfl rfl
  · rw [zgd_neg hc, if_neg (fun q => hc (zrc_of q (by decide +kernel)))]
    rfl
theorem e184_54 (ls st : List Value) (w : zH) : zrun none (184, 54, ls, st, w) = zrun none (184, 72, ls, st, w) := (zE_ (i := .goto 18) (by decide +kernel) _ _ _).trans rfl
theorem e184_57 (v1 v2 v3 v4 : Value) (x : Nat) (st : List Value) (w : zH) : zrun none (184, 57, [.ref x, v1, v2, v3, v4], st, w) = zrun none (184, 58, [.ref x, v1, v2, v3, v4], (.ref x :: st), w) := (zE_ (i := .aload_n 0) (by decide +kernel) _ _ _).trans rfl
theorem e184_58 (v0 v2 v3 v4 : Value) (x : Int32) (st : List Value) (w : zH) : zrun none (184, 58, [v0, .int x, v2, v3, v4], st, w) = zrun none (184, 59, [v0, .int x, v2, v3, v4], (.int x :: st), w) := (zE_ (i := .iload_n 1) (by decide +kernel) _ _ _).trans rfl
theorem e184_59 (v0 v1 v3 v4 : Value) (x : Int32) (st : List Value) (w : zH) : zrun none (184, 59, [v0, v1, .int x, v3, v4], st, w) = zrun none (184, 60, [v0, v1, .int x, v3, v4], (.int x :: st), w) := (zE_ (i := .iload_n 2) (by decide +kernel) _ _ _).trans rfl
theorem e184_60 (v0 v1 v2 v4 : Value) (x : Int32) (st : List Value) (w : zH) : zrun none (184, 60, [v0, v1, v2, .int x, v4], st, w) = zrun none (184, 61, [v0, v1, v2, .int x, v4], (.int x :: st), w) := (zE_ (i := .iload_n 3) (by decide +kernel) _ _ _).trans rfl
theorem e184_61 (ls : List Value) (a : Nat) (x0 : Int32) (x1 : Int32) (x2 : Int32) (st : List Value) (w : zH) (hr : zcat st ≤ 8) : zrun none (184, 61, ls, (.int x2 :: .int x1 :: .int x0 :: .ref a :: st), w) = zgd (zis w a 12) (zcl (zrun none (183, 0, [.ref a, .int x0, .int x1, .int x2, zJ], [], w)) (fun r => zrun none (184, 64, ls, r.1.toList ++ st, r.2))) := by
  refine (zE_ (i := .invokevirtual 183) (by decide +kernel) _ _ _).trans ?_
  show zres (zinv none 183 184 61 ls (.int x2 :: .int x1 :: .int x0 :: .ref a :: st) w) = _
  unfold zinv
  show zres (if zrc none 183 w (.ref a) = true then zcall 183 [.ref a, .int x0, .int x1, .int x2] st 184 61 ls w else none) = _
  by_cases hc : zis w a 12
  · rw [if_pos (zrc_is hc (by decide +kernel)), zgd_pos hc]
    exact zq_call hr (Nat.le_of_ble_eq_true rfl) rfl rfl
  · rw [zgd_neg hc, if_neg (fun q => hc (zrc_of q (by decide +kernel)))]
    rfl
theorem e184_64 (ls : List Value) (a : Int32) (st : List Value) (w : zH) : zrun none (184, 64, ls, (.int a :: st), w) = if a = 0 then zrun none (184, 71, ls, st, w) else zrun none (184, 67, ls, st, w) := (zE_ (i := .ifCond .eq 7) (by decide +kernel) _ _ _).trans (zq_if_eq rfl rfl)
theorem e184_67 (ls st : List Value) (w : zH) : zrun none (184, 67, ls, st, w) = zrun none (184, 68, ls, (.int 1 :: st), w) := (zE_ (i := .iconst 1) (by decide +kernel) _ _ _).trans rfl
theorem e184_68 (ls st : List Value) (w : zH) : zrun none (184, 68, ls, st, w) = zrun none (184, 72, ls, st, w) := (zE_ (i := .goto 4) (by decide +kernel) _ _ _).trans rfl
theorem e184_71 (ls st : List Value) (w : zH) : zrun none (184, 71, ls, st, w) = zrun none (184, 72, ls, (.int 0 :: st), w) := (zE_ (i := .iconst 0) (by decide +kernel) _ _ _).trans rfl
theorem e184_72 (ls : List Value) (x : Int32) (w : zH) : zrun none (184, 72, ls, [.int x], w) = some (some (.int x), w) := by
  refine (zE_ (i := .ireturn) (by decide +kernel) _ _ _).trans ?_
  show zres (if narrow .int (.int x) = .int x then _ else none) = _
  rw [if_pos (show narrow .int (.int x) = .int x from rfl)]
  rfl
