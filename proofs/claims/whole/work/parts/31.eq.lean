theorem e44_0 (x : Nat) (st : List Value) (w : zH) : zrun none (44, 0, [.ref x], st, w) = zrun none (44, 1, [.ref x], (.ref x :: st), w) := (zE_ (i := .aload_n 0) (by decide +kernel) _ _ _).trans rfl
theorem e44_1 (ls : List Value) (a : Nat) (st : List Value) (w : zH) (h : a < zX) (hr : zcat st ≤ 8) : zrun none (44, 1, ls, (.ref a :: st), w) = zrun none (44, 4, ls, st, w) := by
  refine (zE_ (i := .invokespecial 998) (by decide +kernel) _ _ _).trans ?_
  simp only [zI, if_true]
  rw [if_pos ⟨hr, h⟩]
  rfl
theorem e44_4 (x : Nat) (st : List Value) (w : zH) : zrun none (44, 4, [.ref x], st, w) = zrun none (44, 5, [.ref x], (.ref x :: st), w) := (zE_ (i := .aload_n 0) (by decide +kernel) _ _ _).trans rfl
theorem e44_5 (ls st : List Value) (w : zH) : zrun none (44, 5, ls, st, w) = zrun none (44, 8, ls, (.int 500 :: st), w) := (zE_ (i := .sipush 500) (by decide +kernel) _ _ _).trans rfl
theorem e44_8 (ls : List Value) (n : Int32) (st : List Value) (w : zH) (h0 : ¬ n < 0 ∧ n ≤ 65536) (h : w.length + 1 < zX) : zrun none (44, 8, ls, (.int n :: st), w) = zrun none (44, 10, ls, (.ref w.length :: st), w ++ [(101, List.replicate n.toNatClampNeg (.int 0))]) := by
  refine (zE_ (i := .newarray .char) (by decide +kernel) _ _ _).trans ?_
  simp only [zI]
  unfold znwa
  dsimp only
  rw [if_pos h0]
  unfold znw
  rw [if_pos h]
  rfl
theorem e44_10 (ls : List Value) (x : Nat) (a : Nat) (st : List Value) (w : zH) : zrun none (44, 10, ls, (.ref x :: .ref a :: st), w) = zgd (a < zX ∧ (zf w a 900).isSome = true) (zrun none (44, 13, ls, st, zpf w a 900 (.ref x))) := by
  refine (zE_ (i := .putfield 900) (by decide +kernel) _ _ _).trans ?_
  by_cases hg : a < zX ∧ (zf w a 900).isSome = true
  · rw [zgd_pos hg]
    obtain ⟨ha, h⟩ := hg
    exact zq_putf ha h rfl rfl
  · rw [zgd_neg hg]
    exact zq_putf_no (fun h1 h2 h3 => hg ⟨h1, h2⟩)
theorem e44_13 (ls : List Value) (w : zH) : zrun none (44, 13, ls, [], w) = some (none, w) := (zE_ (i := .return_) (by decide +kernel) _ _ _).trans rfl
theorem e45_0 (v0 v1 v2 v4 : Value) (x : Int32) (st : List Value) (w : zH) : zrun none (45, 0, [v0, v1, v2, .int x, v4], st, w) = zrun none (45, 1, [v0, v1, v2, .int x, v4], (.int x :: st), w) := (zE_ (i := .iload_n 3) (by decide +kernel) _ _ _).trans rfl
theorem e45_1 (ls st : List Value) (w : zH) : zrun none (45, 1, ls, st, w) = zrun none (45, 4, ls, (.int 500 :: st), w) := (zE_ (i := .sipush 500) (by decide +kernel) _ _ _).trans rfl
theorem e45_4 (v1 v2 v3 v4 : Value) (x : Nat) (st : List Value) (w : zH) : zrun none (45, 4, [.ref x, v1, v2, v3, v4], st, w) = zrun none (45, 5, [.ref x, v1, v2, v3, v4], (.ref x :: st), w) := (zE_ (i := .aload_n 0) (by decide +kernel) _ _ _).trans rfl
theorem e45_5 (ls : List Value) (a : Nat) (st : List Value) (w : zH) : zrun none (45, 5, ls, (.ref a :: st), w) = zo (zf w a 901) (fun x => zrun none (45, 8, ls, (x :: st), w)) := (zE_ (i := .getfield 901) (by decide +kernel) _ _ _).trans zq_getf
theorem e45_8 (ls : List Value) (a b : Int32) (st : List Value) (w : zH) : zrun none (45, 8, ls, (.int b :: .int a :: st), w) = zrun none (45, 9, ls, (.int (a - b) :: st), w) := (zE_ (i := .isub) (by decide +kernel) _ _ _).trans rfl
theorem e45_9 (ls : List Value) (a b : Int32) (st : List Value) (w : zH) : zrun none (45, 9, ls, (.int b :: .int a :: st), w) = if a ≤ b then zrun none (45, 15, ls, st, w) else zrun none (45, 12, ls, st, w) := (zE_ (i := .if_icmp .le 6) (by decide +kernel) _ _ _).trans (zq_ic_le rfl rfl)
theorem e45_12 (ls st : List Value) (w : zH) : zrun none (45, 12, ls, st, w) = zrun none (45, 14, ls, (.int (-1000003) :: st), w) := (zE_ (i := .bipush (-1000003)) (by decide +kernel) _ _ _).trans rfl
theorem e45_14 (ls : List Value) (x : Int32) (w : zH) : zrun none (45, 14, ls, [.int x], w) = some (some (.int x), w) := by
  refine (zE_ (i := .ireturn) (by decide +kernel) _ _ _).trans ?_
  show zres (if narrow .int (.int x) = .int x then _ else none) = _
  rw [if_pos (show narrow .int (.int x) = .int x from rfl)]
  rfl
theorem e45_15 (v0 v1 v2 v4 : Value) (x : Int32) (st : List Value) (w : zH) : zrun none (45, 15, [v0, v1, v2, .int x, v4], st, w) = zrun none (45, 16, [v0, v1, v2, .int x, v4], (.int x :: st), w) := (zE_ (i := .iload_n 3) (by decide +kernel) _ _ _).trans rfl
theorem e45_16 (ls st : List Value) (w : zH) : zrun none (45, 16, ls, st, w) = zrun none (45, 17, ls, (.int 1 :: st), w) := (zE_ (i := .iconst 1) (by decide +kernel) _ _ _).trans rfl
theorem e45_17 (ls : List Value) (a b : Int32) (st : List Value) (w : zH) : zrun none (45, 17, ls, (.int b :: .int a :: st), w) = zrun none (45, 18, ls, (.int (a - b) :: st), w) := (zE_ (i := .isub) (by decide +kernel) _ _ _).trans rfl
theorem e45_18 (v0 v1 v2 v3 v4 : Value) (x : Int32) (st : List Value) (w : zH) (h : v3.category = 1) : zrun none (45, 18, [v0, v1, v2, v3, v4], (.int x :: st), w) = zrun none (45, 20, [v0, v1, v2, v3, .int x], st, w) := by
  refine (zE_ (i := .istore 4) (by decide +kernel) _ _ _).trans ?_
  have hz : zfree [v0, v1, v2, v3, v4] 4 = true := by show decide (v3.category = 1) = true; exact decide_eq_true h
  show zres (zst zint 4 2 45 18 [v0, v1, v2, v3, v4] (.int x :: st) w) = _
  unfold zst
  dsimp only
  rw [if_pos ⟨rfl, Nat.le_of_ble_eq_true rfl, hz⟩]
  rfl
theorem e45_20 (v0 v1 v2 v3 : Value) (x : Int32) (st : List Value) (w : zH) : zrun none (45, 20, [v0, v1, v2, v3, .int x], st, w) = zrun none (45, 22, [v0, v1, v2, v3, .int x], (.int x :: st), w) := (zE_ (i := .iload 4) (by decide +kernel) _ _ _).trans rfl
theorem e45_22 (ls : List Value) (a : Int32) (st : List Value) (w : zH) : zrun none (45, 22, ls, (.int a :: st), w) = if a < 0 then zrun none (45, 63, ls, st, w) else zrun none (45, 25, ls, st, w) := (zE_ (i := .ifCond .lt 41) (by decide +kernel) _ _ _).trans (zq_if_lt rfl rfl)
theorem e45_25 (v1 v2 v3 v4 : Value) (x : Nat) (st : List Value) (w : zH) : zrun none (45, 25, [.ref x, v1, v2, v3, v4], st, w) = zrun none (45, 26, [.ref x, v1, v2, v3, v4], (.ref x :: st), w) := (zE_ (i := .aload_n 0) (by decide +kernel) _ _ _).trans rfl
theorem e45_26 (ls : List Value) (a : Nat) (st : List Value) (w : zH) : zrun none (45, 26, ls, (.ref a :: st), w) = zo (zf w a 900) (fun x => zrun none (45, 29, ls, (x :: st), w)) := (zE_ (i := .getfield 900) (by decide +kernel) _ _ _).trans zq_getf
theorem e45_29 (v1 v2 v3 v4 : Value) (x : Nat) (st : List Value) (w : zH) : zrun none (45, 29, [.ref x, v1, v2, v3, v4], st, w) = zrun none (45, 30, [.ref x, v1, v2, v3, v4], (.ref x :: st), w) := (zE_ (i := .aload_n 0) (by decide +kernel) _ _ _).trans rfl
theorem e45_30 (ls : List Value) (a : Nat) (st : List Value) (w : zH) : zrun none (45, 30, ls, (.ref a :: st), w) = zo (zf w a 901) (fun x => zrun none (45, 33, ls, (x :: st), w)) := (zE_ (i := .getfield 901) (by decide +kernel) _ _ _).trans zq_getf
theorem e45_33 (v0 v2 v3 v4 : Value) (x : Int64) (st : List Value) (w : zH) : zrun none (45, 33, [v0, .long x, v2, v3, v4], st, w) = zrun none (45, 34, [v0, .long x, v2, v3, v4], (.long x :: st), w) := (zE_ (i := .lload_n 1) (by decide +kernel) _ _ _).trans rfl
theorem e45_34 (ls st : List Value) (w : zH) : zrun none (45, 34, ls, st, w) = zrun none (45, 36, ls, (.int 8 :: st), w) := (zE_ (i := .bipush 8) (by decide +kernel) _ _ _).trans rfl
theorem e45_36 (v0 v1 v2 v3 : Value) (x : Int32) (st : List Value) (w : zH) : zrun none (45, 36, [v0, v1, v2, v3, .int x], st, w) = zrun none (45, 38, [v0, v1, v2, v3, .int x], (.int x :: st), w) := (zE_ (i := .iload 4) (by decide +kernel) _ _ _).trans rfl
theorem e45_38 (ls : List Value) (a b : Int32) (st : List Value) (w : zH) : zrun none (45, 38, ls, (.int b :: .int a :: st), w) = zrun none (45, 39, ls, (.int (a * b) :: st), w) := (zE_ (i := .imul) (by decide +kernel) _ _ _).trans rfl
theorem e45_39 (ls : List Value) (a : Int64) (b : Int32) (st : List Value) (w : zH) : zrun none (45, 39, ls, (.int b :: .long a :: st), w) = zrun none (45, 40, ls, (.long (a >>> (b.toInt64 &&& 63)) :: st), w) := (zE_ (i := .lshr) (by decide +kernel) _ _ _).trans rfl
theorem e45_40 (ls st : List Value) (w : zH) : zrun none (45, 40, ls, st, w) = zrun none (45, 43, ls, (.long 255 :: st), w) := (zE_ (i := .ldc2_w 255) (by decide +kernel) _ _ _).trans rfl
theorem e45_43 (ls : List Value) (a b : Int64) (st : List Value) (w : zH) : zrun none (45, 43, ls, (.long b :: .long a :: st), w) = zrun none (45, 44, ls, (.long (a &&& b) :: st), w) := (zE_ (i := .land) (by decide +kernel) _ _ _).trans rfl
theorem e45_44 (ls : List Value) (a : Int64) (st : List Value) (w : zH) : zrun none (45, 44, ls, (.long a :: st), w) = zrun none (45, 45, ls, (.int a.toInt32 :: st), w) := (zE_ (i := .l2i) (by decide +kernel) _ _ _).trans rfl
theorem e45_45 (ls : List Value) (a : Int32) (st : List Value) (w : zH) : zrun none (45, 45, ls, (.int a :: st), w) = zrun none (45, 46, ls, (.int (a.toUInt32 % 65536).toInt32 :: st), w) := (zE_ (i := .i2c) (by decide +kernel) _ _ _).trans rfl
theorem e45_46 (ls : List Value) (x j : Int32) (a : Nat) (st : List Value) (w : zH) : zrun none (45, 46, ls, (.int x :: .int j :: .ref a :: st), w) = zgd (zin? w a 101 j) (zrun none (45, 47, ls, st, zas w a j (narrow .char (.int x)))) := by
  refine (zE_ (i := .castore) (by decide +kernel) _ _ _).trans ?_
  by_cases hg : zin? w a 101 j
  · rw [zgd_pos hg]
    exact zq_cast hg
  · rw [zgd_neg hg]
    exact zq_cast_no hg
theorem e45_47 (v1 v2 v3 v4 : Value) (x : Nat) (st : List Value) (w : zH) : zrun none (45, 47, [.ref x, v1, v2, v3, v4], st, w) = zrun none (45, 48, [.ref x, v1, v2, v3, v4], (.ref x :: st), w) := (zE_ (i := .aload_n 0) (by decide +kernel) _ _ _).trans rfl
theorem e45_48 (ls : List Value) (x : Int32) (st : List Value) (w : zH) : zrun none (45, 48, ls, (.int x :: st), w) = zrun none (45, 49, ls, (.int x :: .int x :: st), w) := (zE_ (i := .dup) (by decide +kernel) _ _ _).trans rfl
theorem e45_48r (ls : List Value) (x : Nat) (st : List Value) (w : zH) : zrun none (45, 48, ls, (.ref x :: st), w) = zrun none (45, 49, ls, (.ref x :: .ref x :: st), w) := (zE_ (i := .dup) (by decide +kernel) _ _ _).trans rfl
theorem e45_49 (ls : List Value) (a : Nat) (st : List Value) (w : zH) : zrun none (45, 49, ls, (.ref a :: st), w) = zo (zf w a 901) (fun x => zrun none (45, 52, ls, (x :: st), w)) := (zE_ (i := .getfield 901) (by decide +kernel) _ _ _).trans zq_getf
theorem e45_52 (ls st : List Value) (w : zH) : zrun none (45, 52, ls, st, w) = zrun none (45, 53, ls, (.int 1 :: st), w) := (zE_ (i := .iconst 1) (by decide +kernel) _ _ _).trans rfl
theorem e45_53 (ls : List Value) (a b : Int32) (st : List Value) (w : zH) : zrun none (45, 53, ls, (.int b :: .int a :: st), w) = zrun none (45, 54, ls, (.int (a + b) :: st), w) := (zE_ (i := .iadd) (by decide +kernel) _ _ _).trans rfl
theorem e45_54 (ls : List Value) (x : Int32) (a : Nat) (st : List Value) (w : zH) : zrun none (45, 54, ls, (.int x :: .ref a :: st), w) = zgd (a < zX ∧ (zf w a 901).isSome = true) (zrun none (45, 57, ls, st, zpf w a 901 (.int x))) := by
  refine (zE_ (i := .putfield 901) (by decide +kernel) _ _ _).trans ?_
  by_cases hg : a < zX ∧ (zf w a 901).isSome = true
  · rw [zgd_pos hg]
    obtain ⟨ha, h⟩ := hg
    exact zq_putf ha h rfl rfl
  · rw [zgd_neg hg]
    exact zq_putf_no (fun h1 h2 h3 => hg ⟨h1, h2⟩)
theorem e45_57 (v0 v1 v2 v3 : Value) (x : Int32) (st : List Value) (w : zH) : zrun none (45, 57, [v0, v1, v2, v3, .int x], st, w) = zrun none (45, 60, [v0, v1, v2, v3, .int (x + (-1))], st, w) := by
  rw [show ((-1) : Int32) = Int32.ofInt (-1) from by decide]
  exact (zE_ (i := .iinc 4 (-1)) (by decide +kernel) _ _ _).trans rfl
theorem e45_60 (ls st : List Value) (w : zH) : zrun none (45, 60, ls, st, w) = zrun none (45, 20, ls, st, w) := (zE_ (i := .goto (-40)) (by decide +kernel) _ _ _).trans rfl
theorem e45_63 (v1 v2 v3 v4 : Value) (x : Nat) (st : List Value) (w : zH) : zrun none (45, 63, [.ref x, v1, v2, v3, v4], st, w) = zrun none (45, 64, [.ref x, v1, v2, v3, v4], (.ref x :: st), w) := (zE_ (i := .aload_n 0) (by decide +kernel) _ _ _).trans rfl
theorem e45_64 (ls : List Value) (a : Nat) (st : List Value) (w : zH) : zrun none (45, 64, ls, (.ref a :: st), w) = zo (zf w a 901) (fun x => zrun none (45, 67, ls, (x :: st), w)) := (zE_ (i := .getfield 901) (by decide +kernel) _ _ _).trans zq_getf
theorem e45_67 (ls : List Value) (x : Int32) (w : zH) : zrun none (45, 67, ls, [.int x], w) = some (some (.int x), w) := by
  refine (zE_ (i := .ireturn) (by decide +kernel) _ _ _).trans ?_
  show zres (if narrow .int (.int x) = .int x then _ else none) = _
  rw [if_pos (show narrow .int (.int x) = .int x from rfl)]
  rfl
theorem e46_0 (x : Nat) (st : List Value) (w : zH) : zrun none (46, 0, [.ref x], st, w) = zrun none (46, 1, [.ref x], (.ref x :: st), w) := (zE_ (i := .aload_n 0) (by decide +kernel) _ _ _).trans rfl
theorem e46_1 (ls st : List Value) (w : zH) : zrun none (46, 1, ls, st, w) = zrun none (46, 2, ls, (.int 0 :: st), w) := (zE_ (i := .iconst 0) (by decide +kernel) _ _ _).trans rfl
theorem e46_2 (ls : List Value) (x : Int32) (a : Nat) (st : List Value) (w : zH) : zrun none (46, 2, ls, (.int x :: .ref a :: st), w) = zgd (a < zX ∧ (zf w a 905).isSome = true) (zrun none (46, 5, ls, st, zpf w a 905 (.int x))) := by
  refine (zE_ (i := .putfield 905) (by decide +kernel) _ _ _).trans ?_
  by_cases hg : a < zX ∧ (zf w a 905).isSome = true
  · rw [zgd_pos hg]
    obtain ⟨ha, h⟩ := hg
    exact zq_putf ha h rfl rfl
  · rw [zgd_neg hg]
    exact zq_putf_no (fun h1 h2 h3 => hg ⟨h1, h2⟩)
theorem e46_5 (x : Nat) (st : List Value) (w : zH) : zrun none (46, 5, [.ref x], st, w) = zrun none (46, 6, [.ref x], (.ref x :: st), w) := (zE_ (i := .aload_n 0) (by decide +kernel) _ _ _).trans rfl
theorem e46_6 (ls st : List Value) (w : zH) : zrun none (46, 6, ls, st, w) = zrun none (46, 7, ls, (.int 0 :: st), w) := (zE_ (i := .iconst 0) (by decide +kernel) _ _ _).trans rfl
theorem e46_7 (ls : List Value) (x : Int32) (a : Nat) (st : List Value) (w : zH) : zrun none (46, 7, ls, (.int x :: .ref a :: st), w) = zgd (a < zX ∧ (zf w a 906).isSome = true) (zrun none (46, 10, ls, st, zpf w a 906 (.int x))) := by
  refine (zE_ (i := .putfield 906) (by decide +kernel) _ _ _).trans ?_
  by_cases hg : a < zX ∧ (zf w a 906).isSome = true
  · rw [zgd_pos hg]
    obtain ⟨ha, h⟩ := hg
    exact zq_putf ha h rfl rfl
  · rw [zgd_neg hg]
    exact zq_putf_no (fun h1 h2 h3 => hg ⟨h1, h2⟩)
theorem e46_10 (x : Nat) (st : List Value) (w : zH) : zrun none (46, 10, [.ref x], st, w) = zrun none (46, 11, [.ref x], (.ref x :: st), w) := (zE_ (i := .aload_n 0) (by decide +kernel) _ _ _).trans rfl
theorem e46_11 (ls st : List Value) (w : zH) : zrun none (46, 11, ls, st, w) = zrun none (46, 12, ls, (.int 0 :: st), w) := (zE_ (i := .iconst 0) (by decide +kernel) _ _ _).trans rfl
theorem e46_12 (ls : List Value) (x : Int32) (a : Nat) (st : List Value) (w : zH) : zrun none (46, 12, ls, (.int x :: .ref a :: st), w) = zgd (a < zX ∧ (zf w a 904).isSome = true) (zrun none (46, 15, ls, st, zpf w a 904 (.int x))) := by
  refine (zE_ (i := .putfield 904) (by decide +kernel) _ _ _).trans ?_
  by_cases hg : a < zX ∧ (zf w a 904).isSome = true
  · rw [zgd_pos hg]
    obtain ⟨ha, h⟩ := hg
    exact zq_putf ha h rfl rfl
  · rw [zgd_neg hg]
    exact zq_putf_no (fun h1 h2 h3 => hg ⟨h1, h2⟩)
theorem e46_15 (x : Nat) (st : List Value) (w : zH) : zrun none (46, 15, [.ref x], st, w) = zrun none (46, 16, [.ref x], (.ref x :: st), w) := (zE_ (i := .aload_n 0) (by decide +kernel) _ _ _).trans rfl
theorem e46_16 (ls : List Value) (a : Nat) (st : List Value) (w : zH) (hr : zcat st ≤ 8) : zrun none (46, 16, ls, (.ref a :: st), w) = zgd (zis w a 9) (zcl (zrun none (51, 0, [.ref a], [], w)) (fun r => zrun none (46, 19, ls, r.1.toList ++ st, r.2))) := by
  refine (zE_ (i := .invokevirtual 51) (by decide +kernel) _ _ _).trans ?_
  show zres (zinv none 51 46 16 ls (.ref a :: st) w) = _
  unfold zinv
  show zres (if zrc none 51 w (.ref a) = true then zcall 51 [.ref a] st 46 16 ls w else none) = _
  by_cases hc : zis w a 9
  · rw [if_pos (zrc_is hc (by decide +kernel)), zgd_pos hc]
    exact zq_call hr (Nat.le_of_ble_eq_true rfl) rfl rfl
  · rw [zgd_neg hc, if_neg (fun q => hc (zrc_of q (by decide +kernel)))]
    rfl
theorem e46_19 (ls : List Value) (w : zH) : zrun none (46, 19, ls, [], w) = some (none, w) := (zE_ (i := .return_) (by decide +kernel) _ _ _).trans rfl
theorem e47_0 (x : Nat) (st : List Value) (w : zH) : zrun none (47, 0, [.ref x], st, w) = zrun none (47, 1, [.ref x], (.ref x :: st), w) := (zE_ (i := .aload_n 0) (by decide +kernel) _ _ _).trans rfl
theorem e47_1 (ls : List Value) (a : Nat) (st : List Value) (w : zH) : zrun none (47, 1, ls, (.ref a :: st), w) = zo (zf w a 905) (fun x => zrun none (47, 4, ls, (x :: st), w)) := (zE_ (i := .getfield 905) (by decide +kernel) _ _ _).trans zq_getf
theorem e47_4 (ls : List Value) (a : Int32) (st : List Value) (w : zH) : zrun none (47, 4, ls, (.int a :: st), w) = if a = 0 then zrun none (47, 7, ls, st, w) else zrun none (47, 14, ls, st, w) := (zE_ (i := .ifCond .ne 10) (by decide +kernel) _ _ _).trans (zq_if_ne rfl rfl)
theorem e47_7 (x : Nat) (st : List Value) (w : zH) : zrun none (47, 7, [.ref x], st, w) = zrun none (47, 8, [.ref x], (.ref x :: st), w) := (zE_ (i := .aload_n 0) (by decide +kernel) _ _ _).trans rfl
theorem e47_8 (ls : List Value) (a : Nat) (st : List Value) (w : zH) : zrun none (47, 8, ls, (.ref a :: st), w) = zo (zf w a 902) (fun x => zrun none (47, 11, ls, (x :: st), w)) := (zE_ (i := .getfield 902) (by decide +kernel) _ _ _).trans zq_getf
theorem e47_11 (ls : List Value) (a : Int32) (st : List Value) (w : zH) : zrun none (47, 11, ls, (.int a :: st), w) = if a = 0 then zrun none (47, 14, ls, st, w) else zrun none (47, 18, ls, st, w) := (zE_ (i := .ifCond .ne 7) (by decide +kernel) _ _ _).trans (zq_if_ne rfl rfl)
theorem e47_14 (ls st : List Value) (w : zH) : zrun none (47, 14, ls, st, w) = zrun none (47, 15, ls, (.int 1 :: st), w) := (zE_ (i := .iconst 1) (by decide +kernel) _ _ _).trans rfl
theorem e47_15 (ls st : List Value) (w : zH) : zrun none (47, 15, ls, st, w) = zrun none (47, 19, ls, st, w) := (zE_ (i := .goto 4) (by decide +kernel) _ _ _).trans rfl
theorem e47_18 (ls st : List Value) (w : zH) : zrun none (47, 18, ls, st, w) = zrun none (47, 19, ls, (.int 0 :: st), w) := (zE_ (i := .iconst 0) (by decide +kernel) _ _ _).trans rfl
theorem e47_19 (ls : List Value) (x : Int32) (w : zH) (h : narrow .boolean (.int x) = .int x) : zrun none (47, 19, ls, [.int x], w) = some (some (.int x), w) := by
  refine (zE_ (i := .ireturn) (by decide +kernel) _ _ _).trans ?_
  show zres (if narrow .boolean (.int x) = .int x then _ else none) = _
  rw [if_pos h]
  rfl
theorem e48_0 (v0 : Value) (x : Int32) (st : List Value) (w : zH) : zrun none (48, 0, [v0, .int x], st, w) = zrun none (48, 1, [v0, .int x], (.int x :: st), w) := (zE_ (i := .iload_n 1) (by decide +kernel) _ _ _).trans rfl
theorem e48_1 (ls : List Value) (a : Int32) (st : List Value) (w : zH) : zrun none (48, 1, ls, (.int a :: st), w) = if a < 0 then zrun none (48, 28, ls, st, w) else zrun none (48, 4, ls, st, w) := (zE_ (i := .ifCond .lt 27) (by decide +kernel) _ _ _).trans (zq_if_lt rfl rfl)
theorem e48_4 (v0 : Value) (x : Int32) (st : List Value) (w : zH) : zrun none (48, 4, [v0, .int x], st, w) = zrun none (48, 5, [v0, .int x], (.int x :: st), w) := (zE_ (i := .iload_n 1) (by decide +kernel) _ _ _).trans rfl
theorem e48_5 (v1 : Value) (x : Nat) (st : List Value) (w : zH) : zrun none (48, 5, [.ref x, v1], st, w) = zrun none (48, 6, [.ref x, v1], (.ref x :: st), w) := (zE_ (i := .aload_n 0) (by decide +kernel) _ _ _).trans rfl
theorem e48_6 (ls : List Value) (a : Nat) (st : List Value) (w : zH) : zrun none (48, 6, ls, (.ref a :: st), w) = zo (zf w a 901) (fun x => zrun none (48, 9, ls, (x :: st), w)) := (zE_ (i := .getfield 901) (by decide +kernel) _ _ _).trans zq_getf
theorem e48_9 (ls : List Value) (a b : Int32) (st : List Value) (w : zH) : zrun none (48, 9, ls, (.int b :: .int a :: st), w) = if b ≤ a then zrun none (48, 28, ls, st, w) else zrun none (48, 12, ls, st, w) := (zE_ (i := .if_icmp .ge 19) (by decide +kernel) _ _ _).trans (zq_ic_ge rfl rfl)
theorem e48_12 (v0 : Value) (x : Int32) (st : List Value) (w : zH) : zrun none (48, 12, [v0, .int x], st, w) = zrun none (48, 13, [v0, .int x], (.int x :: st), w) := (zE_ (i := .iload_n 1) (by decide +kernel) _ _ _).trans rfl
theorem e48_13 (ls st : List Value) (w : zH) : zrun none (48, 13, ls, st, w) = zrun none (48, 16, ls, (.int 500 :: st), w) := (zE_ (i := .sipush 500) (by decide +kernel) _ _ _).trans rfl
theorem e48_16 (ls : List Value) (a b : Int32) (st : List Value) (w : zH) : zrun none (48, 16, ls, (.int b :: .int a :: st), w) = if b ≤ a then zrun none (48, 28, ls, st, w) else zrun none (48, 19, ls, st, w) := (zE_ (i := .if_icmp .ge 12) (by decide +kernel) _ _ _).trans (zq_ic_ge rfl rfl)
theorem e48_19 (v1 : Value) (x : Nat) (st : List Value) (w : zH) : zrun none (48, 19, [.ref x, v1], st, w) = zrun none (48, 20, [.ref x, v1], (.ref x :: st), w) := (zE_ (i := .aload_n 0) (by decide +kernel) _ _ _).trans rfl
theorem e48_20 (ls : List Value) (a : Nat) (st : List Value) (w : zH) : zrun none (48, 20, ls, (.ref a :: st), w) = zo (zf w a 900) (fun x => zrun none (48, 23, ls, (x :: st), w)) := (zE_ (i := .getfield 900) (by decide +kernel) _ _ _).trans zq_getf
theorem e48_23 (v0 : Value) (x : Int32) (st : List Value) (w : zH) : zrun none (48, 23, [v0, .int x], st, w) = zrun none (48, 24, [v0, .int x], (.int x :: st), w) := (zE_ (i := .iload_n 1) (by decide +kernel) _ _ _).trans rfl
theorem e48_24 (ls : List Value) (j : Int32) (a : Nat) (st : List Value) (w : zH) : zrun none (48, 24, ls, (.int j :: .ref a :: st), w) = zoi (zai w a 101 j) (fun x => zrun none (48, 25, ls, (.int x :: st), w)) := (zE_ (i := .caload) (by decide +kernel) _ _ _).trans zq_cald
theorem e48_25 (ls st : List Value) (w : zH) : zrun none (48, 25, ls, st, w) = zrun none (48, 29, ls, st, w) := (zE_ (i := .goto 4) (by decide +kernel) _ _ _).trans rfl
theorem e48_28 (ls st : List Value) (w : zH) : zrun none (48, 28, ls, st, w) = zrun none (48, 29, ls, (.int 0 :: st), w) := (zE_ (i := .iconst 0) (by decide +kernel) _ _ _).trans rfl
theorem e48_29 (ls : List Value) (x : Int32) (w : zH) (h : narrow .char (.int x) = .int x) : zrun none (48, 29, ls, [.int x], w) = some (some (.int x), w) := by
  refine (zE_ (i := .ireturn) (by decide +kernel) _ _ _).trans ?_
  show zres (if narrow .char (.int x) = .int x then _ else none) = _
  rw [if_pos h]
  rfl
theorem e49_0 (x : Int32) (st : List Value) (w : zH) : zrun none (49, 0, [.int x], st, w) = zrun none (49, 1, [.int x], (.int x :: st), w) := (zE_ (i := .iload_n 0) (by decide +kernel) _ _ _).trans rfl
theorem e49_1 (ls st : List Value) (w : zH) : zrun none (49, 1, ls, st, w) = zrun none (49, 3, ls, (.int 97 :: st), w) := (zE_ (i := .bipush 97) (by decide +kernel) _ _ _).trans rfl
theorem e49_3 (ls : List Value) (a b : Int32) (st : List Value) (w : zH) : zrun none (49, 3, ls, (.int b :: .int a :: st), w) = if a < b then zrun none (49, 16, ls, st, w) else zrun none (49, 6, ls, st, w) := (zE_ (i := .if_icmp .lt 13) (by decide +kernel) _ _ _).trans (zq_ic_lt rfl rfl)
theorem e49_6 (x : Int32) (st : List Value) (w : zH) : zrun none (49, 6, [.int x], st, w) = zrun none (49, 7, [.int x], (.int x :: st), w) := (zE_ (i := .iload_n 0) (by decide +kernel) _ _ _).trans rfl
theorem e49_7 (ls st : List Value) (w : zH) : zrun none (49, 7, ls, st, w) = zrun none (49, 9, ls, (.int 122 :: st), w) := (zE_ (i := .bipush 122) (by decide +kernel) _ _ _).trans rfl
theorem e49_9 (ls : List Value) (a b : Int32) (st : List Value) (w : zH) : zrun none (49, 9, ls, (.int b :: .int a :: st), w) = if b < a then zrun none (49, 16, ls, st, w) else zrun none (49, 12, ls, st, w) := (zE_ (i := .if_icmp .gt 7) (by decide +kernel) _ _ _).trans (zq_ic_gt rfl rfl)
theorem e49_12 (ls st : List Value) (w : zH) : zrun none (49, 12, ls, st, w) = zrun none (49, 13, ls, (.int 1 :: st), w) := (zE_ (i := .iconst 1) (by decide +kernel) _ _ _).trans rfl
theorem e49_13 (ls st : List Value) (w : zH) : zrun none (49, 13, ls, st, w) = zrun none (49, 17, ls, st, w) := (zE_ (i := .goto 4) (by decide +kernel) _ _ _).trans rfl
theorem e49_16 (ls st : List Value) (w : zH) : zrun none (49, 16, ls, st, w) = zrun none (49, 17, ls, (.int 0 :: st), w) := (zE_ (i := .iconst 0) (by decide +kernel) _ _ _).trans rfl
theorem e49_17 (ls : List Value) (x : Int32) (w : zH) (h : narrow .boolean (.int x) = .int x) : zrun none (49, 17, ls, [.int x], w) = some (some (.int x), w) := by
  refine (zE_ (i := .ireturn) (by decide +kernel) _ _ _).trans ?_
  show zres (if narrow .boolean (.int x) = .int x then _ else none) = _
  rw [if_pos h]
  rfl
theorem e50_0 (x : Int32) (st : List Value) (w : zH) : zrun none (50, 0, [.int x], st, w) = zrun none (50, 1, [.int x], (.int x :: st), w) := (zE_ (i := .iload_n 0) (by decide +kernel) _ _ _).trans rfl
theorem e50_1 (ls st : List Value) (w : zH) : zrun none (50, 1, ls, st, w) = zrun none (50, 3, ls, (.int 48 :: st), w) := (zE_ (i := .bipush 48) (by decide +kernel) _ _ _).trans rfl
theorem e50_3 (ls : List Value) (a b : Int32) (st : List Value) (w : zH) : zrun none (50, 3, ls, (.int b :: .int a :: st), w) = if a < b then zrun none (50, 16, ls, st, w) else zrun none (50, 6, ls, st, w) := (zE_ (i := .if_icmp .lt 13) (by decide +kernel) _ _ _).trans (zq_ic_lt rfl rfl)
theorem e50_6 (x : Int32) (st : List Value) (w : zH) : zrun none (50, 6, [.int x], st, w) = zrun none (50, 7, [.int x], (.int x :: st), w) := (zE_ (i := .iload_n 0) (by decide +kernel) _ _ _).trans rfl
theorem e50_7 (ls st : List Value) (w : zH) : zrun none (50, 7, ls, st, w) = zrun none (50, 9, ls, (.int 57 :: st), w) := (zE_ (i := .bipush 57) (by decide +kernel) _ _ _).trans rfl
theorem e50_9 (ls : List Value) (a b : Int32) (st : List Value) (w : zH) : zrun none (50, 9, ls, (.int b :: .int a :: st), w) = if b < a then zrun none (50, 16, ls, st, w) else zrun none (50, 12, ls, st, w) := (zE_ (i := .if_icmp .gt 7) (by decide +kernel) _ _ _).trans (zq_ic_gt rfl rfl)
theorem e50_12 (ls st : List Value) (w : zH) : zrun none (50, 12, ls, st, w) = zrun none (50, 13, ls, (.int 1 :: st), w) := (zE_ (i := .iconst 1) (by decide +kernel) _ _ _).trans rfl
theorem e50_13 (ls st : List Value) (w : zH) : zrun none (50, 13, ls, st, w) = zrun none (50, 17, ls, st, w) := (zE_ (i := .goto 4) (by decide +kernel) _ _ _).trans rfl
theorem e50_16 (ls st : List Value) (w : zH) : zrun none (50, 16, ls, st, w) = zrun none (50, 17, ls, (.int 0 :: st), w) := (zE_ (i := .iconst 0) (by decide +kernel) _ _ _).trans rfl
theorem e50_17 (ls : List Value) (x : Int32) (w : zH) (h : narrow .boolean (.int x) = .int x) : zrun none (50, 17, ls, [.int x], w) = some (some (.int x), w) := by
  refine (zE_ (i := .ireturn) (by decide +kernel) _ _ _).trans ?_
  show zres (if narrow .boolean (.int x) = .int x then _ else none) = _
  rw [if_pos h]
  rfl
theorem e51_0 (x : Nat) (st : List Value) (w : zH) : zrun none (51, 0, [.ref x], st, w) = zrun none (51, 1, [.ref x], (.ref x :: st), w) := (zE_ (i := .aload_n 0) (by decide +kernel) _ _ _).trans rfl
theorem e51_1 (x : Nat) (st : List Value) (w : zH) : zrun none (51, 1, [.ref x], st, w) = zrun none (51, 2, [.ref x], (.ref x :: st), w) := (zE_ (i := .aload_n 0) (by decide +kernel) _ _ _).trans rfl
theorem e51_2 (ls : List Value) (a : Nat) (st : List Value) (w : zH) : zrun none (51, 2, ls, (.ref a :: st), w) = zo (zf w a 904) (fun x => zrun none (51, 5, ls, (x :: st), w)) := (zE_ (i := .getfield 904) (by decide +kernel) _ _ _).trans zq_getf
theorem e51_5 (ls : List Value) (x : Int32) (a : Nat) (st : List Value) (w : zH) : zrun none (51, 5, ls, (.int x :: .ref a :: st), w) = zgd (a < zX ∧ (zf w a 903).isSome = true) (zrun none (51, 8, ls, st, zpf w a 903 (.int x))) := by
  refine (zE_ (i := .putfield 903) (by decide +kernel) _ _ _).trans ?_
  by_cases hg : a < zX ∧ (zf w a 903).isSome = true
  · rw [zgd_pos hg]
    obtain ⟨ha, h⟩ := hg
    exact zq_putf ha h rfl rfl
  · rw [zgd_neg hg]
    exact zq_putf_no (fun h1 h2 h3 => hg ⟨h1, h2⟩)
theorem e51_8 (x : Nat) (st : List Value) (w : zH) : zrun none (51, 8, [.ref x], st, w) = zrun none (51, 9, [.ref x], (.ref x :: st), w) := (zE_ (i := .aload_n 0) (by decide +kernel) _ _ _).trans rfl
theorem e51_9 (ls : List Value) (a : Nat) (st : List Value) (w : zH) : zrun none (51, 9, ls, (.ref a :: st), w) = zo (zf w a 903) (fun x => zrun none (51, 12, ls, (x :: st), w)) := (zE_ (i := .getfield 903) (by decide +kernel) _ _ _).trans zq_getf
theorem e51_12 (x : Nat) (st : List Value) (w : zH) : zrun none (51, 12, [.ref x], st, w) = zrun none (51, 13, [.ref x], (.ref x :: st), w) := (zE_ (i := .aload_n 0) (by decide +kernel) _ _ _).trans rfl
theorem e51_13 (ls : List Value) (a : Nat) (st : List Value) (w : zH) : zrun none (51, 13, ls, (.ref a :: st), w) = zo (zf w a 901) (fun x => zrun none (51, 16, ls, (x :: st), w)) := (zE_ (i := .getfield 901) (by decide +kernel) _ _ _).trans zq_getf
theorem e51_16 (ls : List Value) (a b : Int32) (st : List Value) (w : zH) : zrun none (51, 16, ls, (.int b :: .int a :: st), w) = if b ≤ a then zrun none (51, 58, ls, st, w) else zrun none (51, 19, ls, st, w) := (zE_ (i := .if_icmp .ge 42) (by decide +kernel) _ _ _).trans (zq_ic_ge rfl rfl)
theorem e51_19 (x : Nat) (st : List Value) (w : zH) : zrun none (51, 19, [.ref x], st, w) = zrun none (51, 20, [.ref x], (.ref x :: st), w) := (zE_ (i := .aload_n 0) (by decide +kernel) _ _ _).trans rfl
theorem e51_20 (x : Nat) (st : List Value) (w : zH) : zrun none (51, 20, [.ref x], st, w) = zrun none (51, 21, [.ref x], (.ref x :: st), w) := (zE_ (i := .aload_n 0) (by decide +kernel) _ _ _).trans rfl
theorem e51_21 (ls : List Value) (a : Nat) (st : List Value) (w : zH) : zrun none (51, 21, ls, (.ref a :: st), w) = zo (zf w a 903) (fun x => zrun none (51, 24, ls, (x :: st), w)) := (zE_ (i := .getfield 903) (by decide +kernel) _ _ _).trans zq_getf
theorem e51_24 (ls : List Value) (a : Nat) (x0 : Int32) (st : List Value) (w : zH) (hr : zcat st ≤ 8) : zrun none (51, 24, ls, (.int x0 :: .ref a :: st), w) = zgd (zis w a 9) (zcl (zrun none (48, 0, [.ref a, .int x0], [], w)) (fun r => zrun none (51, 27, ls, r.1.toList ++ st, r.2))) := by
  refine (zE_ (i := .invokevirtual 48) (by decide +kernel) _ _ _).trans ?_
  show zres (zinv none 48 51 24 ls (.int x0 :: .ref a :: st) w) = _
  unfold zinv
  show zres (if zrc none 48 w (.ref a) = true then zcall 48 [.ref a, .int x0] st 51 24 ls w else none) = _
  by_cases hc : zis w a 9
  · rw [if_pos (zrc_is hc (by decide +kernel)), zgd_pos hc]
    exact zq_call hr (Nat.le_of_ble_eq_true rfl) rfl rfl
  · rw [zgd_neg hc, if_neg (fun q => hc (zrc_of q (by decide +kernel)))]
    rfl
theorem e51_27 (ls st : List Value) (w : zH) : zrun none (51, 27, ls, st, w) = zrun none (51, 29, ls, (.int 32 :: st), w) := (zE_ (i := .bipush 32) (by decide +kernel) _ _ _).trans rfl
theorem e51_29 (ls : List Value) (a b : Int32) (st : List Value) (w : zH) : zrun none (51, 29, ls, (.int b :: .int a :: st), w) = if a = b then zrun none (51, 45, ls, st, w) else zrun none (51, 32, ls, st, w) := (zE_ (i := .if_icmp .eq 16) (by decide +kernel) _ _ _).trans (zq_ic_eq rfl rfl)
theorem e51_32 (x : Nat) (st : List Value) (w : zH) : zrun none (51, 32, [.ref x], st, w) = zrun none (51, 33, [.ref x], (.ref x :: st), w) := (zE_ (i := .aload_n 0) (by decide +kernel) _ _ _).trans rfl
theorem e51_33 (x : Nat) (st : List Value) (w : zH) : zrun none (51, 33, [.ref x], st, w) = zrun none (51, 34, [.ref x], (.ref x :: st), w) := (zE_ (i := .aload_n 0) (by decide +kernel) _ _ _).trans rfl
theorem e51_34 (ls : List Value) (a : Nat) (st : List Value) (w : zH) : zrun none (51, 34, ls, (.ref a :: st), w) = zo (zf w a 903) (fun x => zrun none (51, 37, ls, (x :: st), w)) := (zE_ (i := .getfield 903) (by decide +kernel) _ _ _).trans zq_getf
theorem e51_37 (ls : List Value) (a : Nat) (x0 : Int32) (st : List Value) (w : zH) (hr : zcat st ≤ 8) : zrun none (51, 37, ls, (.int x0 :: .ref a :: st), w) = zgd (zis w a 9) (zcl (zrun none (48, 0, [.ref a, .int x0], [], w)) (fun r => zrun none (51, 40, ls, r.1.toList ++ st, r.2))) := by
  refine (zE_ (i := .invokevirtual 48) (by decide +kernel) _ _ _).trans ?_
  show zres (zinv none 48 51 37 ls (.int x0 :: .ref a :: st) w) = _
  unfold zinv
  show zres (if zrc none 48 w (.ref a) = true then zcall 48 [.ref a, .int x0] st 51 37 ls w else none) = _
  by_cases hc : zis w a 9
  · rw [if_pos (zrc_is hc (by decide +kernel)), zgd_pos hc]
    exact zq_call hr (Nat.le_of_ble_eq_true rfl) rfl rfl
  · rw [zgd_neg hc, if_neg (fun q => hc (zrc_of q (by decide +kernel)))]
    rfl
theorem e51_40 (ls st : List Value) (w : zH) : zrun none (51, 40, ls, st, w) = zrun none (51, 42, ls, (.int 10 :: st), w) := (zE_ (i := .bipush 10) (by decide +kernel) _ _ _).trans rfl
theorem e51_42 (ls : List Value) (a b : Int32) (st : List Value) (w : zH) : zrun none (51, 42, ls, (.int b :: .int a :: st), w) = if a = b then zrun none (51, 45, ls, st, w) else zrun none (51, 58, ls, st, w) := (zE_ (i := .if_icmp .ne 16) (by decide +kernel) _ _ _).trans (zq_ic_ne rfl rfl)
theorem e51_45 (x : Nat) (st : List Value) (w : zH) : zrun none (51, 45, [.ref x], st, w) = zrun none (51, 46, [.ref x], (.ref x :: st), w) := (zE_ (i := .aload_n 0) (by decide +kernel) _ _ _).trans rfl
theorem e51_46 (ls : List Value) (x : Int32) (st : List Value) (w : zH) : zrun none (51, 46, ls, (.int x :: st), w) = zrun none (51, 47, ls, (.int x :: .int x :: st), w) := (zE_ (i := .dup) (by decide +kernel) _ _ _).trans rfl
theorem e51_46r (ls : List Value) (x : Nat) (st : List Value) (w : zH) : zrun none (51, 46, ls, (.ref x :: st), w) = zrun none (51, 47, ls, (.ref x :: .ref x :: st), w) := (zE_ (i := .dup) (by decide +kernel) _ _ _).trans rfl
theorem e51_47 (ls : List Value) (a : Nat) (st : List Value) (w : zH) : zrun none (51, 47, ls, (.ref a :: st), w) = zo (zf w a 903) (fun x => zrun none (51, 50, ls, (x :: st), w)) := (zE_ (i := .getfield 903) (by decide +kernel) _ _ _).trans zq_getf
theorem e51_50 (ls st : List Value) (w : zH) : zrun none (51, 50, ls, st, w) = zrun none (51, 51, ls, (.int 1 :: st), w) := (zE_ (i := .iconst 1) (by decide +kernel) _ _ _).trans rfl
theorem e51_51 (ls : List Value) (a b : Int32) (st : List Value) (w : zH) : zrun none (51, 51, ls, (.int b :: .int a :: st), w) = zrun none (51, 52, ls, (.int (a + b) :: st), w) := (zE_ (i := .iadd) (by decide +kernel) _ _ _).trans rfl
theorem e51_52 (ls : List Value) (x : Int32) (a : Nat) (st : List Value) (w : zH) : zrun none (51, 52, ls, (.int x :: .ref a :: st), w) = zgd (a < zX ∧ (zf w a 903).isSome = true) (zrun none (51, 55, ls, st, zpf w a 903 (.int x))) := by
  refine (zE_ (i := .putfield 903) (by decide +kernel) _ _ _).trans ?_
  by_cases hg : a < zX ∧ (zf w a 903).isSome = true
  · rw [zgd_pos hg]
    obtain ⟨ha, h⟩ := hg
    exact zq_putf ha h rfl rfl
  · rw [zgd_neg hg]
    exact zq_putf_no (fun h1 h2 h3 => hg ⟨h1, h2⟩)
theorem e51_55 (ls st : List Value) (w : zH) : zrun none (51, 55, ls, st, w) = zrun none (51, 8, ls, st, w) := (zE_ (i := .goto (-47)) (by decide +kernel) _ _ _).trans rfl
theorem e51_58 (x : Nat) (st : List Value) (w : zH) : zrun none (51, 58, [.ref x], st, w) = zrun none (51, 59, [.ref x], (.ref x :: st), w) := (zE_ (i := .aload_n 0) (by decide +kernel) _ _ _).trans rfl
theorem e51_59 (x : Nat) (st : List Value) (w : zH) : zrun none (51, 59, [.ref x], st, w) = zrun none (51, 60, [.ref x], (.ref x :: st), w) := (zE_ (i := .aload_n 0) (by decide +kernel) _ _ _).trans rfl
theorem e51_60 (ls : List Value) (a : Nat) (st : List Value) (w : zH) : zrun none (51, 60, ls, (.ref a :: st), w) = zo (zf w a 903) (fun x => zrun none (51, 63, ls, (x :: st), w)) := (zE_ (i := .getfield 903) (by decide +kernel) _ _ _).trans zq_getf
theorem e51_63 (ls : List Value) (x : Int32) (a : Nat) (st : List Value) (w : zH) : zrun none (51, 63, ls, (.int x :: .ref a :: st), w) = zgd (a < zX ∧ (zf w a 904).isSome = true) (zrun none (51, 66, ls, st, zpf w a 904 (.int x))) := by
  refine (zE_ (i := .putfield 904) (by decide +kernel) _ _ _).trans ?_
  by_cases hg : a < zX ∧ (zf w a 904).isSome = true
  · rw [zgd_pos hg]
    obtain ⟨ha, h⟩ := hg
    exact zq_putf ha h rfl rfl
  · rw [zgd_neg hg]
    exact zq_putf_no (fun h1 h2 h3 => hg ⟨h1, h2⟩)
theorem e51_66 (x : Nat) (st : List Value) (w : zH) : zrun none (51, 66, [.ref x], st, w) = zrun none (51, 67, [.ref x], (.ref x :: st), w) := (zE_ (i := .aload_n 0) (by decide +kernel) _ _ _).trans rfl
theorem e51_67 (ls : List Value) (a : Nat) (st : List Value) (w : zH) : zrun none (51, 67, ls, (.ref a :: st), w) = zo (zf w a 903) (fun x => zrun none (51, 70, ls, (x :: st), w)) := (zE_ (i := .getfield 903) (by decide +kernel) _ _ _).trans zq_getf
theorem e51_70 (x : Nat) (st : List Value) (w : zH) : zrun none (51, 70, [.ref x], st, w) = zrun none (51, 71, [.ref x], (.ref x :: st), w) := (zE_ (i := .aload_n 0) (by decide +kernel) _ _ _).trans rfl
theorem e51_71 (ls : List Value) (a : Nat) (st : List Value) (w : zH) : zrun none (51, 71, ls, (.ref a :: st), w) = zo (zf w a 901) (fun x => zrun none (51, 74, ls, (x :: st), w)) := (zE_ (i := .getfield 901) (by decide +kernel) _ _ _).trans zq_getf
theorem e51_74 (ls : List Value) (a b : Int32) (st : List Value) (w : zH) : zrun none (51, 74, ls, (.int b :: .int a :: st), w) = if a < b then zrun none (51, 85, ls, st, w) else zrun none (51, 77, ls, st, w) := (zE_ (i := .if_icmp .lt 11) (by decide +kernel) _ _ _).trans (zq_ic_lt rfl rfl)
theorem e51_77 (x : Nat) (st : List Value) (w : zH) : zrun none (51, 77, [.ref x], st, w) = zrun none (51, 78, [.ref x], (.ref x :: st), w) := (zE_ (i := .aload_n 0) (by decide +kernel) _ _ _).trans rfl
theorem e51_78 (ls st : List Value) (w : zH) : zrun none (51, 78, ls, st, w) = zrun none (51, 79, ls, (.int 0 :: st), w) := (zE_ (i := .iconst 0) (by decide +kernel) _ _ _).trans rfl
theorem e51_79 (ls : List Value) (x : Int32) (a : Nat) (st : List Value) (w : zH) : zrun none (51, 79, ls, (.int x :: .ref a :: st), w) = zgd (a < zX ∧ (zf w a 902).isSome = true) (zrun none (51, 82, ls, st, zpf w a 902 (.int x))) := by
  refine (zE_ (i := .putfield 902) (by decide +kernel) _ _ _).trans ?_
  by_cases hg : a < zX ∧ (zf w a 902).isSome = true
  · rw [zgd_pos hg]
    obtain ⟨ha, h⟩ := hg
    exact zq_putf ha h rfl rfl
  · rw [zgd_neg hg]
    exact zq_putf_no (fun h1 h2 h3 => hg ⟨h1, h2⟩)
theorem e51_82 (ls st : List Value) (w : zH) : zrun none (51, 82, ls, st, w) = zrun none (51, 159, ls, st, w) := (zE_ (i := .goto 77) (by decide +kernel) _ _ _).trans rfl
theorem e51_85 (x : Nat) (st : List Value) (w : zH) : zrun none (51, 85, [.ref x], st, w) = zrun none (51, 86, [.ref x], (.ref x :: st), w) := (zE_ (i := .aload_n 0) (by decide +kernel) _ _ _).trans rfl
theorem e51_86 (x : Nat) (st : List Value) (w : zH) : zrun none (51, 86, [.ref x], st, w) = zrun none (51, 87, [.ref x], (.ref x :: st), w) := (zE_ (i := .aload_n 0) (by decide +kernel) _ _ _).trans rfl
theorem e51_87 (ls : List Value) (a : Nat) (st : List Value) (w : zH) : zrun none (51, 87, ls, (.ref a :: st), w) = zo (zf w a 903) (fun x => zrun none (51, 90, ls, (x :: st), w)) := (zE_ (i := .getfield 903) (by decide +kernel) _ _ _).trans zq_getf
theorem e51_90 (ls : List Value) (a : Nat) (x0 : Int32) (st : List Value) (w : zH) (hr : zcat st ≤ 8) : zrun none (51, 90, ls, (.int x0 :: .ref a :: st), w) = zgd (zis w a 9) (zcl (zrun none (48, 0, [.ref a, .int x0], [], w)) (fun r => zrun none (51, 93, ls, r.1.toList ++ st, r.2))) := by
  refine (zE_ (i := .invokevirtual 48) (by decide +kernel) _ _ _).trans ?_
  show zres (zinv none 48 51 90 ls (.int x0 :: .ref a :: st) w) = _
  unfold zinv
  show zres (if zrc none 48 w (.ref a) = true then zcall 48 [.ref a, .int x0] st 51 90 ls w else none) = _
  by_cases hc : zis w a 9
  · rw [if_pos (zrc_is hc (by decide +kernel)), zgd_pos hc]
    exact zq_call hr (Nat.le_of_ble_eq_true rfl) rfl rfl
  · rw [zgd_neg hc, if_neg (fun q => hc (zrc_of q (by decide +kernel)))]
    rfl
theorem e51_93 (ls : List Value) (x0 : Int32) (st : List Value) (w : zH) (hr : zcat st ≤ 8) : zrun none (51, 93, ls, (.int x0 :: st), w) = zcl (zrun none (49, 0, [.int x0], [], w)) (fun r => zrun none (51, 96, ls, r.1.toList ++ st, r.2)) := by
  refine (zE_ (i := .invokestatic 49) (by decide +kernel) _ _ _).trans ?_
  show zres (if (99 : Nat) = 99 ∧ 1 ≤ ((.int x0 :: st) : List Value).length then zcall 49 [.int x0] st 51 93 ls w else none) = _
  rw [if_pos ⟨rfl, by simp⟩]
  exact zq_call hr (Nat.le_of_ble_eq_true rfl) rfl rfl
theorem e51_96 (ls : List Value) (a : Int32) (st : List Value) (w : zH) : zrun none (51, 96, ls, (.int a :: st), w) = if a = 0 then zrun none (51, 106, ls, st, w) else zrun none (51, 99, ls, st, w) := (zE_ (i := .ifCond .eq 10) (by decide +kernel) _ _ _).trans (zq_if_eq rfl rfl)
theorem e51_99 (x : Nat) (st : List Value) (w : zH) : zrun none (51, 99, [.ref x], st, w) = zrun none (51, 100, [.ref x], (.ref x :: st), w) := (zE_ (i := .aload_n 0) (by decide +kernel) _ _ _).trans rfl
theorem e51_100 (ls : List Value) (a : Nat) (st : List Value) (w : zH) (hr : zcat st ≤ 8) : zrun none (51, 100, ls, (.ref a :: st), w) = zgd (zis w a 9) (zcl (zrun none (52, 0, [.ref a], [], w)) (fun r => zrun none (51, 103, ls, r.1.toList ++ st, r.2))) := by
  refine (zE_ (i := .invokevirtual 52) (by decide +kernel) _ _ _).trans ?_
  show zres (zinv none 52 51 100 ls (.ref a :: st) w) = _
  unfold zinv
  show zres (if zrc none 52 w (.ref a) = true then zcall 52 [.ref a] st 51 100 ls w else none) = _
  by_cases hc : zis w a 9
  · rw [if_pos (zrc_is hc (by decide +kernel)), zgd_pos hc]
    exact zq_call hr (Nat.le_of_ble_eq_true rfl) rfl rfl
  · rw [zgd_neg hc, if_neg (fun q => hc (zrc_of q (by decide +kernel)))]
    rfl
theorem e51_103 (ls st : List Value) (w : zH) : zrun none (51, 103, ls, st, w) = zrun none (51, 159, ls, st, w) := (zE_ (i := .goto 56) (by decide +kernel) _ _ _).trans rfl
theorem e51_106 (x : Nat) (st : List Value) (w : zH) : zrun none (51, 106, [.ref x], st, w) = zrun none (51, 107, [.ref x], (.ref x :: st), w) := (zE_ (i := .aload_n 0) (by decide +kernel) _ _ _).trans rfl
theorem e51_107 (x : Nat) (st : List Value) (w : zH) : zrun none (51, 107, [.ref x], st, w) = zrun none (51, 108, [.ref x], (.ref x :: st), w) := (zE_ (i := .aload_n 0) (by decide +kernel) _ _ _).trans rfl
theorem e51_108 (ls : List Value) (a : Nat) (st : List Value) (w : zH) : zrun none (51, 108, ls, (.ref a :: st), w) = zo (zf w a 903) (fun x => zrun none (51, 111, ls, (x :: st), w)) := (zE_ (i := .getfield 903) (by decide +kernel) _ _ _).trans zq_getf
theorem e51_111 (ls : List Value) (a : Nat) (x0 : Int32) (st : List Value) (w : zH) (hr : zcat st ≤ 8) : zrun none (51, 111, ls, (.int x0 :: .ref a :: st), w) = zgd (zis w a 9) (zcl (zrun none (48, 0, [.ref a, .int x0], [], w)) (fun r => zrun none (51, 114, ls, r.1.toList ++ st, r.2))) := by
  refine (zE_ (i := .invokevirtual 48) (by decide +kernel) _ _ _).trans ?_
  show zres (zinv none 48 51 111 ls (.int x0 :: .ref a :: st) w) = _
  unfold zinv
  show zres (if zrc none 48 w (.ref a) = true then zcall 48 [.ref a, .int x0] st 51 111 ls w else none) = _
  by_cases hc : zis w a 9
  · rw [if_pos (zrc_is hc (by decide +kernel)), zgd_pos hc]
    exact zq_call hr (Nat.le_of_ble_eq_true rfl) rfl rfl
  · rw [zgd_neg hc, if_neg (fun q => hc (zrc_of q (by decide +kernel)))]
    rfl
theorem e51_114 (ls : List Value) (x0 : Int32) (st : List Value) (w : zH) (hr : zcat st ≤ 8) : zrun none (51, 114, ls, (.int x0 :: st), w) = zcl (zrun none (50, 0, [.int x0], [], w)) (fun r => zrun none (51, 117, ls, r.1.toList ++ st, r.2)) := by
  refine (zE_ (i := .invokestatic 50) (by decide +kernel) _ _ _).trans ?_
  show zres (if (99 : Nat) = 99 ∧ 1 ≤ ((.int x0 :: st) : List Value).length then zcall 50 [.int x0] st 51 114 ls w else none) = _
  rw [if_pos ⟨rfl, by simp⟩]
  exact zq_call hr (Nat.le_of_ble_eq_true rfl) rfl rfl
theorem e51_117 (ls : List Value) (a : Int32) (st : List Value) (w : zH) : zrun none (51, 117, ls, (.int a :: st), w) = if a = 0 then zrun none (51, 127, ls, st, w) else zrun none (51, 120, ls, st, w) := (zE_ (i := .ifCond .eq 10) (by decide +kernel) _ _ _).trans (zq_if_eq rfl rfl)
theorem e51_120 (x : Nat) (st : List Value) (w : zH) : zrun none (51, 120, [.ref x], st, w) = zrun none (51, 121, [.ref x], (.ref x :: st), w) := (zE_ (i := .aload_n 0) (by decide +kernel) _ _ _).trans rfl
theorem e51_121 (ls : List Value) (a : Nat) (st : List Value) (w : zH) (hr : zcat st ≤ 8) : zrun none (51, 121, ls, (.ref a :: st), w) = zgd (zis w a 9) (zcl (zrun none (53, 0, [.ref a], [], w)) (fun r => zrun none (51, 124, ls, r.1.toList ++ st, r.2))) := by
  refine (zE_ (i := .invokevirtual 53) (by decide +kernel) _ _ _).trans ?_
  show zres (zinv none 53 51 121 ls (.ref a :: st) w) = _
  unfold zinv
  show zres (if zrc none 53 w (.ref a) = true then zcall 53 [.ref a] st 51 121 ls w else none) = _
  by_cases hc : zis w a 9
  · rw [if_pos (zrc_is hc (by decide +kernel)), zgd_pos hc]
    exact zq_call hr (Nat.le_of_ble_eq_true rfl) rfl rfl
  · rw [zgd_neg hc, if_neg (fun q => hc (zrc_of q (by decide +kernel)))]
    rfl
theorem e51_124 (ls st : List Value) (w : zH) : zrun none (51, 124, ls, st, w) = zrun none (51, 159, ls, st, w) := (zE_ (i := .goto 35) (by decide +kernel) _ _ _).trans rfl
theorem e51_127 (x : Nat) (st : List Value) (w : zH) : zrun none (51, 127, [.ref x], st, w) = zrun none (51, 128, [.ref x], (.ref x :: st), w) := (zE_ (i := .aload_n 0) (by decide +kernel) _ _ _).trans rfl
theorem e51_128 (x : Nat) (st : List Value) (w : zH) : zrun none (51, 128, [.ref x], st, w) = zrun none (51, 129, [.ref x], (.ref x :: st), w) := (zE_ (i := .aload_n 0) (by decide +kernel) _ _ _).trans rfl
theorem e51_129 (x : Nat) (st : List Value) (w : zH) : zrun none (51, 129, [.ref x], st, w) = zrun none (51, 130, [.ref x], (.ref x :: st), w) := (zE_ (i := .aload_n 0) (by decide +kernel) _ _ _).trans rfl
theorem e51_130 (ls : List Value) (a : Nat) (st : List Value) (w : zH) : zrun none (51, 130, ls, (.ref a :: st), w) = zo (zf w a 903) (fun x => zrun none (51, 133, ls, (x :: st), w)) := (zE_ (i := .getfield 903) (by decide +kernel) _ _ _).trans zq_getf
theorem e51_133 (ls : List Value) (a : Nat) (x0 : Int32) (st : List Value) (w : zH) (hr : zcat st ≤ 8) : zrun none (51, 133, ls, (.int x0 :: .ref a :: st), w) = zgd (zis w a 9) (zcl (zrun none (48, 0, [.ref a, .int x0], [], w)) (fun r => zrun none (51, 136, ls, r.1.toList ++ st, r.2))) := by
  refine (zE_ (i := .invokevirtual 48) (by decide +kernel) _ _ _).trans ?_
  show zres (zinv none 48 51 133 ls (.int x0 :: .ref a :: st) w) = _
  unfold zinv
  show zres (if zrc none 48 w (.ref a) = true then zcall 48 [.ref a, .int x0] st 51 133 ls w else none) = _
  by_cases hc : zis w a 9
  · rw [if_pos (zrc_is hc (by decide +kernel)), zgd_pos hc]
    exact zq_call hr (Nat.le_of_ble_eq_true rfl) rfl rfl
  · rw [zgd_neg hc, if_neg (fun q => hc (zrc_of q (by decide +kernel)))]
    rfl
theorem e51_136 (ls st : List Value) (w : zH) : zrun none (51, 136, ls, st, w) = zrun none (51, 138, ls, (.int 59 :: st), w) := (zE_ (i := .bipush 59) (by decide +kernel) _ _ _).trans rfl
theorem e51_138 (ls : List Value) (a b : Int32) (st : List Value) (w : zH) : zrun none (51, 138, ls, (.int b :: .int a :: st), w) = if a = b then zrun none (51, 141, ls, st, w) else zrun none (51, 145, ls, st, w) := (zE_ (i := .if_icmp .ne 7) (by decide +kernel) _ _ _).trans (zq_ic_ne rfl rfl)
theorem e51_141 (ls st : List Value) (w : zH) : zrun none (51, 141, ls, st, w) = zrun none (51, 142, ls, (.int 3 :: st), w) := (zE_ (i := .iconst 3) (by decide +kernel) _ _ _).trans rfl
theorem e51_142 (ls st : List Value) (w : zH) : zrun none (51, 142, ls, st, w) = zrun none (51, 146, ls, st, w) := (zE_ (i := .goto 4) (by decide +kernel) _ _ _).trans rfl
theorem e51_145 (ls st : List Value) (w : zH) : zrun none (51, 145, ls, st, w) = zrun none (51, 146, ls, (.int 4 :: st), w) := (zE_ (i := .iconst 4) (by decide +kernel) _ _ _).trans rfl
theorem e51_146 (ls : List Value) (x : Int32) (a : Nat) (st : List Value) (w : zH) : zrun none (51, 146, ls, (.int x :: .ref a :: st), w) = zgd (a < zX ∧ (zf w a 902).isSome = true) (zrun none (51, 149, ls, st, zpf w a 902 (.int x))) := by
  refine (zE_ (i := .putfield 902) (by decide +kernel) _ _ _).trans ?_
  by_cases hg : a < zX ∧ (zf w a 902).isSome = true
  · rw [zgd_pos hg]
    obtain ⟨ha, h⟩ := hg
    exact zq_putf ha h rfl rfl
  · rw [zgd_neg hg]
    exact zq_putf_no (fun h1 h2 h3 => hg ⟨h1, h2⟩)
theorem e51_149 (x : Nat) (st : List Value) (w : zH) : zrun none (51, 149, [.ref x], st, w) = zrun none (51, 150, [.ref x], (.ref x :: st), w) := (zE_ (i := .aload_n 0) (by decide +kernel) _ _ _).trans rfl
theorem e51_150 (x : Nat) (st : List Value) (w : zH) : zrun none (51, 150, [.ref x], st, w) = zrun none (51, 151, [.ref x], (.ref x :: st), w) := (zE_ (i := .aload_n 0) (by decide +kernel) _ _ _).trans rfl
theorem e51_151 (ls : List Value) (a : Nat) (st : List Value) (w : zH) : zrun none (51, 151, ls, (.ref a :: st), w) = zo (zf w a 903) (fun x => zrun none (51, 154, ls, (x :: st), w)) := (zE_ (i := .getfield 903) (by decide +kernel) _ _ _).trans zq_getf
theorem e51_154 (ls st : List Value) (w : zH) : zrun none (51, 154, ls, st, w) = zrun none (51, 155, ls, (.int 1 :: st), w) := (zE_ (i := .iconst 1) (by decide +kernel) _ _ _).trans rfl
theorem e51_155 (ls : List Value) (a b : Int32) (st : List Value) (w : zH) : zrun none (51, 155, ls, (.int b :: .int a :: st), w) = zrun none (51, 156, ls, (.int (a + b) :: st), w) := (zE_ (i := .iadd) (by decide +kernel) _ _ _).trans rfl
theorem e51_156 (ls : List Value) (x : Int32) (a : Nat) (st : List Value) (w : zH) : zrun none (51, 156, ls, (.int x :: .ref a :: st), w) = zgd (a < zX ∧ (zf w a 904).isSome = true) (zrun none (51, 159, ls, st, zpf w a 904 (.int x))) := by
  refine (zE_ (i := .putfield 904) (by decide +kernel) _ _ _).trans ?_
  by_cases hg : a < zX ∧ (zf w a 904).isSome = true
  · rw [zgd_pos hg]
    obtain ⟨ha, h⟩ := hg
    exact zq_putf ha h rfl rfl
  · rw [zgd_neg hg]
    exact zq_putf_no (fun h1 h2 h3 => hg ⟨h1, h2⟩)
theorem e51_159 (ls : List Value) (w : zH) : zrun none (51, 159, ls, [], w) = some (none, w) := (zE_ (i := .return_) (by decide +kernel) _ _ _).trans rfl
theorem e52_0 (x : Nat) (st : List Value) (w : zH) : zrun none (52, 0, [.ref x], st, w) = zrun none (52, 1, [.ref x], (.ref x :: st), w) := (zE_ (i := .aload_n 0) (by decide +kernel) _ _ _).trans rfl
theorem e52_1 (ls st : List Value) (w : zH) : zrun none (52, 1, ls, st, w) = zrun none (52, 2, ls, (.int 1 :: st), w) := (zE_ (i := .iconst 1) (by decide +kernel) _ _ _).trans rfl
theorem e52_2 (ls : List Value) (x : Int32) (a : Nat) (st : List Value) (w : zH) : zrun none (52, 2, ls, (.int x :: .ref a :: st), w) = zgd (a < zX ∧ (zf w a 902).isSome = true) (zrun none (52, 5, ls, st, zpf w a 902 (.int x))) := by
  refine (zE_ (i := .putfield 902) (by decide +kernel) _ _ _).trans ?_
  by_cases hg : a < zX ∧ (zf w a 902).isSome = true
  · rw [zgd_pos hg]
    obtain ⟨ha, h⟩ := hg
    exact zq_putf ha h rfl rfl
  · rw [zgd_neg hg]
    exact zq_putf_no (fun h1 h2 h3 => hg ⟨h1, h2⟩)
theorem e52_5 (x : Nat) (st : List Value) (w : zH) : zrun none (52, 5, [.ref x], st, w) = zrun none (52, 6, [.ref x], (.ref x :: st), w) := (zE_ (i := .aload_n 0) (by decide +kernel) _ _ _).trans rfl
theorem e52_6 (ls : List Value) (a : Nat) (st : List Value) (w : zH) : zrun none (52, 6, ls, (.ref a :: st), w) = zo (zf w a 904) (fun x => zrun none (52, 9, ls, (x :: st), w)) := (zE_ (i := .getfield 904) (by decide +kernel) _ _ _).trans zq_getf
theorem e52_9 (x : Nat) (st : List Value) (w : zH) : zrun none (52, 9, [.ref x], st, w) = zrun none (52, 10, [.ref x], (.ref x :: st), w) := (zE_ (i := .aload_n 0) (by decide +kernel) _ _ _).trans rfl
theorem e52_10 (ls : List Value) (a : Nat) (st : List Value) (w : zH) : zrun none (52, 10, ls, (.ref a :: st), w) = zo (zf w a 901) (fun x => zrun none (52, 13, ls, (x :: st), w)) := (zE_ (i := .getfield 901) (by decide +kernel) _ _ _).trans zq_getf
theorem e52_13 (ls : List Value) (a b : Int32) (st : List Value) (w : zH) : zrun none (52, 13, ls, (.int b :: .int a :: st), w) = if b ≤ a then zrun none (52, 43, ls, st, w) else zrun none (52, 16, ls, st, w) := (zE_ (i := .if_icmp .ge 30) (by decide +kernel) _ _ _).trans (zq_ic_ge rfl rfl)
theorem e52_16 (x : Nat) (st : List Value) (w : zH) : zrun none (52, 16, [.ref x], st, w) = zrun none (52, 17, [.ref x], (.ref x :: st), w) := (zE_ (i := .aload_n 0) (by decide +kernel) _ _ _).trans rfl
theorem e52_17 (x : Nat) (st : List Value) (w : zH) : zrun none (52, 17, [.ref x], st, w) = zrun none (52, 18, [.ref x], (.ref x :: st), w) := (zE_ (i := .aload_n 0) (by decide +kernel) _ _ _).trans rfl
theorem e52_18 (ls : List Value) (a : Nat) (st : List Value) (w : zH) : zrun none (52, 18, ls, (.ref a :: st), w) = zo (zf w a 904) (fun x => zrun none (52, 21, ls, (x :: st), w)) := (zE_ (i := .getfield 904) (by decide +kernel) _ _ _).trans zq_getf
theorem e52_21 (ls : List Value) (a : Nat) (x0 : Int32) (st : List Value) (w : zH) (hr : zcat st ≤ 8) : zrun none (52, 21, ls, (.int x0 :: .ref a :: st), w) = zgd (zis w a 9) (zcl (zrun none (48, 0, [.ref a, .int x0], [], w)) (fun r => zrun none (52, 24, ls, r.1.toList ++ st, r.2))) := by
  refine (zE_ (i := .invokevirtual 48) (by decide +kernel) _ _ _).trans ?_
  show zres (zinv none 48 52 21 ls (.int x0 :: .ref a :: st) w) = _
  unfold zinv
  show zres (if zrc none 48 w (.ref a) = true then zcall 48 [.ref a, .int x0] st 52 21 ls w else none) = _
  by_cases hc : zis w a 9
  · rw [if_pos (zrc_is hc (by decide +kernel)), zgd_pos hc]
    exact zq_call hr (Nat.le_of_ble_eq_true rfl) rfl rfl
  · rw [zgd_neg hc, if_neg (fun q => hc (zrc_of q (by decide +kernel)))]
    rfl
theorem e52_24 (ls : List Value) (x0 : Int32) (st : List Value) (w : zH) (hr : zcat st ≤ 8) : zrun none (52, 24, ls, (.int x0 :: st), w) = zcl (zrun none (49, 0, [.int x0], [], w)) (fun r => zrun none (52, 27, ls, r.1.toList ++ st, r.2)) := by
  refine (zE_ (i := .invokestatic 49) (by decide +kernel) _ _ _).trans ?_
  show zres (if (99 : Nat) = 99 ∧ 1 ≤ ((.int x0 :: st) : List Value).length then zcall 49 [.int x0] st 52 24 ls w else none) = _
  rw [if_pos ⟨rfl, by simp⟩]
  exact zq_call hr (Nat.le_of_ble_eq_true rfl) rfl rfl
theorem e52_27 (ls : List Value) (a : Int32) (st : List Value) (w : zH) : zrun none (52, 27, ls, (.int a :: st), w) = if a = 0 then zrun none (52, 43, ls, st, w) else zrun none (52, 30, ls, st, w) := (zE_ (i := .ifCond .eq 16) (by decide +kernel) _ _ _).trans (zq_if_eq rfl rfl)
theorem e52_30 (x : Nat) (st : List Value) (w : zH) : zrun none (52, 30, [.ref x], st, w) = zrun none (52, 31, [.ref x], (.ref x :: st), w) := (zE_ (i := .aload_n 0) (by decide +kernel) _ _ _).trans rfl
theorem e52_31 (ls : List Value) (x : Int32) (st : List Value) (w : zH) : zrun none (52, 31, ls, (.int x :: st), w) = zrun none (52, 32, ls, (.int x :: .int x :: st), w) := (zE_ (i := .dup) (by decide +kernel) _ _ _).trans rfl
theorem e52_31r (ls : List Value) (x : Nat) (st : List Value) (w : zH) : zrun none (52, 31, ls, (.ref x :: st), w) = zrun none (52, 32, ls, (.ref x :: .ref x :: st), w) := (zE_ (i := .dup) (by decide +kernel) _ _ _).trans rfl
theorem e52_32 (ls : List Value) (a : Nat) (st : List Value) (w : zH) : zrun none (52, 32, ls, (.ref a :: st), w) = zo (zf w a 904) (fun x => zrun none (52, 35, ls, (x :: st), w)) := (zE_ (i := .getfield 904) (by decide +kernel) _ _ _).trans zq_getf
theorem e52_35 (ls st : List Value) (w : zH) : zrun none (52, 35, ls, st, w) = zrun none (52, 36, ls, (.int 1 :: st), w) := (zE_ (i := .iconst 1) (by decide +kernel) _ _ _).trans rfl
theorem e52_36 (ls : List Value) (a b : Int32) (st : List Value) (w : zH) : zrun none (52, 36, ls, (.int b :: .int a :: st), w) = zrun none (52, 37, ls, (.int (a + b) :: st), w) := (zE_ (i := .iadd) (by decide +kernel) _ _ _).trans rfl
theorem e52_37 (ls : List Value) (x : Int32) (a : Nat) (st : List Value) (w : zH) : zrun none (52, 37, ls, (.int x :: .ref a :: st), w) = zgd (a < zX ∧ (zf w a 904).isSome = true) (zrun none (52, 40, ls, st, zpf w a 904 (.int x))) := by
  refine (zE_ (i := .putfield 904) (by decide +kernel) _ _ _).trans ?_
  by_cases hg : a < zX ∧ (zf w a 904).isSome = true
  · rw [zgd_pos hg]
    obtain ⟨ha, h⟩ := hg
    exact zq_putf ha h rfl rfl
  · rw [zgd_neg hg]
    exact zq_putf_no (fun h1 h2 h3 => hg ⟨h1, h2⟩)
theorem e52_40 (ls st : List Value) (w : zH) : zrun none (52, 40, ls, st, w) = zrun none (52, 5, ls, st, w) := (zE_ (i := .goto (-35)) (by decide +kernel) _ _ _).trans rfl
theorem e52_43 (ls : List Value) (w : zH) : zrun none (52, 43, ls, [], w) = some (none, w) := (zE_ (i := .return_) (by decide +kernel) _ _ _).trans rfl
theorem e53_0 (x : Nat) (st : List Value) (w : zH) : zrun none (53, 0, [.ref x], st, w) = zrun none (53, 1, [.ref x], (.ref x :: st), w) := (zE_ (i := .aload_n 0) (by decide +kernel) _ _ _).trans rfl
theorem e53_1 (ls : List Value) (a : Nat) (st : List Value) (w : zH) : zrun none (53, 1, ls, (.ref a :: st), w) = zo (zf w a 904) (fun x => zrun none (53, 4, ls, (x :: st), w)) := (zE_ (i := .getfield 904) (by decide +kernel) _ _ _).trans zq_getf
theorem e53_4 (x : Nat) (st : List Value) (w : zH) : zrun none (53, 4, [.ref x], st, w) = zrun none (53, 5, [.ref x], (.ref x :: st), w) := (zE_ (i := .aload_n 0) (by decide +kernel) _ _ _).trans rfl
theorem e53_5 (ls : List Value) (a : Nat) (st : List Value) (w : zH) : zrun none (53, 5, ls, (.ref a :: st), w) = zo (zf w a 901) (fun x => zrun none (53, 8, ls, (x :: st), w)) := (zE_ (i := .getfield 901) (by decide +kernel) _ _ _).trans zq_getf
theorem e53_8 (ls : List Value) (a b : Int32) (st : List Value) (w : zH) : zrun none (53, 8, ls, (.int b :: .int a :: st), w) = if b ≤ a then zrun none (53, 38, ls, st, w) else zrun none (53, 11, ls, st, w) := (zE_ (i := .if_icmp .ge 30) (by decide +kernel) _ _ _).trans (zq_ic_ge rfl rfl)
theorem e53_11 (x : Nat) (st : List Value) (w : zH) : zrun none (53, 11, [.ref x], st, w) = zrun none (53, 12, [.ref x], (.ref x :: st), w) := (zE_ (i := .aload_n 0) (by decide +kernel) _ _ _).trans rfl
theorem e53_12 (x : Nat) (st : List Value) (w : zH) : zrun none (53, 12, [.ref x], st, w) = zrun none (53, 13, [.ref x], (.ref x :: st), w) := (zE_ (i := .aload_n 0) (by decide +kernel) _ _ _).trans rfl
theorem e53_13 (ls : List Value) (a : Nat) (st : List Value) (w : zH) : zrun none (53, 13, ls, (.ref a :: st), w) = zo (zf w a 904) (fun x => zrun none (53, 16, ls, (x :: st), w)) := (zE_ (i := .getfield 904) (by decide +kernel) _ _ _).trans zq_getf
theorem e53_16 (ls : List Value) (a : Nat) (x0 : Int32) (st : List Value) (w : zH) (hr : zcat st ≤ 8) : zrun none (53, 16, ls, (.int x0 :: .ref a :: st), w) = zgd (zis w a 9) (zcl (zrun none (48, 0, [.ref a, .int x0], [], w)) (fun r => zrun none (53, 19, ls, r.1.toList ++ st, r.2))) := by
  refine (zE_ (i := .invokevirtual 48) (by decide +kernel) _ _ _).trans ?_
  show zres (zinv none 48 53 16 ls (.int x0 :: .ref a :: st) w) = _
  unfold zinv
  show zres (if zrc none 48 w (.ref a) = true then zcall 48 [.ref a, .int x0] st 53 16 ls w else none) = _
  by_cases hc : zis w a 9
  · rw [if_pos (zrc_is hc (by decide +kernel)), zgd_pos hc]
    exact zq_call hr (Nat.le_of_ble_eq_true rfl) rfl rfl
  · rw [zgd_neg hc, if_neg (fun q => hc (zrc_of q (by decide +kernel)))]
    rfl
theorem e53_19 (ls : List Value) (x0 : Int32) (st : List Value) (w : zH) (hr : zcat st ≤ 8) : zrun none (53, 19, ls, (.int x0 :: st), w) = zcl (zrun none (50, 0, [.int x0], [], w)) (fun r => zrun none (53, 22, ls, r.1.toList ++ st, r.2)) := by
  refine (zE_ (i := .invokestatic 50) (by decide +kernel) _ _ _).trans ?_
  show zres (if (99 : Nat) = 99 ∧ 1 ≤ ((.int x0 :: st) : List Value).length then zcall 50 [.int x0] st 53 19 ls w else none) = _
  rw [if_pos ⟨rfl, by simp⟩]
  exact zq_call hr (Nat.le_of_ble_eq_true rfl) rfl rfl
theorem e53_22 (ls : List Value) (a : Int32) (st : List Value) (w : zH) : zrun none (53, 22, ls, (.int a :: st), w) = if a = 0 then zrun none (53, 38, ls, st, w) else zrun none (53, 25, ls, st, w) := (zE_ (i := .ifCond .eq 16) (by decide +kernel) _ _ _).trans (zq_if_eq rfl rfl)
theorem e53_25 (x : Nat) (st : List Value) (w : zH) : zrun none (53, 25, [.ref x], st, w) = zrun none (53, 26, [.ref x], (.ref x :: st), w) := (zE_ (i := .aload_n 0) (by decide +kernel) _ _ _).trans rfl
theorem e53_26 (ls : List Value) (x : Int32) (st : List Value) (w : zH) : zrun none (53, 26, ls, (.int x :: st), w) = zrun none (53, 27, ls, (.int x :: .int x :: st), w) := (zE_ (i := .dup) (by decide +kernel) _ _ _).trans rfl
theorem e53_26r (ls : List Value) (x : Nat) (st : List Value) (w : zH) : zrun none (53, 26, ls, (.ref x :: st), w) = zrun none (53, 27, ls, (.ref x :: .ref x :: st), w) := (zE_ (i := .dup) (by decide +kernel) _ _ _).trans rfl
theorem e53_27 (ls : List Value) (a : Nat) (st : List Value) (w : zH) : zrun none (53, 27, ls, (.ref a :: st), w) = zo (zf w a 904) (fun x => zrun none (53, 30, ls, (x :: st), w)) := (zE_ (i := .getfield 904) (by decide +kernel) _ _ _).trans zq_getf
theorem e53_30 (ls st : List Value) (w : zH) : zrun none (53, 30, ls, st, w) = zrun none (53, 31, ls, (.int 1 :: st), w) := (zE_ (i := .iconst 1) (by decide +kernel) _ _ _).trans rfl
theorem e53_31 (ls : List Value) (a b : Int32) (st : List Value) (w : zH) : zrun none (53, 31, ls, (.int b :: .int a :: st), w) = zrun none (53, 32, ls, (.int (a + b) :: st), w) := (zE_ (i := .iadd) (by decide +kernel) _ _ _).trans rfl
theorem e53_32 (ls : List Value) (x : Int32) (a : Nat) (st : List Value) (w : zH) : zrun none (53, 32, ls, (.int x :: .ref a :: st), w) = zgd (a < zX ∧ (zf w a 904).isSome = true) (zrun none (53, 35, ls, st, zpf w a 904 (.int x))) := by
  refine (zE_ (i := .putfield 904) (by decide +kernel) _ _ _).trans ?_
  by_cases hg : a < zX ∧ (zf w a 904).isSome = true
  · rw [zgd_pos hg]
    obtain ⟨ha, h⟩ := hg
    exact zq_putf ha h rfl rfl
  · rw [zgd_neg hg]
    exact zq_putf_no (fun h1 h2 h3 => hg ⟨h1, h2⟩)
theorem e53_35 (ls st : List Value) (w : zH) : zrun none (53, 35, ls, st, w) = zrun none (53, 0, ls, st, w) := (zE_ (i := .goto (-35)) (by decide +kernel) _ _ _).trans rfl
theorem e53_38 (x : Nat) (st : List Value) (w : zH) : zrun none (53, 38, [.ref x], st, w) = zrun none (53, 39, [.ref x], (.ref x :: st), w) := (zE_ (i := .aload_n 0) (by decide +kernel) _ _ _).trans rfl
theorem e53_39 (x : Nat) (st : List Value) (w : zH) : zrun none (53, 39, [.ref x], st, w) = zrun none (53, 40, [.ref x], (.ref x :: st), w) := (zE_ (i := .aload_n 0) (by decide +kernel) _ _ _).trans rfl
theorem e53_40 (ls : List Value) (a : Nat) (st : List Value) (w : zH) : zrun none (53, 40, ls, (.ref a :: st), w) = zo (zf w a 904) (fun x => zrun none (53, 43, ls, (x :: st), w)) := (zE_ (i := .getfield 904) (by decide +kernel) _ _ _).trans zq_getf
theorem e53_43 (x : Nat) (st : List Value) (w : zH) : zrun none (53, 43, [.ref x], st, w) = zrun none (53, 44, [.ref x], (.ref x :: st), w) := (zE_ (i := .aload_n 0) (by decide +kernel) _ _ _).trans rfl
theorem e53_44 (ls : List Value) (a : Nat) (st : List Value) (w : zH) : zrun none (53, 44, ls, (.ref a :: st), w) = zo (zf w a 903) (fun x => zrun none (53, 47, ls, (x :: st), w)) := (zE_ (i := .getfield 903) (by decide +kernel) _ _ _).trans zq_getf
theorem e53_47 (ls : List Value) (a b : Int32) (st : List Value) (w : zH) : zrun none (53, 47, ls, (.int b :: .int a :: st), w) = zrun none (53, 48, ls, (.int (a - b) :: st), w) := (zE_ (i := .isub) (by decide +kernel) _ _ _).trans rfl
theorem e53_48 (ls st : List Value) (w : zH) : zrun none (53, 48, ls, st, w) = zrun none (53, 49, ls, (.int 5 :: st), w) := (zE_ (i := .iconst 5) (by decide +kernel) _ _ _).trans rfl
theorem e53_49 (ls : List Value) (a b : Int32) (st : List Value) (w : zH) : zrun none (53, 49, ls, (.int b :: .int a :: st), w) = if b < a then zrun none (53, 56, ls, st, w) else zrun none (53, 52, ls, st, w) := (zE_ (i := .if_icmp .gt 7) (by decide +kernel) _ _ _).trans (zq_ic_gt rfl rfl)
theorem e53_52 (ls st : List Value) (w : zH) : zrun none (53, 52, ls, st, w) = zrun none (53, 53, ls, (.int 2 :: st), w) := (zE_ (i := .iconst 2) (by decide +kernel) _ _ _).trans rfl
theorem e53_53 (ls st : List Value) (w : zH) : zrun none (53, 53, ls, st, w) = zrun none (53, 57, ls, st, w) := (zE_ (i := .goto 4) (by decide +kernel) _ _ _).trans rfl
theorem e53_56 (ls st : List Value) (w : zH) : zrun none (53, 56, ls, st, w) = zrun none (53, 57, ls, (.int 4 :: st), w) := (zE_ (i := .iconst 4) (by decide +kernel) _ _ _).trans rfl
theorem e53_57 (ls : List Value) (x : Int32) (a : Nat) (st : List Value) (w : zH) : zrun none (53, 57, ls, (.int x :: .ref a :: st), w) = zgd (a < zX ∧ (zf w a 902).isSome = true) (zrun none (53, 60, ls, st, zpf w a 902 (.int x))) := by
  refine (zE_ (i := .putfield 902) (by decide +kernel) _ _ _).trans ?_
  by_cases hg : a < zX ∧ (zf w a 902).isSome = true
  · rw [zgd_pos hg]
    obtain ⟨ha, h⟩ := hg
    exact zq_putf ha h rfl rfl
  · rw [zgd_neg hg]
    exact zq_putf_no (fun h1 h2 h3 => hg ⟨h1, h2⟩)
theorem e53_60 (ls : List Value) (w : zH) : zrun none (53, 60, ls, [], w) = some (none, w) := (zE_ (i := .return_) (by decide +kernel) _ _ _).trans rfl
theorem e54_0 (v1 : Value) (x : Nat) (st : List Value) (w : zH) : zrun none (54, 0, [.ref x, v1], st, w) = zrun none (54, 1, [.ref x, v1], (.ref x :: st), w) := (zE_ (i := .aload_n 0) (by decide +kernel) _ _ _).trans rfl
theorem e54_1 (ls : List Value) (a : Nat) (st : List Value) (w : zH) : zrun none (54, 1, ls, (.ref a :: st), w) = zo (zf w a 905) (fun x => zrun none (54, 4, ls, (x :: st), w)) := (zE_ (i := .getfield 905) (by decide +kernel) _ _ _).trans zq_getf
theorem e54_4 (ls : List Value) (a : Int32) (st : List Value) (w : zH) : zrun none (54, 4, ls, (.int a :: st), w) = if a = 0 then zrun none (54, 7, ls, st, w) else zrun none (54, 20, ls, st, w) := (zE_ (i := .ifCond .ne 16) (by decide +kernel) _ _ _).trans (zq_if_ne rfl rfl)
theorem e54_7 (v1 : Value) (x : Nat) (st : List Value) (w : zH) : zrun none (54, 7, [.ref x, v1], st, w) = zrun none (54, 8, [.ref x, v1], (.ref x :: st), w) := (zE_ (i := .aload_n 0) (by decide +kernel) _ _ _).trans rfl
theorem e54_8 (v0 : Value) (x : Int32) (st : List Value) (w : zH) : zrun none (54, 8, [v0, .int x], st, w) = zrun none (54, 9, [v0, .int x], (.int x :: st), w) := (zE_ (i := .iload_n 1) (by decide +kernel) _ _ _).trans rfl
theorem e54_9 (ls : List Value) (x : Int32) (a : Nat) (st : List Value) (w : zH) : zrun none (54, 9, ls, (.int x :: .ref a :: st), w) = zgd (a < zX ∧ (zf w a 905).isSome = true) (zrun none (54, 12, ls, st, zpf w a 905 (.int x))) := by
  refine (zE_ (i := .putfield 905) (by decide +kernel) _ _ _).trans ?_
  by_cases hg : a < zX ∧ (zf w a 905).isSome = true
  · rw [zgd_pos hg]
    obtain ⟨ha, h⟩ := hg
    exact zq_putf ha h rfl rfl
  · rw [zgd_neg hg]
    exact zq_putf_no (fun h1 h2 h3 => hg ⟨h1, h2⟩)
theorem e54_12 (v1 : Value) (x : Nat) (st : List Value) (w : zH) : zrun none (54, 12, [.ref x, v1], st, w) = zrun none (54, 13, [.ref x, v1], (.ref x :: st), w) := (zE_ (i := .aload_n 0) (by decide +kernel) _ _ _).trans rfl
theorem e54_13 (v1 : Value) (x : Nat) (st : List Value) (w : zH) : zrun none (54, 13, [.ref x, v1], st, w) = zrun none (54, 14, [.ref x, v1], (.ref x :: st), w) := (zE_ (i := .aload_n 0) (by decide +kernel) _ _ _).trans rfl
theorem e54_14 (ls : List Value) (a : Nat) (st : List Value) (w : zH) : zrun none (54, 14, ls, (.ref a :: st), w) = zo (zf w a 903) (fun x => zrun none (54, 17, ls, (x :: st), w)) := (zE_ (i := .getfield 903) (by decide +kernel) _ _ _).trans zq_getf
theorem e54_17 (ls : List Value) (x : Int32) (a : Nat) (st : List Value) (w : zH) : zrun none (54, 17, ls, (.int x :: .ref a :: st), w) = zgd (a < zX ∧ (zf w a 906).isSome = true) (zrun none (54, 20, ls, st, zpf w a 906 (.int x))) := by
  refine (zE_ (i := .putfield 906) (by decide +kernel) _ _ _).trans ?_
  by_cases hg : a < zX ∧ (zf w a 906).isSome = true
  · rw [zgd_pos hg]
    obtain ⟨ha, h⟩ := hg
    exact zq_putf ha h rfl rfl
  · rw [zgd_neg hg]
    exact zq_putf_no (fun h1 h2 h3 => hg ⟨h1, h2⟩)
theorem e54_20 (ls : List Value) (w : zH) : zrun none (54, 20, ls, [], w) = some (none, w) := (zE_ (i := .return_) (by decide +kernel) _ _ _).trans rfl
theorem e55_0 (v1 v2 v3 v4 : Value) (x : Nat) (st : List Value) (w : zH) : zrun none (55, 0, [.ref x, v1, v2, v3, v4], st, w) = zrun none (55, 1, [.ref x, v1, v2, v3, v4], (.ref x :: st), w) := (zE_ (i := .aload_n 0) (by decide +kernel) _ _ _).trans rfl
theorem e55_1 (ls : List Value) (a : Nat) (st : List Value) (w : zH) : zrun none (55, 1, ls, (.ref a :: st), w) = zo (zf w a 902) (fun x => zrun none (55, 4, ls, (x :: st), w)) := (zE_ (i := .getfield 902) (by decide +kernel) _ _ _).trans zq_getf
theorem e55_4 (ls st : List Value) (w : zH) : zrun none (55, 4, ls, st, w) = zrun none (55, 5, ls, (.int 1 :: st), w) := (zE_ (i := .iconst 1) (by decide +kernel) _ _ _).trans rfl
theorem e55_5 (ls : List Value) (a b : Int32) (st : List Value) (w : zH) : zrun none (55, 5, ls, (.int b :: .int a :: st), w) = if a = b then zrun none (55, 11, ls, st, w) else zrun none (55, 8, ls, st, w) := (zE_ (i := .if_icmp .eq 6) (by decide +kernel) _ _ _).trans (zq_ic_eq rfl rfl)
theorem e55_8 (ls st : List Value) (w : zH) : zrun none (55, 8, ls, st, w) = zrun none (55, 10, ls, (.int (-1000000) :: st), w) := (zE_ (i := .bipush (-1000000)) (by decide +kernel) _ _ _).trans rfl
theorem e55_10 (ls : List Value) (x : Int32) (w : zH) : zrun none (55, 10, ls, [.int x], w) = some (some (.int x), w) := by
  refine (zE_ (i := .ireturn) (by decide +kernel) _ _ _).trans ?_
  show zres (if narrow .int (.int x) = .int x then _ else none) = _
  rw [if_pos (show narrow .int (.int x) = .int x from rfl)]
  rfl
theorem e55_11 (ls st : List Value) (w : zH) : zrun none (55, 11, ls, st, w) = zrun none (55, 12, ls, (.int 0 :: st), w) := (zE_ (i := .iconst 0) (by decide +kernel) _ _ _).trans rfl
theorem e55_12 (v0 v1 v2 v3 v4 : Value) (x : Int32) (st : List Value) (w : zH) (h : v1.category = 1) : zrun none (55, 12, [v0, v1, v2, v3, v4], (.int x :: st), w) = zrun none (55, 13, [v0, v1, .int x, v3, v4], st, w) := by
  refine (zE_ (i := .istore_n 2) (by decide +kernel) _ _ _).trans ?_
  have hz : zfree [v0, v1, v2, v3, v4] 2 = true := by show decide (v1.category = 1) = true; exact decide_eq_true h
  show zres (zst zint 2 1 55 12 [v0, v1, v2, v3, v4] (.int x :: st) w) = _
  unfold zst
  dsimp only
  rw [if_pos ⟨rfl, Nat.le_of_ble_eq_true rfl, hz⟩]
  rfl
theorem e55_13 (ls st : List Value) (w : zH) : zrun none (55, 13, ls, st, w) = zrun none (55, 14, ls, (.int 0 :: st), w) := (zE_ (i := .iconst 0) (by decide +kernel) _ _ _).trans rfl
theorem e55_14 (v0 v1 v2 v3 v4 : Value) (x : Int32) (st : List Value) (w : zH) (h : v2.category = 1) : zrun none (55, 14, [v0, v1, v2, v3, v4], (.int x :: st), w) = zrun none (55, 15, [v0, v1, v2, .int x, v4], st, w) := by
  refine (zE_ (i := .istore_n 3) (by decide +kernel) _ _ _).trans ?_
  have hz : zfree [v0, v1, v2, v3, v4] 3 = true := by show decide (v2.category = 1) = true; exact decide_eq_true h
  show zres (zst zint 3 1 55 14 [v0, v1, v2, v3, v4] (.int x :: st) w) = _
  unfold zst
  dsimp only
  rw [if_pos ⟨rfl, Nat.le_of_ble_eq_true rfl, hz⟩]
  rfl
theorem e55_15 (ls st : List Value) (w : zH) : zrun none (55, 15, ls, st, w) = zrun none (55, 16, ls, (.int 0 :: st), w) := (zE_ (i := .iconst 0) (by decide +kernel) _ _ _).trans rfl
theorem e55_16 (v0 v1 v2 v3 v4 : Value) (x : Int32) (st : List Value) (w : zH) (h : v3.category = 1) : zrun none (55, 16, [v0, v1, v2, v3, v4], (.int x :: st), w) = zrun none (55, 18, [v0, v1, v2, v3, .int x], st, w) := by
  refine (zE_ (i := .istore 4) (by decide +kernel) _ _ _).trans ?_
  have hz : zfree [v0, v1, v2, v3, v4] 4 = true := by show decide (v3.category = 1) = true; exact decide_eq_true h
  show zres (zst zint 4 2 55 16 [v0, v1, v2, v3, v4] (.int x :: st) w) = _
  unfold zst
  dsimp only
  rw [if_pos ⟨rfl, Nat.le_of_ble_eq_true rfl, hz⟩]
  rfl
theorem e55_18 (v0 v1 v2 v3 : Value) (x : Int32) (st : List Value) (w : zH) : zrun none (55, 18, [v0, v1, v2, v3, .int x], st, w) = zrun none (55, 20, [v0, v1, v2, v3, .int x], (.int x :: st), w) := (zE_ (i := .iload 4) (by decide +kernel) _ _ _).trans rfl
theorem e55_20 (v0 v2 v3 v4 : Value) (x : Nat) (st : List Value) (w : zH) : zrun none (55, 20, [v0, .ref x, v2, v3, v4], st, w) = zrun none (55, 21, [v0, .ref x, v2, v3, v4], (.ref x :: st), w) := (zE_ (i := .aload_n 1) (by decide +kernel) _ _ _).trans rfl
theorem e55_20n (v0 v2 v3 v4 : Value) (st : List Value) (w : zH) : zrun none (55, 20, [v0, .null, v2, v3, v4], st, w) = zrun none (55, 21, [v0, .null, v2, v3, v4], (.null :: st), w) := (zE_ (i := .aload_n 1) (by decide +kernel) _ _ _).trans rfl
theorem e55_21 (ls : List Value) (a : Nat) (st : List Value) (w : zH) (hr : zcat st ≤ 8) : zrun none (55, 21, ls, (.ref a :: st), w) = zgd (zis w a 13) (zcl (zrun none (230, 0, [.ref a], [], w)) (fun r => zrun none (55, 24, ls, r.1.toList ++ st, r.2))) := by
  refine (zE_ (i := .invokevirtual 230) (by decide +kernel) _ _ _).trans ?_
  show zres (zinv none 230 55 21 ls (.ref a :: st) w) = _
  unfold zinv
  show zres (if zrc none 230 w (.ref a) = true then zcall 230 [.ref a] st 55 21 ls w else none) = _
  by_cases hc : zis w a 13
  · rw [if_pos (zrc_is hc (by decide +kernel)), zgd_pos hc]
    exact zq_call hr (Nat.le_of_ble_eq_true rfl) rfl rfl
  · rw [zgd_neg hc, if_neg (fun q => hc (zrc_of q (by decide +kernel)))]
    rfl
theorem e55_24 (ls : List Value) (a b : Int32) (st : List Value) (w : zH) : zrun none (55, 24, ls, (.int b :: .int a :: st), w) = if b < a then zrun none (55, 74, ls, st, w) else zrun none (55, 27, ls, st, w) := (zE_ (i := .if_icmp .gt 50) (by decide +kernel) _ _ _).trans (zq_ic_gt rfl rfl)
theorem e55_27 (v0 v1 v2 v3 : Value) (x : Int32) (st : List Value) (w : zH) : zrun none (55, 27, [v0, v1, v2, v3, .int x], st, w) = zrun none (55, 29, [v0, v1, v2, v3, .int x], (.int x :: st), w) := (zE_ (i := .iload 4) (by decide +kernel) _ _ _).trans rfl
theorem e55_29 (v0 v2 v3 v4 : Value) (x : Nat) (st : List Value) (w : zH) : zrun none (55, 29, [v0, .ref x, v2, v3, v4], st, w) = zrun none (55, 30, [v0, .ref x, v2, v3, v4], (.ref x :: st), w) := (zE_ (i := .aload_n 1) (by decide +kernel) _ _ _).trans rfl
theorem e55_29n (v0 v2 v3 v4 : Value) (st : List Value) (w : zH) : zrun none (55, 29, [v0, .null, v2, v3, v4], st, w) = zrun none (55, 30, [v0, .null, v2, v3, v4], (.null :: st), w) := (zE_ (i := .aload_n 1) (by decide +kernel) _ _ _).trans rfl
theorem e55_30 (ls : List Value) (a : Nat) (st : List Value) (w : zH) (hr : zcat st ≤ 8) : zrun none (55, 30, ls, (.ref a :: st), w) = zgd (zis w a 13) (zcl (zrun none (230, 0, [.ref a], [], w)) (fun r => zrun none (55, 33, ls, r.1.toList ++ st, r.2))) := by
  refine (zE_ (i := .invokevirtual 230) (by decide +kernel) _ _ _).trans ?_
  show zres (zinv none 230 55 30 ls (.ref a :: st) w) = _
  unfold zinv
  show zres (if zrc none 230 w (.ref a) = true then zcall 230 [.ref a] st 55 30 ls w else none) = _
  by_cases hc : zis w a 13
  · rw [if_pos (zrc_is hc (by decide +kernel)), zgd_pos hc]
    exact zq_call hr (Nat.le_of_ble_eq_true rfl) rfl rfl
  · rw [zgd_neg hc, if_neg (fun q => hc (zrc_of q (by decide +kernel)))]
    rfl
theorem e55_33 (ls : List Value) (a b : Int32) (st : List Value) (w : zH) : zrun none (55, 33, ls, (.int b :: .int a :: st), w) = if a = b then zrun none (55, 47, ls, st, w) else zrun none (55, 36, ls, st, w) := (zE_ (i := .if_icmp .eq 14) (by decide +kernel) _ _ _).trans (zq_ic_eq rfl rfl)
theorem e55_36 (v0 v2 v3 v4 : Value) (x : Nat) (st : List Value) (w : zH) : zrun none (55, 36, [v0, .ref x, v2, v3, v4], st, w) = zrun none (55, 37, [v0, .ref x, v2, v3, v4], (.ref x :: st), w) := (zE_ (i := .aload_n 1) (by decide +kernel) _ _ _).trans rfl
theorem e55_36n (v0 v2 v3 v4 : Value) (st : List Value) (w : zH) : zrun none (55, 36, [v0, .null, v2, v3, v4], st, w) = zrun none (55, 37, [v0, .null, v2, v3, v4], (.null :: st), w) := (zE_ (i := .aload_n 1) (by decide +kernel) _ _ _).trans rfl
theorem e55_37 (v0 v1 v2 v3 : Value) (x : Int32) (st : List Value) (w : zH) : zrun none (55, 37, [v0, v1, v2, v3, .int x], st, w) = zrun none (55, 39, [v0, v1, v2, v3, .int x], (.int x :: st), w) := (zE_ (i := .iload 4) (by decide +kernel) _ _ _).trans rfl
theorem e55_39 (ls : List Value) (a : Nat) (x0 : Int32) (st : List Value) (w : zH) (hr : zcat st ≤ 8) : zrun none (55, 39, ls, (.int x0 :: .ref a :: st), w) = zgd (zis w a 13) (zcl (zrun none (231, 0, [.ref a, .int x0], [], w)) (fun r => zrun none (55, 42, ls, r.1.toList ++ st, r.2))) := by
  refine (zE_ (i := .invokevirtual 231) (by decide +kernel) _ _ _).trans ?_
  show zres (zinv none 231 55 39 ls (.int x0 :: .ref a :: st) w) = _
  unfold zinv
  show zres (if zrc none 231 w (.ref a) = true then zcall 231 [.ref a, .int x0] st 55 39 ls w else none) = _
  by_cases hc : zis w a 13
  · rw [if_pos (zrc_is hc (by decide +kernel)), zgd_pos hc]
    exact zq_call hr (Nat.le_of_ble_eq_true rfl) rfl rfl
  · rw [zgd_neg hc, if_neg (fun q => hc (zrc_of q (by decide +kernel)))]
    rfl
theorem e55_42 (ls st : List Value) (w : zH) : zrun none (55, 42, ls, st, w) = zrun none (55, 44, ls, (.int 32 :: st), w) := (zE_ (i := .bipush 32) (by decide +kernel) _ _ _).trans rfl
theorem e55_44 (ls : List Value) (a b : Int32) (st : List Value) (w : zH) : zrun none (55, 44, ls, (.int b :: .int a :: st), w) = if a = b then zrun none (55, 47, ls, st, w) else zrun none (55, 68, ls, st, w) := (zE_ (i := .if_icmp .ne 24) (by decide +kernel) _ _ _).trans (zq_ic_ne rfl rfl)
theorem e55_47 (v1 v2 v3 v4 : Value) (x : Nat) (st : List Value) (w : zH) : zrun none (55, 47, [.ref x, v1, v2, v3, v4], st, w) = zrun none (55, 48, [.ref x, v1, v2, v3, v4], (.ref x :: st), w) := (zE_ (i := .aload_n 0) (by decide +kernel) _ _ _).trans rfl
theorem e55_48 (v0 v2 v3 v4 : Value) (x : Nat) (st : List Value) (w : zH) : zrun none (55, 48, [v0, .ref x, v2, v3, v4], st, w) = zrun none (55, 49, [v0, .ref x, v2, v3, v4], (.ref x :: st), w) := (zE_ (i := .aload_n 1) (by decide +kernel) _ _ _).trans rfl
theorem e55_48n (v0 v2 v3 v4 : Value) (st : List Value) (w : zH) : zrun none (55, 48, [v0, .null, v2, v3, v4], st, w) = zrun none (55, 49, [v0, .null, v2, v3, v4], (.null :: st), w) := (zE_ (i := .aload_n 1) (by decide +kernel) _ _ _).trans rfl
theorem e55_49 (v0 v1 v2 v4 : Value) (x : Int32) (st : List Value) (w : zH) : zrun none (55, 49, [v0, v1, v2, .int x, v4], st, w) = zrun none (55, 50, [v0, v1, v2, .int x, v4], (.int x :: st), w) := (zE_ (i := .iload_n 3) (by decide +kernel) _ _ _).trans rfl
theorem e55_50 (v0 v1 v2 v3 : Value) (x : Int32) (st : List Value) (w : zH) : zrun none (55, 50, [v0, v1, v2, v3, .int x], st, w) = zrun none (55, 52, [v0, v1, v2, v3, .int x], (.int x :: st), w) := (zE_ (i := .iload 4) (by decide +kernel) _ _ _).trans rfl
theorem e55_52 (ls : List Value) (a : Nat) (x0 : Nat) (x1 : Int32) (x2 : Int32) (st : List Value) (w : zH) (hr : zcat st ≤ 8) : zrun none (55, 52, ls, (.int x2 :: .int x1 :: .ref x0 :: .ref a :: st), w) = zgd (zis w a 9) (zcl (zrun none (56, 0, [.ref a, .ref x0, .int x1, .int x2, zJ], [], w)) (fun r => zrun none (55, 55, ls, r.1.toList ++ st, r.2))) := by
  refine (zE_ (i := .invokevirtual 56) (by decide +kernel) _ _ _).trans ?_
  show zres (zinv none 56 55 52 ls (.int x2 :: .int x1 :: .ref x0 :: .ref a :: st) w) = _
  unfold zinv
  show zres (if zrc none 56 w (.ref a) = true then zcall 56 [.ref a, .ref x0, .int x1, .int x2] st 55 52 ls w else none) = _
  by_cases hc : zis w a 9
  · rw [if_pos (zrc_is hc (by decide +kernel)), zgd_pos hc]
    exact zq_call hr (Nat.le_of_ble_eq_true rfl) rfl rfl
  · rw [zgd_neg hc, if_neg (fun q => hc (zrc_of q (by decide +kernel)))]
    rfl
theorem e55_55 (ls : List Value) (a : Int32) (st : List Value) (w : zH) : zrun none (55, 55, ls, (.int a :: st), w) = if a = 0 then zrun none (55, 60, ls, st, w) else zrun none (55, 58, ls, st, w) := (zE_ (i := .ifCond .eq 5) (by decide +kernel) _ _ _).trans (zq_if_eq rfl rfl)
theorem e55_58 (v0 v1 v3 v4 : Value) (x : Int32) (st : List Value) (w : zH) : zrun none (55, 58, [v0, v1, .int x, v3, v4], st, w) = zrun none (55, 59, [v0, v1, .int x, v3, v4], (.int x :: st), w) := (zE_ (i := .iload_n 2) (by decide +kernel) _ _ _).trans rfl
theorem e55_59 (ls : List Value) (x : Int32) (w : zH) : zrun none (55, 59, ls, [.int x], w) = some (some (.int x), w) := by
  refine (zE_ (i := .ireturn) (by decide +kernel) _ _ _).trans ?_
  show zres (if narrow .int (.int x) = .int x then _ else none) = _
  rw [if_pos (show narrow .int (.int x) = .int x from rfl)]
  rfl
theorem e55_60 (v0 v1 v3 v4 : Value) (x : Int32) (st : List Value) (w : zH) : zrun none (55, 60, [v0, v1, .int x, v3, v4], st, w) = zrun none (55, 63, [v0, v1, .int (x + 1), v3, v4], st, w) := (zE_ (i := .iinc 2 1) (by decide +kernel) _ _ _).trans rfl
theorem e55_63 (v0 v1 v2 v3 : Value) (x : Int32) (st : List Value) (w : zH) : zrun none (55, 63, [v0, v1, v2, v3, .int x], st, w) = zrun none (55, 65, [v0, v1, v2, v3, .int x], (.int x :: st), w) := (zE_ (i := .iload 4) (by decide +kernel) _ _ _).trans rfl
theorem e55_65 (ls st : List Value) (w : zH) : zrun none (55, 65, ls, st, w) = zrun none (55, 66, ls, (.int 1 :: st), w) := (zE_ (i := .iconst 1) (by decide +kernel) _ _ _).trans rfl
theorem e55_66 (ls : List Value) (a b : Int32) (st : List Value) (w : zH) : zrun none (55, 66, ls, (.int b :: .int a :: st), w) = zrun none (55, 67, ls, (.int (a + b) :: st), w) := (zE_ (i := .iadd) (by decide +kernel) _ _ _).trans rfl
theorem e55_67 (v0 v1 v2 v3 v4 : Value) (x : Int32) (st : List Value) (w : zH) (h : v2.category = 1) : zrun none (55, 67, [v0, v1, v2, v3, v4], (.int x :: st), w) = zrun none (55, 68, [v0, v1, v2, .int x, v4], st, w) := by
  refine (zE_ (i := .istore_n 3) (by decide +kernel) _ _ _).trans ?_
  have hz : zfree [v0, v1, v2, v3, v4] 3 = true := by show decide (v2.category = 1) = true; exact decide_eq_true h
  show zres (zst zint 3 1 55 67 [v0, v1, v2, v3, v4] (.int x :: st) w) = _
  unfold zst
  dsimp only
  rw [if_pos ⟨rfl, Nat.le_of_ble_eq_true rfl, hz⟩]
  rfl
theorem e55_68 (v0 v1 v2 v3 : Value) (x : Int32) (st : List Value) (w : zH) : zrun none (55, 68, [v0, v1, v2, v3, .int x], st, w) = zrun none (55, 71, [v0, v1, v2, v3, .int (x + 1)], st, w) := (zE_ (i := .iinc 4 1) (by decide +kernel) _ _ _).trans rfl
theorem e55_71 (ls st : List Value) (w : zH) : zrun none (55, 71, ls, st, w) = zrun none (55, 18, ls, st, w) := (zE_ (i := .goto (-53)) (by decide +kernel) _ _ _).trans rfl
theorem e55_74 (ls st : List Value) (w : zH) : zrun none (55, 74, ls, st, w) = zrun none (55, 76, ls, (.int (-1000000) :: st), w) := (zE_ (i := .bipush (-1000000)) (by decide +kernel) _ _ _).trans rfl
theorem e55_76 (ls : List Value) (x : Int32) (w : zH) : zrun none (55, 76, ls, [.int x], w) = some (some (.int x), w) := by
  refine (zE_ (i := .ireturn) (by decide +kernel) _ _ _).trans ?_
  show zres (if narrow .int (.int x) = .int x then _ else none) = _
  rw [if_pos (show narrow .int (.int x) = .int x from rfl)]
  rfl
theorem e56_0 (v0 v1 v2 v4 : Value) (x : Int32) (st : List Value) (w : zH) : zrun none (56, 0, [v0, v1, v2, .int x, v4], st, w) = zrun none (56, 1, [v0, v1, v2, .int x, v4], (.int x :: st), w) := (zE_ (i := .iload_n 3) (by decide +kernel) _ _ _).trans rfl
theorem e56_1 (v0 v1 v3 v4 : Value) (x : Int32) (st : List Value) (w : zH) : zrun none (56, 1, [v0, v1, .int x, v3, v4], st, w) = zrun none (56, 2, [v0, v1, .int x, v3, v4], (.int x :: st), w) := (zE_ (i := .iload_n 2) (by decide +kernel) _ _ _).trans rfl
theorem e56_2 (ls : List Value) (a b : Int32) (st : List Value) (w : zH) : zrun none (56, 2, ls, (.int b :: .int a :: st), w) = zrun none (56, 3, ls, (.int (a - b) :: st), w) := (zE_ (i := .isub) (by decide +kernel) _ _ _).trans rfl
theorem e56_3 (v1 v2 v3 v4 : Value) (x : Nat) (st : List Value) (w : zH) : zrun none (56, 3, [.ref x, v1, v2, v3, v4], st, w) = zrun none (56, 4, [.ref x, v1, v2, v3, v4], (.ref x :: st), w) := (zE_ (i := .aload_n 0) (by decide +kernel) _ _ _).trans rfl
theorem e56_4 (ls : List Value) (a : Nat) (st : List Value) (w : zH) : zrun none (56, 4, ls, (.ref a :: st), w) = zo (zf w a 904) (fun x => zrun none (56, 7, ls, (x :: st), w)) := (zE_ (i := .getfield 904) (by decide +kernel) _ _ _).trans zq_getf
theorem e56_7 (v1 v2 v3 v4 : Value) (x : Nat) (st : List Value) (w : zH) : zrun none (56, 7, [.ref x, v1, v2, v3, v4], st, w) = zrun none (56, 8, [.ref x, v1, v2, v3, v4], (.ref x :: st), w) := (zE_ (i := .aload_n 0) (by decide +kernel) _ _ _).trans rfl
theorem e56_8 (ls : List Value) (a : Nat) (st : List Value) (w : zH) : zrun none (56, 8, ls, (.ref a :: st), w) = zo (zf w a 903) (fun x => zrun none (56, 11, ls, (x :: st), w)) := (zE_ (i := .getfield 903) (by decide +kernel) _ _ _).trans zq_getf
theorem e56_11 (ls : List Value) (a b : Int32) (st : List Value) (w : zH) : zrun none (56, 11, ls, (.int b :: .int a :: st), w) = zrun none (56, 12, ls, (.int (a - b) :: st), w) := (zE_ (i := .isub) (by decide +kernel) _ _ _).trans rfl
theorem e56_12 (ls : List Value) (a b : Int32) (st : List Value) (w : zH) : zrun none (56, 12, ls, (.int b :: .int a :: st), w) = if a = b then zrun none (56, 15, ls, st, w) else zrun none (56, 27, ls, st, w) := (zE_ (i := .if_icmp .ne 15) (by decide +kernel) _ _ _).trans (zq_ic_ne rfl rfl)
theorem e56_15 (v0 v1 v3 v4 : Value) (x : Int32) (st : List Value) (w : zH) : zrun none (56, 15, [v0, v1, .int x, v3, v4], st, w) = zrun none (56, 16, [v0, v1, .int x, v3, v4], (.int x :: st), w) := (zE_ (i := .iload_n 2) (by decide +kernel) _ _ _).trans rfl
theorem e56_16 (ls : List Value) (a : Int32) (st : List Value) (w : zH) : zrun none (56, 16, ls, (.int a :: st), w) = if a < 0 then zrun none (56, 27, ls, st, w) else zrun none (56, 19, ls, st, w) := (zE_ (i := .ifCond .lt 11) (by decide +kernel) _ _ _).trans (zq_if_lt rfl rfl)
theorem e56_19 (v0 v1 v2 v4 : Value) (x : Int32) (st : List Value) (w : zH) : zrun none (56, 19, [v0, v1, v2, .int x, v4], st, w) = zrun none (56, 20, [v0, v1, v2, .int x, v4], (.int x :: st), w) := (zE_ (i := .iload_n 3) (by decide +kernel) _ _ _).trans rfl
theorem e56_20 (v0 v2 v3 v4 : Value) (x : Nat) (st : List Value) (w : zH) : zrun none (56, 20, [v0, .ref x, v2, v3, v4], st, w) = zrun none (56, 21, [v0, .ref x, v2, v3, v4], (.ref x :: st), w) := (zE_ (i := .aload_n 1) (by decide +kernel) _ _ _).trans rfl
theorem e56_20n (v0 v2 v3 v4 : Value) (st : List Value) (w : zH) : zrun none (56, 20, [v0, .null, v2, v3, v4], st, w) = zrun none (56, 21, [v0, .null, v2, v3, v4], (.null :: st), w) := (zE_ (i := .aload_n 1) (by decide +kernel) _ _ _).trans rfl
theorem e56_21 (ls : List Value) (a : Nat) (st : List Value) (w : zH) (hr : zcat st ≤ 8) : zrun none (56, 21, ls, (.ref a :: st), w) = zgd (zis w a 13) (zcl (zrun none (230, 0, [.ref a], [], w)) (fun r => zrun none (56, 24, ls, r.1.toList ++ st, r.2))) := by
  refine (zE_ (i := .invokevirtual 230) (by decide +kernel) _ _ _).trans ?_
  show zres (zinv none 230 56 21 ls (.ref a :: st) w) = _
  unfold zinv
  show zres (if zrc none 230 w (.ref a) = true then zcall 230 [.ref a] st 56 21 ls w else none) = _
  by_cases hc : zis w a 13
  · rw [if_pos (zrc_is hc (by decide +kernel)), zgd_pos hc]
    exact zq_call hr (Nat.le_of_ble_eq_true rfl) rfl rfl
  · rw [zgd_neg hc, if_neg (fun q => hc (zrc_of q (by decide +kernel)))]
    rfl
theorem e56_24 (ls : List Value) (a b : Int32) (st : List Value) (w : zH) : zrun none (56, 24, ls, (.int b :: .int a :: st), w) = if a ≤ b then zrun none (56, 29, ls, st, w) else zrun none (56, 27, ls, st, w) := (zE_ (i := .if_icmp .le 5) (by decide +kernel) _ _ _).trans (zq_ic_le rfl rfl)
theorem e56_27 (ls st : List Value) (w : zH) : zrun none (56, 27, ls, st, w) = zrun none (56, 28, ls, (.int 0 :: st), w) := (zE_ (i := .iconst 0) (by decide +kernel) _ _ _).trans rfl
theorem e56_28 (ls : List Value) (x : Int32) (w : zH) (h : narrow .boolean (.int x) = .int x) : zrun none (56, 28, ls, [.int x], w) = some (some (.int x), w) := by
  refine (zE_ (i := .ireturn) (by decide +kernel) _ _ _).trans ?_
  show zres (if narrow .boolean (.int x) = .int x then _ else none) = _
  rw [if_pos h]
  rfl
theorem e56_29 (v0 v1 v3 v4 : Value) (x : Int32) (st : List Value) (w : zH) : zrun none (56, 29, [v0, v1, .int x, v3, v4], st, w) = zrun none (56, 30, [v0, v1, .int x, v3, v4], (.int x :: st), w) := (zE_ (i := .iload_n 2) (by decide +kernel) _ _ _).trans rfl
theorem e56_30 (v0 v1 v2 v3 v4 : Value) (x : Int32) (st : List Value) (w : zH) (h : v3.category = 1) : zrun none (56, 30, [v0, v1, v2, v3, v4], (.int x :: st), w) = zrun none (56, 32, [v0, v1, v2, v3, .int x], st, w) := by
  refine (zE_ (i := .istore 4) (by decide +kernel) _ _ _).trans ?_
  have hz : zfree [v0, v1, v2, v3, v4] 4 = true := by show decide (v3.category = 1) = true; exact decide_eq_true h
  show zres (zst zint 4 2 56 30 [v0, v1, v2, v3, v4] (.int x :: st) w) = _
  unfold zst
  dsimp only
  rw [if_pos ⟨rfl, Nat.le_of_ble_eq_true rfl, hz⟩]
  rfl
theorem e56_32 (v0 v1 v2 v3 : Value) (x : Int32) (st : List Value) (w : zH) : zrun none (56, 32, [v0, v1, v2, v3, .int x], st, w) = zrun none (56, 34, [v0, v1, v2, v3, .int x], (.int x :: st), w) := (zE_ (i := .iload 4) (by decide +kernel) _ _ _).trans rfl
theorem e56_34 (v0 v1 v2 v4 : Value) (x : Int32) (st : List Value) (w : zH) : zrun none (56, 34, [v0, v1, v2, .int x, v4], st, w) = zrun none (56, 35, [v0, v1, v2, .int x, v4], (.int x :: st), w) := (zE_ (i := .iload_n 3) (by decide +kernel) _ _ _).trans rfl
theorem e56_35 (ls : List Value) (a b : Int32) (st : List Value) (w : zH) : zrun none (56, 35, ls, (.int b :: .int a :: st), w) = if b ≤ a then zrun none (56, 68, ls, st, w) else zrun none (56, 38, ls, st, w) := (zE_ (i := .if_icmp .ge 33) (by decide +kernel) _ _ _).trans (zq_ic_ge rfl rfl)
theorem e56_38 (v0 v2 v3 v4 : Value) (x : Nat) (st : List Value) (w : zH) : zrun none (56, 38, [v0, .ref x, v2, v3, v4], st, w) = zrun none (56, 39, [v0, .ref x, v2, v3, v4], (.ref x :: st), w) := (zE_ (i := .aload_n 1) (by decide +kernel) _ _ _).trans rfl
theorem e56_38n (v0 v2 v3 v4 : Value) (st : List Value) (w : zH) : zrun none (56, 38, [v0, .null, v2, v3, v4], st, w) = zrun none (56, 39, [v0, .null, v2, v3, v4], (.null :: st), w) := (zE_ (i := .aload_n 1) (by decide +kernel) _ _ _).trans rfl
theorem e56_39 (v0 v1 v2 v3 : Value) (x : Int32) (st : List Value) (w : zH) : zrun none (56, 39, [v0, v1, v2, v3, .int x], st, w) = zrun none (56, 41, [v0, v1, v2, v3, .int x], (.int x :: st), w) := (zE_ (i := .iload 4) (by decide +kernel) _ _ _).trans rfl
theorem e56_41 (ls : List Value) (a : Nat) (x0 : Int32) (st : List Value) (w : zH) (hr : zcat st ≤ 8) : zrun none (56, 41, ls, (.int x0 :: .ref a :: st), w) = zgd (zis w a 13) (zcl (zrun none (231, 0, [.ref a, .int x0], [], w)) (fun r => zrun none (56, 44, ls, r.1.toList ++ st, r.2))) := by
  refine (zE_ (i := .invokevirtual 231) (by decide +kernel) _ _ _).trans ?_
  show zres (zinv none 231 56 41 ls (.int x0 :: .ref a :: st) w) = _
  unfold zinv
  show zres (if zrc none 231 w (.ref a) = true then zcall 231 [.ref a, .int x0] st 56 41 ls w else none) = _
  by_cases hc : zis w a 13
  · rw [if_pos (zrc_is hc (by decide +kernel)), zgd_pos hc]
    exact zq_call hr (Nat.le_of_ble_eq_true rfl) rfl rfl
  · rw [zgd_neg hc, if_neg (fun q => hc (zrc_of q (by decide +kernel)))]
    rfl
theorem e56_44 (v1 v2 v3 v4 : Value) (x : Nat) (st : List Value) (w : zH) : zrun none (56, 44, [.ref x, v1, v2, v3, v4], st, w) = zrun none (56, 45, [.ref x, v1, v2, v3, v4], (.ref x :: st), w) := (zE_ (i := .aload_n 0) (by decide +kernel) _ _ _).trans rfl
theorem e56_45 (v1 v2 v3 v4 : Value) (x : Nat) (st : List Value) (w : zH) : zrun none (56, 45, [.ref x, v1, v2, v3, v4], st, w) = zrun none (56, 46, [.ref x, v1, v2, v3, v4], (.ref x :: st), w) := (zE_ (i := .aload_n 0) (by decide +kernel) _ _ _).trans rfl
theorem e56_46 (ls : List Value) (a : Nat) (st : List Value) (w : zH) : zrun none (56, 46, ls, (.ref a :: st), w) = zo (zf w a 903) (fun x => zrun none (56, 49, ls, (x :: st), w)) := (zE_ (i := .getfield 903) (by decide +kernel) _ _ _).trans zq_getf
theorem e56_49 (v0 v1 v2 v3 : Value) (x : Int32) (st : List Value) (w : zH) : zrun none (56, 49, [v0, v1, v2, v3, .int x], st, w) = zrun none (56, 51, [v0, v1, v2, v3, .int x], (.int x :: st), w) := (zE_ (i := .iload 4) (by decide +kernel) _ _ _).trans rfl
theorem e56_51 (ls : List Value) (a b : Int32) (st : List Value) (w : zH) : zrun none (56, 51, ls, (.int b :: .int a :: st), w) = zrun none (56, 52, ls, (.int (a + b) :: st), w) := (zE_ (i := .iadd) (by decide +kernel) _ _ _).trans rfl
theorem e56_52 (v0 v1 v3 v4 : Value) (x : Int32) (st : List Value) (w : zH) : zrun none (56, 52, [v0, v1, .int x, v3, v4], st, w) = zrun none (56, 53, [v0, v1, .int x, v3, v4], (.int x :: st), w) := (zE_ (i := .iload_n 2) (by decide +kernel) _ _ _).trans rfl
theorem e56_53 (ls : List Value) (a b : Int32) (st : List Value) (w : zH) : zrun none (56, 53, ls, (.int b :: .int a :: st), w) = zrun none (56, 54, ls, (.int (a - b) :: st), w) := (zE_ (i := .isub) (by decide +kernel) _ _ _).trans rfl
theorem e56_54 (ls : List Value) (a : Nat) (x0 : Int32) (st : List Value) (w : zH) (hr : zcat st ≤ 8) : zrun none (56, 54, ls, (.int x0 :: .ref a :: st), w) = zgd (zis w a 9) (zcl (zrun none (48, 0, [.ref a, .int x0], [], w)) (fun r => zrun none (56, 57, ls, r.1.toList ++ st, r.2))) := by
  refine (zE_ (i := .invokevirtual 48) (by decide +kernel) _ _ _).trans ?_
  show zres (zinv none 48 56 54 ls (.int x0 :: .ref a :: st) w) = _
  unfold zinv
  show zres (if zrc none 48 w (.ref a) = true then zcall 48 [.ref a, .int x0] st 56 54 ls w else none) = _
  by_cases hc : zis w a 9
  · rw [if_pos (zrc_is hc (by decide +kernel)), zgd_pos hc]
    exact zq_call hr (Nat.le_of_ble_eq_true rfl) rfl rfl
  · rw [zgd_neg hc, if_neg (fun q => hc (zrc_of q (by decide +kernel)))]
    rfl
theorem e56_57 (ls : List Value) (a b : Int32) (st : List Value) (w : zH) : zrun none (56, 57, ls, (.int b :: .int a :: st), w) = if a = b then zrun none (56, 62, ls, st, w) else zrun none (56, 60, ls, st, w) := (zE_ (i := .if_icmp .eq 5) (by decide +kernel) _ _ _).trans (zq_ic_eq rfl rfl)
theorem e56_60 (ls st : List Value) (w : zH) : zrun none (56, 60, ls, st, w) = zrun none (56, 61, ls, (.int 0 :: st), w) := (zE_ (i := .iconst 0) (by decide +kernel) _ _ _).trans rfl
theorem e56_61 (ls : List Value) (x : Int32) (w : zH) (h : narrow .boolean (.int x) = .int x) : zrun none (56, 61, ls, [.int x], w) = some (some (.int x), w) := by
  refine (zE_ (i := .ireturn) (by decide +kernel) _ _ _).trans ?_
  show zres (if narrow .boolean (.int x) = .int x then _ else none) = _
  rw [if_pos h]
  rfl
theorem e56_62 (v0 v1 v2 v3 : Value) (x : Int32) (st : List Value) (w : zH) : zrun none (56, 62, [v0, v1, v2, v3, .int x], st, w) = zrun none (56, 65, [v0, v1, v2, v3, .int (x + 1)], st, w) := (zE_ (i := .iinc 4 1) (by decide +kernel) _ _ _).trans rfl
theorem e56_65 (ls st : List Value) (w : zH) : zrun none (56, 65, ls, st, w) = zrun none (56, 32, ls, st, w) := (zE_ (i := .goto (-33)) (by decide +kernel) _ _ _).trans rfl
theorem e56_68 (ls st : List Value) (w : zH) : zrun none (56, 68, ls, st, w) = zrun none (56, 69, ls, (.int 1 :: st), w) := (zE_ (i := .iconst 1) (by decide +kernel) _ _ _).trans rfl
theorem e56_69 (ls : List Value) (x : Int32) (w : zH) (h : narrow .boolean (.int x) = .int x) : zrun none (56, 69, ls, [.int x], w) = some (some (.int x), w) := by
  refine (zE_ (i := .ireturn) (by decide +kernel) _ _ _).trans ?_
  show zres (if narrow .boolean (.int x) = .int x then _ else none) = _
  rw [if_pos h]
  rfl
theorem e57_0 (v1 : Value) (x : Nat) (st : List Value) (w : zH) : zrun none (57, 0, [.ref x, v1], st, w) = zrun none (57, 1, [.ref x, v1], (.ref x :: st), w) := (zE_ (i := .aload_n 0) (by decide +kernel) _ _ _).trans rfl
theorem e57_1 (ls : List Value) (a : Nat) (st : List Value) (w : zH) : zrun none (57, 1, ls, (.ref a :: st), w) = zo (zf w a 905) (fun x => zrun none (57, 4, ls, (x :: st), w)) := (zE_ (i := .getfield 905) (by decide +kernel) _ _ _).trans zq_getf
theorem e57_4 (ls : List Value) (a : Int32) (st : List Value) (w : zH) : zrun none (57, 4, ls, (.int a :: st), w) = if a = 0 then zrun none (57, 7, ls, st, w) else zrun none (57, 19, ls, st, w) := (zE_ (i := .ifCond .ne 15) (by decide +kernel) _ _ _).trans (zq_if_ne rfl rfl)
theorem e57_7 (v1 : Value) (x : Nat) (st : List Value) (w : zH) : zrun none (57, 7, [.ref x, v1], st, w) = zrun none (57, 8, [.ref x, v1], (.ref x :: st), w) := (zE_ (i := .aload_n 0) (by decide +kernel) _ _ _).trans rfl
theorem e57_8 (v0 : Value) (x : Nat) (st : List Value) (w : zH) : zrun none (57, 8, [v0, .ref x], st, w) = zrun none (57, 9, [v0, .ref x], (.ref x :: st), w) := (zE_ (i := .aload_n 1) (by decide +kernel) _ _ _).trans rfl
theorem e57_8n (v0 : Value) (st : List Value) (w : zH) : zrun none (57, 8, [v0, .null], st, w) = zrun none (57, 9, [v0, .null], (.null :: st), w) := (zE_ (i := .aload_n 1) (by decide +kernel) _ _ _).trans rfl
theorem e57_9 (ls : List Value) (a : Nat) (x0 : Nat) (st : List Value) (w : zH) (hr : zcat st ≤ 8) : zrun none (57, 9, ls, (.ref x0 :: .ref a :: st), w) = zgd (zis w a 9) (zcl (zrun none (55, 0, [.ref a, .ref x0, zJ, zJ, zJ], [], w)) (fun r => zrun none (57, 12, ls, r.1.toList ++ st, r.2))) := by
  refine (zE_ (i := .invokevirtual 55) (by decide +kernel) _ _ _).trans ?_
  show zres (zinv none 55 57 9 ls (.ref x0 :: .ref a :: st) w) = _
  unfold zinv
  show zres (if zrc none 55 w (.ref a) = true then zcall 55 [.ref a, .ref x0] st 57 9 ls w else none) = _
  by_cases hc : zis w a 9
  · rw [if_pos (zrc_is hc (by decide +kernel)), zgd_pos hc]
    exact zq_call hr (Nat.le_of_ble_eq_true rfl) rfl rfl
  · rw [zgd_neg hc, if_neg (fun q => hc (zrc_of q (by decide +kernel)))]
    rfl
theorem e57_12 (ls : List Value) (a : Int32) (st : List Value) (w : zH) : zrun none (57, 12, ls, (.int a :: st), w) = if a < 0 then zrun none (57, 19, ls, st, w) else zrun none (57, 15, ls, st, w) := (zE_ (i := .ifCond .lt 7) (by decide +kernel) _ _ _).trans (zq_if_lt rfl rfl)
theorem e57_15 (ls st : List Value) (w : zH) : zrun none (57, 15, ls, st, w) = zrun none (57, 16, ls, (.int 1 :: st), w) := (zE_ (i := .iconst 1) (by decide +kernel) _ _ _).trans rfl
theorem e57_16 (ls st : List Value) (w : zH) : zrun none (57, 16, ls, st, w) = zrun none (57, 20, ls, st, w) := (zE_ (i := .goto 4) (by decide +kernel) _ _ _).trans rfl
theorem e57_19 (ls st : List Value) (w : zH) : zrun none (57, 19, ls, st, w) = zrun none (57, 20, ls, (.int 0 :: st), w) := (zE_ (i := .iconst 0) (by decide +kernel) _ _ _).trans rfl
theorem e57_20 (ls : List Value) (x : Int32) (w : zH) (h : narrow .boolean (.int x) = .int x) : zrun none (57, 20, ls, [.int x], w) = some (some (.int x), w) := by
  refine (zE_ (i := .ireturn) (by decide +kernel) _ _ _).trans ?_
  show zres (if narrow .boolean (.int x) = .int x then _ else none) = _
  rw [if_pos h]
  rfl
theorem e58_0 (v1 v2 : Value) (x : Nat) (st : List Value) (w : zH) : zrun none (58, 0, [.ref x, v1, v2], st, w) = zrun none (58, 1, [.ref x, v1, v2], (.ref x :: st), w) := (zE_ (i := .aload_n 0) (by decide +kernel) _ _ _).trans rfl
theorem e58_1 (ls : List Value) (a : Nat) (st : List Value) (w : zH) : zrun none (58, 1, ls, (.ref a :: st), w) = zo (zf w a 905) (fun x => zrun none (58, 4, ls, (x :: st), w)) := (zE_ (i := .getfield 905) (by decide +kernel) _ _ _).trans zq_getf
theorem e58_4 (ls : List Value) (a : Int32) (st : List Value) (w : zH) : zrun none (58, 4, ls, (.int a :: st), w) = if a = 0 then zrun none (58, 10, ls, st, w) else zrun none (58, 7, ls, st, w) := (zE_ (i := .ifCond .eq 6) (by decide +kernel) _ _ _).trans (zq_if_eq rfl rfl)
theorem e58_7 (ls st : List Value) (w : zH) : zrun none (58, 7, ls, st, w) = zrun none (58, 9, ls, (.int (-1000000) :: st), w) := (zE_ (i := .bipush (-1000000)) (by decide +kernel) _ _ _).trans rfl
theorem e58_9 (ls : List Value) (x : Int32) (w : zH) : zrun none (58, 9, ls, [.int x], w) = some (some (.int x), w) := by
  refine (zE_ (i := .ireturn) (by decide +kernel) _ _ _).trans ?_
  show zres (if narrow .int (.int x) = .int x then _ else none) = _
  rw [if_pos (show narrow .int (.int x) = .int x from rfl)]
  rfl
theorem e58_10 (v1 v2 : Value) (x : Nat) (st : List Value) (w : zH) : zrun none (58, 10, [.ref x, v1, v2], st, w) = zrun none (58, 11, [.ref x, v1, v2], (.ref x :: st), w) := (zE_ (i := .aload_n 0) (by decide +kernel) _ _ _).trans rfl
theorem e58_11 (v0 v2 : Value) (x : Nat) (st : List Value) (w : zH) : zrun none (58, 11, [v0, .ref x, v2], st, w) = zrun none (58, 12, [v0, .ref x, v2], (.ref x :: st), w) := (zE_ (i := .aload_n 1) (by decide +kernel) _ _ _).trans rfl
theorem e58_11n (v0 v2 : Value) (st : List Value) (w : zH) : zrun none (58, 11, [v0, .null, v2], st, w) = zrun none (58, 12, [v0, .null, v2], (.null :: st), w) := (zE_ (i := .aload_n 1) (by decide +kernel) _ _ _).trans rfl
theorem e58_12 (ls : List Value) (a : Nat) (x0 : Nat) (st : List Value) (w : zH) (hr : zcat st ≤ 8) : zrun none (58, 12, ls, (.ref x0 :: .ref a :: st), w) = zgd (zis w a 9) (zcl (zrun none (55, 0, [.ref a, .ref x0, zJ, zJ, zJ], [], w)) (fun r => zrun none (58, 15, ls, r.1.toList ++ st, r.2))) := by
  refine (zE_ (i := .invokevirtual 55) (by decide +kernel) _ _ _).trans ?_
  show zres (zinv none 55 58 12 ls (.ref x0 :: .ref a :: st) w) = _
  unfold zinv
  show zres (if zrc none 55 w (.ref a) = true then zcall 55 [.ref a, .ref x0] st 58 12 ls w else none) = _
  by_cases hc : zis w a 9
  · rw [if_pos (zrc_is hc (by decide +kernel)), zgd_pos hc]
    exact zq_call hr (Nat.le_of_ble_eq_true rfl) rfl rfl
  · rw [zgd_neg hc, if_neg (fun q => hc (zrc_of q (by decide +kernel)))]
    rfl
theorem e58_15 (v0 v1 v2 : Value) (x : Int32) (st : List Value) (w : zH) (h : v1.category = 1) : zrun none (58, 15, [v0, v1, v2], (.int x :: st), w) = zrun none (58, 16, [v0, v1, .int x], st, w) := by
  refine (zE_ (i := .istore_n 2) (by decide +kernel) _ _ _).trans ?_
  have hz : zfree [v0, v1, v2] 2 = true := by show decide (v1.category = 1) = true; exact decide_eq_true h
  show zres (zst zint 2 1 58 15 [v0, v1, v2] (.int x :: st) w) = _
  unfold zst
  dsimp only
  rw [if_pos ⟨rfl, Nat.le_of_ble_eq_true rfl, hz⟩]
  rfl
theorem e58_16 (v0 v1 : Value) (x : Int32) (st : List Value) (w : zH) : zrun none (58, 16, [v0, v1, .int x], st, w) = zrun none (58, 17, [v0, v1, .int x], (.int x :: st), w) := (zE_ (i := .iload_n 2) (by decide +kernel) _ _ _).trans rfl
theorem e58_17 (ls : List Value) (a : Int32) (st : List Value) (w : zH) : zrun none (58, 17, ls, (.int a :: st), w) = if 0 ≤ a then zrun none (58, 28, ls, st, w) else zrun none (58, 20, ls, st, w) := (zE_ (i := .ifCond .ge 11) (by decide +kernel) _ _ _).trans (zq_if_ge rfl rfl)
theorem e58_20 (v1 v2 : Value) (x : Nat) (st : List Value) (w : zH) : zrun none (58, 20, [.ref x, v1, v2], st, w) = zrun none (58, 21, [.ref x, v1, v2], (.ref x :: st), w) := (zE_ (i := .aload_n 0) (by decide +kernel) _ _ _).trans rfl
theorem e58_21 (ls st : List Value) (w : zH) : zrun none (58, 21, ls, st, w) = zrun none (58, 22, ls, (.int 1 :: st), w) := (zE_ (i := .iconst 1) (by decide +kernel) _ _ _).trans rfl
theorem e58_22 (ls : List Value) (a : Nat) (x0 : Int32) (st : List Value) (w : zH) (hr : zcat st ≤ 8) : zrun none (58, 22, ls, (.int x0 :: .ref a :: st), w) = zgd (zis w a 9) (zcl (zrun none (54, 0, [.ref a, .int x0], [], w)) (fun r => zrun none (58, 25, ls, r.1.toList ++ st, r.2))) := by
  refine (zE_ (i := .invokevirtual 54) (by decide +kernel) _ _ _).trans ?_
  show zres (zinv none 54 58 22 ls (.int x0 :: .ref a :: st) w) = _
  unfold zinv
  show zres (if zrc none 54 w (.ref a) = true then zcall 54 [.ref a, .int x0] st 58 22 ls w else none) = _
  by_cases hc : zis w a 9
  · rw [if_pos (zrc_is hc (by decide +kernel)), zgd_pos hc]
    exact zq_call hr (Nat.le_of_ble_eq_true rfl) rfl rfl
  · rw [zgd_neg hc, if_neg (fun q => hc (zrc_of q (by decide +kernel)))]
    rfl
theorem e58_25 (ls st : List Value) (w : zH) : zrun none (58, 25, ls, st, w) = zrun none (58, 32, ls, st, w) := (zE_ (i := .goto 7) (by decide +kernel) _ _ _).trans rfl
theorem e58_28 (v1 v2 : Value) (x : Nat) (st : List Value) (w : zH) : zrun none (58, 28, [.ref x, v1, v2], st, w) = zrun none (58, 29, [.ref x, v1, v2], (.ref x :: st), w) := (zE_ (i := .aload_n 0) (by decide +kernel) _ _ _).trans rfl
theorem e58_29 (ls : List Value) (a : Nat) (st : List Value) (w : zH) (hr : zcat st ≤ 8) : zrun none (58, 29, ls, (.ref a :: st), w) = zgd (zis w a 9) (zcl (zrun none (51, 0, [.ref a], [], w)) (fun r => zrun none (58, 32, ls, r.1.toList ++ st, r.2))) := by
  refine (zE_ (i := .invokevirtual 51) (by decide +kernel) _ _ _).trans ?_
  show zres (zinv none 51 58 29 ls (.ref a :: st) w) = _
  unfold zinv
  show zres (if zrc none 51 w (.ref a) = true then zcall 51 [.ref a] st 58 29 ls w else none) = _
  by_cases hc : zis w a 9
  · rw [if_pos (zrc_is hc (by decide +kernel)), zgd_pos hc]
    exact zq_call hr (Nat.le_of_ble_eq_true rfl) rfl rfl
  · rw [zgd_neg hc, if_neg (fun q => hc (zrc_of q (by decide +kernel)))]
    rfl
theorem e58_32 (v0 v1 : Value) (x : Int32) (st : List Value) (w : zH) : zrun none (58, 32, [v0, v1, .int x], st, w) = zrun none (58, 33, [v0, v1, .int x], (.int x :: st), w) := (zE_ (i := .iload_n 2) (by decide +kernel) _ _ _).trans rfl
theorem e58_33 (ls : List Value) (x : Int32) (w : zH) : zrun none (58, 33, ls, [.int x], w) = some (some (.int x), w) := by
  refine (zE_ (i := .ireturn) (by decide +kernel) _ _ _).trans ?_
  show zres (if narrow .int (.int x) = .int x then _ else none) = _
  rw [if_pos (show narrow .int (.int x) = .int x from rfl)]
  rfl
theorem e59_0 (v1 v2 : Value) (x : Nat) (st : List Value) (w : zH) : zrun none (59, 0, [.ref x, v1, v2], st, w) = zrun none (59, 1, [.ref x, v1, v2], (.ref x :: st), w) := (zE_ (i := .aload_n 0) (by decide +kernel) _ _ _).trans rfl
theorem e59_1 (v1 v2 : Value) (x : Nat) (st : List Value) (w : zH) : zrun none (59, 1, [.ref x, v1, v2], st, w) = zrun none (59, 2, [.ref x, v1, v2], (.ref x :: st), w) := (zE_ (i := .aload_n 0) (by decide +kernel) _ _ _).trans rfl
theorem e59_2 (v0 v2 : Value) (x : Nat) (st : List Value) (w : zH) : zrun none (59, 2, [v0, .ref x, v2], st, w) = zrun none (59, 3, [v0, .ref x, v2], (.ref x :: st), w) := (zE_ (i := .aload_n 1) (by decide +kernel) _ _ _).trans rfl
theorem e59_2n (v0 v2 : Value) (st : List Value) (w : zH) : zrun none (59, 2, [v0, .null, v2], st, w) = zrun none (59, 3, [v0, .null, v2], (.null :: st), w) := (zE_ (i := .aload_n 1) (by decide +kernel) _ _ _).trans rfl
theorem e59_3 (ls : List Value) (a : Nat) (x0 : Nat) (st : List Value) (w : zH) (hr : zcat st ≤ 8) : zrun none (59, 3, ls, (.ref x0 :: .ref a :: st), w) = zgd (zis w a 9) (zcl (zrun none (57, 0, [.ref a, .ref x0], [], w)) (fun r => zrun none (59, 6, ls, r.1.toList ++ st, r.2))) := by
  refine (zE_ (i := .invokevirtual 57) (by decide +kernel) _ _ _).trans ?_
  show zres (zinv none 57 59 3 ls (.ref x0 :: .ref a :: st) w) = _
  unfold zinv
  show zres (if zrc none 57 w (.ref a) = true then zcall 57 [.ref a, .ref x0] st 59 3 ls w else none) = _
  by_cases hc : zis w a 9
  · rw [if_pos (zrc_is hc (by decide +kernel)), zgd_pos hc]
    exact zq_call hr (Nat.le_of_ble_eq_true rfl) rfl rfl
  · rw [zgd_neg hc, if_neg (fun q => hc (zrc_of q (by decide +kernel)))]
    rfl
theorem e59_6 (ls : List Value) (a : Int32) (st : List Value) (w : zH) : zrun none (59, 6, ls, (.int a :: st), w) = if a = 0 then zrun none (59, 13, ls, st, w) else zrun none (59, 9, ls, st, w) := (zE_ (i := .ifCond .eq 7) (by decide +kernel) _ _ _).trans (zq_if_eq rfl rfl)
theorem e59_9 (v0 v1 : Value) (x : Int32) (st : List Value) (w : zH) : zrun none (59, 9, [v0, v1, .int x], st, w) = zrun none (59, 10, [v0, v1, .int x], (.int x :: st), w) := (zE_ (i := .iload_n 2) (by decide +kernel) _ _ _).trans rfl
theorem e59_10 (ls st : List Value) (w : zH) : zrun none (59, 10, ls, st, w) = zrun none (59, 14, ls, st, w) := (zE_ (i := .goto 4) (by decide +kernel) _ _ _).trans rfl
theorem e59_13 (ls st : List Value) (w : zH) : zrun none (59, 13, ls, st, w) = zrun none (59, 14, ls, (.int 1 :: st), w) := (zE_ (i := .iconst 1) (by decide +kernel) _ _ _).trans rfl
theorem e59_14 (ls : List Value) (a : Nat) (x0 : Int32) (st : List Value) (w : zH) (hr : zcat st ≤ 8) : zrun none (59, 14, ls, (.int x0 :: .ref a :: st), w) = zgd (zis w a 9) (zcl (zrun none (54, 0, [.ref a, .int x0], [], w)) (fun r => zrun none (59, 17, ls, r.1.toList ++ st, r.2))) := by
  refine (zE_ (i := .invokevirtual 54) (by decide +kernel) _ _ _).trans ?_
  show zres (zinv none 54 59 14 ls (.int x0 :: .ref a :: st) w) = _
  unfold zinv
  show zres (if zrc none 54 w (.ref a) = true then zcall 54 [.ref a, .int x0] st 59 14 ls w else none) = _
  by_cases hc : zis w a 9
  · rw [if_pos (zrc_is hc (by decide +kernel)), zgd_pos hc]
    exact zq_call hr (Nat.le_of_ble_eq_true rfl) rfl rfl
  · rw [zgd_neg hc, if_neg (fun q => hc (zrc_of q (by decide +kernel)))]
    rfl
theorem e59_17 (ls : List Value) (w : zH) : zrun none (59, 17, ls, [], w) = some (none, w) := (zE_ (i := .return_) (by decide +kernel) _ _ _).trans rfl
theorem e60_0 (v1 v2 v3 : Value) (x : Nat) (st : List Value) (w : zH) : zrun none (60, 0, [.ref x, v1, v2, v3], st, w) = zrun none (60, 1, [.ref x, v1, v2, v3], (.ref x :: st), w) := (zE_ (i := .aload_n 0) (by decide +kernel) _ _ _).trans rfl
theorem e60_1 (ls : List Value) (a : Nat) (st : List Value) (w : zH) : zrun none (60, 1, ls, (.ref a :: st), w) = zo (zf w a 905) (fun x => zrun none (60, 4, ls, (x :: st), w)) := (zE_ (i := .getfield 905) (by decide +kernel) _ _ _).trans zq_getf
theorem e60_4 (ls : List Value) (a : Int32) (st : List Value) (w : zH) : zrun none (60, 4, ls, (.int a :: st), w) = if a = 0 then zrun none (60, 10, ls, st, w) else zrun none (60, 7, ls, st, w) := (zE_ (i := .ifCond .eq 6) (by decide +kernel) _ _ _).trans (zq_if_eq rfl rfl)
theorem e60_7 (ls st : List Value) (w : zH) : zrun none (60, 7, ls, st, w) = zrun none (60, 9, ls, (.int (-1000000) :: st), w) := (zE_ (i := .bipush (-1000000)) (by decide +kernel) _ _ _).trans rfl
theorem e60_9 (ls : List Value) (x : Int32) (w : zH) : zrun none (60, 9, ls, [.int x], w) = some (some (.int x), w) := by
  refine (zE_ (i := .ireturn) (by decide +kernel) _ _ _).trans ?_
  show zres (if narrow .int (.int x) = .int x then _ else none) = _
  rw [if_pos (show narrow .int (.int x) = .int x from rfl)]
  rfl
theorem e60_10 (v1 v2 v3 : Value) (x : Nat) (st : List Value) (w : zH) : zrun none (60, 10, [.ref x, v1, v2, v3], st, w) = zrun none (60, 11, [.ref x, v1, v2, v3], (.ref x :: st), w) := (zE_ (i := .aload_n 0) (by decide +kernel) _ _ _).trans rfl
theorem e60_11 (ls : List Value) (a : Nat) (st : List Value) (w : zH) : zrun none (60, 11, ls, (.ref a :: st), w) = zo (zf w a 902) (fun x => zrun none (60, 14, ls, (x :: st), w)) := (zE_ (i := .getfield 902) (by decide +kernel) _ _ _).trans zq_getf
theorem e60_14 (ls st : List Value) (w : zH) : zrun none (60, 14, ls, st, w) = zrun none (60, 15, ls, (.int 2 :: st), w) := (zE_ (i := .iconst 2) (by decide +kernel) _ _ _).trans rfl
theorem e60_15 (ls : List Value) (a b : Int32) (st : List Value) (w : zH) : zrun none (60, 15, ls, (.int b :: .int a :: st), w) = if a = b then zrun none (60, 18, ls, st, w) else zrun none (60, 25, ls, st, w) := (zE_ (i := .if_icmp .ne 10) (by decide +kernel) _ _ _).trans (zq_ic_ne rfl rfl)
theorem e60_18 (v1 v2 v3 : Value) (x : Nat) (st : List Value) (w : zH) : zrun none (60, 18, [.ref x, v1, v2, v3], st, w) = zrun none (60, 19, [.ref x, v1, v2, v3], (.ref x :: st), w) := (zE_ (i := .aload_n 0) (by decide +kernel) _ _ _).trans rfl
theorem e60_19 (ls : List Value) (a : Nat) (st : List Value) (w : zH) (hr : zcat st ≤ 8) : zrun none (60, 19, ls, (.ref a :: st), w) = zgd (zis w a 9) (zcl (zrun none (61, 0, [.ref a, zJ, zJ], [], w)) (fun r => zrun none (60, 22, ls, r.1.toList ++ st, r.2))) := by
  refine (zE_ (i := .invokevirtual 61) (by decide +kernel) _ _ _).trans ?_
  show zres (zinv none 61 60 19 ls (.ref a :: st) w) = _
  unfold zinv
  show zres (if zrc none 61 w (.ref a) = true then zcall 61 [.ref a] st 60 19 ls w else none) = _
  by_cases hc : zis w a 9
  · rw [if_pos (zrc_is hc (by decide +kernel)), zgd_pos hc]
    exact zq_call hr (Nat.le_of_ble_eq_true rfl) rfl rfl
  · rw [zgd_neg hc, if_neg (fun q => hc (zrc_of q (by decide +kernel)))]
    rfl
theorem e60_22 (ls st : List Value) (w : zH) : zrun none (60, 22, ls, st, w) = zrun none (60, 27, ls, st, w) := (zE_ (i := .goto 5) (by decide +kernel) _ _ _).trans rfl
theorem e60_25 (ls st : List Value) (w : zH) : zrun none (60, 25, ls, st, w) = zrun none (60, 27, ls, (.int (-1000000) :: st), w) := (zE_ (i := .bipush (-1000000)) (by decide +kernel) _ _ _).trans rfl
theorem e60_27 (v0 v1 v2 v3 : Value) (x : Int32) (st : List Value) (w : zH) (h : v2.category = 1) : zrun none (60, 27, [v0, v1, v2, v3], (.int x :: st), w) = zrun none (60, 28, [v0, v1, v2, .int x], st, w) := by
  refine (zE_ (i := .istore_n 3) (by decide +kernel) _ _ _).trans ?_
  have hz : zfree [v0, v1, v2, v3] 3 = true := by show decide (v2.category = 1) = true; exact decide_eq_true h
  show zres (zst zint 3 1 60 27 [v0, v1, v2, v3] (.int x :: st) w) = _
  unfold zst
  dsimp only
  rw [if_pos ⟨rfl, Nat.le_of_ble_eq_true rfl, hz⟩]
  rfl
theorem e60_28 (v1 v2 v3 : Value) (x : Nat) (st : List Value) (w : zH) : zrun none (60, 28, [.ref x, v1, v2, v3], st, w) = zrun none (60, 29, [.ref x, v1, v2, v3], (.ref x :: st), w) := (zE_ (i := .aload_n 0) (by decide +kernel) _ _ _).trans rfl
theorem e60_29 (ls : List Value) (a : Nat) (st : List Value) (w : zH) : zrun none (60, 29, ls, (.ref a :: st), w) = zo (zf w a 902) (fun x => zrun none (60, 32, ls, (x :: st), w)) := (zE_ (i := .getfield 902) (by decide +kernel) _ _ _).trans zq_getf
theorem e60_32 (ls st : List Value) (w : zH) : zrun none (60, 32, ls, st, w) = zrun none (60, 33, ls, (.int 2 :: st), w) := (zE_ (i := .iconst 2) (by decide +kernel) _ _ _).trans rfl
theorem e60_33 (ls : List Value) (a b : Int32) (st : List Value) (w : zH) : zrun none (60, 33, ls, (.int b :: .int a :: st), w) = if a = b then zrun none (60, 44, ls, st, w) else zrun none (60, 36, ls, st, w) := (zE_ (i := .if_icmp .eq 11) (by decide +kernel) _ _ _).trans (zq_ic_eq rfl rfl)
theorem e60_36 (v1 v2 v3 : Value) (x : Nat) (st : List Value) (w : zH) : zrun none (60, 36, [.ref x, v1, v2, v3], st, w) = zrun none (60, 37, [.ref x, v1, v2, v3], (.ref x :: st), w) := (zE_ (i := .aload_n 0) (by decide +kernel) _ _ _).trans rfl
theorem e60_37 (ls st : List Value) (w : zH) : zrun none (60, 37, ls, st, w) = zrun none (60, 38, ls, (.int 1 :: st), w) := (zE_ (i := .iconst 1) (by decide +kernel) _ _ _).trans rfl
theorem e60_38 (ls : List Value) (a : Nat) (x0 : Int32) (st : List Value) (w : zH) (hr : zcat st ≤ 8) : zrun none (60, 38, ls, (.int x0 :: .ref a :: st), w) = zgd (zis w a 9) (zcl (zrun none (54, 0, [.ref a, .int x0], [], w)) (fun r => zrun none (60, 41, ls, r.1.toList ++ st, r.2))) := by
  refine (zE_ (i := .invokevirtual 54) (by decide +kernel) _ _ _).trans ?_
  show zres (zinv none 54 60 38 ls (.int x0 :: .ref a :: st) w) = _
  unfold zinv
  show zres (if zrc none 54 w (.ref a) = true then zcall 54 [.ref a, .int x0] st 60 38 ls w else none) = _
  by_cases hc : zis w a 9
  · rw [if_pos (zrc_is hc (by decide +kernel)), zgd_pos hc]
    exact zq_call hr (Nat.le_of_ble_eq_true rfl) rfl rfl
  · rw [zgd_neg hc, if_neg (fun q => hc (zrc_of q (by decide +kernel)))]
    rfl
theorem e60_41 (ls st : List Value) (w : zH) : zrun none (60, 41, ls, st, w) = zrun none (60, 65, ls, st, w) := (zE_ (i := .goto 24) (by decide +kernel) _ _ _).trans rfl
theorem e60_44 (v0 v1 v2 : Value) (x : Int32) (st : List Value) (w : zH) : zrun none (60, 44, [v0, v1, v2, .int x], st, w) = zrun none (60, 45, [v0, v1, v2, .int x], (.int x :: st), w) := (zE_ (i := .iload_n 3) (by decide +kernel) _ _ _).trans rfl
theorem e60_45 (v0 v2 v3 : Value) (x : Int32) (st : List Value) (w : zH) : zrun none (60, 45, [v0, .int x, v2, v3], st, w) = zrun none (60, 46, [v0, .int x, v2, v3], (.int x :: st), w) := (zE_ (i := .iload_n 1) (by decide +kernel) _ _ _).trans rfl
theorem e60_46 (v0 v1 v3 : Value) (x : Int32) (st : List Value) (w : zH) : zrun none (60, 46, [v0, v1, .int x, v3], st, w) = zrun none (60, 47, [v0, v1, .int x, v3], (.int x :: st), w) := (zE_ (i := .iload_n 2) (by decide +kernel) _ _ _).trans rfl
theorem e60_47 (ls : List Value) (x0 : Int32) (x1 : Int32) (x2 : Int32) (st : List Value) (w : zH) (hr : zcat st ≤ 8) : zrun none (60, 47, ls, (.int x2 :: .int x1 :: .int x0 :: st), w) = zcl (zrun none (100, 0, [.int x0, .int x1, .int x2], [], w)) (fun r => zrun none (60, 50, ls, r.1.toList ++ st, r.2)) := by
  refine (zE_ (i := .invokestatic 100) (by decide +kernel) _ _ _).trans ?_
  show zres (if (99 : Nat) = 99 ∧ 3 ≤ ((.int x2 :: .int x1 :: .int x0 :: st) : List Value).length then zcall 100 [.int x0, .int x1, .int x2] st 60 47 ls w else none) = _
  rw [if_pos ⟨rfl, by simp⟩]
  exact zq_call hr (Nat.le_of_ble_eq_true rfl) rfl rfl
theorem e60_50 (ls : List Value) (a : Int32) (st : List Value) (w : zH) : zrun none (60, 50, ls, (.int a :: st), w) = if a = 0 then zrun none (60, 53, ls, st, w) else zrun none (60, 61, ls, st, w) := (zE_ (i := .ifCond .ne 11) (by decide +kernel) _ _ _).trans (zq_if_ne rfl rfl)
theorem e60_53 (v1 v2 v3 : Value) (x : Nat) (st : List Value) (w : zH) : zrun none (60, 53, [.ref x, v1, v2, v3], st, w) = zrun none (60, 54, [.ref x, v1, v2, v3], (.ref x :: st), w) := (zE_ (i := .aload_n 0) (by decide +kernel) _ _ _).trans rfl
theorem e60_54 (ls st : List Value) (w : zH) : zrun none (60, 54, ls, st, w) = zrun none (60, 55, ls, (.int 2 :: st), w) := (zE_ (i := .iconst 2) (by decide +kernel) _ _ _).trans rfl
theorem e60_55 (ls : List Value) (a : Nat) (x0 : Int32) (st : List Value) (w : zH) (hr : zcat st ≤ 8) : zrun none (60, 55, ls, (.int x0 :: .ref a :: st), w) = zgd (zis w a 9) (zcl (zrun none (54, 0, [.ref a, .int x0], [], w)) (fun r => zrun none (60, 58, ls, r.1.toList ++ st, r.2))) := by
  refine (zE_ (i := .invokevirtual 54) (by decide +kernel) _ _ _).trans ?_
  show zres (zinv none 54 60 55 ls (.int x0 :: .ref a :: st) w) = _
  unfold zinv
  show zres (if zrc none 54 w (.ref a) = true then zcall 54 [.ref a, .int x0] st 60 55 ls w else none) = _
  by_cases hc : zis w a 9
  · rw [if_pos (zrc_is hc (by decide +kernel)), zgd_pos hc]
    exact zq_call hr (Nat.le_of_ble_eq_true rfl) rfl rfl
  · rw [zgd_neg hc, if_neg (fun q => hc (zrc_of q (by decide +kernel)))]
    rfl
theorem e60_58 (ls st : List Value) (w : zH) : zrun none (60, 58, ls, st, w) = zrun none (60, 65, ls, st, w) := (zE_ (i := .goto 7) (by decide +kernel) _ _ _).trans rfl
theorem e60_61 (v1 v2 v3 : Value) (x : Nat) (st : List Value) (w : zH) : zrun none (60, 61, [.ref x, v1, v2, v3], st, w) = zrun none (60, 62, [.ref x, v1, v2, v3], (.ref x :: st), w) := (zE_ (i := .aload_n 0) (by decide +kernel) _ _ _).trans rfl
theorem e60_62 (ls : List Value) (a : Nat) (st : List Value) (w : zH) (hr : zcat st ≤ 8) : zrun none (60, 62, ls, (.ref a :: st), w) = zgd (zis w a 9) (zcl (zrun none (51, 0, [.ref a], [], w)) (fun r => zrun none (60, 65, ls, r.1.toList ++ st, r.2))) := by
  refine (zE_ (i := .invokevirtual 51) (by decide +kernel) _ _ _).trans ?_
  show zres (zinv none 51 60 62 ls (.ref a :: st) w) = _
  unfold zinv
  show zres (if zrc none 51 w (.ref a) = true then zcall 51 [.ref a] st 60 62 ls w else none) = _
  by_cases hc : zis w a 9
  · rw [if_pos (zrc_is hc (by decide +kernel)), zgd_pos hc]
    exact zq_call hr (Nat.le_of_ble_eq_true rfl) rfl rfl
  · rw [zgd_neg hc, if_neg (fun q => hc (zrc_of q (by decide +kernel)))]
    rfl
theorem e60_65 (v0 v1 v2 : Value) (x : Int32) (st : List Value) (w : zH) : zrun none (60, 65, [v0, v1, v2, .int x], st, w) = zrun none (60, 66, [v0, v1, v2, .int x], (.int x :: st), w) := (zE_ (i := .iload_n 3) (by decide +kernel) _ _ _).trans rfl
theorem e60_66 (ls : List Value) (x : Int32) (w : zH) : zrun none (60, 66, ls, [.int x], w) = some (some (.int x), w) := by
  refine (zE_ (i := .ireturn) (by decide +kernel) _ _ _).trans ?_
  show zres (if narrow .int (.int x) = .int x then _ else none) = _
  rw [if_pos (show narrow .int (.int x) = .int x from rfl)]
  rfl
theorem e61_0 (ls st : List Value) (w : zH) : zrun none (61, 0, ls, st, w) = zrun none (61, 1, ls, (.int 0 :: st), w) := (zE_ (i := .iconst 0) (by decide +kernel) _ _ _).trans rfl
theorem e61_1 (v0 v1 v2 : Value) (x : Int32) (st : List Value) (w : zH) (h : v0.category = 1) : zrun none (61, 1, [v0, v1, v2], (.int x :: st), w) = zrun none (61, 2, [v0, .int x, v2], st, w) := by
  refine (zE_ (i := .istore_n 1) (by decide +kernel) _ _ _).trans ?_
  have hz : zfree [v0, v1, v2] 1 = true := by show decide (v0.category = 1) = true; exact decide_eq_true h
  show zres (zst zint 1 1 61 1 [v0, v1, v2] (.int x :: st) w) = _
  unfold zst
  dsimp only
  rw [if_pos ⟨rfl, Nat.le_of_ble_eq_true rfl, hz⟩]
  rfl
theorem e61_2 (v1 v2 : Value) (x : Nat) (st : List Value) (w : zH) : zrun none (61, 2, [.ref x, v1, v2], st, w) = zrun none (61, 3, [.ref x, v1, v2], (.ref x :: st), w) := (zE_ (i := .aload_n 0) (by decide +kernel) _ _ _).trans rfl
theorem e61_3 (ls : List Value) (a : Nat) (st : List Value) (w : zH) : zrun none (61, 3, ls, (.ref a :: st), w) = zo (zf w a 903) (fun x => zrun none (61, 6, ls, (x :: st), w)) := (zE_ (i := .getfield 903) (by decide +kernel) _ _ _).trans zq_getf
theorem e61_6 (v0 v1 v2 : Value) (x : Int32) (st : List Value) (w : zH) (h : v1.category = 1) : zrun none (61, 6, [v0, v1, v2], (.int x :: st), w) = zrun none (61, 7, [v0, v1, .int x], st, w) := by
  refine (zE_ (i := .istore_n 2) (by decide +kernel) _ _ _).trans ?_
  have hz : zfree [v0, v1, v2] 2 = true := by show decide (v1.category = 1) = true; exact decide_eq_true h
  show zres (zst zint 2 1 61 6 [v0, v1, v2] (.int x :: st) w) = _
  unfold zst
  dsimp only
  rw [if_pos ⟨rfl, Nat.le_of_ble_eq_true rfl, hz⟩]
  rfl
theorem e61_7 (v0 v1 : Value) (x : Int32) (st : List Value) (w : zH) : zrun none (61, 7, [v0, v1, .int x], st, w) = zrun none (61, 8, [v0, v1, .int x], (.int x :: st), w) := (zE_ (i := .iload_n 2) (by decide +kernel) _ _ _).trans rfl
theorem e61_8 (v1 v2 : Value) (x : Nat) (st : List Value) (w : zH) : zrun none (61, 8, [.ref x, v1, v2], st, w) = zrun none (61, 9, [.ref x, v1, v2], (.ref x :: st), w) := (zE_ (i := .aload_n 0) (by decide +kernel) _ _ _).trans rfl
theorem e61_9 (ls : List Value) (a : Nat) (st : List Value) (w : zH) : zrun none (61, 9, ls, (.ref a :: st), w) = zo (zf w a 904) (fun x => zrun none (61, 12, ls, (x :: st), w)) := (zE_ (i := .getfield 904) (by decide +kernel) _ _ _).trans zq_getf
theorem e61_12 (ls : List Value) (a b : Int32) (st : List Value) (w : zH) : zrun none (61, 12, ls, (.int b :: .int a :: st), w) = if b ≤ a then zrun none (61, 35, ls, st, w) else zrun none (61, 15, ls, st, w) := (zE_ (i := .if_icmp .ge 23) (by decide +kernel) _ _ _).trans (zq_ic_ge rfl rfl)
theorem e61_15 (ls st : List Value) (w : zH) : zrun none (61, 15, ls, st, w) = zrun none (61, 17, ls, (.int 10 :: st), w) := (zE_ (i := .bipush 10) (by decide +kernel) _ _ _).trans rfl
theorem e61_17 (v0 v2 : Value) (x : Int32) (st : List Value) (w : zH) : zrun none (61, 17, [v0, .int x, v2], st, w) = zrun none (61, 18, [v0, .int x, v2], (.int x :: st), w) := (zE_ (i := .iload_n 1) (by decide +kernel) _ _ _).trans rfl
theorem e61_18 (ls : List Value) (a b : Int32) (st : List Value) (w : zH) : zrun none (61, 18, ls, (.int b :: .int a :: st), w) = zrun none (61, 19, ls, (.int (a * b) :: st), w) := (zE_ (i := .imul) (by decide +kernel) _ _ _).trans rfl
theorem e61_19 (v1 v2 : Value) (x : Nat) (st : List Value) (w : zH) : zrun none (61, 19, [.ref x, v1, v2], st, w) = zrun none (61, 20, [.ref x, v1, v2], (.ref x :: st), w) := (zE_ (i := .aload_n 0) (by decide +kernel) _ _ _).trans rfl
theorem e61_20 (v0 v1 : Value) (x : Int32) (st : List Value) (w : zH) : zrun none (61, 20, [v0, v1, .int x], st, w) = zrun none (61, 21, [v0, v1, .int x], (.int x :: st), w) := (zE_ (i := .iload_n 2) (by decide +kernel) _ _ _).trans rfl
theorem e61_21 (ls : List Value) (a : Nat) (x0 : Int32) (st : List Value) (w : zH) (hr : zcat st ≤ 8) : zrun none (61, 21, ls, (.int x0 :: .ref a :: st), w) = zgd (zis w a 9) (zcl (zrun none (48, 0, [.ref a, .int x0], [], w)) (fun r => zrun none (61, 24, ls, r.1.toList ++ st, r.2))) := by
  refine (zE_ (i := .invokevirtual 48) (by decide +kernel) _ _ _).trans ?_
  show zres (zinv none 48 61 21 ls (.int x0 :: .ref a :: st) w) = _
  unfold zinv
  show zres (if zrc none 48 w (.ref a) = true then zcall 48 [.ref a, .int x0] st 61 21 ls w else none) = _
  by_cases hc : zis w a 9
  · rw [if_pos (zrc_is hc (by decide +kernel)), zgd_pos hc]
    exact zq_call hr (Nat.le_of_ble_eq_true rfl) rfl rfl
  · rw [zgd_neg hc, if_neg (fun q => hc (zrc_of q (by decide +kernel)))]
    rfl
theorem e61_24 (ls st : List Value) (w : zH) : zrun none (61, 24, ls, st, w) = zrun none (61, 26, ls, (.int 48 :: st), w) := (zE_ (i := .bipush 48) (by decide +kernel) _ _ _).trans rfl
theorem e61_26 (ls : List Value) (a b : Int32) (st : List Value) (w : zH) : zrun none (61, 26, ls, (.int b :: .int a :: st), w) = zrun none (61, 27, ls, (.int (a - b) :: st), w) := (zE_ (i := .isub) (by decide +kernel) _ _ _).trans rfl
theorem e61_27 (ls : List Value) (a b : Int32) (st : List Value) (w : zH) : zrun none (61, 27, ls, (.int b :: .int a :: st), w) = zrun none (61, 28, ls, (.int (a + b) :: st), w) := (zE_ (i := .iadd) (by decide +kernel) _ _ _).trans rfl
theorem e61_28 (v0 v1 v2 : Value) (x : Int32) (st : List Value) (w : zH) (h : v0.category = 1) : zrun none (61, 28, [v0, v1, v2], (.int x :: st), w) = zrun none (61, 29, [v0, .int x, v2], st, w) := by
  refine (zE_ (i := .istore_n 1) (by decide +kernel) _ _ _).trans ?_
  have hz : zfree [v0, v1, v2] 1 = true := by show decide (v0.category = 1) = true; exact decide_eq_true h
  show zres (zst zint 1 1 61 28 [v0, v1, v2] (.int x :: st) w) = _
  unfold zst
  dsimp only
  rw [if_pos ⟨rfl, Nat.le_of_ble_eq_true rfl, hz⟩]
  rfl
theorem e61_29 (v0 v1 : Value) (x : Int32) (st : List Value) (w : zH) : zrun none (61, 29, [v0, v1, .int x], st, w) = zrun none (61, 32, [v0, v1, .int (x + 1)], st, w) := (zE_ (i := .iinc 2 1) (by decide +kernel) _ _ _).trans rfl
theorem e61_32 (ls st : List Value) (w : zH) : zrun none (61, 32, ls, st, w) = zrun none (61, 7, ls, st, w) := (zE_ (i := .goto (-25)) (by decide +kernel) _ _ _).trans rfl
theorem e61_35 (v0 v2 : Value) (x : Int32) (st : List Value) (w : zH) : zrun none (61, 35, [v0, .int x, v2], st, w) = zrun none (61, 36, [v0, .int x, v2], (.int x :: st), w) := (zE_ (i := .iload_n 1) (by decide +kernel) _ _ _).trans rfl
theorem e61_36 (ls : List Value) (x : Int32) (w : zH) : zrun none (61, 36, ls, [.int x], w) = some (some (.int x), w) := by
  refine (zE_ (i := .ireturn) (by decide +kernel) _ _ _).trans ?_
  show zres (if narrow .int (.int x) = .int x then _ else none) = _
  rw [if_pos (show narrow .int (.int x) = .int x from rfl)]
  rfl
theorem e62_0 (x : Nat) (st : List Value) (w : zH) : zrun none (62, 0, [.ref x], st, w) = zrun none (62, 1, [.ref x], (.ref x :: st), w) := (zE_ (i := .aload_n 0) (by decide +kernel) _ _ _).trans rfl
theorem e62_1 (ls : List Value) (a : Nat) (st : List Value) (w : zH) : zrun none (62, 1, ls, (.ref a :: st), w) = zo (zf w a 905) (fun x => zrun none (62, 4, ls, (x :: st), w)) := (zE_ (i := .getfield 905) (by decide +kernel) _ _ _).trans zq_getf
theorem e62_4 (ls : List Value) (a : Int32) (st : List Value) (w : zH) : zrun none (62, 4, ls, (.int a :: st), w) = if a = 0 then zrun none (62, 8, ls, st, w) else zrun none (62, 7, ls, st, w) := (zE_ (i := .ifCond .eq 4) (by decide +kernel) _ _ _).trans (zq_if_eq rfl rfl)
theorem e62_7 (ls : List Value) (w : zH) : zrun none (62, 7, ls, [], w) = some (none, w) := (zE_ (i := .return_) (by decide +kernel) _ _ _).trans rfl
theorem e62_8 (x : Nat) (st : List Value) (w : zH) : zrun none (62, 8, [.ref x], st, w) = zrun none (62, 9, [.ref x], (.ref x :: st), w) := (zE_ (i := .aload_n 0) (by decide +kernel) _ _ _).trans rfl
theorem e62_9 (ls : List Value) (a : Nat) (st : List Value) (w : zH) : zrun none (62, 9, ls, (.ref a :: st), w) = zo (zf w a 902) (fun x => zrun none (62, 12, ls, (x :: st), w)) := (zE_ (i := .getfield 902) (by decide +kernel) _ _ _).trans zq_getf
theorem e62_12 (ls st : List Value) (w : zH) : zrun none (62, 12, ls, st, w) = zrun none (62, 13, ls, (.int 3 :: st), w) := (zE_ (i := .iconst 3) (by decide +kernel) _ _ _).trans rfl
theorem e62_13 (ls : List Value) (a b : Int32) (st : List Value) (w : zH) : zrun none (62, 13, ls, (.int b :: .int a :: st), w) = if a = b then zrun none (62, 16, ls, st, w) else zrun none (62, 23, ls, st, w) := (zE_ (i := .if_icmp .ne 10) (by decide +kernel) _ _ _).trans (zq_ic_ne rfl rfl)
theorem e62_16 (x : Nat) (st : List Value) (w : zH) : zrun none (62, 16, [.ref x], st, w) = zrun none (62, 17, [.ref x], (.ref x :: st), w) := (zE_ (i := .aload_n 0) (by decide +kernel) _ _ _).trans rfl
theorem e62_17 (ls : List Value) (a : Nat) (st : List Value) (w : zH) (hr : zcat st ≤ 8) : zrun none (62, 17, ls, (.ref a :: st), w) = zgd (zis w a 9) (zcl (zrun none (51, 0, [.ref a], [], w)) (fun r => zrun none (62, 20, ls, r.1.toList ++ st, r.2))) := by
  refine (zE_ (i := .invokevirtual 51) (by decide +kernel) _ _ _).trans ?_
  show zres (zinv none 51 62 17 ls (.ref a :: st) w) = _
  unfold zinv
  show zres (if zrc none 51 w (.ref a) = true then zcall 51 [.ref a] st 62 17 ls w else none) = _
  by_cases hc : zis w a 9
  · rw [if_pos (zrc_is hc (by decide +kernel)), zgd_pos hc]
    exact zq_call hr (Nat.le_of_ble_eq_true rfl) rfl rfl
  · rw [zgd_neg hc, if_neg (fun q => hc (zrc_of q (by decide +kernel)))]
    rfl
theorem e62_20 (ls st : List Value) (w : zH) : zrun none (62, 20, ls, st, w) = zrun none (62, 28, ls, st, w) := (zE_ (i := .goto 8) (by decide +kernel) _ _ _).trans rfl
theorem e62_23 (x : Nat) (st : List Value) (w : zH) : zrun none (62, 23, [.ref x], st, w) = zrun none (62, 24, [.ref x], (.ref x :: st), w) := (zE_ (i := .aload_n 0) (by decide +kernel) _ _ _).trans rfl
theorem e62_24 (ls st : List Value) (w : zH) : zrun none (62, 24, ls, st, w) = zrun none (62, 25, ls, (.int 1 :: st), w) := (zE_ (i := .iconst 1) (by decide +kernel) _ _ _).trans rfl
theorem e62_25 (ls : List Value) (a : Nat) (x0 : Int32) (st : List Value) (w : zH) (hr : zcat st ≤ 8) : zrun none (62, 25, ls, (.int x0 :: .ref a :: st), w) = zgd (zis w a 9) (zcl (zrun none (54, 0, [.ref a, .int x0], [], w)) (fun r => zrun none (62, 28, ls, r.1.toList ++ st, r.2))) := by
  refine (zE_ (i := .invokevirtual 54) (by decide +kernel) _ _ _).trans ?_
  show zres (zinv none 54 62 25 ls (.int x0 :: .ref a :: st) w) = _
  unfold zinv
  show zres (if zrc none 54 w (.ref a) = true then zcall 54 [.ref a, .int x0] st 62 25 ls w else none) = _
  by_cases hc : zis w a 9
  · rw [if_pos (zrc_is hc (by decide +kernel)), zgd_pos hc]
    exact zq_call hr (Nat.le_of_ble_eq_true rfl) rfl rfl
  · rw [zgd_neg hc, if_neg (fun q => hc (zrc_of q (by decide +kernel)))]
    rfl
theorem e62_28 (ls : List Value) (w : zH) : zrun none (62, 28, ls, [], w) = some (none, w) := (zE_ (i := .return_) (by decide +kernel) _ _ _).trans rfl
theorem e225_0 (x : Int32) (st : List Value) (w : zH) : zrun none (225, 0, [.int x], st, w) = zrun none (225, 1, [.int x], (.int x :: st), w) := (zE_ (i := .iload_n 0) (by decide +kernel) _ _ _).trans rfl
theorem e225_1 (x : Int32) (st : List Value) (w : zH) : zrun none (225, 1, [.int x], st, w) = zrun none (225, 2, [.int x], (.int x :: st), w) := (zE_ (i := .iload_n 0) (by decide +kernel) _ _ _).trans rfl
theorem e225_2 (ls st : List Value) (w : zH) : zrun none (225, 2, ls, st, w) = zrun none (225, 3, ls, (.int 1 :: st), w) := (zE_ (i := .iconst 1) (by decide +kernel) _ _ _).trans rfl
theorem e225_3 (ls : List Value) (a b : Int32) (st : List Value) (w : zH) : zrun none (225, 3, ls, (.int b :: .int a :: st), w) = zrun none (225, 4, ls, (.int ((a.toUInt32 >>> (b.toUInt32 &&& Int32.toUInt32 31)).toInt32) :: st), w) := (zE_ (i := .iushr) (by decide +kernel) _ _ _).trans rfl
theorem e225_4 (ls st : List Value) (w : zH) : zrun none (225, 4, ls, st, w) = zrun none (225, 7, ls, (.int 1431655765 :: st), w) := (zE_ (i := .sipush (1431655765)) (by decide +kernel) _ _ _).trans rfl
theorem e225_7 (ls : List Value) (a b : Int32) (st : List Value) (w : zH) : zrun none (225, 7, ls, (.int b :: .int a :: st), w) = zrun none (225, 8, ls, (.int (a &&& b) :: st), w) := (zE_ (i := .iand) (by decide +kernel) _ _ _).trans rfl
theorem e225_8 (ls : List Value) (a b : Int32) (st : List Value) (w : zH) : zrun none (225, 8, ls, (.int b :: .int a :: st), w) = zrun none (225, 9, ls, (.int (a - b) :: st), w) := (zE_ (i := .isub) (by decide +kernel) _ _ _).trans rfl
theorem e225_9 (v0 : Value) (x : Int32) (st : List Value) (w : zH) : zrun none (225, 9, [v0], (.int x :: st), w) = zrun none (225, 10, [.int x], st, w) := (zE_ (i := .istore_n 0) (by decide +kernel) _ _ _).trans rfl
theorem e225_10 (x : Int32) (st : List Value) (w : zH) : zrun none (225, 10, [.int x], st, w) = zrun none (225, 11, [.int x], (.int x :: st), w) := (zE_ (i := .iload_n 0) (by decide +kernel) _ _ _).trans rfl
theorem e225_11 (ls st : List Value) (w : zH) : zrun none (225, 11, ls, st, w) = zrun none (225, 14, ls, (.int 858993459 :: st), w) := (zE_ (i := .sipush (858993459)) (by decide +kernel) _ _ _).trans rfl
theorem e225_14 (ls : List Value) (a b : Int32) (st : List Value) (w : zH) : zrun none (225, 14, ls, (.int b :: .int a :: st), w) = zrun none (225, 15, ls, (.int (a &&& b) :: st), w) := (zE_ (i := .iand) (by decide +kernel) _ _ _).trans rfl
theorem e225_15 (x : Int32) (st : List Value) (w : zH) : zrun none (225, 15, [.int x], st, w) = zrun none (225, 16, [.int x], (.int x :: st), w) := (zE_ (i := .iload_n 0) (by decide +kernel) _ _ _).trans rfl
theorem e225_16 (ls st : List Value) (w : zH) : zrun none (225, 16, ls, st, w) = zrun none (225, 17, ls, (.int 2 :: st), w) := (zE_ (i := .iconst 2) (by decide +kernel) _ _ _).trans rfl
theorem e225_17 (ls : List Value) (a b : Int32) (st : List Value) (w : zH) : zrun none (225, 17, ls, (.int b :: .int a :: st), w) = zrun none (225, 18, ls, (.int ((a.toUInt32 >>> (b.toUInt32 &&& Int32.toUInt32 31)).toInt32) :: st), w) := (zE_ (i := .iushr) (by decide +kernel) _ _ _).trans rfl
theorem e225_18 (ls st : List Value) (w : zH) : zrun none (225, 18, ls, st, w) = zrun none (225, 21, ls, (.int 858993459 :: st), w) := (zE_ (i := .sipush (858993459)) (by decide +kernel) _ _ _).trans rfl
theorem e225_21 (ls : List Value) (a b : Int32) (st : List Value) (w : zH) : zrun none (225, 21, ls, (.int b :: .int a :: st), w) = zrun none (225, 22, ls, (.int (a &&& b) :: st), w) := (zE_ (i := .iand) (by decide +kernel) _ _ _).trans rfl
theorem e225_22 (ls : List Value) (a b : Int32) (st : List Value) (w : zH) : zrun none (225, 22, ls, (.int b :: .int a :: st), w) = zrun none (225, 23, ls, (.int (a + b) :: st), w) := (zE_ (i := .iadd) (by decide +kernel) _ _ _).trans rfl
theorem e225_23 (v0 : Value) (x : Int32) (st : List Value) (w : zH) : zrun none (225, 23, [v0], (.int x :: st), w) = zrun none (225, 24, [.int x], st, w) := (zE_ (i := .istore_n 0) (by decide +kernel) _ _ _).trans rfl
theorem e225_24 (x : Int32) (st : List Value) (w : zH) : zrun none (225, 24, [.int x], st, w) = zrun none (225, 25, [.int x], (.int x :: st), w) := (zE_ (i := .iload_n 0) (by decide +kernel) _ _ _).trans rfl
theorem e225_25 (x : Int32) (st : List Value) (w : zH) : zrun none (225, 25, [.int x], st, w) = zrun none (225, 26, [.int x], (.int x :: st), w) := (zE_ (i := .iload_n 0) (by decide +kernel) _ _ _).trans rfl
theorem e225_26 (ls st : List Value) (w : zH) : zrun none (225, 26, ls, st, w) = zrun none (225, 27, ls, (.int 4 :: st), w) := (zE_ (i := .iconst 4) (by decide +kernel) _ _ _).trans rfl
theorem e225_27 (ls : List Value) (a b : Int32) (st : List Value) (w : zH) : zrun none (225, 27, ls, (.int b :: .int a :: st), w) = zrun none (225, 28, ls, (.int ((a.toUInt32 >>> (b.toUInt32 &&& Int32.toUInt32 31)).toInt32) :: st), w) := (zE_ (i := .iushr) (by decide +kernel) _ _ _).trans rfl
theorem e225_28 (ls : List Value) (a b : Int32) (st : List Value) (w : zH) : zrun none (225, 28, ls, (.int b :: .int a :: st), w) = zrun none (225, 29, ls, (.int (a + b) :: st), w) := (zE_ (i := .iadd) (by decide +kernel) _ _ _).trans rfl
theorem e225_29 (ls st : List Value) (w : zH) : zrun none (225, 29, ls, st, w) = zrun none (225, 32, ls, (.int 252645135 :: st), w) := (zE_ (i := .sipush (252645135)) (by decide +kernel) _ _ _).trans rfl
theorem e225_32 (ls : List Value) (a b : Int32) (st : List Value) (w : zH) : zrun none (225, 32, ls, (.int b :: .int a :: st), w) = zrun none (225, 33, ls, (.int (a &&& b) :: st), w) := (zE_ (i := .iand) (by decide +kernel) _ _ _).trans rfl
theorem e225_33 (v0 : Value) (x : Int32) (st : List Value) (w : zH) : zrun none (225, 33, [v0], (.int x :: st), w) = zrun none (225, 34, [.int x], st, w) := (zE_ (i := .istore_n 0) (by decide +kernel) _ _ _).trans rfl
theorem e225_34 (x : Int32) (st : List Value) (w : zH) : zrun none (225, 34, [.int x], st, w) = zrun none (225, 35, [.int x], (.int x :: st), w) := (zE_ (i := .iload_n 0) (by decide +kernel) _ _ _).trans rfl
theorem e225_35 (x : Int32) (st : List Value) (w : zH) : zrun none (225, 35, [.int x], st, w) = zrun none (225, 36, [.int x], (.int x :: st), w) := (zE_ (i := .iload_n 0) (by decide +kernel) _ _ _).trans rfl
theorem e225_36 (ls st : List Value) (w : zH) : zrun none (225, 36, ls, st, w) = zrun none (225, 38, ls, (.int 8 :: st), w) := (zE_ (i := .bipush 8) (by decide +kernel) _ _ _).trans rfl
theorem e225_38 (ls : List Value) (a b : Int32) (st : List Value) (w : zH) : zrun none (225, 38, ls, (.int b :: .int a :: st), w) = zrun none (225, 39, ls, (.int ((a.toUInt32 >>> (b.toUInt32 &&& Int32.toUInt32 31)).toInt32) :: st), w) := (zE_ (i := .iushr) (by decide +kernel) _ _ _).trans rfl
theorem e225_39 (ls : List Value) (a b : Int32) (st : List Value) (w : zH) : zrun none (225, 39, ls, (.int b :: .int a :: st), w) = zrun none (225, 40, ls, (.int (a + b) :: st), w) := (zE_ (i := .iadd) (by decide +kernel) _ _ _).trans rfl
theorem e225_40 (v0 : Value) (x : Int32) (st : List Value) (w : zH) : zrun none (225, 40, [v0], (.int x :: st), w) = zrun none (225, 41, [.int x], st, w) := (zE_ (i := .istore_n 0) (by decide +kernel) _ _ _).trans rfl
theorem e225_41 (x : Int32) (st : List Value) (w : zH) : zrun none (225, 41, [.int x], st, w) = zrun none (225, 42, [.int x], (.int x :: st), w) := (zE_ (i := .iload_n 0) (by decide +kernel) _ _ _).trans rfl
theorem e225_42 (x : Int32) (st : List Value) (w : zH) : zrun none (225, 42, [.int x], st, w) = zrun none (225, 43, [.int x], (.int x :: st), w) := (zE_ (i := .iload_n 0) (by decide +kernel) _ _ _).trans rfl
theorem e225_43 (ls st : List Value) (w : zH) : zrun none (225, 43, ls, st, w) = zrun none (225, 45, ls, (.int 16 :: st), w) := (zE_ (i := .bipush 16) (by decide +kernel) _ _ _).trans rfl
theorem e225_45 (ls : List Value) (a b : Int32) (st : List Value) (w : zH) : zrun none (225, 45, ls, (.int b :: .int a :: st), w) = zrun none (225, 46, ls, (.int ((a.toUInt32 >>> (b.toUInt32 &&& Int32.toUInt32 31)).toInt32) :: st), w) := (zE_ (i := .iushr) (by decide +kernel) _ _ _).trans rfl
theorem e225_46 (ls : List Value) (a b : Int32) (st : List Value) (w : zH) : zrun none (225, 46, ls, (.int b :: .int a :: st), w) = zrun none (225, 47, ls, (.int (a + b) :: st), w) := (zE_ (i := .iadd) (by decide +kernel) _ _ _).trans rfl
theorem e225_47 (v0 : Value) (x : Int32) (st : List Value) (w : zH) : zrun none (225, 47, [v0], (.int x :: st), w) = zrun none (225, 48, [.int x], st, w) := (zE_ (i := .istore_n 0) (by decide +kernel) _ _ _).trans rfl
theorem e225_48 (x : Int32) (st : List Value) (w : zH) : zrun none (225, 48, [.int x], st, w) = zrun none (225, 49, [.int x], (.int x :: st), w) := (zE_ (i := .iload_n 0) (by decide +kernel) _ _ _).trans rfl
theorem e225_49 (ls st : List Value) (w : zH) : zrun none (225, 49, ls, st, w) = zrun none (225, 51, ls, (.int 63 :: st), w) := (zE_ (i := .bipush 63) (by decide +kernel) _ _ _).trans rfl
theorem e225_51 (ls : List Value) (a b : Int32) (st : List Value) (w : zH) : zrun none (225, 51, ls, (.int b :: .int a :: st), w) = zrun none (225, 52, ls, (.int (a &&& b) :: st), w) := (zE_ (i := .iand) (by decide +kernel) _ _ _).trans rfl
theorem e225_52 (ls : List Value) (x : Int32) (w : zH) : zrun none (225, 52, ls, [.int x], w) = some (some (.int x), w) := by
  refine (zE_ (i := .ireturn) (by decide +kernel) _ _ _).trans ?_
  show zres (if narrow .int (.int x) = .int x then _ else none) = _
  rw [if_pos (show narrow .int (.int x) = .int x from rfl)]
  rfl
theorem e226_0 (v1 v2 : Value) (x : Int32) (st : List Value) (w : zH) : zrun none (226, 0, [.int x, v1, v2], st, w) = zrun none (226, 1, [.int x, v1, v2], (.int x :: st), w) := (zE_ (i := .iload_n 0) (by decide +kernel) _ _ _).trans rfl
theorem e226_1 (v0 v2 : Value) (x : Int32) (st : List Value) (w : zH) : zrun none (226, 1, [v0, .int x, v2], st, w) = zrun none (226, 2, [v0, .int x, v2], (.int x :: st), w) := (zE_ (i := .iload_n 1) (by decide +kernel) _ _ _).trans rfl
theorem e226_2 (ls : List Value) (a b : Int32) (st : List Value) (w : zH) (h : ¬ b = 0) : zrun none (226, 2, ls, (.int b :: .int a :: st), w) = zrun none (226, 3, ls, (.int (a / b) :: st), w) := by
  refine (zE_ (i := .idiv) (by decide +kernel) _ _ _).trans ?_
  simp only [zI, if_neg h]
  rfl
theorem e226_3 (v0 v1 v2 : Value) (x : Int32) (st : List Value) (w : zH) (h : v1.category = 1) : zrun none (226, 3, [v0, v1, v2], (.int x :: st), w) = zrun none (226, 4, [v0, v1, .int x], st, w) := by
  refine (zE_ (i := .istore_n 2) (by decide +kernel) _ _ _).trans ?_
  have hz : zfree [v0, v1, v2] 2 = true := by show decide (v1.category = 1) = true; exact decide_eq_true h
  show zres (zst zint 2 1 226 3 [v0, v1, v2] (.int x :: st) w) = _
  unfold zst
  dsimp only
  rw [if_pos ⟨rfl, Nat.le_of_ble_eq_true rfl, hz⟩]
  rfl
theorem e226_4 (v1 v2 : Value) (x : Int32) (st : List Value) (w : zH) : zrun none (226, 4, [.int x, v1, v2], st, w) = zrun none (226, 5, [.int x, v1, v2], (.int x :: st), w) := (zE_ (i := .iload_n 0) (by decide +kernel) _ _ _).trans rfl
theorem e226_5 (v0 v2 : Value) (x : Int32) (st : List Value) (w : zH) : zrun none (226, 5, [v0, .int x, v2], st, w) = zrun none (226, 6, [v0, .int x, v2], (.int x :: st), w) := (zE_ (i := .iload_n 1) (by decide +kernel) _ _ _).trans rfl
theorem e226_6 (ls : List Value) (a b : Int32) (st : List Value) (w : zH) : zrun none (226, 6, ls, (.int b :: .int a :: st), w) = zrun none (226, 7, ls, (.int (a ^^^ b) :: st), w) := (zE_ (i := .ixor) (by decide +kernel) _ _ _).trans rfl
theorem e226_7 (ls : List Value) (a : Int32) (st : List Value) (w : zH) : zrun none (226, 7, ls, (.int a :: st), w) = if 0 ≤ a then zrun none (226, 21, ls, st, w) else zrun none (226, 10, ls, st, w) := (zE_ (i := .ifCond .ge 14) (by decide +kernel) _ _ _).trans (zq_if_ge rfl rfl)
theorem e226_10 (v0 v1 : Value) (x : Int32) (st : List Value) (w : zH) : zrun none (226, 10, [v0, v1, .int x], st, w) = zrun none (226, 11, [v0, v1, .int x], (.int x :: st), w) := (zE_ (i := .iload_n 2) (by decide +kernel) _ _ _).trans rfl
theorem e226_11 (v0 v2 : Value) (x : Int32) (st : List Value) (w : zH) : zrun none (226, 11, [v0, .int x, v2], st, w) = zrun none (226, 12, [v0, .int x, v2], (.int x :: st), w) := (zE_ (i := .iload_n 1) (by decide +kernel) _ _ _).trans rfl
theorem e226_12 (ls : List Value) (a b : Int32) (st : List Value) (w : zH) : zrun none (226, 12, ls, (.int b :: .int a :: st), w) = zrun none (226, 13, ls, (.int (a * b) :: st), w) := (zE_ (i := .imul) (by decide +kernel) _ _ _).trans rfl
theorem e226_13 (v1 v2 : Value) (x : Int32) (st : List Value) (w : zH) : zrun none (226, 13, [.int x, v1, v2], st, w) = zrun none (226, 14, [.int x, v1, v2], (.int x :: st), w) := (zE_ (i := .iload_n 0) (by decide +kernel) _ _ _).trans rfl
theorem e226_14 (ls : List Value) (a b : Int32) (st : List Value) (w : zH) : zrun none (226, 14, ls, (.int b :: .int a :: st), w) = if a = b then zrun none (226, 21, ls, st, w) else zrun none (226, 17, ls, st, w) := (zE_ (i := .if_icmp .eq 7) (by decide +kernel) _ _ _).trans (zq_ic_eq rfl rfl)
theorem e226_17 (v0 v1 : Value) (x : Int32) (st : List Value) (w : zH) : zrun none (226, 17, [v0, v1, .int x], st, w) = zrun none (226, 18, [v0, v1, .int x], (.int x :: st), w) := (zE_ (i := .iload_n 2) (by decide +kernel) _ _ _).trans rfl
theorem e226_18 (ls st : List Value) (w : zH) : zrun none (226, 18, ls, st, w) = zrun none (226, 19, ls, (.int 1 :: st), w) := (zE_ (i := .iconst 1) (by decide +kernel) _ _ _).trans rfl
theorem e226_19 (ls : List Value) (a b : Int32) (st : List Value) (w : zH) : zrun none (226, 19, ls, (.int b :: .int a :: st), w) = zrun none (226, 20, ls, (.int (a - b) :: st), w) := (zE_ (i := .isub) (by decide +kernel) _ _ _).trans rfl
theorem e226_20 (ls : List Value) (x : Int32) (w : zH) : zrun none (226, 20, ls, [.int x], w) = some (some (.int x), w) := by
  refine (zE_ (i := .ireturn) (by decide +kernel) _ _ _).trans ?_
  show zres (if narrow .int (.int x) = .int x then _ else none) = _
  rw [if_pos (show narrow .int (.int x) = .int x from rfl)]
  rfl
theorem e226_21 (v0 v1 : Value) (x : Int32) (st : List Value) (w : zH) : zrun none (226, 21, [v0, v1, .int x], st, w) = zrun none (226, 22, [v0, v1, .int x], (.int x :: st), w) := (zE_ (i := .iload_n 2) (by decide +kernel) _ _ _).trans rfl
theorem e226_22 (ls : List Value) (x : Int32) (w : zH) : zrun none (226, 22, ls, [.int x], w) = some (some (.int x), w) := by
  refine (zE_ (i := .ireturn) (by decide +kernel) _ _ _).trans ?_
  show zres (if narrow .int (.int x) = .int x then _ else none) = _
  rw [if_pos (show narrow .int (.int x) = .int x from rfl)]
  rfl
theorem e227_0 (x : Int32) (st : List Value) (w : zH) : zrun none (227, 0, [.int x], st, w) = zrun none (227, 1, [.int x], (.int x :: st), w) := (zE_ (i := .iload_n 0) (by decide +kernel) _ _ _).trans rfl
theorem e227_1 (ls : List Value) (a : Int32) (st : List Value) (w : zH) : zrun none (227, 1, ls, (.int a :: st), w) = if 0 ≤ a then zrun none (227, 9, ls, st, w) else zrun none (227, 4, ls, st, w) := (zE_ (i := .ifCond .ge 8) (by decide +kernel) _ _ _).trans (zq_if_ge rfl rfl)
theorem e227_4 (x : Int32) (st : List Value) (w : zH) : zrun none (227, 4, [.int x], st, w) = zrun none (227, 5, [.int x], (.int x :: st), w) := (zE_ (i := .iload_n 0) (by decide +kernel) _ _ _).trans rfl
theorem e227_5 (ls : List Value) (a : Int32) (st : List Value) (w : zH) : zrun none (227, 5, ls, (.int a :: st), w) = zrun none (227, 6, ls, (.int (-a) :: st), w) := (zE_ (i := .ineg) (by decide +kernel) _ _ _).trans rfl
theorem e227_6 (ls st : List Value) (w : zH) : zrun none (227, 6, ls, st, w) = zrun none (227, 10, ls, st, w) := (zE_ (i := .goto 4) (by decide +kernel) _ _ _).trans rfl
theorem e227_9 (x : Int32) (st : List Value) (w : zH) : zrun none (227, 9, [.int x], st, w) = zrun none (227, 10, [.int x], (.int x :: st), w) := (zE_ (i := .iload_n 0) (by decide +kernel) _ _ _).trans rfl
theorem e227_10 (ls : List Value) (x : Int32) (w : zH) : zrun none (227, 10, ls, [.int x], w) = some (some (.int x), w) := by
  refine (zE_ (i := .ireturn) (by decide +kernel) _ _ _).trans ?_
  show zres (if narrow .int (.int x) = .int x then _ else none) = _
  rw [if_pos (show narrow .int (.int x) = .int x from rfl)]
  rfl
theorem e228_0 (v1 : Value) (x : Int32) (st : List Value) (w : zH) : zrun none (228, 0, [.int x, v1], st, w) = zrun none (228, 1, [.int x, v1], (.int x :: st), w) := (zE_ (i := .iload_n 0) (by decide +kernel) _ _ _).trans rfl
theorem e228_1 (v0 : Value) (x : Int32) (st : List Value) (w : zH) : zrun none (228, 1, [v0, .int x], st, w) = zrun none (228, 2, [v0, .int x], (.int x :: st), w) := (zE_ (i := .iload_n 1) (by decide +kernel) _ _ _).trans rfl
theorem e228_2 (ls : List Value) (a b : Int32) (st : List Value) (w : zH) : zrun none (228, 2, ls, (.int b :: .int a :: st), w) = if a < b then zrun none (228, 9, ls, st, w) else zrun none (228, 5, ls, st, w) := (zE_ (i := .if_icmp .lt 7) (by decide +kernel) _ _ _).trans (zq_ic_lt rfl rfl)
theorem e228_5 (v1 : Value) (x : Int32) (st : List Value) (w : zH) : zrun none (228, 5, [.int x, v1], st, w) = zrun none (228, 6, [.int x, v1], (.int x :: st), w) := (zE_ (i := .iload_n 0) (by decide +kernel) _ _ _).trans rfl
theorem e228_6 (ls st : List Value) (w : zH) : zrun none (228, 6, ls, st, w) = zrun none (228, 10, ls, st, w) := (zE_ (i := .goto 4) (by decide +kernel) _ _ _).trans rfl
theorem e228_9 (v0 : Value) (x : Int32) (st : List Value) (w : zH) : zrun none (228, 9, [v0, .int x], st, w) = zrun none (228, 10, [v0, .int x], (.int x :: st), w) := (zE_ (i := .iload_n 1) (by decide +kernel) _ _ _).trans rfl
theorem e228_10 (ls : List Value) (x : Int32) (w : zH) : zrun none (228, 10, ls, [.int x], w) = some (some (.int x), w) := by
  refine (zE_ (i := .ireturn) (by decide +kernel) _ _ _).trans ?_
  show zres (if narrow .int (.int x) = .int x then _ else none) = _
  rw [if_pos (show narrow .int (.int x) = .int x from rfl)]
  rfl
theorem e229_0 (v1 : Value) (x : Int32) (st : List Value) (w : zH) : zrun none (229, 0, [.int x, v1], st, w) = zrun none (229, 1, [.int x, v1], (.int x :: st), w) := (zE_ (i := .iload_n 0) (by decide +kernel) _ _ _).trans rfl
theorem e229_1 (v0 : Value) (x : Int32) (st : List Value) (w : zH) : zrun none (229, 1, [v0, .int x], st, w) = zrun none (229, 2, [v0, .int x], (.int x :: st), w) := (zE_ (i := .iload_n 1) (by decide +kernel) _ _ _).trans rfl
theorem e229_2 (ls : List Value) (a b : Int32) (st : List Value) (w : zH) : zrun none (229, 2, ls, (.int b :: .int a :: st), w) = if b < a then zrun none (229, 9, ls, st, w) else zrun none (229, 5, ls, st, w) := (zE_ (i := .if_icmp .gt 7) (by decide +kernel) _ _ _).trans (zq_ic_gt rfl rfl)
theorem e229_5 (v1 : Value) (x : Int32) (st : List Value) (w : zH) : zrun none (229, 5, [.int x, v1], st, w) = zrun none (229, 6, [.int x, v1], (.int x :: st), w) := (zE_ (i := .iload_n 0) (by decide +kernel) _ _ _).trans rfl
theorem e229_6 (ls st : List Value) (w : zH) : zrun none (229, 6, ls, st, w) = zrun none (229, 10, ls, st, w) := (zE_ (i := .goto 4) (by decide +kernel) _ _ _).trans rfl
theorem e229_9 (v0 : Value) (x : Int32) (st : List Value) (w : zH) : zrun none (229, 9, [v0, .int x], st, w) = zrun none (229, 10, [v0, .int x], (.int x :: st), w) := (zE_ (i := .iload_n 1) (by decide +kernel) _ _ _).trans rfl
theorem e229_10 (ls : List Value) (x : Int32) (w : zH) : zrun none (229, 10, ls, [.int x], w) = some (some (.int x), w) := by
  refine (zE_ (i := .ireturn) (by decide +kernel) _ _ _).trans ?_
  show zres (if narrow .int (.int x) = .int x then _ else none) = _
  rw [if_pos (show narrow .int (.int x) = .int x from rfl)]
  rfl
theorem e230_0 (x : Nat) (st : List Value) (w : zH) : zrun none (230, 0, [.ref x], st, w) = zrun none (230, 1, [.ref x], (.ref x :: st), w) := (zE_ (i := .aload_n 0) (by decide +kernel) _ _ _).trans rfl
theorem e230_1 (ls : List Value) (a : Nat) (st : List Value) (w : zH) : zrun none (230, 1, ls, (.ref a :: st), w) = zo (zf w a 1300) (fun x => zrun none (230, 4, ls, (x :: st), w)) := (zE_ (i := .getfield 1300) (by decide +kernel) _ _ _).trans zq_getf
theorem e230_4 (ls : List Value) (a : Nat) (st : List Value) (w : zH) : zrun none (230, 4, ls, (.ref a :: st), w) = zon (zal w a) (fun n => zrun none (230, 5, ls, (.int (Int32.ofNat n) :: st), w)) := (zE_ (i := .arraylength) (by decide +kernel) _ _ _).trans zq_alen
theorem e230_5 (x : Nat) (st : List Value) (w : zH) : zrun none (230, 5, [.ref x], st, w) = zrun none (230, 6, [.ref x], (.ref x :: st), w) := (zE_ (i := .aload_n 0) (by decide +kernel) _ _ _).trans rfl
theorem e230_6 (ls : List Value) (a : Nat) (st : List Value) (w : zH) (hr : zcat st ≤ 8) : zrun none (230, 6, ls, (.ref a :: st), w) = zgd (zis w a 13) (zcl (zrun none (232, 0, [.ref a], [], w)) (fun r => zrun none (230, 9, ls, r.1.toList ++ st, r.2))) := by
  refine (zE_ (i := .invokevirtual 232) (by decide +kernel) _ _ _).trans ?_
  show zres (zinv none 232 230 6 ls (.ref a :: st) w) = _
  unfold zinv
  show zres (if zrc none 232 w (.ref a) = true then zcall 232 [.ref a] st 230 6 ls w else none) = _
  by_cases hc : zis w a 13
  · rw [if_pos (zrc_is hc (by decide +kernel)), zgd_pos hc]
    exact zq_call hr (Nat.le_of_ble_eq_true rfl) rfl rfl
  · rw [zgd_neg hc, if_neg (fun q => hc (zrc_of q (by decide +kernel)))]
    rfl
theorem e230_9 (ls : List Value) (a b : Int32) (st : List Value) (w : zH) : zrun none (230, 9, ls, (.int b :: .int a :: st), w) = zrun none (230, 10, ls, (.int (a >>> (b &&& 31)) :: st), w) := (zE_ (i := .ishr) (by decide +kernel) _ _ _).trans rfl
theorem e230_10 (ls : List Value) (x : Int32) (w : zH) : zrun none (230, 10, ls, [.int x], w) = some (some (.int x), w) := by
  refine (zE_ (i := .ireturn) (by decide +kernel) _ _ _).trans ?_
  show zres (if narrow .int (.int x) = .int x then _ else none) = _
  rw [if_pos (show narrow .int (.int x) = .int x from rfl)]
  rfl
theorem e231_0 (v1 : Value) (x : Nat) (st : List Value) (w : zH) : zrun none (231, 0, [.ref x, v1], st, w) = zrun none (231, 1, [.ref x, v1], (.ref x :: st), w) := (zE_ (i := .aload_n 0) (by decide +kernel) _ _ _).trans rfl
theorem e231_1 (ls : List Value) (a : Nat) (st : List Value) (w : zH) (hr : zcat st ≤ 8) : zrun none (231, 1, ls, (.ref a :: st), w) = zgd (zis w a 13) (zcl (zrun none (233, 0, [.ref a], [], w)) (fun r => zrun none (231, 4, ls, r.1.toList ++ st, r.2))) := by
  refine (zE_ (i := .invokevirtual 233) (by decide +kernel) _ _ _).trans ?_
  show zres (zinv none 233 231 1 ls (.ref a :: st) w) = _
  unfold zinv
  show zres (if zrc none 233 w (.ref a) = true then zcall 233 [.ref a] st 231 1 ls w else none) = _
  by_cases hc : zis w a 13
  · rw [if_pos (zrc_is hc (by decide +kernel)), zgd_pos hc]
    exact zq_call hr (Nat.le_of_ble_eq_true rfl) rfl rfl
  · rw [zgd_neg hc, if_neg (fun q => hc (zrc_of q (by decide +kernel)))]
    rfl
theorem e231_4 (ls : List Value) (a : Int32) (st : List Value) (w : zH) : zrun none (231, 4, ls, (.int a :: st), w) = if a = 0 then zrun none (231, 16, ls, st, w) else zrun none (231, 7, ls, st, w) := (zE_ (i := .ifCond .eq 12) (by decide +kernel) _ _ _).trans (zq_if_eq rfl rfl)
theorem e231_7 (v1 : Value) (x : Nat) (st : List Value) (w : zH) : zrun none (231, 7, [.ref x, v1], st, w) = zrun none (231, 8, [.ref x, v1], (.ref x :: st), w) := (zE_ (i := .aload_n 0) (by decide +kernel) _ _ _).trans rfl
theorem e231_8 (ls : List Value) (a : Nat) (st : List Value) (w : zH) : zrun none (231, 8, ls, (.ref a :: st), w) = zo (zf w a 1300) (fun x => zrun none (231, 11, ls, (x :: st), w)) := (zE_ (i := .getfield 1300) (by decide +kernel) _ _ _).trans zq_getf
theorem e231_11 (v0 : Value) (x : Int32) (st : List Value) (w : zH) : zrun none (231, 11, [v0, .int x], st, w) = zrun none (231, 12, [v0, .int x], (.int x :: st), w) := (zE_ (i := .iload_n 1) (by decide +kernel) _ _ _).trans rfl
theorem e231_12 (ls : List Value) (x0 : Nat) (x1 : Int32) (st : List Value) (w : zH) (hr : zcat st ≤ 8) : zrun none (231, 12, ls, (.int x1 :: .ref x0 :: st), w) = zcl (zrun none (235, 0, [.ref x0, .int x1], [], w)) (fun r => zrun none (231, 15, ls, r.1.toList ++ st, r.2)) := by
  refine (zE_ (i := .invokestatic 235) (by decide +kernel) _ _ _).trans ?_
  show zres (if (99 : Nat) = 99 ∧ 2 ≤ ((.int x1 :: .ref x0 :: st) : List Value).length then zcall 235 [.ref x0, .int x1] st 231 12 ls w else none) = _
  rw [if_pos ⟨rfl, by simp⟩]
  exact zq_call hr (Nat.le_of_ble_eq_true rfl) rfl rfl
theorem e231_15 (ls : List Value) (x : Int32) (w : zH) (h : narrow .char (.int x) = .int x) : zrun none (231, 15, ls, [.int x], w) = some (some (.int x), w) := by
  refine (zE_ (i := .ireturn) (by decide +kernel) _ _ _).trans ?_
  show zres (if narrow .char (.int x) = .int x then _ else none) = _
  rw [if_pos h]
  rfl
theorem e231_16 (v1 : Value) (x : Nat) (st : List Value) (w : zH) : zrun none (231, 16, [.ref x, v1], st, w) = zrun none (231, 17, [.ref x, v1], (.ref x :: st), w) := (zE_ (i := .aload_n 0) (by decide +kernel) _ _ _).trans rfl
theorem e231_17 (ls : List Value) (a : Nat) (st : List Value) (w : zH) : zrun none (231, 17, ls, (.ref a :: st), w) = zo (zf w a 1300) (fun x => zrun none (231, 20, ls, (x :: st), w)) := (zE_ (i := .getfield 1300) (by decide +kernel) _ _ _).trans zq_getf
theorem e231_20 (v0 : Value) (x : Int32) (st : List Value) (w : zH) : zrun none (231, 20, [v0, .int x], st, w) = zrun none (231, 21, [v0, .int x], (.int x :: st), w) := (zE_ (i := .iload_n 1) (by decide +kernel) _ _ _).trans rfl
theorem e231_21 (ls : List Value) (x0 : Nat) (x1 : Int32) (st : List Value) (w : zH) (hr : zcat st ≤ 8) : zrun none (231, 21, ls, (.int x1 :: .ref x0 :: st), w) = zcl (zrun none (238, 0, [.ref x0, .int x1], [], w)) (fun r => zrun none (231, 24, ls, r.1.toList ++ st, r.2)) := by
  refine (zE_ (i := .invokestatic 238) (by decide +kernel) _ _ _).trans ?_
  show zres (if (99 : Nat) = 99 ∧ 2 ≤ ((.int x1 :: .ref x0 :: st) : List Value).length then zcall 238 [.ref x0, .int x1] st 231 21 ls w else none) = _
  rw [if_pos ⟨rfl, by simp⟩]
  exact zq_call hr (Nat.le_of_ble_eq_true rfl) rfl rfl
theorem e231_24 (ls : List Value) (x : Int32) (w : zH) (h : narrow .char (.int x) = .int x) : zrun none (231, 24, ls, [.int x], w) = some (some (.int x), w) := by
  refine (zE_ (i := .ireturn) (by decide +kernel) _ _ _).trans ?_
  show zres (if narrow .char (.int x) = .int x then _ else none) = _
  rw [if_pos h]
  rfl
theorem e232_0 (ls st : List Value) (w : zH) : zrun none (232, 0, ls, st, w) = zrun none (232, 3, ls, (.int 1 :: st), w) := (zE_ (i := .getstatic 0) (by decide +kernel) _ _ _).trans rfl
theorem e232_3 (ls : List Value) (a : Int32) (st : List Value) (w : zH) : zrun none (232, 3, ls, (.int a :: st), w) = if a = 0 then zrun none (232, 13, ls, st, w) else zrun none (232, 6, ls, st, w) := (zE_ (i := .ifCond .eq 10) (by decide +kernel) _ _ _).trans (zq_if_eq rfl rfl)
theorem e232_6 (x : Nat) (st : List Value) (w : zH) : zrun none (232, 6, [.ref x], st, w) = zrun none (232, 7, [.ref x], (.ref x :: st), w) := (zE_ (i := .aload_n 0) (by decide +kernel) _ _ _).trans rfl
theorem e232_7 (ls : List Value) (a : Nat) (st : List Value) (w : zH) : zrun none (232, 7, ls, (.ref a :: st), w) = zo (zf w a 1301) (fun x => zrun none (232, 10, ls, (x :: st), w)) := (zE_ (i := .getfield 1301) (by decide +kernel) _ _ _).trans zq_getf
theorem e232_10 (ls st : List Value) (w : zH) : zrun none (232, 10, ls, st, w) = zrun none (232, 14, ls, st, w) := (zE_ (i := .goto 4) (by decide +kernel) _ _ _).trans rfl
theorem e232_13 (ls st : List Value) (w : zH) : zrun none (232, 13, ls, st, w) = zrun none (232, 14, ls, (.int 1 :: st), w) := (zE_ (i := .iconst 1) (by decide +kernel) _ _ _).trans rfl
theorem e232_14 (ls : List Value) (x : Int32) (w : zH) (h : narrow .byte (.int x) = .int x) : zrun none (232, 14, ls, [.int x], w) = some (some (.int x), w) := by
  refine (zE_ (i := .ireturn) (by decide +kernel) _ _ _).trans ?_
  show zres (if narrow .byte (.int x) = .int x then _ else none) = _
  rw [if_pos h]
  rfl
theorem e233_0 (ls st : List Value) (w : zH) : zrun none (233, 0, ls, st, w) = zrun none (233, 3, ls, (.int 1 :: st), w) := (zE_ (i := .getstatic 0) (by decide +kernel) _ _ _).trans rfl
theorem e233_3 (ls : List Value) (a : Int32) (st : List Value) (w : zH) : zrun none (233, 3, ls, (.int a :: st), w) = if a = 0 then zrun none (233, 17, ls, st, w) else zrun none (233, 6, ls, st, w) := (zE_ (i := .ifCond .eq 14) (by decide +kernel) _ _ _).trans (zq_if_eq rfl rfl)
theorem e233_6 (x : Nat) (st : List Value) (w : zH) : zrun none (233, 6, [.ref x], st, w) = zrun none (233, 7, [.ref x], (.ref x :: st), w) := (zE_ (i := .aload_n 0) (by decide +kernel) _ _ _).trans rfl
theorem e233_7 (ls : List Value) (a : Nat) (st : List Value) (w : zH) : zrun none (233, 7, ls, (.ref a :: st), w) = zo (zf w a 1301) (fun x => zrun none (233, 10, ls, (x :: st), w)) := (zE_ (i := .getfield 1301) (by decide +kernel) _ _ _).trans zq_getf
theorem e233_10 (ls : List Value) (a : Int32) (st : List Value) (w : zH) : zrun none (233, 10, ls, (.int a :: st), w) = if a = 0 then zrun none (233, 13, ls, st, w) else zrun none (233, 17, ls, st, w) := (zE_ (i := .ifCond .ne 7) (by decide +kernel) _ _ _).trans (zq_if_ne rfl rfl)
theorem e233_13 (ls st : List Value) (w : zH) : zrun none (233, 13, ls, st, w) = zrun none (233, 14, ls, (.int 1 :: st), w) := (zE_ (i := .iconst 1) (by decide +kernel) _ _ _).trans rfl
theorem e233_14 (ls st : List Value) (w : zH) : zrun none (233, 14, ls, st, w) = zrun none (233, 18, ls, st, w) := (zE_ (i := .goto 4) (by decide +kernel) _ _ _).trans rfl
theorem e233_17 (ls st : List Value) (w : zH) : zrun none (233, 17, ls, st, w) = zrun none (233, 18, ls, (.int 0 :: st), w) := (zE_ (i := .iconst 0) (by decide +kernel) _ _ _).trans rfl
theorem e233_18 (ls : List Value) (x : Int32) (w : zH) (h : narrow .boolean (.int x) = .int x) : zrun none (233, 18, ls, [.int x], w) = some (some (.int x), w) := by
  refine (zE_ (i := .ireturn) (by decide +kernel) _ _ _).trans ?_
  show zres (if narrow .boolean (.int x) = .int x then _ else none) = _
  rw [if_pos h]
  rfl
theorem e234_0 (v1 : Value) (x : Int32) (st : List Value) (w : zH) : zrun none (234, 0, [.int x, v1], st, w) = zrun none (234, 1, [.int x, v1], (.int x :: st), w) := (zE_ (i := .iload_n 0) (by decide +kernel) _ _ _).trans rfl
theorem e234_1 (v0 : Value) (x : Int32) (st : List Value) (w : zH) : zrun none (234, 1, [v0, .int x], st, w) = zrun none (234, 2, [v0, .int x], (.int x :: st), w) := (zE_ (i := .iload_n 1) (by decide +kernel) _ _ _).trans rfl
theorem e234_2 (ls st : List Value) (w : zH) : zrun none (234, 2, ls, st, w) = zrun none (234, 5, ls, (.ref 1000020 :: st), w) := (zE_ (i := .getstatic 1) (by decide +kernel) _ _ _).trans rfl
theorem e234_5 (ls : List Value) (x0 : Int32) (x1 : Int32) (x2 : Nat) (st : List Value) (w : zH) (hr : zcat st ≤ 8) : zrun none (234, 5, ls, (.ref x2 :: .int x1 :: .int x0 :: st), w) = zcl (zrun none (241, 0, [.int x0, .int x1, .ref x2], [], w)) (fun r => zrun none (234, 8, ls, r.1.toList ++ st, r.2)) := by
  refine (zE_ (i := .invokestatic 241) (by decide +kernel) _ _ _).trans ?_
  show zres (if (99 : Nat) = 99 ∧ 3 ≤ ((.ref x2 :: .int x1 :: .int x0 :: st) : List Value).length then zcall 241 [.int x0, .int x1, .ref x2] st 234 5 ls w else none) = _
  rw [if_pos ⟨rfl, by simp⟩]
  exact zq_call hr (Nat.le_of_ble_eq_true rfl) rfl rfl
theorem e234_8 (ls : List Value) (x : Int32) (st : List Value) (w : zH) : zrun none (234, 8, ls, (.int x :: st), w) = zrun none (234, 9, ls, st, w) := (zE_ (i := .pop) (by decide +kernel) _ _ _).trans rfl
theorem e234_9 (ls : List Value) (w : zH) : zrun none (234, 9, ls, [], w) = some (none, w) := (zE_ (i := .return_) (by decide +kernel) _ _ _).trans rfl
theorem e235_0 (v0 : Value) (x : Int32) (st : List Value) (w : zH) : zrun none (235, 0, [v0, .int x], st, w) = zrun none (235, 1, [v0, .int x], (.int x :: st), w) := (zE_ (i := .iload_n 1) (by decide +kernel) _ _ _).trans rfl
theorem e235_1 (v1 : Value) (x : Nat) (st : List Value) (w : zH) : zrun none (235, 1, [.ref x, v1], st, w) = zrun none (235, 2, [.ref x, v1], (.ref x :: st), w) := (zE_ (i := .aload_n 0) (by decide +kernel) _ _ _).trans rfl
theorem e235_1n (v1 : Value) (st : List Value) (w : zH) : zrun none (235, 1, [.null, v1], st, w) = zrun none (235, 2, [.null, v1], (.null :: st), w) := (zE_ (i := .aload_n 0) (by decide +kernel) _ _ _).trans rfl
theorem e235_2 (ls : List Value) (a : Nat) (st : List Value) (w : zH) : zrun none (235, 2, ls, (.ref a :: st), w) = zon (zal w a) (fun n => zrun none (235, 3, ls, (.int (Int32.ofNat n) :: st), w)) := (zE_ (i := .arraylength) (by decide +kernel) _ _ _).trans zq_alen
theorem e235_3 (ls : List Value) (x0 : Int32) (x1 : Int32) (st : List Value) (w : zH) (hr : zcat st ≤ 8) : zrun none (235, 3, ls, (.int x1 :: .int x0 :: st), w) = zcl (zrun none (234, 0, [.int x0, .int x1], [], w)) (fun r => zrun none (235, 6, ls, r.1.toList ++ st, r.2)) := by
  refine (zE_ (i := .invokestatic 234) (by decide +kernel) _ _ _).trans ?_
  show zres (if (99 : Nat) = 99 ∧ 2 ≤ ((.int x1 :: .int x0 :: st) : List Value).length then zcall 234 [.int x0, .int x1] st 235 3 ls w else none) = _
  rw [if_pos ⟨rfl, by simp⟩]
  exact zq_call hr (Nat.le_of_ble_eq_true rfl) rfl rfl
theorem e235_6 (v1 : Value) (x : Nat) (st : List Value) (w : zH) : zrun none (235, 6, [.ref x, v1], st, w) = zrun none (235, 7, [.ref x, v1], (.ref x :: st), w) := (zE_ (i := .aload_n 0) (by decide +kernel) _ _ _).trans rfl
theorem e235_6n (v1 : Value) (st : List Value) (w : zH) : zrun none (235, 6, [.null, v1], st, w) = zrun none (235, 7, [.null, v1], (.null :: st), w) := (zE_ (i := .aload_n 0) (by decide +kernel) _ _ _).trans rfl
theorem e235_7 (v0 : Value) (x : Int32) (st : List Value) (w : zH) : zrun none (235, 7, [v0, .int x], st, w) = zrun none (235, 8, [v0, .int x], (.int x :: st), w) := (zE_ (i := .iload_n 1) (by decide +kernel) _ _ _).trans rfl
theorem e235_8 (ls : List Value) (j : Int32) (a : Nat) (st : List Value) (w : zH) : zrun none (235, 8, ls, (.int j :: .ref a :: st), w) = zoi (zai w a 103 j) (fun x => zrun none (235, 9, ls, (.int x :: st), w)) := (zE_ (i := .baload) (by decide +kernel) _ _ _).trans zq_bald
theorem e235_9 (ls st : List Value) (w : zH) : zrun none (235, 9, ls, st, w) = zrun none (235, 12, ls, (.int 255 :: st), w) := (zE_ (i := .sipush 255) (by decide +kernel) _ _ _).trans rfl
theorem e235_12 (ls : List Value) (a b : Int32) (st : List Value) (w : zH) : zrun none (235, 12, ls, (.int b :: .int a :: st), w) = zrun none (235, 13, ls, (.int (a &&& b) :: st), w) := (zE_ (i := .iand) (by decide +kernel) _ _ _).trans rfl
theorem e235_13 (ls : List Value) (a : Int32) (st : List Value) (w : zH) : zrun none (235, 13, ls, (.int a :: st), w) = zrun none (235, 14, ls, (.int (a.toUInt32 % 65536).toInt32 :: st), w) := (zE_ (i := .i2c) (by decide +kernel) _ _ _).trans rfl
theorem e235_14 (ls : List Value) (x : Int32) (w : zH) (h : narrow .char (.int x) = .int x) : zrun none (235, 14, ls, [.int x], w) = some (some (.int x), w) := by
  refine (zE_ (i := .ireturn) (by decide +kernel) _ _ _).trans ?_
  show zres (if narrow .char (.int x) = .int x then _ else none) = _
  rw [if_pos h]
  rfl
theorem e240_0 (ls st : List Value) (w : zH) : zrun none (240, 0, ls, st, w) = zrun none (240, 1, ls, (.int 0 :: st), w) := (zE_ (i := .iconst 0) (by decide +kernel) _ _ _).trans rfl
theorem e240_1 (v0 v1 v2 v3 : Value) (x : Int32) (st : List Value) (w : zH) (h : v1.category = 1) : zrun none (240, 1, [v0, v1, v2, v3], (.int x :: st), w) = zrun none (240, 2, [v0, v1, .int x, v3], st, w) := by
  refine (zE_ (i := .istore_n 2) (by decide +kernel) _ _ _).trans ?_
  have hz : zfree [v0, v1, v2, v3] 2 = true := by show decide (v1.category = 1) = true; exact decide_eq_true h
  show zres (zst zint 2 1 240 1 [v0, v1, v2, v3] (.int x :: st) w) = _
  unfold zst
  dsimp only
  rw [if_pos ⟨rfl, Nat.le_of_ble_eq_true rfl, hz⟩]
  rfl
theorem e240_2 (v1 v2 v3 : Value) (x : Nat) (st : List Value) (w : zH) : zrun none (240, 2, [.ref x, v1, v2, v3], st, w) = zrun none (240, 3, [.ref x, v1, v2, v3], (.ref x :: st), w) := (zE_ (i := .aload_n 0) (by decide +kernel) _ _ _).trans rfl
theorem e240_2n (v1 v2 v3 : Value) (st : List Value) (w : zH) : zrun none (240, 2, [.null, v1, v2, v3], st, w) = zrun none (240, 3, [.null, v1, v2, v3], (.null :: st), w) := (zE_ (i := .aload_n 0) (by decide +kernel) _ _ _).trans rfl
theorem e240_3 (ls : List Value) (a : Nat) (st : List Value) (w : zH) : zrun none (240, 3, ls, (.ref a :: st), w) = zon (zal w a) (fun n => zrun none (240, 4, ls, (.int (Int32.ofNat n) :: st), w)) := (zE_ (i := .arraylength) (by decide +kernel) _ _ _).trans zq_alen
theorem e240_4 (v0 v1 v2 v3 : Value) (x : Int32) (st : List Value) (w : zH) (h : v2.category = 1) : zrun none (240, 4, [v0, v1, v2, v3], (.int x :: st), w) = zrun none (240, 5, [v0, v1, v2, .int x], st, w) := by
  refine (zE_ (i := .istore_n 3) (by decide +kernel) _ _ _).trans ?_
  have hz : zfree [v0, v1, v2, v3] 3 = true := by show decide (v2.category = 1) = true; exact decide_eq_true h
  show zres (zst zint 3 1 240 4 [v0, v1, v2, v3] (.int x :: st) w) = _
  unfold zst
  dsimp only
  rw [if_pos ⟨rfl, Nat.le_of_ble_eq_true rfl, hz⟩]
  rfl
theorem e240_5 (v0 v1 v3 : Value) (x : Int32) (st : List Value) (w : zH) : zrun none (240, 5, [v0, v1, .int x, v3], st, w) = zrun none (240, 6, [v0, v1, .int x, v3], (.int x :: st), w) := (zE_ (i := .iload_n 2) (by decide +kernel) _ _ _).trans rfl
theorem e240_6 (v0 v1 v2 : Value) (x : Int32) (st : List Value) (w : zH) : zrun none (240, 6, [v0, v1, v2, .int x], st, w) = zrun none (240, 7, [v0, v1, v2, .int x], (.int x :: st), w) := (zE_ (i := .iload_n 3) (by decide +kernel) _ _ _).trans rfl
theorem e240_7 (ls : List Value) (a b : Int32) (st : List Value) (w : zH) : zrun none (240, 7, ls, (.int b :: .int a :: st), w) = if b ≤ a then zrun none (240, 20, ls, st, w) else zrun none (240, 10, ls, st, w) := (zE_ (i := .if_icmp .ge 13) (by decide +kernel) _ _ _).trans (zq_ic_ge rfl rfl)
theorem e240_10 (v1 v2 v3 : Value) (x : Nat) (st : List Value) (w : zH) : zrun none (240, 10, [.ref x, v1, v2, v3], st, w) = zrun none (240, 11, [.ref x, v1, v2, v3], (.ref x :: st), w) := (zE_ (i := .aload_n 0) (by decide +kernel) _ _ _).trans rfl
theorem e240_10n (v1 v2 v3 : Value) (st : List Value) (w : zH) : zrun none (240, 10, [.null, v1, v2, v3], st, w) = zrun none (240, 11, [.null, v1, v2, v3], (.null :: st), w) := (zE_ (i := .aload_n 0) (by decide +kernel) _ _ _).trans rfl
theorem e240_11 (v0 v1 v3 : Value) (x : Int32) (st : List Value) (w : zH) : zrun none (240, 11, [v0, v1, .int x, v3], st, w) = zrun none (240, 12, [v0, v1, .int x, v3], (.int x :: st), w) := (zE_ (i := .iload_n 2) (by decide +kernel) _ _ _).trans rfl
theorem e240_12 (v0 v2 v3 : Value) (x : Int32) (st : List Value) (w : zH) : zrun none (240, 12, [v0, .int x, v2, v3], st, w) = zrun none (240, 13, [v0, .int x, v2, v3], (.int x :: st), w) := (zE_ (i := .iload_n 1) (by decide +kernel) _ _ _).trans rfl
theorem e240_13 (ls : List Value) (x j : Int32) (a : Nat) (st : List Value) (w : zH) : zrun none (240, 13, ls, (.int x :: .int j :: .ref a :: st), w) = zgd (zin? w a 100 j) (zrun none (240, 14, ls, st, zas w a j (.int x))) := by
  refine (zE_ (i := .iastore) (by decide +kernel) _ _ _).trans ?_
  by_cases hg : zin? w a 100 j
  · rw [zgd_pos hg]
    exact zq_iast hg
  · rw [zgd_neg hg]
    exact zq_iast_no hg
theorem e240_14 (v0 v1 v3 : Value) (x : Int32) (st : List Value) (w : zH) : zrun none (240, 14, [v0, v1, .int x, v3], st, w) = zrun none (240, 17, [v0, v1, .int (x + 1), v3], st, w) := (zE_ (i := .iinc 2 1) (by decide +kernel) _ _ _).trans rfl
theorem e240_17 (ls st : List Value) (w : zH) : zrun none (240, 17, ls, st, w) = zrun none (240, 5, ls, st, w) := (zE_ (i := .goto (-12)) (by decide +kernel) _ _ _).trans rfl
theorem e240_20 (ls : List Value) (w : zH) : zrun none (240, 20, ls, [], w) = some (none, w) := (zE_ (i := .return_) (by decide +kernel) _ _ _).trans rfl
theorem e241_0 (v1 v2 : Value) (x : Int32) (st : List Value) (w : zH) : zrun none (241, 0, [.int x, v1, v2], st, w) = zrun none (241, 1, [.int x, v1, v2], (.int x :: st), w) := (zE_ (i := .iload_n 0) (by decide +kernel) _ _ _).trans rfl
theorem e241_1 (ls : List Value) (a : Int32) (st : List Value) (w : zH) : zrun none (241, 1, ls, (.int a :: st), w) = if a < 0 then zrun none (241, 9, ls, st, w) else zrun none (241, 4, ls, st, w) := (zE_ (i := .ifCond .lt 8) (by decide +kernel) _ _ _).trans (zq_if_lt rfl rfl)
theorem e241_4 (v1 v2 : Value) (x : Int32) (st : List Value) (w : zH) : zrun none (241, 4, [.int x, v1, v2], st, w) = zrun none (241, 5, [.int x, v1, v2], (.int x :: st), w) := (zE_ (i := .iload_n 0) (by decide +kernel) _ _ _).trans rfl
theorem e241_5 (v0 v2 : Value) (x : Int32) (st : List Value) (w : zH) : zrun none (241, 5, [v0, .int x, v2], st, w) = zrun none (241, 6, [v0, .int x, v2], (.int x :: st), w) := (zE_ (i := .iload_n 1) (by decide +kernel) _ _ _).trans rfl
theorem e241_6 (ls : List Value) (a b : Int32) (st : List Value) (w : zH) : zrun none (241, 6, ls, (.int b :: .int a :: st), w) = if a < b then zrun none (241, 16, ls, st, w) else zrun none (241, 9, ls, st, w) := (zE_ (i := .if_icmp .lt 10) (by decide +kernel) _ _ _).trans (zq_ic_lt rfl rfl)
theorem e241_9 (v0 v1 : Value) (x : Nat) (st : List Value) (w : zH) : zrun none (241, 9, [v0, v1, .ref x], st, w) = zrun none (241, 10, [v0, v1, .ref x], (.ref x :: st), w) := (zE_ (i := .aload_n 2) (by decide +kernel) _ _ _).trans rfl
theorem e241_9n (v0 v1 : Value) (st : List Value) (w : zH) : zrun none (241, 9, [v0, v1, .null], st, w) = zrun none (241, 10, [v0, v1, .null], (.null :: st), w) := (zE_ (i := .aload_n 2) (by decide +kernel) _ _ _).trans rfl
theorem e241_10 (v1 v2 : Value) (x : Int32) (st : List Value) (w : zH) : zrun none (241, 10, [.int x, v1, v2], st, w) = zrun none (241, 11, [.int x, v1, v2], (.int x :: st), w) := (zE_ (i := .iload_n 0) (by decide +kernel) _ _ _).trans rfl
theorem e241_11 (v0 v2 : Value) (x : Int32) (st : List Value) (w : zH) : zrun none (241, 11, [v0, .int x, v2], st, w) = zrun none (241, 12, [v0, .int x, v2], (.int x :: st), w) := (zE_ (i := .iload_n 1) (by decide +kernel) _ _ _).trans rfl
theorem e241_16 (v1 v2 : Value) (x : Int32) (st : List Value) (w : zH) : zrun none (241, 16, [.int x, v1, v2], st, w) = zrun none (241, 17, [.int x, v1, v2], (.int x :: st), w) := (zE_ (i := .iload_n 0) (by decide +kernel) _ _ _).trans rfl
theorem e241_17 (ls : List Value) (x : Int32) (w : zH) : zrun none (241, 17, ls, [.int x], w) = some (some (.int x), w) := by
  refine (zE_ (i := .ireturn) (by decide +kernel) _ _ _).trans ?_
  show zres (if narrow .int (.int x) = .int x then _ else none) = _
  rw [if_pos (show narrow .int (.int x) = .int x from rfl)]
  rfl
