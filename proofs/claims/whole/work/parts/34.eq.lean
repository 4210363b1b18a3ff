theorem e185_0 (v1 v2 v3 v4 v5 v6 : Value) (x : Nat) (st : List Value) (w : zH) : zrun none (185, 0, [.ref x, v1, v2, v3, v4, v5, v6], st, w) = zrun none (185, 1, [.ref x, v1, v2, v3, v4, v5, v6], (.ref x :: st), w) := (zE_ (i := .aload_n 0) (by decide +kernel) _ _ _).trans rfl
theorem e185_1 (ls st : List Value) (w : zH) : zrun none (185, 1, ls, st, w) = zrun none (185, 2, ls, (.int 0 :: st), w) := (zE_ (i := .iconst 0) (by decide +kernel) _ _ _).trans rfl
theorem e185_2 (ls : List Value) (x : Int32) (a : Nat) (st : List Value) (w : zH) : zrun none (185, 2, ls, (.int x :: .ref a :: st), w) = zgd (a < zX ∧ (zf w a 1200).isSome = true) (zrun none (185, 5, ls, st, zpf w a 1200 (.int x))) := by
  refine (zE_ (i := .putfield 1200) (by decide +kernel) _ _ _).trans ?_
  by_cases hg : a < zX ∧ (zf w a 1200).isSome = true
  · rw [zgd_pos hg]
    obtain ⟨ha, h⟩ := hg
    exact zq_putf ha h rfl rfl
  · rw [zgd_neg hg]
    exact zq_putf_no (fun h1 h2 h3 => hg ⟨h1, h2⟩)
theorem e185_5 (v1 v2 v3 v4 v5 v6 : Value) (x : Nat) (st : List Value) (w : zH) : zrun none (185, 5, [.ref x, v1, v2, v3, v4, v5, v6], st, w) = zrun none (185, 6, [.ref x, v1, v2, v3, v4, v5, v6], (.ref x :: st), w) := (zE_ (i := .aload_n 0) (by decide +kernel) _ _ _).trans rfl
theorem e185_6 (v0 v2 v3 v4 v5 v6 : Value) (x : Int32) (st : List Value) (w : zH) : zrun none (185, 6, [v0, .int x, v2, v3, v4, v5, v6], st, w) = zrun none (185, 7, [v0, .int x, v2, v3, v4, v5, v6], (.int x :: st), w) := (zE_ (i := .iload_n 1) (by decide +kernel) _ _ _).trans rfl
theorem e185_7 (ls : List Value) (a : Nat) (x0 : Int32) (st : List Value) (w : zH) (hr : zcat st ≤ 8) : zrun none (185, 7, ls, (.int x0 :: .ref a :: st), w) = zgd (zis w a 12) (zcl (zrun none (162, 0, [.ref a, .int x0], [], w)) (fun r => zrun none (185, 10, ls, r.1.toList ++ st, r.2))) := by
  refine (zE_ (i := .invokevirtual 162) (by decide +kernel) _ _ _).trans ?_
  show zres (zinv none 162 185 7 ls (.int x0 :: .ref a :: st) w) = _
  unfold zinv
  show zres (if zrc none 162 w (.ref a) = true then zcall 162 [.ref a, .int x0] st 185 7 ls w else none) = _
  by_cases hc : zis w a 12
  · rw [if_pos (zrc_is hc (by decide +kernel)), zgd_pos hc]
    exact zq_call hr (Nat.le_of_ble_eq_true rfl) rfl rfl
  · rw [zgd_neg hc, if_neg (fun q => hc (zrc_of q (by decide +kernel)))]
    rfl
theorem e185_10 (ls : List Value) (a : Int32) (st : List Value) (w : zH) : zrun none (185, 10, ls, (.int a :: st), w) = if a = 0 then zrun none (185, 54, ls, st, w) else zrun none (185, 13, ls, st, w) := (zE_ (i := .ifCond .eq 44) (by decide +kernel) _ _ _).trans (zq_if_eq rfl rfl)
theorem e185_13 (v0 v1 v3 v4 v5 v6 : Value) (x : Int32) (st : List Value) (w : zH) : zrun none (185, 13, [v0, v1, .int x, v3, v4, v5, v6], st, w) = zrun none (185, 14, [v0, v1, .int x, v3, v4, v5, v6], (.int x :: st), w) := (zE_ (i := .iload_n 2) (by decide +kernel) _ _ _).trans rfl
theorem e185_14 (ls : List Value) (x0 : Int32) (st : List Value) (w : zH) (hr : zcat st ≤ 8) : zrun none (185, 14, ls, (.int x0 :: st), w) = zcl (zrun none (182, 0, [.int x0], [], w)) (fun r => zrun none (185, 17, ls, r.1.toList ++ st, r.2)) := by
  refine (zE_ (i := .invokestatic 182) (by decide +kernel) _ _ _).trans ?_
  show zres (if (99 : Nat) = 99 ∧ 1 ≤ ((.int x0 :: st) : List Value).length then zcall 182 [.int x0] st 185 14 ls w else none) = _
  rw [if_pos ⟨rfl, by simp⟩]
  exact zq_call hr (Nat.le_of_ble_eq_true rfl) rfl rfl
theorem e185_17 (ls : List Value) (a : Int32) (st : List Value) (w : zH) : zrun none (185, 17, ls, (.int a :: st), w) = if a = 0 then zrun none (185, 54, ls, st, w) else zrun none (185, 20, ls, st, w) := (zE_ (i := .ifCond .eq 37) (by decide +kernel) _ _ _).trans (zq_if_eq rfl rfl)
theorem e185_20 (v0 v1 v2 v4 v5 v6 : Value) (x : Int32) (st : List Value) (w : zH) : zrun none (185, 20, [v0, v1, v2, .int x, v4, v5, v6], st, w) = zrun none (185, 21, [v0, v1, v2, .int x, v4, v5, v6], (.int x :: st), w) := (zE_ (i := .iload_n 3) (by decide +kernel) _ _ _).trans rfl
theorem e185_21 (ls : List Value) (x0 : Int32) (st : List Value) (w : zH) (hr : zcat st ≤ 8) : zrun none (185, 21, ls, (.int x0 :: st), w) = zcl (zrun none (155, 0, [.int x0], [], w)) (fun r => zrun none (185, 24, ls, r.1.toList ++ st, r.2)) := by
  refine (zE_ (i := .invokestatic 155) (by decide +kernel) _ _ _).trans ?_
  show zres (if (99 : Nat) = 99 ∧ 1 ≤ ((.int x0 :: st) : List Value).length then zcall 155 [.int x0] st 185 21 ls w else none) = _
  rw [if_pos ⟨rfl, by simp⟩]
  exact zq_call hr (Nat.le_of_ble_eq_true rfl) rfl rfl
theorem e185_24 (ls : List Value) (a : Int32) (st : List Value) (w : zH) : zrun none (185, 24, ls, (.int a :: st), w) = if a = 0 then zrun none (185, 54, ls, st, w) else zrun none (185, 27, ls, st, w) := (zE_ (i := .ifCond .eq 30) (by decide +kernel) _ _ _).trans (zq_if_eq rfl rfl)
theorem e185_27 (v0 v1 v2 v3 v5 v6 : Value) (x : Int32) (st : List Value) (w : zH) : zrun none (185, 27, [v0, v1, v2, v3, .int x, v5, v6], st, w) = zrun none (185, 29, [v0, v1, v2, v3, .int x, v5, v6], (.int x :: st), w) := (zE_ (i := .iload 4) (by decide +kernel) _ _ _).trans rfl
theorem e185_29 (ls : List Value) (a : Int32) (st : List Value) (w : zH) : zrun none (185, 29, ls, (.int a :: st), w) = zrun none (185, 30, ls, (.long a.toInt64 :: st), w) := (zE_ (i := .i2l) (by decide +kernel) _ _ _).trans rfl
theorem e185_30 (v0 v1 v2 v4 v5 v6 : Value) (x : Int32) (st : List Value) (w : zH) : zrun none (185, 30, [v0, v1, v2, .int x, v4, v5, v6], st, w) = zrun none (185, 31, [v0, v1, v2, .int x, v4, v5, v6], (.int x :: st), w) := (zE_ (i := .iload_n 3) (by decide +kernel) _ _ _).trans rfl
theorem e185_31 (ls : List Value) (a : Int32) (st : List Value) (w : zH) : zrun none (185, 31, ls, (.int a :: st), w) = zrun none (185, 32, ls, (.long a.toInt64 :: st), w) := (zE_ (i := .i2l) (by decide +kernel) _ _ _).trans rfl
theorem e185_32 (ls st : List Value) (w : zH) : zrun none (185, 32, ls, st, w) = zrun none (185, 35, ls, (.long 99999 :: st), w) := (zE_ (i := .ldc2_w 99999) (by decide +kernel) _ _ _).trans rfl
theorem e185_35 (ls : List Value) (x0 : Int64) (x1 : Int64) (x2 : Int64) (st : List Value) (w : zH) (hr : zcat st ≤ 8) : zrun none (185, 35, ls, (.long x2 :: .long x1 :: .long x0 :: st), w) = zcl (zrun none (146, 0, [.long x0, zJ, .long x1, zJ, .long x2, zJ], [], w)) (fun r => zrun none (185, 38, ls, r.1.toList ++ st, r.2)) := by
  refine (zE_ (i := .invokestatic 146) (by decide +kernel) _ _ _).trans ?_
  show zres (if (99 : Nat) = 99 ∧ 3 ≤ ((.long x2 :: .long x1 :: .long x0 :: st) : List Value).length then zcall 146 [.long x0, .long x1, .long x2] st 185 35 ls w else none) = _
  rw [if_pos ⟨rfl, by simp⟩]
  exact zq_call hr (Nat.le_of_ble_eq_true rfl) rfl rfl
theorem e185_38 (ls : List Value) (a : Int32) (st : List Value) (w : zH) : zrun none (185, 38, ls, (.int a :: st), w) = if a = 0 then zrun none (185, 54, ls, st, w) else zrun none (185, 41, ls, st, w) := (zE_ (i := .ifCond .eq 16) (by decide +kernel) _ _ _).trans (zq_if_eq rfl rfl)
theorem e185_41 (v0 v1 v2 v3 v4 v6 : Value) (x : Int32) (st : List Value) (w : zH) : zrun none (185, 41, [v0, v1, v2, v3, v4, .int x, v6], st, w) = zrun none (185, 43, [v0, v1, v2, v3, v4, .int x, v6], (.int x :: st), w) := (zE_ (i := .iload 5) (by decide +kernel) _ _ _).trans rfl
theorem e185_43 (ls : List Value) (a : Int32) (st : List Value) (w : zH) : zrun none (185, 43, ls, (.int a :: st), w) = zrun none (185, 44, ls, (.long a.toInt64 :: st), w) := (zE_ (i := .i2l) (by decide +kernel) _ _ _).trans rfl
theorem e185_44 (ls st : List Value) (w : zH) : zrun none (185, 44, ls, st, w) = zrun none (185, 45, ls, (.long 0 :: st), w) := (zE_ (i := .lconst 0) (by decide +kernel) _ _ _).trans rfl
theorem e185_45 (ls st : List Value) (w : zH) : zrun none (185, 45, ls, st, w) = zrun none (185, 48, ls, (.long 255 :: st), w) := (zE_ (i := .ldc2_w 255) (by decide +kernel) _ _ _).trans rfl
theorem e185_48 (ls : List Value) (x0 : Int64) (x1 : Int64) (x2 : Int64) (st : List Value) (w : zH) (hr : zcat st ≤ 8) : zrun none (185, 48, ls, (.long x2 :: .long x1 :: .long x0 :: st), w) = zcl (zrun none (146, 0, [.long x0, zJ, .long x1, zJ, .long x2, zJ], [], w)) (fun r => zrun none (185, 51, ls, r.1.toList ++ st, r.2)) := by
  refine (zE_ (i := .invokestatic 146) (by decide +kernel) _ _ _).trans ?_
  show zres (if (99 : Nat) = 99 ∧ 3 ≤ ((.long x2 :: .long x1 :: .long x0 :: st) : List Value).length then zcall 146 [.long x0, .long x1, .long x2] st 185 48 ls w else none) = _
  rw [if_pos ⟨rfl, by simp⟩]
  exact zq_call hr (Nat.le_of_ble_eq_true rfl) rfl rfl
theorem e185_51 (ls : List Value) (a : Int32) (st : List Value) (w : zH) : zrun none (185, 51, ls, (.int a :: st), w) = if a = 0 then zrun none (185, 54, ls, st, w) else zrun none (185, 57, ls, st, w) := (zE_ (i := .ifCond .ne 6) (by decide +kernel) _ _ _).trans (zq_if_ne rfl rfl)
theorem e185_54 (ls st : List Value) (w : zH) : zrun none (185, 54, ls, st, w) = zrun none (185, 56, ls, (.int (-1000001) :: st), w) := (zE_ (i := .bipush (-1000001)) (by decide +kernel) _ _ _).trans rfl
theorem e185_56 (ls : List Value) (x : Int32) (w : zH) : zrun none (185, 56, ls, [.int x], w) = some (some (.int x), w) := by
  refine (zE_ (i := .ireturn) (by decide +kernel) _ _ _).trans ?_
  show zres (if narrow .int (.int x) = .int x then _ else none) = _
  rw [if_pos (show narrow .int (.int x) = .int x from rfl)]
  rfl
theorem e185_57 (v1 v2 v3 v4 v5 v6 : Value) (x : Nat) (st : List Value) (w : zH) : zrun none (185, 57, [.ref x, v1, v2, v3, v4, v5, v6], st, w) = zrun none (185, 58, [.ref x, v1, v2, v3, v4, v5, v6], (.ref x :: st), w) := (zE_ (i := .aload_n 0) (by decide +kernel) _ _ _).trans rfl
theorem e185_58 (ls : List Value) (a : Nat) (st : List Value) (w : zH) : zrun none (185, 58, ls, (.ref a :: st), w) = zo (zf w a 1230) (fun x => zrun none (185, 61, ls, (x :: st), w)) := (zE_ (i := .getfield 1230) (by decide +kernel) _ _ _).trans zq_getf
theorem e185_61 (ls st : List Value) (w : zH) : zrun none (185, 61, ls, st, w) = zrun none (185, 63, ls, (.int 10 :: st), w) := (zE_ (i := .bipush 10) (by decide +kernel) _ _ _).trans rfl
theorem e185_63 (ls : List Value) (a b : Int32) (st : List Value) (w : zH) : zrun none (185, 63, ls, (.int b :: .int a :: st), w) = if a = b then zrun none (185, 66, ls, st, w) else zrun none (185, 69, ls, st, w) := (zE_ (i := .if_icmp .ne 6) (by decide +kernel) _ _ _).trans (zq_ic_ne rfl rfl)
theorem e185_66 (ls st : List Value) (w : zH) : zrun none (185, 66, ls, st, w) = zrun none (185, 68, ls, (.int (-1000003) :: st), w) := (zE_ (i := .bipush (-1000003)) (by decide +kernel) _ _ _).trans rfl
theorem e185_68 (ls : List Value) (x : Int32) (w : zH) : zrun none (185, 68, ls, [.int x], w) = some (some (.int x), w) := by
  refine (zE_ (i := .ireturn) (by decide +kernel) _ _ _).trans ?_
  show zres (if narrow .int (.int x) = .int x then _ else none) = _
  rw [if_pos (show narrow .int (.int x) = .int x from rfl)]
  rfl
theorem e185_69 (v1 v2 v3 v4 v5 v6 : Value) (x : Nat) (st : List Value) (w : zH) : zrun none (185, 69, [.ref x, v1, v2, v3, v4, v5, v6], st, w) = zrun none (185, 70, [.ref x, v1, v2, v3, v4, v5, v6], (.ref x :: st), w) := (zE_ (i := .aload_n 0) (by decide +kernel) _ _ _).trans rfl
theorem e185_70 (ls : List Value) (a : Nat) (st : List Value) (w : zH) : zrun none (185, 70, ls, (.ref a :: st), w) = zo (zf w a 1231) (fun x => zrun none (185, 73, ls, (x :: st), w)) := (zE_ (i := .getfield 1231) (by decide +kernel) _ _ _).trans zq_getf
theorem e185_73 (v1 v2 v3 v4 v5 v6 : Value) (x : Nat) (st : List Value) (w : zH) : zrun none (185, 73, [.ref x, v1, v2, v3, v4, v5, v6], st, w) = zrun none (185, 74, [.ref x, v1, v2, v3, v4, v5, v6], (.ref x :: st), w) := (zE_ (i := .aload_n 0) (by decide +kernel) _ _ _).trans rfl
theorem e185_74 (ls : List Value) (a : Nat) (st : List Value) (w : zH) : zrun none (185, 74, ls, (.ref a :: st), w) = zo (zf w a 1230) (fun x => zrun none (185, 77, ls, (x :: st), w)) := (zE_ (i := .getfield 1230) (by decide +kernel) _ _ _).trans zq_getf
theorem e185_77 (v0 v2 v3 v4 v5 v6 : Value) (x : Int32) (st : List Value) (w : zH) : zrun none (185, 77, [v0, .int x, v2, v3, v4, v5, v6], st, w) = zrun none (185, 78, [v0, .int x, v2, v3, v4, v5, v6], (.int x :: st), w) := (zE_ (i := .iload_n 1) (by decide +kernel) _ _ _).trans rfl
theorem e185_78 (ls : List Value) (x j : Int32) (a : Nat) (st : List Value) (w : zH) : zrun none (185, 78, ls, (.int x :: .int j :: .ref a :: st), w) = zgd (zin? w a 100 j) (zrun none (185, 79, ls, st, zas w a j (.int x))) := by
  refine (zE_ (i := .iastore) (by decide +kernel) _ _ _).trans ?_
  by_cases hg : zin? w a 100 j
  · rw [zgd_pos hg]
    exact zq_iast hg
  · rw [zgd_neg hg]
    exact zq_iast_no hg
theorem e185_79 (v1 v2 v3 v4 v5 v6 : Value) (x : Nat) (st : List Value) (w : zH) : zrun none (185, 79, [.ref x, v1, v2, v3, v4, v5, v6], st, w) = zrun none (185, 80, [.ref x, v1, v2, v3, v4, v5, v6], (.ref x :: st), w) := (zE_ (i := .aload_n 0) (by decide +kernel) _ _ _).trans rfl
theorem e185_80 (ls : List Value) (a : Nat) (st : List Value) (w : zH) : zrun none (185, 80, ls, (.ref a :: st), w) = zo (zf w a 1232) (fun x => zrun none (185, 83, ls, (x :: st), w)) := (zE_ (i := .getfield 1232) (by decide +kernel) _ _ _).trans zq_getf
theorem e185_83 (v1 v2 v3 v4 v5 v6 : Value) (x : Nat) (st : List Value) (w : zH) : zrun none (185, 83, [.ref x, v1, v2, v3, v4, v5, v6], st, w) = zrun none (185, 84, [.ref x, v1, v2, v3, v4, v5, v6], (.ref x :: st), w) := (zE_ (i := .aload_n 0) (by decide +kernel) _ _ _).trans rfl
theorem e185_84 (ls : List Value) (a : Nat) (st : List Value) (w : zH) : zrun none (185, 84, ls, (.ref a :: st), w) = zo (zf w a 1230) (fun x => zrun none (185, 87, ls, (x :: st), w)) := (zE_ (i := .getfield 1230) (by decide +kernel) _ _ _).trans zq_getf
theorem e185_87 (v0 v1 v3 v4 v5 v6 : Value) (x : Int32) (st : List Value) (w : zH) : zrun none (185, 87, [v0, v1, .int x, v3, v4, v5, v6], st, w) = zrun none (185, 88, [v0, v1, .int x, v3, v4, v5, v6], (.int x :: st), w) := (zE_ (i := .iload_n 2) (by decide +kernel) _ _ _).trans rfl
theorem e185_88 (ls : List Value) (x j : Int32) (a : Nat) (st : List Value) (w : zH) : zrun none (185, 88, ls, (.int x :: .int j :: .ref a :: st), w) = zgd (zin? w a 100 j) (zrun none (185, 89, ls, st, zas w a j (.int x))) := by
  refine (zE_ (i := .iastore) (by decide +kernel) _ _ _).trans ?_
  by_cases hg : zin? w a 100 j
  · rw [zgd_pos hg]
    exact zq_iast hg
  · rw [zgd_neg hg]
    exact zq_iast_no hg
theorem e185_89 (v1 v2 v3 v4 v5 v6 : Value) (x : Nat) (st : List Value) (w : zH) : zrun none (185, 89, [.ref x, v1, v2, v3, v4, v5, v6], st, w) = zrun none (185, 90, [.ref x, v1, v2, v3, v4, v5, v6], (.ref x :: st), w) := (zE_ (i := .aload_n 0) (by decide +kernel) _ _ _).trans rfl
theorem e185_90 (ls : List Value) (a : Nat) (st : List Value) (w : zH) : zrun none (185, 90, ls, (.ref a :: st), w) = zo (zf w a 1233) (fun x => zrun none (185, 93, ls, (x :: st), w)) := (zE_ (i := .getfield 1233) (by decide +kernel) _ _ _).trans zq_getf
theorem e185_93 (v1 v2 v3 v4 v5 v6 : Value) (x : Nat) (st : List Value) (w : zH) : zrun none (185, 93, [.ref x, v1, v2, v3, v4, v5, v6], st, w) = zrun none (185, 94, [.ref x, v1, v2, v3, v4, v5, v6], (.ref x :: st), w) := (zE_ (i := .aload_n 0) (by decide +kernel) _ _ _).trans rfl
theorem e185_94 (ls : List Value) (a : Nat) (st : List Value) (w : zH) : zrun none (185, 94, ls, (.ref a :: st), w) = zo (zf w a 1230) (fun x => zrun none (185, 97, ls, (x :: st), w)) := (zE_ (i := .getfield 1230) (by decide +kernel) _ _ _).trans zq_getf
theorem e185_97 (v0 v1 v2 v4 v5 v6 : Value) (x : Int32) (st : List Value) (w : zH) : zrun none (185, 97, [v0, v1, v2, .int x, v4, v5, v6], st, w) = zrun none (185, 98, [v0, v1, v2, .int x, v4, v5, v6], (.int x :: st), w) := (zE_ (i := .iload_n 3) (by decide +kernel) _ _ _).trans rfl
theorem e185_98 (ls : List Value) (x j : Int32) (a : Nat) (st : List Value) (w : zH) : zrun none (185, 98, ls, (.int x :: .int j :: .ref a :: st), w) = zgd (zin? w a 100 j) (zrun none (185, 99, ls, st, zas w a j (.int x))) := by
  refine (zE_ (i := .iastore) (by decide +kernel) _ _ _).trans ?_
  by_cases hg : zin? w a 100 j
  · rw [zgd_pos hg]
    exact zq_iast hg
  · rw [zgd_neg hg]
    exact zq_iast_no hg
theorem e185_99 (v1 v2 v3 v4 v5 v6 : Value) (x : Nat) (st : List Value) (w : zH) : zrun none (185, 99, [.ref x, v1, v2, v3, v4, v5, v6], st, w) = zrun none (185, 100, [.ref x, v1, v2, v3, v4, v5, v6], (.ref x :: st), w) := (zE_ (i := .aload_n 0) (by decide +kernel) _ _ _).trans rfl
theorem e185_100 (ls : List Value) (a : Nat) (st : List Value) (w : zH) : zrun none (185, 100, ls, (.ref a :: st), w) = zo (zf w a 1234) (fun x => zrun none (185, 103, ls, (x :: st), w)) := (zE_ (i := .getfield 1234) (by decide +kernel) _ _ _).trans zq_getf
theorem e185_103 (v1 v2 v3 v4 v5 v6 : Value) (x : Nat) (st : List Value) (w : zH) : zrun none (185, 103, [.ref x, v1, v2, v3, v4, v5, v6], st, w) = zrun none (185, 104, [.ref x, v1, v2, v3, v4, v5, v6], (.ref x :: st), w) := (zE_ (i := .aload_n 0) (by decide +kernel) _ _ _).trans rfl
theorem e185_104 (ls : List Value) (a : Nat) (st : List Value) (w : zH) : zrun none (185, 104, ls, (.ref a :: st), w) = zo (zf w a 1230) (fun x => zrun none (185, 107, ls, (x :: st), w)) := (zE_ (i := .getfield 1230) (by decide +kernel) _ _ _).trans zq_getf
theorem e185_107 (v0 v1 v2 v3 v5 v6 : Value) (x : Int32) (st : List Value) (w : zH) : zrun none (185, 107, [v0, v1, v2, v3, .int x, v5, v6], st, w) = zrun none (185, 109, [v0, v1, v2, v3, .int x, v5, v6], (.int x :: st), w) := (zE_ (i := .iload 4) (by decide +kernel) _ _ _).trans rfl
theorem e185_109 (ls : List Value) (x j : Int32) (a : Nat) (st : List Value) (w : zH) : zrun none (185, 109, ls, (.int x :: .int j :: .ref a :: st), w) = zgd (zin? w a 100 j) (zrun none (185, 110, ls, st, zas w a j (.int x))) := by
  refine (zE_ (i := .iastore) (by decide +kernel) _ _ _).trans ?_
  by_cases hg : zin? w a 100 j
  · rw [zgd_pos hg]
    exact zq_iast hg
  · rw [zgd_neg hg]
    exact zq_iast_no hg
theorem e185_110 (v1 v2 v3 v4 v5 v6 : Value) (x : Nat) (st : List Value) (w : zH) : zrun none (185, 110, [.ref x, v1, v2, v3, v4, v5, v6], st, w) = zrun none (185, 111, [.ref x, v1, v2, v3, v4, v5, v6], (.ref x :: st), w) := (zE_ (i := .aload_n 0) (by decide +kernel) _ _ _).trans rfl
theorem e185_111 (ls : List Value) (a : Nat) (st : List Value) (w : zH) : zrun none (185, 111, ls, (.ref a :: st), w) = zo (zf w a 1235) (fun x => zrun none (185, 114, ls, (x :: st), w)) := (zE_ (i := .getfield 1235) (by decide +kernel) _ _ _).trans zq_getf
theorem e185_114 (v1 v2 v3 v4 v5 v6 : Value) (x : Nat) (st : List Value) (w : zH) : zrun none (185, 114, [.ref x, v1, v2, v3, v4, v5, v6], st, w) = zrun none (185, 115, [.ref x, v1, v2, v3, v4, v5, v6], (.ref x :: st), w) := (zE_ (i := .aload_n 0) (by decide +kernel) _ _ _).trans rfl
theorem e185_115 (ls : List Value) (a : Nat) (st : List Value) (w : zH) : zrun none (185, 115, ls, (.ref a :: st), w) = zo (zf w a 1230) (fun x => zrun none (185, 118, ls, (x :: st), w)) := (zE_ (i := .getfield 1230) (by decide +kernel) _ _ _).trans zq_getf
theorem e185_118 (v0 v1 v2 v3 v4 v6 : Value) (x : Int32) (st : List Value) (w : zH) : zrun none (185, 118, [v0, v1, v2, v3, v4, .int x, v6], st, w) = zrun none (185, 120, [v0, v1, v2, v3, v4, .int x, v6], (.int x :: st), w) := (zE_ (i := .iload 5) (by decide +kernel) _ _ _).trans rfl
theorem e185_120 (ls : List Value) (x j : Int32) (a : Nat) (st : List Value) (w : zH) : zrun none (185, 120, ls, (.int x :: .int j :: .ref a :: st), w) = zgd (zin? w a 100 j) (zrun none (185, 121, ls, st, zas w a j (.int x))) := by
  refine (zE_ (i := .iastore) (by decide +kernel) _ _ _).trans ?_
  by_cases hg : zin? w a 100 j
  · rw [zgd_pos hg]
    exact zq_iast hg
  · rw [zgd_neg hg]
    exact zq_iast_no hg
theorem e185_121 (ls st : List Value) (w : zH) : zrun none (185, 121, ls, st, w) = zrun none (185, 122, ls, (.int 0 :: st), w) := (zE_ (i := .iconst 0) (by decide +kernel) _ _ _).trans rfl
theorem e185_122 (v0 v1 v2 v3 v4 v5 v6 : Value) (x : Int32) (st : List Value) (w : zH) (h : v5.category = 1) : zrun none (185, 122, [v0, v1, v2, v3, v4, v5, v6], (.int x :: st), w) = zrun none (185, 124, [v0, v1, v2, v3, v4, v5, .int x], st, w) := by
  refine (zE_ (i := .istore 6) (by decide +kernel) _ _ _).trans ?_
  have hz : zfree [v0, v1, v2, v3, v4, v5, v6] 6 = true := by show decide (v5.category = 1) = true; exact decide_eq_true h
  show zres (zst zint 6 2 185 122 [v0, v1, v2, v3, v4, v5, v6] (.int x :: st) w) = _
  unfold zst
  dsimp only
  rw [if_pos ⟨rfl, Nat.le_of_ble_eq_true rfl, hz⟩]
  rfl
theorem e185_124 (v0 v1 v2 v3 v4 v5 : Value) (x : Int32) (st : List Value) (w : zH) : zrun none (185, 124, [v0, v1, v2, v3, v4, v5, .int x], st, w) = zrun none (185, 126, [v0, v1, v2, v3, v4, v5, .int x], (.int x :: st), w) := (zE_ (i := .iload 6) (by decide +kernel) _ _ _).trans rfl
theorem e185_126 (ls st : List Value) (w : zH) : zrun none (185, 126, ls, st, w) = zrun none (185, 128, ls, (.int 8 :: st), w) := (zE_ (i := .bipush 8) (by decide +kernel) _ _ _).trans rfl
theorem e185_128 (ls : List Value) (a b : Int32) (st : List Value) (w : zH) : zrun none (185, 128, ls, (.int b :: .int a :: st), w) = if b ≤ a then zrun none (185, 154, ls, st, w) else zrun none (185, 131, ls, st, w) := (zE_ (i := .if_icmp .ge 26) (by decide +kernel) _ _ _).trans (zq_ic_ge rfl rfl)
theorem e185_131 (v1 v2 v3 v4 v5 v6 : Value) (x : Nat) (st : List Value) (w : zH) : zrun none (185, 131, [.ref x, v1, v2, v3, v4, v5, v6], st, w) = zrun none (185, 132, [.ref x, v1, v2, v3, v4, v5, v6], (.ref x :: st), w) := (zE_ (i := .aload_n 0) (by decide +kernel) _ _ _).trans rfl
theorem e185_132 (ls : List Value) (a : Nat) (st : List Value) (w : zH) : zrun none (185, 132, ls, (.ref a :: st), w) = zo (zf w a 1236) (fun x => zrun none (185, 135, ls, (x :: st), w)) := (zE_ (i := .getfield 1236) (by decide +kernel) _ _ _).trans zq_getf
theorem e185_135 (ls st : List Value) (w : zH) : zrun none (185, 135, ls, st, w) = zrun none (185, 137, ls, (.int 8 :: st), w) := (zE_ (i := .bipush 8) (by decide +kernel) _ _ _).trans rfl
theorem e185_137 (v1 v2 v3 v4 v5 v6 : Value) (x : Nat) (st : List Value) (w : zH) : zrun none (185, 137, [.ref x, v1, v2, v3, v4, v5, v6], st, w) = zrun none (185, 138, [.ref x, v1, v2, v3, v4, v5, v6], (.ref x :: st), w) := (zE_ (i := .aload_n 0) (by decide +kernel) _ _ _).trans rfl
theorem e185_138 (ls : List Value) (a : Nat) (st : List Value) (w : zH) : zrun none (185, 138, ls, (.ref a :: st), w) = zo (zf w a 1230) (fun x => zrun none (185, 141, ls, (x :: st), w)) := (zE_ (i := .getfield 1230) (by decide +kernel) _ _ _).trans zq_getf
theorem e185_141 (ls : List Value) (a b : Int32) (st : List Value) (w : zH) : zrun none (185, 141, ls, (.int b :: .int a :: st), w) = zrun none (185, 142, ls, (.int (a * b) :: st), w) := (zE_ (i := .imul) (by decide +kernel) _ _ _).trans rfl
theorem e185_142 (v0 v1 v2 v3 v4 v5 : Value) (x : Int32) (st : List Value) (w : zH) : zrun none (185, 142, [v0, v1, v2, v3, v4, v5, .int x], st, w) = zrun none (185, 144, [v0, v1, v2, v3, v4, v5, .int x], (.int x :: st), w) := (zE_ (i := .iload 6) (by decide +kernel) _ _ _).trans rfl
theorem e185_144 (ls : List Value) (a b : Int32) (st : List Value) (w : zH) : zrun none (185, 144, ls, (.int b :: .int a :: st), w) = zrun none (185, 145, ls, (.int (a + b) :: st), w) := (zE_ (i := .iadd) (by decide +kernel) _ _ _).trans rfl
theorem e185_145 (ls st : List Value) (w : zH) : zrun none (185, 145, ls, st, w) = zrun none (185, 147, ls, (.int (-1000000) :: st), w) := (zE_ (i := .bipush (-1000000)) (by decide +kernel) _ _ _).trans rfl
theorem e185_147 (ls : List Value) (x j : Int32) (a : Nat) (st : List Value) (w : zH) : zrun none (185, 147, ls, (.int x :: .int j :: .ref a :: st), w) = zgd (zin? w a 100 j) (zrun none (185, 148, ls, st, zas w a j (.int x))) := by
  refine (zE_ (i := .iastore) (by decide +kernel) _ _ _).trans ?_
  by_cases hg : zin? w a 100 j
  · rw [zgd_pos hg]
    exact zq_iast hg
  · rw [zgd_neg hg]
    exact zq_iast_no hg
theorem e185_148 (v0 v1 v2 v3 v4 v5 : Value) (x : Int32) (st : List Value) (w : zH) : zrun none (185, 148, [v0, v1, v2, v3, v4, v5, .int x], st, w) = zrun none (185, 151, [v0, v1, v2, v3, v4, v5, .int (x + 1)], st, w) := (zE_ (i := .iinc 6 1) (by decide +kernel) _ _ _).trans rfl
theorem e185_151 (ls st : List Value) (w : zH) : zrun none (185, 151, ls, st, w) = zrun none (185, 124, ls, st, w) := (zE_ (i := .goto (-27)) (by decide +kernel) _ _ _).trans rfl
theorem e185_154 (v1 v2 v3 v4 v5 v6 : Value) (x : Nat) (st : List Value) (w : zH) : zrun none (185, 154, [.ref x, v1, v2, v3, v4, v5, v6], st, w) = zrun none (185, 155, [.ref x, v1, v2, v3, v4, v5, v6], (.ref x :: st), w) := (zE_ (i := .aload_n 0) (by decide +kernel) _ _ _).trans rfl
theorem e185_155 (ls : List Value) (x : Int32) (st : List Value) (w : zH) : zrun none (185, 155, ls, (.int x :: st), w) = zrun none (185, 156, ls, (.int x :: .int x :: st), w) := (zE_ (i := .dup) (by decide +kernel) _ _ _).trans rfl
theorem e185_155r (ls : List Value) (x : Nat) (st : List Value) (w : zH) : zrun none (185, 155, ls, (.ref x :: st), w) = zrun none (185, 156, ls, (.ref x :: .ref x :: st), w) := (zE_ (i := .dup) (by decide +kernel) _ _ _).trans rfl
theorem e185_156 (ls : List Value) (a : Nat) (st : List Value) (w : zH) : zrun none (185, 156, ls, (.ref a :: st), w) = zo (zf w a 1230) (fun x => zrun none (185, 159, ls, (x :: st), w)) := (zE_ (i := .getfield 1230) (by decide +kernel) _ _ _).trans zq_getf
theorem e185_159 (ls st : List Value) (w : zH) : zrun none (185, 159, ls, st, w) = zrun none (185, 160, ls, (.int 1 :: st), w) := (zE_ (i := .iconst 1) (by decide +kernel) _ _ _).trans rfl
theorem e185_160 (ls : List Value) (a b : Int32) (st : List Value) (w : zH) : zrun none (185, 160, ls, (.int b :: .int a :: st), w) = zrun none (185, 161, ls, (.int (a + b) :: st), w) := (zE_ (i := .iadd) (by decide +kernel) _ _ _).trans rfl
theorem e185_161 (ls : List Value) (x : Int32) (a : Nat) (st : List Value) (w : zH) : zrun none (185, 161, ls, (.int x :: .ref a :: st), w) = zgd (a < zX ∧ (zf w a 1230).isSome = true) (zrun none (185, 164, ls, st, zpf w a 1230 (.int x))) := by
  refine (zE_ (i := .putfield 1230) (by decide +kernel) _ _ _).trans ?_
  by_cases hg : a < zX ∧ (zf w a 1230).isSome = true
  · rw [zgd_pos hg]
    obtain ⟨ha, h⟩ := hg
    exact zq_putf ha h rfl rfl
  · rw [zgd_neg hg]
    exact zq_putf_no (fun h1 h2 h3 => hg ⟨h1, h2⟩)
theorem e185_164 (v1 v2 v3 v4 v5 v6 : Value) (x : Nat) (st : List Value) (w : zH) : zrun none (185, 164, [.ref x, v1, v2, v3, v4, v5, v6], st, w) = zrun none (185, 165, [.ref x, v1, v2, v3, v4, v5, v6], (.ref x :: st), w) := (zE_ (i := .aload_n 0) (by decide +kernel) _ _ _).trans rfl
theorem e185_165 (ls : List Value) (a : Nat) (st : List Value) (w : zH) : zrun none (185, 165, ls, (.ref a :: st), w) = zo (zf w a 1230) (fun x => zrun none (185, 168, ls, (x :: st), w)) := (zE_ (i := .getfield 1230) (by decide +kernel) _ _ _).trans zq_getf
theorem e185_168 (ls st : List Value) (w : zH) : zrun none (185, 168, ls, st, w) = zrun none (185, 169, ls, (.int 1 :: st), w) := (zE_ (i := .iconst 1) (by decide +kernel) _ _ _).trans rfl
theorem e185_169 (ls : List Value) (a b : Int32) (st : List Value) (w : zH) : zrun none (185, 169, ls, (.int b :: .int a :: st), w) = zrun none (185, 170, ls, (.int (a - b) :: st), w) := (zE_ (i := .isub) (by decide +kernel) _ _ _).trans rfl
theorem e185_170 (ls : List Value) (x : Int32) (w : zH) : zrun none (185, 170, ls, [.int x], w) = some (some (.int x), w) := by
  refine (zE_ (i := .ireturn) (by decide +kernel) _ _ _).trans ?_
  show zres (if narrow .int (.int x) = .int x then _ else none) = _
  rw [if_pos (show narrow .int (.int x) = .int x from rfl)]
  rfl
theorem e186_0 (v0 : Value) (x : Int32) (st : List Value) (w : zH) : zrun none (186, 0, [v0, .int x], st, w) = zrun none (186, 1, [v0, .int x], (.int x :: st), w) := (zE_ (i := .iload_n 1) (by decide +kernel) _ _ _).trans rfl
theorem e186_1 (ls : List Value) (a : Int32) (st : List Value) (w : zH) : zrun none (186, 1, ls, (.int a :: st), w) = zrun none (186, 2, ls, (.long a.toInt64 :: st), w) := (zE_ (i := .i2l) (by decide +kernel) _ _ _).trans rfl
theorem e186_2 (ls st : List Value) (w : zH) : zrun none (186, 2, ls, st, w) = zrun none (186, 3, ls, (.long 0 :: st), w) := (zE_ (i := .lconst 0) (by decide +kernel) _ _ _).trans rfl
theorem e186_3 (v1 : Value) (x : Nat) (st : List Value) (w : zH) : zrun none (186, 3, [.ref x, v1], st, w) = zrun none (186, 4, [.ref x, v1], (.ref x :: st), w) := (zE_ (i := .aload_n 0) (by decide +kernel) _ _ _).trans rfl
theorem e186_4 (ls : List Value) (a : Nat) (st : List Value) (w : zH) : zrun none (186, 4, ls, (.ref a :: st), w) = zo (zf w a 1230) (fun x => zrun none (186, 7, ls, (x :: st), w)) := (zE_ (i := .getfield 1230) (by decide +kernel) _ _ _).trans zq_getf
theorem e186_7 (ls st : List Value) (w : zH) : zrun none (186, 7, ls, st, w) = zrun none (186, 8, ls, (.int 1 :: st), w) := (zE_ (i := .iconst 1) (by decide +kernel) _ _ _).trans rfl
theorem e186_8 (ls : List Value) (a b : Int32) (st : List Value) (w : zH) : zrun none (186, 8, ls, (.int b :: .int a :: st), w) = zrun none (186, 9, ls, (.int (a - b) :: st), w) := (zE_ (i := .isub) (by decide +kernel) _ _ _).trans rfl
theorem e186_9 (ls : List Value) (a : Int32) (st : List Value) (w : zH) : zrun none (186, 9, ls, (.int a :: st), w) = zrun none (186, 10, ls, (.long a.toInt64 :: st), w) := (zE_ (i := .i2l) (by decide +kernel) _ _ _).trans rfl
theorem e186_10 (ls : List Value) (x0 : Int64) (x1 : Int64) (x2 : Int64) (st : List Value) (w : zH) (hr : zcat st ≤ 8) : zrun none (186, 10, ls, (.long x2 :: .long x1 :: .long x0 :: st), w) = zcl (zrun none (146, 0, [.long x0, zJ, .long x1, zJ, .long x2, zJ], [], w)) (fun r => zrun none (186, 13, ls, r.1.toList ++ st, r.2)) := by
  refine (zE_ (i := .invokestatic 146) (by decide +kernel) _ _ _).trans ?_
  show zres (if (99 : Nat) = 99 ∧ 3 ≤ ((.long x2 :: .long x1 :: .long x0 :: st) : List Value).length then zcall 146 [.long x0, .long x1, .long x2] st 186 10 ls w else none) = _
  rw [if_pos ⟨rfl, by simp⟩]
  exact zq_call hr (Nat.le_of_ble_eq_true rfl) rfl rfl
theorem e186_13 (ls : List Value) (x : Int32) (w : zH) (h : narrow .boolean (.int x) = .int x) : zrun none (186, 13, ls, [.int x], w) = some (some (.int x), w) := by
  refine (zE_ (i := .ireturn) (by decide +kernel) _ _ _).trans ?_
  show zres (if narrow .boolean (.int x) = .int x then _ else none) = _
  rw [if_pos h]
  rfl
theorem e187_0 (v1 v2 v3 : Value) (x : Nat) (st : List Value) (w : zH) : zrun none (187, 0, [.ref x, v1, v2, v3], st, w) = zrun none (187, 1, [.ref x, v1, v2, v3], (.ref x :: st), w) := (zE_ (i := .aload_n 0) (by decide +kernel) _ _ _).trans rfl
theorem e187_1 (ls st : List Value) (w : zH) : zrun none (187, 1, ls, st, w) = zrun none (187, 2, ls, (.int 0 :: st), w) := (zE_ (i := .iconst 0) (by decide +kernel) _ _ _).trans rfl
theorem e187_2 (ls : List Value) (x : Int32) (a : Nat) (st : List Value) (w : zH) : zrun none (187, 2, ls, (.int x :: .ref a :: st), w) = zgd (a < zX ∧ (zf w a 1200).isSome = true) (zrun none (187, 5, ls, st, zpf w a 1200 (.int x))) := by
  refine (zE_ (i := .putfield 1200) (by decide +kernel) _ _ _).trans ?_
  by_cases hg : a < zX ∧ (zf w a 1200).isSome = true
  · rw [zgd_pos hg]
    obtain ⟨ha, h⟩ := hg
    exact zq_putf ha h rfl rfl
  · rw [zgd_neg hg]
    exact zq_putf_no (fun h1 h2 h3 => hg ⟨h1, h2⟩)
theorem e187_5 (v1 v2 v3 : Value) (x : Nat) (st : List Value) (w : zH) : zrun none (187, 5, [.ref x, v1, v2, v3], st, w) = zrun none (187, 6, [.ref x, v1, v2, v3], (.ref x :: st), w) := (zE_ (i := .aload_n 0) (by decide +kernel) _ _ _).trans rfl
theorem e187_6 (v0 v2 v3 : Value) (x : Int32) (st : List Value) (w : zH) : zrun none (187, 6, [v0, .int x, v2, v3], st, w) = zrun none (187, 7, [v0, .int x, v2, v3], (.int x :: st), w) := (zE_ (i := .iload_n 1) (by decide +kernel) _ _ _).trans rfl
theorem e187_7 (ls : List Value) (a : Nat) (x0 : Int32) (st : List Value) (w : zH) (hr : zcat st ≤ 8) : zrun none (187, 7, ls, (.int x0 :: .ref a :: st), w) = zgd (zis w a 12) (zcl (zrun none (186, 0, [.ref a, .int x0], [], w)) (fun r => zrun none (187, 10, ls, r.1.toList ++ st, r.2))) := by
  refine (zE_ (i := .invokevirtual 186) (by decide +kernel) _ _ _).trans ?_
  show zres (zinv none 186 187 7 ls (.int x0 :: .ref a :: st) w) = _
  unfold zinv
  show zres (if zrc none 186 w (.ref a) = true then zcall 186 [.ref a, .int x0] st 187 7 ls w else none) = _
  by_cases hc : zis w a 12
  · rw [if_pos (zrc_is hc (by decide +kernel)), zgd_pos hc]
    exact zq_call hr (Nat.le_of_ble_eq_true rfl) rfl rfl
  · rw [zgd_neg hc, if_neg (fun q => hc (zrc_of q (by decide +kernel)))]
    rfl
theorem e187_10 (ls : List Value) (a : Int32) (st : List Value) (w : zH) : zrun none (187, 10, ls, (.int a :: st), w) = if a = 0 then zrun none (187, 32, ls, st, w) else zrun none (187, 13, ls, st, w) := (zE_ (i := .ifCond .eq 22) (by decide +kernel) _ _ _).trans (zq_if_eq rfl rfl)
theorem e187_13 (v0 v1 v3 : Value) (x : Int32) (st : List Value) (w : zH) : zrun none (187, 13, [v0, v1, .int x, v3], st, w) = zrun none (187, 14, [v0, v1, .int x, v3], (.int x :: st), w) := (zE_ (i := .iload_n 2) (by decide +kernel) _ _ _).trans rfl
theorem e187_14 (ls : List Value) (a : Int32) (st : List Value) (w : zH) : zrun none (187, 14, ls, (.int a :: st), w) = zrun none (187, 15, ls, (.long a.toInt64 :: st), w) := (zE_ (i := .i2l) (by decide +kernel) _ _ _).trans rfl
theorem e187_15 (ls st : List Value) (w : zH) : zrun none (187, 15, ls, st, w) = zrun none (187, 16, ls, (.long 0 :: st), w) := (zE_ (i := .lconst 0) (by decide +kernel) _ _ _).trans rfl
theorem e187_16 (ls st : List Value) (w : zH) : zrun none (187, 16, ls, st, w) = zrun none (187, 19, ls, (.long 7 :: st), w) := (zE_ (i := .ldc2_w 7) (by decide +kernel) _ _ _).trans rfl
theorem e187_19 (ls : List Value) (x0 : Int64) (x1 : Int64) (x2 : Int64) (st : List Value) (w : zH) (hr : zcat st ≤ 8) : zrun none (187, 19, ls, (.long x2 :: .long x1 :: .long x0 :: st), w) = zcl (zrun none (146, 0, [.long x0, zJ, .long x1, zJ, .long x2, zJ], [], w)) (fun r => zrun none (187, 22, ls, r.1.toList ++ st, r.2)) := by
  refine (zE_ (i := .invokestatic 146) (by decide +kernel) _ _ _).trans ?_
  show zres (if (99 : Nat) = 99 ∧ 3 ≤ ((.long x2 :: .long x1 :: .long x0 :: st) : List Value).length then zcall 146 [.long x0, .long x1, .long x2] st 187 19 ls w else none) = _
  rw [if_pos ⟨rfl, by simp⟩]
  exact zq_call hr (Nat.le_of_ble_eq_true rfl) rfl rfl
theorem e187_22 (ls : List Value) (a : Int32) (st : List Value) (w : zH) : zrun none (187, 22, ls, (.int a :: st), w) = if a = 0 then zrun none (187, 32, ls, st, w) else zrun none (187, 25, ls, st, w) := (zE_ (i := .ifCond .eq 10) (by decide +kernel) _ _ _).trans (zq_if_eq rfl rfl)
theorem e187_25 (v0 v1 v2 : Value) (x : Int32) (st : List Value) (w : zH) : zrun none (187, 25, [v0, v1, v2, .int x], st, w) = zrun none (187, 26, [v0, v1, v2, .int x], (.int x :: st), w) := (zE_ (i := .iload_n 3) (by decide +kernel) _ _ _).trans rfl
theorem e187_26 (ls : List Value) (x0 : Int32) (st : List Value) (w : zH) (hr : zcat st ≤ 8) : zrun none (187, 26, ls, (.int x0 :: st), w) = zcl (zrun none (155, 0, [.int x0], [], w)) (fun r => zrun none (187, 29, ls, r.1.toList ++ st, r.2)) := by
  refine (zE_ (i := .invokestatic 155) (by decide +kernel) _ _ _).trans ?_
  show zres (if (99 : Nat) = 99 ∧ 1 ≤ ((.int x0 :: st) : List Value).length then zcall 155 [.int x0] st 187 26 ls w else none) = _
  rw [if_pos ⟨rfl, by simp⟩]
  exact zq_call hr (Nat.le_of_ble_eq_true rfl) rfl rfl
theorem e187_29 (ls : List Value) (a : Int32) (st : List Value) (w : zH) : zrun none (187, 29, ls, (.int a :: st), w) = if a = 0 then zrun none (187, 32, ls, st, w) else zrun none (187, 35, ls, st, w) := (zE_ (i := .ifCond .ne 6) (by decide +kernel) _ _ _).trans (zq_if_ne rfl rfl)
theorem e187_32 (ls st : List Value) (w : zH) : zrun none (187, 32, ls, st, w) = zrun none (187, 34, ls, (.int (-1000001) :: st), w) := (zE_ (i := .bipush (-1000001)) (by decide +kernel) _ _ _).trans rfl
theorem e187_34 (ls : List Value) (x : Int32) (w : zH) : zrun none (187, 34, ls, [.int x], w) = some (some (.int x), w) := by
  refine (zE_ (i := .ireturn) (by decide +kernel) _ _ _).trans ?_
  show zres (if narrow .int (.int x) = .int x then _ else none) = _
  rw [if_pos (show narrow .int (.int x) = .int x from rfl)]
  rfl
theorem e187_35 (v1 v2 v3 : Value) (x : Nat) (st : List Value) (w : zH) : zrun none (187, 35, [.ref x, v1, v2, v3], st, w) = zrun none (187, 36, [.ref x, v1, v2, v3], (.ref x :: st), w) := (zE_ (i := .aload_n 0) (by decide +kernel) _ _ _).trans rfl
theorem e187_36 (ls : List Value) (a : Nat) (st : List Value) (w : zH) : zrun none (187, 36, ls, (.ref a :: st), w) = zo (zf w a 1235) (fun x => zrun none (187, 39, ls, (x :: st), w)) := (zE_ (i := .getfield 1235) (by decide +kernel) _ _ _).trans zq_getf
theorem e187_39 (v0 v2 v3 : Value) (x : Int32) (st : List Value) (w : zH) : zrun none (187, 39, [v0, .int x, v2, v3], st, w) = zrun none (187, 40, [v0, .int x, v2, v3], (.int x :: st), w) := (zE_ (i := .iload_n 1) (by decide +kernel) _ _ _).trans rfl
theorem e187_40 (ls : List Value) (j : Int32) (a : Nat) (st : List Value) (w : zH) : zrun none (187, 40, ls, (.int j :: .ref a :: st), w) = zoi (zai w a 100 j) (fun x => zrun none (187, 41, ls, (.int x :: st), w)) := (zE_ (i := .iaload) (by decide +kernel) _ _ _).trans zq_iald
theorem e187_41 (v0 v1 v3 : Value) (x : Int32) (st : List Value) (w : zH) : zrun none (187, 41, [v0, v1, .int x, v3], st, w) = zrun none (187, 42, [v0, v1, .int x, v3], (.int x :: st), w) := (zE_ (i := .iload_n 2) (by decide +kernel) _ _ _).trans rfl
theorem e187_42 (ls : List Value) (a b : Int32) (st : List Value) (w : zH) : zrun none (187, 42, ls, (.int b :: .int a :: st), w) = zrun none (187, 43, ls, (.int (a >>> (b &&& 31)) :: st), w) := (zE_ (i := .ishr) (by decide +kernel) _ _ _).trans rfl
theorem e187_43 (ls st : List Value) (w : zH) : zrun none (187, 43, ls, st, w) = zrun none (187, 44, ls, (.int 1 :: st), w) := (zE_ (i := .iconst 1) (by decide +kernel) _ _ _).trans rfl
theorem e187_44 (ls : List Value) (a b : Int32) (st : List Value) (w : zH) : zrun none (187, 44, ls, (.int b :: .int a :: st), w) = zrun none (187, 45, ls, (.int (a &&& b) :: st), w) := (zE_ (i := .iand) (by decide +kernel) _ _ _).trans rfl
theorem e187_45 (ls : List Value) (a : Int32) (st : List Value) (w : zH) : zrun none (187, 45, ls, (.int a :: st), w) = if a = 0 then zrun none (187, 64, ls, st, w) else zrun none (187, 48, ls, st, w) := (zE_ (i := .ifCond .eq 19) (by decide +kernel) _ _ _).trans (zq_if_eq rfl rfl)
theorem e187_48 (v1 v2 v3 : Value) (x : Nat) (st : List Value) (w : zH) : zrun none (187, 48, [.ref x, v1, v2, v3], st, w) = zrun none (187, 49, [.ref x, v1, v2, v3], (.ref x :: st), w) := (zE_ (i := .aload_n 0) (by decide +kernel) _ _ _).trans rfl
theorem e187_49 (ls : List Value) (a : Nat) (st : List Value) (w : zH) : zrun none (187, 49, ls, (.ref a :: st), w) = zo (zf w a 1236) (fun x => zrun none (187, 52, ls, (x :: st), w)) := (zE_ (i := .getfield 1236) (by decide +kernel) _ _ _).trans zq_getf
theorem e187_52 (ls st : List Value) (w : zH) : zrun none (187, 52, ls, st, w) = zrun none (187, 54, ls, (.int 8 :: st), w) := (zE_ (i := .bipush 8) (by decide +kernel) _ _ _).trans rfl
theorem e187_54 (v0 v2 v3 : Value) (x : Int32) (st : List Value) (w : zH) : zrun none (187, 54, [v0, .int x, v2, v3], st, w) = zrun none (187, 55, [v0, .int x, v2, v3], (.int x :: st), w) := (zE_ (i := .iload_n 1) (by decide +kernel) _ _ _).trans rfl
theorem e187_55 (ls : List Value) (a b : Int32) (st : List Value) (w : zH) : zrun none (187, 55, ls, (.int b :: .int a :: st), w) = zrun none (187, 56, ls, (.int (a * b) :: st), w) := (zE_ (i := .imul) (by decide +kernel) _ _ _).trans rfl
theorem e187_56 (v0 v1 v3 : Value) (x : Int32) (st : List Value) (w : zH) : zrun none (187, 56, [v0, v1, .int x, v3], st, w) = zrun none (187, 57, [v0, v1, .int x, v3], (.int x :: st), w) := (zE_ (i := .iload_n 2) (by decide +kernel) _ _ _).trans rfl
theorem e187_57 (ls : List Value) (a b : Int32) (st : List Value) (w : zH) : zrun none (187, 57, ls, (.int b :: .int a :: st), w) = zrun none (187, 58, ls, (.int (a + b) :: st), w) := (zE_ (i := .iadd) (by decide +kernel) _ _ _).trans rfl
theorem e187_58 (ls : List Value) (j : Int32) (a : Nat) (st : List Value) (w : zH) : zrun none (187, 58, ls, (.int j :: .ref a :: st), w) = zoi (zai w a 100 j) (fun x => zrun none (187, 59, ls, (.int x :: st), w)) := (zE_ (i := .iaload) (by decide +kernel) _ _ _).trans zq_iald
theorem e187_59 (ls st : List Value) (w : zH) : zrun none (187, 59, ls, st, w) = zrun none (187, 61, ls, (.int (-1000000) :: st), w) := (zE_ (i := .bipush (-1000000)) (by decide +kernel) _ _ _).trans rfl
theorem e187_61 (ls : List Value) (a b : Int32) (st : List Value) (w : zH) : zrun none (187, 61, ls, (.int b :: .int a :: st), w) = if a = b then zrun none (187, 68, ls, st, w) else zrun none (187, 64, ls, st, w) := (zE_ (i := .if_icmp .eq 7) (by decide +kernel) _ _ _).trans (zq_ic_eq rfl rfl)
theorem e187_64 (ls st : List Value) (w : zH) : zrun none (187, 64, ls, st, w) = zrun none (187, 67, ls, (.int (-1000002) :: st), w) := (zE_ (i := .sipush (-1000002)) (by decide +kernel) _ _ _).trans rfl
theorem e187_67 (ls : List Value) (x : Int32) (w : zH) : zrun none (187, 67, ls, [.int x], w) = some (some (.int x), w) := by
  refine (zE_ (i := .ireturn) (by decide +kernel) _ _ _).trans ?_
  show zres (if narrow .int (.int x) = .int x then _ else none) = _
  rw [if_pos (show narrow .int (.int x) = .int x from rfl)]
  rfl
theorem e187_68 (v1 v2 v3 : Value) (x : Nat) (st : List Value) (w : zH) : zrun none (187, 68, [.ref x, v1, v2, v3], st, w) = zrun none (187, 69, [.ref x, v1, v2, v3], (.ref x :: st), w) := (zE_ (i := .aload_n 0) (by decide +kernel) _ _ _).trans rfl
theorem e187_69 (ls : List Value) (a : Nat) (st : List Value) (w : zH) : zrun none (187, 69, ls, (.ref a :: st), w) = zo (zf w a 1236) (fun x => zrun none (187, 72, ls, (x :: st), w)) := (zE_ (i := .getfield 1236) (by decide +kernel) _ _ _).trans zq_getf
theorem e187_72 (ls st : List Value) (w : zH) : zrun none (187, 72, ls, st, w) = zrun none (187, 74, ls, (.int 8 :: st), w) := (zE_ (i := .bipush 8) (by decide +kernel) _ _ _).trans rfl
theorem e187_74 (v0 v2 v3 : Value) (x : Int32) (st : List Value) (w : zH) : zrun none (187, 74, [v0, .int x, v2, v3], st, w) = zrun none (187, 75, [v0, .int x, v2, v3], (.int x :: st), w) := (zE_ (i := .iload_n 1) (by decide +kernel) _ _ _).trans rfl
theorem e187_75 (ls : List Value) (a b : Int32) (st : List Value) (w : zH) : zrun none (187, 75, ls, (.int b :: .int a :: st), w) = zrun none (187, 76, ls, (.int (a * b) :: st), w) := (zE_ (i := .imul) (by decide +kernel) _ _ _).trans rfl
theorem e187_76 (v0 v1 v3 : Value) (x : Int32) (st : List Value) (w : zH) : zrun none (187, 76, [v0, v1, .int x, v3], st, w) = zrun none (187, 77, [v0, v1, .int x, v3], (.int x :: st), w) := (zE_ (i := .iload_n 2) (by decide +kernel) _ _ _).trans rfl
theorem e187_77 (ls : List Value) (a b : Int32) (st : List Value) (w : zH) : zrun none (187, 77, ls, (.int b :: .int a :: st), w) = zrun none (187, 78, ls, (.int (a + b) :: st), w) := (zE_ (i := .iadd) (by decide +kernel) _ _ _).trans rfl
theorem e187_78 (v0 v1 v2 : Value) (x : Int32) (st : List Value) (w : zH) : zrun none (187, 78, [v0, v1, v2, .int x], st, w) = zrun none (187, 79, [v0, v1, v2, .int x], (.int x :: st), w) := (zE_ (i := .iload_n 3) (by decide +kernel) _ _ _).trans rfl
theorem e187_79 (ls : List Value) (x j : Int32) (a : Nat) (st : List Value) (w : zH) : zrun none (187, 79, ls, (.int x :: .int j :: .ref a :: st), w) = zgd (zin? w a 100 j) (zrun none (187, 80, ls, st, zas w a j (.int x))) := by
  refine (zE_ (i := .iastore) (by decide +kernel) _ _ _).trans ?_
  by_cases hg : zin? w a 100 j
  · rw [zgd_pos hg]
    exact zq_iast hg
  · rw [zgd_neg hg]
    exact zq_iast_no hg
theorem e187_80 (ls st : List Value) (w : zH) : zrun none (187, 80, ls, st, w) = zrun none (187, 81, ls, (.int 1 :: st), w) := (zE_ (i := .iconst 1) (by decide +kernel) _ _ _).trans rfl
theorem e187_81 (ls : List Value) (x : Int32) (w : zH) : zrun none (187, 81, ls, [.int x], w) = some (some (.int x), w) := by
  refine (zE_ (i := .ireturn) (by decide +kernel) _ _ _).trans ?_
  show zres (if narrow .int (.int x) = .int x then _ else none) = _
  rw [if_pos (show narrow .int (.int x) = .int x from rfl)]
  rfl
theorem e188_0 (v1 v2 : Value) (x : Nat) (st : List Value) (w : zH) : zrun none (188, 0, [.ref x, v1, v2], st, w) = zrun none (188, 1, [.ref x, v1, v2], (.ref x :: st), w) := (zE_ (i := .aload_n 0) (by decide +kernel) _ _ _).trans rfl
theorem e188_1 (ls st : List Value) (w : zH) : zrun none (188, 1, ls, st, w) = zrun none (188, 2, ls, (.int 0 :: st), w) := (zE_ (i := .iconst 0) (by decide +kernel) _ _ _).trans rfl
theorem e188_2 (ls : List Value) (x : Int32) (a : Nat) (st : List Value) (w : zH) : zrun none (188, 2, ls, (.int x :: .ref a :: st), w) = zgd (a < zX ∧ (zf w a 1200).isSome = true) (zrun none (188, 5, ls, st, zpf w a 1200 (.int x))) := by
  refine (zE_ (i := .putfield 1200) (by decide +kernel) _ _ _).trans ?_
  by_cases hg : a < zX ∧ (zf w a 1200).isSome = true
  · rw [zgd_pos hg]
    obtain ⟨ha, h⟩ := hg
    exact zq_putf ha h rfl rfl
  · rw [zgd_neg hg]
    exact zq_putf_no (fun h1 h2 h3 => hg ⟨h1, h2⟩)
theorem e188_5 (v0 v2 : Value) (x : Int32) (st : List Value) (w : zH) : zrun none (188, 5, [v0, .int x, v2], st, w) = zrun none (188, 6, [v0, .int x, v2], (.int x :: st), w) := (zE_ (i := .iload_n 1) (by decide +kernel) _ _ _).trans rfl
theorem e188_6 (ls : List Value) (a : Int32) (st : List Value) (w : zH) : zrun none (188, 6, ls, (.int a :: st), w) = zrun none (188, 7, ls, (.long a.toInt64 :: st), w) := (zE_ (i := .i2l) (by decide +kernel) _ _ _).trans rfl
theorem e188_7 (ls st : List Value) (w : zH) : zrun none (188, 7, ls, st, w) = zrun none (188, 8, ls, (.long 0 :: st), w) := (zE_ (i := .lconst 0) (by decide +kernel) _ _ _).trans rfl
theorem e188_8 (ls st : List Value) (w : zH) : zrun none (188, 8, ls, st, w) = zrun none (188, 11, ls, (.long 7 :: st), w) := (zE_ (i := .ldc2_w 7) (by decide +kernel) _ _ _).trans rfl
theorem e188_11 (ls : List Value) (x0 : Int64) (x1 : Int64) (x2 : Int64) (st : List Value) (w : zH) (hr : zcat st ≤ 8) : zrun none (188, 11, ls, (.long x2 :: .long x1 :: .long x0 :: st), w) = zcl (zrun none (146, 0, [.long x0, zJ, .long x1, zJ, .long x2, zJ], [], w)) (fun r => zrun none (188, 14, ls, r.1.toList ++ st, r.2)) := by
  refine (zE_ (i := .invokestatic 146) (by decide +kernel) _ _ _).trans ?_
  show zres (if (99 : Nat) = 99 ∧ 3 ≤ ((.long x2 :: .long x1 :: .long x0 :: st) : List Value).length then zcall 146 [.long x0, .long x1, .long x2] st 188 11 ls w else none) = _
  rw [if_pos ⟨rfl, by simp⟩]
  exact zq_call hr (Nat.le_of_ble_eq_true rfl) rfl rfl
theorem e188_14 (ls : List Value) (a : Int32) (st : List Value) (w : zH) : zrun none (188, 14, ls, (.int a :: st), w) = if a = 0 then zrun none (188, 34, ls, st, w) else zrun none (188, 17, ls, st, w) := (zE_ (i := .ifCond .eq 20) (by decide +kernel) _ _ _).trans (zq_if_eq rfl rfl)
theorem e188_17 (v0 v1 : Value) (x : Int32) (st : List Value) (w : zH) : zrun none (188, 17, [v0, v1, .int x], st, w) = zrun none (188, 18, [v0, v1, .int x], (.int x :: st), w) := (zE_ (i := .iload_n 2) (by decide +kernel) _ _ _).trans rfl
theorem e188_18 (ls : List Value) (a : Int32) (st : List Value) (w : zH) : zrun none (188, 18, ls, (.int a :: st), w) = zrun none (188, 19, ls, (.long a.toInt64 :: st), w) := (zE_ (i := .i2l) (by decide +kernel) _ _ _).trans rfl
theorem e188_19 (ls st : List Value) (w : zH) : zrun none (188, 19, ls, st, w) = zrun none (188, 20, ls, (.long 0 :: st), w) := (zE_ (i := .lconst 0) (by decide +kernel) _ _ _).trans rfl
theorem e188_20 (ls st : List Value) (w : zH) : zrun none (188, 20, ls, st, w) = zrun none (188, 23, ls, (.long 7 :: st), w) := (zE_ (i := .ldc2_w 7) (by decide +kernel) _ _ _).trans rfl
theorem e188_23 (ls : List Value) (x0 : Int64) (x1 : Int64) (x2 : Int64) (st : List Value) (w : zH) (hr : zcat st ≤ 8) : zrun none (188, 23, ls, (.long x2 :: .long x1 :: .long x0 :: st), w) = zcl (zrun none (146, 0, [.long x0, zJ, .long x1, zJ, .long x2, zJ], [], w)) (fun r => zrun none (188, 26, ls, r.1.toList ++ st, r.2)) := by
  refine (zE_ (i := .invokestatic 146) (by decide +kernel) _ _ _).trans ?_
  show zres (if (99 : Nat) = 99 ∧ 3 ≤ ((.long x2 :: .long x1 :: .long x0 :: st) : List Value).length then zcall 146 [.long x0, .long x1, .long x2] st 188 23 ls w else none) = _
  rw [if_pos ⟨rfl, by simp⟩]
  exact zq_call hr (Nat.le_of_ble_eq_true rfl) rfl rfl
theorem e188_26 (ls : List Value) (a : Int32) (st : List Value) (w : zH) : zrun none (188, 26, ls, (.int a :: st), w) = if a = 0 then zrun none (188, 34, ls, st, w) else zrun none (188, 29, ls, st, w) := (zE_ (i := .ifCond .eq 8) (by decide +kernel) _ _ _).trans (zq_if_eq rfl rfl)
theorem e188_29 (v0 v2 : Value) (x : Int32) (st : List Value) (w : zH) : zrun none (188, 29, [v0, .int x, v2], st, w) = zrun none (188, 30, [v0, .int x, v2], (.int x :: st), w) := (zE_ (i := .iload_n 1) (by decide +kernel) _ _ _).trans rfl
theorem e188_30 (v0 v1 : Value) (x : Int32) (st : List Value) (w : zH) : zrun none (188, 30, [v0, v1, .int x], st, w) = zrun none (188, 31, [v0, v1, .int x], (.int x :: st), w) := (zE_ (i := .iload_n 2) (by decide +kernel) _ _ _).trans rfl
theorem e188_31 (ls : List Value) (a b : Int32) (st : List Value) (w : zH) : zrun none (188, 31, ls, (.int b :: .int a :: st), w) = if a = b then zrun none (188, 34, ls, st, w) else zrun none (188, 37, ls, st, w) := (zE_ (i := .if_icmp .ne 6) (by decide +kernel) _ _ _).trans (zq_ic_ne rfl rfl)
theorem e188_34 (ls st : List Value) (w : zH) : zrun none (188, 34, ls, st, w) = zrun none (188, 36, ls, (.int (-1000001) :: st), w) := (zE_ (i := .bipush (-1000001)) (by decide +kernel) _ _ _).trans rfl
theorem e188_36 (ls : List Value) (x : Int32) (w : zH) : zrun none (188, 36, ls, [.int x], w) = some (some (.int x), w) := by
  refine (zE_ (i := .ireturn) (by decide +kernel) _ _ _).trans ?_
  show zres (if narrow .int (.int x) = .int x then _ else none) = _
  rw [if_pos (show narrow .int (.int x) = .int x from rfl)]
  rfl
theorem e188_37 (v1 v2 : Value) (x : Nat) (st : List Value) (w : zH) : zrun none (188, 37, [.ref x, v1, v2], st, w) = zrun none (188, 38, [.ref x, v1, v2], (.ref x :: st), w) := (zE_ (i := .aload_n 0) (by decide +kernel) _ _ _).trans rfl
theorem e188_38 (ls : List Value) (a : Nat) (st : List Value) (w : zH) : zrun none (188, 38, ls, (.ref a :: st), w) = zo (zf w a 1237) (fun x => zrun none (188, 41, ls, (x :: st), w)) := (zE_ (i := .getfield 1237) (by decide +kernel) _ _ _).trans zq_getf
theorem e188_41 (ls st : List Value) (w : zH) : zrun none (188, 41, ls, st, w) = zrun none (188, 43, ls, (.int 30 :: st), w) := (zE_ (i := .bipush 30) (by decide +kernel) _ _ _).trans rfl
theorem e188_43 (ls : List Value) (a b : Int32) (st : List Value) (w : zH) : zrun none (188, 43, ls, (.int b :: .int a :: st), w) = if a = b then zrun none (188, 46, ls, st, w) else zrun none (188, 49, ls, st, w) := (zE_ (i := .if_icmp .ne 6) (by decide +kernel) _ _ _).trans (zq_ic_ne rfl rfl)
theorem e188_46 (ls st : List Value) (w : zH) : zrun none (188, 46, ls, st, w) = zrun none (188, 48, ls, (.int (-1000003) :: st), w) := (zE_ (i := .bipush (-1000003)) (by decide +kernel) _ _ _).trans rfl
theorem e188_48 (ls : List Value) (x : Int32) (w : zH) : zrun none (188, 48, ls, [.int x], w) = some (some (.int x), w) := by
  refine (zE_ (i := .ireturn) (by decide +kernel) _ _ _).trans ?_
  show zres (if narrow .int (.int x) = .int x then _ else none) = _
  rw [if_pos (show narrow .int (.int x) = .int x from rfl)]
  rfl
theorem e188_49 (v1 v2 : Value) (x : Nat) (st : List Value) (w : zH) : zrun none (188, 49, [.ref x, v1, v2], st, w) = zrun none (188, 50, [.ref x, v1, v2], (.ref x :: st), w) := (zE_ (i := .aload_n 0) (by decide +kernel) _ _ _).trans rfl
theorem e188_50 (ls : List Value) (a : Nat) (st : List Value) (w : zH) : zrun none (188, 50, ls, (.ref a :: st), w) = zo (zf w a 1238) (fun x => zrun none (188, 53, ls, (x :: st), w)) := (zE_ (i := .getfield 1238) (by decide +kernel) _ _ _).trans zq_getf
theorem e188_53 (v0 v1 : Value) (x : Int32) (st : List Value) (w : zH) : zrun none (188, 53, [v0, v1, .int x], st, w) = zrun none (188, 54, [v0, v1, .int x], (.int x :: st), w) := (zE_ (i := .iload_n 2) (by decide +kernel) _ _ _).trans rfl
theorem e188_54 (ls : List Value) (x : Int32) (a : Nat) (st : List Value) (w : zH) : zrun none (188, 54, ls, (.int x :: .ref a :: st), w) = zrun none (188, 55, ls, (.int x :: .ref a :: .int x :: .ref a :: st), w) := (zE_ (i := .dup2) (by decide +kernel) _ _ _).trans rfl
theorem e188_55 (ls : List Value) (j : Int32) (a : Nat) (st : List Value) (w : zH) : zrun none (188, 55, ls, (.int j :: .ref a :: st), w) = zoi (zai w a 100 j) (fun x => zrun none (188, 56, ls, (.int x :: st), w)) := (zE_ (i := .iaload) (by decide +kernel) _ _ _).trans zq_iald
theorem e188_56 (ls st : List Value) (w : zH) : zrun none (188, 56, ls, st, w) = zrun none (188, 57, ls, (.int 1 :: st), w) := (zE_ (i := .iconst 1) (by decide +kernel) _ _ _).trans rfl
theorem e188_57 (v0 v2 : Value) (x : Int32) (st : List Value) (w : zH) : zrun none (188, 57, [v0, .int x, v2], st, w) = zrun none (188, 58, [v0, .int x, v2], (.int x :: st), w) := (zE_ (i := .iload_n 1) (by decide +kernel) _ _ _).trans rfl
theorem e188_58 (ls : List Value) (a b : Int32) (st : List Value) (w : zH) : zrun none (188, 58, ls, (.int b :: .int a :: st), w) = zrun none (188, 59, ls, (.int (a <<< (b &&& 31)) :: st), w) := (zE_ (i := .ishl) (by decide +kernel) _ _ _).trans rfl
theorem e188_59 (ls : List Value) (a b : Int32) (st : List Value) (w : zH) : zrun none (188, 59, ls, (.int b :: .int a :: st), w) = zrun none (188, 60, ls, (.int (a ||| b) :: st), w) := (zE_ (i := .ior) (by decide +kernel) _ _ _).trans rfl
theorem e188_60 (ls : List Value) (x j : Int32) (a : Nat) (st : List Value) (w : zH) : zrun none (188, 60, ls, (.int x :: .int j :: .ref a :: st), w) = zgd (zin? w a 100 j) (zrun none (188, 61, ls, st, zas w a j (.int x))) := by
  refine (zE_ (i := .iastore) (by decide +kernel) _ _ _).trans ?_
  by_cases hg : zin? w a 100 j
  · rw [zgd_pos hg]
    exact zq_iast hg
  · rw [zgd_neg hg]
    exact zq_iast_no hg
theorem e188_61 (v1 v2 : Value) (x : Nat) (st : List Value) (w : zH) : zrun none (188, 61, [.ref x, v1, v2], st, w) = zrun none (188, 62, [.ref x, v1, v2], (.ref x :: st), w) := (zE_ (i := .aload_n 0) (by decide +kernel) _ _ _).trans rfl
theorem e188_62 (ls : List Value) (x : Int32) (st : List Value) (w : zH) : zrun none (188, 62, ls, (.int x :: st), w) = zrun none (188, 63, ls, (.int x :: .int x :: st), w) := (zE_ (i := .dup) (by decide +kernel) _ _ _).trans rfl
theorem e188_62r (ls : List Value) (x : Nat) (st : List Value) (w : zH) : zrun none (188, 62, ls, (.ref x :: st), w) = zrun none (188, 63, ls, (.ref x :: .ref x :: st), w) := (zE_ (i := .dup) (by decide +kernel) _ _ _).trans rfl
theorem e188_63 (ls : List Value) (a : Nat) (st : List Value) (w : zH) : zrun none (188, 63, ls, (.ref a :: st), w) = zo (zf w a 1237) (fun x => zrun none (188, 66, ls, (x :: st), w)) := (zE_ (i := .getfield 1237) (by decide +kernel) _ _ _).trans zq_getf
theorem e188_66 (ls st : List Value) (w : zH) : zrun none (188, 66, ls, st, w) = zrun none (188, 67, ls, (.int 1 :: st), w) := (zE_ (i := .iconst 1) (by decide +kernel) _ _ _).trans rfl
theorem e188_67 (ls : List Value) (a b : Int32) (st : List Value) (w : zH) : zrun none (188, 67, ls, (.int b :: .int a :: st), w) = zrun none (188, 68, ls, (.int (a + b) :: st), w) := (zE_ (i := .iadd) (by decide +kernel) _ _ _).trans rfl
theorem e188_68 (ls : List Value) (x : Int32) (a : Nat) (st : List Value) (w : zH) : zrun none (188, 68, ls, (.int x :: .ref a :: st), w) = zgd (a < zX ∧ (zf w a 1237).isSome = true) (zrun none (188, 71, ls, st, zpf w a 1237 (.int x))) := by
  refine (zE_ (i := .putfield 1237) (by decide +kernel) _ _ _).trans ?_
  by_cases hg : a < zX ∧ (zf w a 1237).isSome = true
  · rw [zgd_pos hg]
    obtain ⟨ha, h⟩ := hg
    exact zq_putf ha h rfl rfl
  · rw [zgd_neg hg]
    exact zq_putf_no (fun h1 h2 h3 => hg ⟨h1, h2⟩)
theorem e188_71 (v1 v2 : Value) (x : Nat) (st : List Value) (w : zH) : zrun none (188, 71, [.ref x, v1, v2], st, w) = zrun none (188, 72, [.ref x, v1, v2], (.ref x :: st), w) := (zE_ (i := .aload_n 0) (by decide +kernel) _ _ _).trans rfl
theorem e188_72 (ls : List Value) (a : Nat) (st : List Value) (w : zH) : zrun none (188, 72, ls, (.ref a :: st), w) = zo (zf w a 1237) (fun x => zrun none (188, 75, ls, (x :: st), w)) := (zE_ (i := .getfield 1237) (by decide +kernel) _ _ _).trans zq_getf
theorem e188_75 (ls : List Value) (x : Int32) (w : zH) : zrun none (188, 75, ls, [.int x], w) = some (some (.int x), w) := by
  refine (zE_ (i := .ireturn) (by decide +kernel) _ _ _).trans ?_
  show zres (if narrow .int (.int x) = .int x then _ else none) = _
  rw [if_pos (show narrow .int (.int x) = .int x from rfl)]
  rfl
theorem e189_0 (v1 v2 v3 v4 v5 : Value) (x : Nat) (st : List Value) (w : zH) : zrun none (189, 0, [.ref x, v1, v2, v3, v4, v5], st, w) = zrun none (189, 1, [.ref x, v1, v2, v3, v4, v5], (.ref x :: st), w) := (zE_ (i := .aload_n 0) (by decide +kernel) _ _ _).trans rfl
theorem e189_1 (ls : List Value) (a : Nat) (st : List Value) (w : zH) : zrun none (189, 1, ls, (.ref a :: st), w) = zo (zf w a 1239) (fun x => zrun none (189, 4, ls, (x :: st), w)) := (zE_ (i := .getfield 1239) (by decide +kernel) _ _ _).trans zq_getf
theorem e189_4 (ls st : List Value) (w : zH) : zrun none (189, 4, ls, st, w) = zrun none (189, 5, ls, (.int 0 :: st), w) := (zE_ (i := .iconst 0) (by decide +kernel) _ _ _).trans rfl
theorem e189_5 (ls st : List Value) (w : zH) : zrun none (189, 5, ls, st, w) = zrun none (189, 6, ls, (.int 1 :: st), w) := (zE_ (i := .iconst 1) (by decide +kernel) _ _ _).trans rfl
theorem e189_6 (ls : List Value) (x j : Int32) (a : Nat) (st : List Value) (w : zH) : zrun none (189, 6, ls, (.int x :: .int j :: .ref a :: st), w) = zgd (zin? w a 100 j) (zrun none (189, 7, ls, st, zas w a j (.int x))) := by
  refine (zE_ (i := .iastore) (by decide +kernel) _ _ _).trans ?_
  by_cases hg : zin? w a 100 j
  · rw [zgd_pos hg]
    exact zq_iast hg
  · rw [zgd_neg hg]
    exact zq_iast_no hg
theorem e189_7 (ls st : List Value) (w : zH) : zrun none (189, 7, ls, st, w) = zrun none (189, 8, ls, (.int 1 :: st), w) := (zE_ (i := .iconst 1) (by decide +kernel) _ _ _).trans rfl
theorem e189_8 (v0 v1 v2 v3 v4 v5 : Value) (x : Int32) (st : List Value) (w : zH) (h : v1.category = 1) : zrun none (189, 8, [v0, v1, v2, v3, v4, v5], (.int x :: st), w) = zrun none (189, 9, [v0, v1, .int x, v3, v4, v5], st, w) := by
  refine (zE_ (i := .istore_n 2) (by decide +kernel) _ _ _).trans ?_
  have hz : zfree [v0, v1, v2, v3, v4, v5] 2 = true := by show decide (v1.category = 1) = true; exact decide_eq_true h
  show zres (zst zint 2 1 189 8 [v0, v1, v2, v3, v4, v5] (.int x :: st) w) = _
  unfold zst
  dsimp only
  rw [if_pos ⟨rfl, Nat.le_of_ble_eq_true rfl, hz⟩]
  rfl
theorem e189_9 (v0 v1 v3 v4 v5 : Value) (x : Int32) (st : List Value) (w : zH) : zrun none (189, 9, [v0, v1, .int x, v3, v4, v5], st, w) = zrun none (189, 10, [v0, v1, .int x, v3, v4, v5], (.int x :: st), w) := (zE_ (i := .iload_n 2) (by decide +kernel) _ _ _).trans rfl
theorem e189_10 (v0 v2 v3 v4 v5 : Value) (x : Int32) (st : List Value) (w : zH) : zrun none (189, 10, [v0, .int x, v2, v3, v4, v5], st, w) = zrun none (189, 11, [v0, .int x, v2, v3, v4, v5], (.int x :: st), w) := (zE_ (i := .iload_n 1) (by decide +kernel) _ _ _).trans rfl
theorem e189_11 (ls : List Value) (a b : Int32) (st : List Value) (w : zH) : zrun none (189, 11, ls, (.int b :: .int a :: st), w) = if b < a then zrun none (189, 138, ls, st, w) else zrun none (189, 14, ls, st, w) := (zE_ (i := .if_icmp .gt 127) (by decide +kernel) _ _ _).trans (zq_ic_gt rfl rfl)
theorem e189_14 (v1 v2 v3 v4 v5 : Value) (x : Nat) (st : List Value) (w : zH) : zrun none (189, 14, [.ref x, v1, v2, v3, v4, v5], st, w) = zrun none (189, 15, [.ref x, v1, v2, v3, v4, v5], (.ref x :: st), w) := (zE_ (i := .aload_n 0) (by decide +kernel) _ _ _).trans rfl
theorem e189_15 (ls : List Value) (a : Nat) (st : List Value) (w : zH) : zrun none (189, 15, ls, (.ref a :: st), w) = zo (zf w a 1239) (fun x => zrun none (189, 18, ls, (x :: st), w)) := (zE_ (i := .getfield 1239) (by decide +kernel) _ _ _).trans zq_getf
theorem e189_18 (v0 v1 v3 v4 v5 : Value) (x : Int32) (st : List Value) (w : zH) : zrun none (189, 18, [v0, v1, .int x, v3, v4, v5], st, w) = zrun none (189, 19, [v0, v1, .int x, v3, v4, v5], (.int x :: st), w) := (zE_ (i := .iload_n 2) (by decide +kernel) _ _ _).trans rfl
theorem e189_19 (ls st : List Value) (w : zH) : zrun none (189, 19, ls, st, w) = zrun none (189, 20, ls, (.int 0 :: st), w) := (zE_ (i := .iconst 0) (by decide +kernel) _ _ _).trans rfl
theorem e189_20 (ls : List Value) (x j : Int32) (a : Nat) (st : List Value) (w : zH) : zrun none (189, 20, ls, (.int x :: .int j :: .ref a :: st), w) = zgd (zin? w a 100 j) (zrun none (189, 21, ls, st, zas w a j (.int x))) := by
  refine (zE_ (i := .iastore) (by decide +kernel) _ _ _).trans ?_
  by_cases hg : zin? w a 100 j
  · rw [zgd_pos hg]
    exact zq_iast hg
  · rw [zgd_neg hg]
    exact zq_iast_no hg
theorem e189_21 (ls st : List Value) (w : zH) : zrun none (189, 21, ls, st, w) = zrun none (189, 22, ls, (.int 0 :: st), w) := (zE_ (i := .iconst 0) (by decide +kernel) _ _ _).trans rfl
theorem e189_22 (v0 v1 v2 v3 v4 v5 : Value) (x : Int32) (st : List Value) (w : zH) (h : v2.category = 1) : zrun none (189, 22, [v0, v1, v2, v3, v4, v5], (.int x :: st), w) = zrun none (189, 23, [v0, v1, v2, .int x, v4, v5], st, w) := by
  refine (zE_ (i := .istore_n 3) (by decide +kernel) _ _ _).trans ?_
  have hz : zfree [v0, v1, v2, v3, v4, v5] 3 = true := by show decide (v2.category = 1) = true; exact decide_eq_true h
  show zres (zst zint 3 1 189 22 [v0, v1, v2, v3, v4, v5] (.int x :: st) w) = _
  unfold zst
  dsimp only
  rw [if_pos ⟨rfl, Nat.le_of_ble_eq_true rfl, hz⟩]
  rfl
theorem e189_23 (v0 v1 v2 v4 v5 : Value) (x : Int32) (st : List Value) (w : zH) : zrun none (189, 23, [v0, v1, v2, .int x, v4, v5], st, w) = zrun none (189, 24, [v0, v1, v2, .int x, v4, v5], (.int x :: st), w) := (zE_ (i := .iload_n 3) (by decide +kernel) _ _ _).trans rfl
theorem e189_24 (ls st : List Value) (w : zH) : zrun none (189, 24, ls, st, w) = zrun none (189, 26, ls, (.int 8 :: st), w) := (zE_ (i := .bipush 8) (by decide +kernel) _ _ _).trans rfl
theorem e189_26 (ls : List Value) (a b : Int32) (st : List Value) (w : zH) : zrun none (189, 26, ls, (.int b :: .int a :: st), w) = if b ≤ a then zrun none (189, 132, ls, st, w) else zrun none (189, 29, ls, st, w) := (zE_ (i := .if_icmp .ge 106) (by decide +kernel) _ _ _).trans (zq_ic_ge rfl rfl)
theorem e189_29 (v0 v1 v3 v4 v5 : Value) (x : Int32) (st : List Value) (w : zH) : zrun none (189, 29, [v0, v1, .int x, v3, v4, v5], st, w) = zrun none (189, 30, [v0, v1, .int x, v3, v4, v5], (.int x :: st), w) := (zE_ (i := .iload_n 2) (by decide +kernel) _ _ _).trans rfl
theorem e189_30 (v0 v1 v2 v4 v5 : Value) (x : Int32) (st : List Value) (w : zH) : zrun none (189, 30, [v0, v1, v2, .int x, v4, v5], st, w) = zrun none (189, 31, [v0, v1, v2, .int x, v4, v5], (.int x :: st), w) := (zE_ (i := .iload_n 3) (by decide +kernel) _ _ _).trans rfl
theorem e189_31 (ls : List Value) (a b : Int32) (st : List Value) (w : zH) : zrun none (189, 31, ls, (.int b :: .int a :: st), w) = zrun none (189, 32, ls, (.int (a >>> (b &&& 31)) :: st), w) := (zE_ (i := .ishr) (by decide +kernel) _ _ _).trans rfl
theorem e189_32 (ls st : List Value) (w : zH) : zrun none (189, 32, ls, st, w) = zrun none (189, 33, ls, (.int 1 :: st), w) := (zE_ (i := .iconst 1) (by decide +kernel) _ _ _).trans rfl
theorem e189_33 (ls : List Value) (a b : Int32) (st : List Value) (w : zH) : zrun none (189, 33, ls, (.int b :: .int a :: st), w) = zrun none (189, 34, ls, (.int (a &&& b) :: st), w) := (zE_ (i := .iand) (by decide +kernel) _ _ _).trans rfl
theorem e189_34 (ls st : List Value) (w : zH) : zrun none (189, 34, ls, st, w) = zrun none (189, 35, ls, (.int 1 :: st), w) := (zE_ (i := .iconst 1) (by decide +kernel) _ _ _).trans rfl
theorem e189_35 (ls : List Value) (a b : Int32) (st : List Value) (w : zH) : zrun none (189, 35, ls, (.int b :: .int a :: st), w) = if a = b then zrun none (189, 38, ls, st, w) else zrun none (189, 42, ls, st, w) := (zE_ (i := .if_icmp .ne 7) (by decide +kernel) _ _ _).trans (zq_ic_ne rfl rfl)
theorem e189_38 (ls st : List Value) (w : zH) : zrun none (189, 38, ls, st, w) = zrun none (189, 39, ls, (.int 1 :: st), w) := (zE_ (i := .iconst 1) (by decide +kernel) _ _ _).trans rfl
theorem e189_39 (ls st : List Value) (w : zH) : zrun none (189, 39, ls, st, w) = zrun none (189, 43, ls, st, w) := (zE_ (i := .goto 4) (by decide +kernel) _ _ _).trans rfl
theorem e189_42 (ls st : List Value) (w : zH) : zrun none (189, 42, ls, st, w) = zrun none (189, 43, ls, (.int 0 :: st), w) := (zE_ (i := .iconst 0) (by decide +kernel) _ _ _).trans rfl
theorem e189_43 (v0 v1 v2 v3 v4 v5 : Value) (x : Int32) (st : List Value) (w : zH) (h : v3.category = 1) : zrun none (189, 43, [v0, v1, v2, v3, v4, v5], (.int x :: st), w) = zrun none (189, 45, [v0, v1, v2, v3, .int x, v5], st, w) := by
  refine (zE_ (i := .istore 4) (by decide +kernel) _ _ _).trans ?_
  have hz : zfree [v0, v1, v2, v3, v4, v5] 4 = true := by show decide (v3.category = 1) = true; exact decide_eq_true h
  show zres (zst zint 4 2 189 43 [v0, v1, v2, v3, v4, v5] (.int x :: st) w) = _
  unfold zst
  dsimp only
  rw [if_pos ⟨rfl, Nat.le_of_ble_eq_true rfl, hz⟩]
  rfl
theorem e189_45 (ls st : List Value) (w : zH) : zrun none (189, 45, ls, st, w) = zrun none (189, 46, ls, (.int 0 :: st), w) := (zE_ (i := .iconst 0) (by decide +kernel) _ _ _).trans rfl
theorem e189_46 (v0 v1 v2 v3 v4 v5 : Value) (x : Int32) (st : List Value) (w : zH) (h : v4.category = 1) : zrun none (189, 46, [v0, v1, v2, v3, v4, v5], (.int x :: st), w) = zrun none (189, 48, [v0, v1, v2, v3, v4, .int x], st, w) := by
  refine (zE_ (i := .istore 5) (by decide +kernel) _ _ _).trans ?_
  have hz : zfree [v0, v1, v2, v3, v4, v5] 5 = true := by show decide (v4.category = 1) = true; exact decide_eq_true h
  show zres (zst zint 5 2 189 46 [v0, v1, v2, v3, v4, v5] (.int x :: st) w) = _
  unfold zst
  dsimp only
  rw [if_pos ⟨rfl, Nat.le_of_ble_eq_true rfl, hz⟩]
  rfl
theorem e189_48 (v0 v1 v2 v3 v4 : Value) (x : Int32) (st : List Value) (w : zH) : zrun none (189, 48, [v0, v1, v2, v3, v4, .int x], st, w) = zrun none (189, 50, [v0, v1, v2, v3, v4, .int x], (.int x :: st), w) := (zE_ (i := .iload 5) (by decide +kernel) _ _ _).trans rfl
theorem e189_50 (ls st : List Value) (w : zH) : zrun none (189, 50, ls, st, w) = zrun none (189, 52, ls, (.int 8 :: st), w) := (zE_ (i := .bipush 8) (by decide +kernel) _ _ _).trans rfl
theorem e189_52 (ls : List Value) (a b : Int32) (st : List Value) (w : zH) : zrun none (189, 52, ls, (.int b :: .int a :: st), w) = if b ≤ a then zrun none (189, 96, ls, st, w) else zrun none (189, 55, ls, st, w) := (zE_ (i := .if_icmp .ge 44) (by decide +kernel) _ _ _).trans (zq_ic_ge rfl rfl)
theorem e189_55 (v0 v1 v2 v3 v5 : Value) (x : Int32) (st : List Value) (w : zH) : zrun none (189, 55, [v0, v1, v2, v3, .int x, v5], st, w) = zrun none (189, 57, [v0, v1, v2, v3, .int x, v5], (.int x :: st), w) := (zE_ (i := .iload 4) (by decide +kernel) _ _ _).trans rfl
theorem e189_57 (ls : List Value) (a : Int32) (st : List Value) (w : zH) : zrun none (189, 57, ls, (.int a :: st), w) = if a = 0 then zrun none (189, 87, ls, st, w) else zrun none (189, 60, ls, st, w) := (zE_ (i := .ifCond .eq 30) (by decide +kernel) _ _ _).trans (zq_if_eq rfl rfl)
theorem e189_60 (v0 v1 v3 v4 v5 : Value) (x : Int32) (st : List Value) (w : zH) : zrun none (189, 60, [v0, v1, .int x, v3, v4, v5], st, w) = zrun none (189, 61, [v0, v1, .int x, v3, v4, v5], (.int x :: st), w) := (zE_ (i := .iload_n 2) (by decide +kernel) _ _ _).trans rfl
theorem e189_61 (v0 v1 v2 v3 v4 : Value) (x : Int32) (st : List Value) (w : zH) : zrun none (189, 61, [v0, v1, v2, v3, v4, .int x], st, w) = zrun none (189, 63, [v0, v1, v2, v3, v4, .int x], (.int x :: st), w) := (zE_ (i := .iload 5) (by decide +kernel) _ _ _).trans rfl
theorem e189_63 (ls : List Value) (a b : Int32) (st : List Value) (w : zH) : zrun none (189, 63, ls, (.int b :: .int a :: st), w) = zrun none (189, 64, ls, (.int (a >>> (b &&& 31)) :: st), w) := (zE_ (i := .ishr) (by decide +kernel) _ _ _).trans rfl
theorem e189_64 (ls st : List Value) (w : zH) : zrun none (189, 64, ls, st, w) = zrun none (189, 65, ls, (.int 1 :: st), w) := (zE_ (i := .iconst 1) (by decide +kernel) _ _ _).trans rfl
theorem e189_65 (ls : List Value) (a b : Int32) (st : List Value) (w : zH) : zrun none (189, 65, ls, (.int b :: .int a :: st), w) = zrun none (189, 66, ls, (.int (a &&& b) :: st), w) := (zE_ (i := .iand) (by decide +kernel) _ _ _).trans rfl
theorem e189_66 (ls : List Value) (a : Int32) (st : List Value) (w : zH) : zrun none (189, 66, ls, (.int a :: st), w) = if a = 0 then zrun none (189, 83, ls, st, w) else zrun none (189, 69, ls, st, w) := (zE_ (i := .ifCond .eq 17) (by decide +kernel) _ _ _).trans (zq_if_eq rfl rfl)
theorem e189_69 (v1 v2 v3 v4 v5 : Value) (x : Nat) (st : List Value) (w : zH) : zrun none (189, 69, [.ref x, v1, v2, v3, v4, v5], st, w) = zrun none (189, 70, [.ref x, v1, v2, v3, v4, v5], (.ref x :: st), w) := (zE_ (i := .aload_n 0) (by decide +kernel) _ _ _).trans rfl
theorem e189_70 (ls : List Value) (a : Nat) (st : List Value) (w : zH) : zrun none (189, 70, ls, (.ref a :: st), w) = zo (zf w a 1238) (fun x => zrun none (189, 73, ls, (x :: st), w)) := (zE_ (i := .getfield 1238) (by decide +kernel) _ _ _).trans zq_getf
theorem e189_73 (v0 v1 v2 v3 v4 : Value) (x : Int32) (st : List Value) (w : zH) : zrun none (189, 73, [v0, v1, v2, v3, v4, .int x], st, w) = zrun none (189, 75, [v0, v1, v2, v3, v4, .int x], (.int x :: st), w) := (zE_ (i := .iload 5) (by decide +kernel) _ _ _).trans rfl
theorem e189_75 (ls : List Value) (j : Int32) (a : Nat) (st : List Value) (w : zH) : zrun none (189, 75, ls, (.int j :: .ref a :: st), w) = zoi (zai w a 100 j) (fun x => zrun none (189, 76, ls, (.int x :: st), w)) := (zE_ (i := .iaload) (by decide +kernel) _ _ _).trans zq_iald
theorem e189_76 (v0 v1 v2 v4 v5 : Value) (x : Int32) (st : List Value) (w : zH) : zrun none (189, 76, [v0, v1, v2, .int x, v4, v5], st, w) = zrun none (189, 77, [v0, v1, v2, .int x, v4, v5], (.int x :: st), w) := (zE_ (i := .iload_n 3) (by decide +kernel) _ _ _).trans rfl
theorem e189_77 (ls : List Value) (a b : Int32) (st : List Value) (w : zH) : zrun none (189, 77, ls, (.int b :: .int a :: st), w) = zrun none (189, 78, ls, (.int (a >>> (b &&& 31)) :: st), w) := (zE_ (i := .ishr) (by decide +kernel) _ _ _).trans rfl
theorem e189_78 (ls st : List Value) (w : zH) : zrun none (189, 78, ls, st, w) = zrun none (189, 79, ls, (.int 1 :: st), w) := (zE_ (i := .iconst 1) (by decide +kernel) _ _ _).trans rfl
theorem e189_79 (ls : List Value) (a b : Int32) (st : List Value) (w : zH) : zrun none (189, 79, ls, (.int b :: .int a :: st), w) = zrun none (189, 80, ls, (.int (a &&& b) :: st), w) := (zE_ (i := .iand) (by decide +kernel) _ _ _).trans rfl
theorem e189_80 (ls : List Value) (a : Int32) (st : List Value) (w : zH) : zrun none (189, 80, ls, (.int a :: st), w) = if a = 0 then zrun none (189, 83, ls, st, w) else zrun none (189, 87, ls, st, w) := (zE_ (i := .ifCond .ne 7) (by decide +kernel) _ _ _).trans (zq_if_ne rfl rfl)
theorem e189_83 (ls st : List Value) (w : zH) : zrun none (189, 83, ls, st, w) = zrun none (189, 84, ls, (.int 1 :: st), w) := (zE_ (i := .iconst 1) (by decide +kernel) _ _ _).trans rfl
theorem e189_84 (ls st : List Value) (w : zH) : zrun none (189, 84, ls, st, w) = zrun none (189, 88, ls, st, w) := (zE_ (i := .goto 4) (by decide +kernel) _ _ _).trans rfl
theorem e189_87 (ls st : List Value) (w : zH) : zrun none (189, 87, ls, st, w) = zrun none (189, 88, ls, (.int 0 :: st), w) := (zE_ (i := .iconst 0) (by decide +kernel) _ _ _).trans rfl
theorem e189_88 (v0 v1 v2 v3 v4 v5 : Value) (x : Int32) (st : List Value) (w : zH) (h : v3.category = 1) : zrun none (189, 88, [v0, v1, v2, v3, v4, v5], (.int x :: st), w) = zrun none (189, 90, [v0, v1, v2, v3, .int x, v5], st, w) := by
  refine (zE_ (i := .istore 4) (by decide +kernel) _ _ _).trans ?_
  have hz : zfree [v0, v1, v2, v3, v4, v5] 4 = true := by show decide (v3.category = 1) = true; exact decide_eq_true h
  show zres (zst zint 4 2 189 88 [v0, v1, v2, v3, v4, v5] (.int x :: st) w) = _
  unfold zst
  dsimp only
  rw [if_pos ⟨rfl, Nat.le_of_ble_eq_true rfl, hz⟩]
  rfl
theorem e189_90 (v0 v1 v2 v3 v4 : Value) (x : Int32) (st : List Value) (w : zH) : zrun none (189, 90, [v0, v1, v2, v3, v4, .int x], st, w) = zrun none (189, 93, [v0, v1, v2, v3, v4, .int (x + 1)], st, w) := (zE_ (i := .iinc 5 1) (by decide +kernel) _ _ _).trans rfl
theorem e189_93 (ls st : List Value) (w : zH) : zrun none (189, 93, ls, st, w) = zrun none (189, 48, ls, st, w) := (zE_ (i := .goto (-45)) (by decide +kernel) _ _ _).trans rfl
theorem e189_96 (v1 v2 v3 v4 v5 : Value) (x : Nat) (st : List Value) (w : zH) : zrun none (189, 96, [.ref x, v1, v2, v3, v4, v5], st, w) = zrun none (189, 97, [.ref x, v1, v2, v3, v4, v5], (.ref x :: st), w) := (zE_ (i := .aload_n 0) (by decide +kernel) _ _ _).trans rfl
theorem e189_97 (ls : List Value) (a : Nat) (st : List Value) (w : zH) : zrun none (189, 97, ls, (.ref a :: st), w) = zo (zf w a 1239) (fun x => zrun none (189, 100, ls, (x :: st), w)) := (zE_ (i := .getfield 1239) (by decide +kernel) _ _ _).trans zq_getf
theorem e189_100 (v0 v1 v3 v4 v5 : Value) (x : Int32) (st : List Value) (w : zH) : zrun none (189, 100, [v0, v1, .int x, v3, v4, v5], st, w) = zrun none (189, 101, [v0, v1, .int x, v3, v4, v5], (.int x :: st), w) := (zE_ (i := .iload_n 2) (by decide +kernel) _ _ _).trans rfl
theorem e189_101 (ls : List Value) (x : Int32) (a : Nat) (st : List Value) (w : zH) : zrun none (189, 101, ls, (.int x :: .ref a :: st), w) = zrun none (189, 102, ls, (.int x :: .ref a :: .int x :: .ref a :: st), w) := (zE_ (i := .dup2) (by decide +kernel) _ _ _).trans rfl
theorem e189_102 (ls : List Value) (j : Int32) (a : Nat) (st : List Value) (w : zH) : zrun none (189, 102, ls, (.int j :: .ref a :: st), w) = zoi (zai w a 100 j) (fun x => zrun none (189, 103, ls, (.int x :: st), w)) := (zE_ (i := .iaload) (by decide +kernel) _ _ _).trans zq_iald
theorem e189_103 (v0 v1 v2 v3 v5 : Value) (x : Int32) (st : List Value) (w : zH) : zrun none (189, 103, [v0, v1, v2, v3, .int x, v5], st, w) = zrun none (189, 105, [v0, v1, v2, v3, .int x, v5], (.int x :: st), w) := (zE_ (i := .iload 4) (by decide +kernel) _ _ _).trans rfl
theorem e189_105 (ls : List Value) (a : Int32) (st : List Value) (w : zH) : zrun none (189, 105, ls, (.int a :: st), w) = if a = 0 then zrun none (189, 123, ls, st, w) else zrun none (189, 108, ls, st, w) := (zE_ (i := .ifCond .eq 18) (by decide +kernel) _ _ _).trans (zq_if_eq rfl rfl)
theorem e189_108 (v1 v2 v3 v4 v5 : Value) (x : Nat) (st : List Value) (w : zH) : zrun none (189, 108, [.ref x, v1, v2, v3, v4, v5], st, w) = zrun none (189, 109, [.ref x, v1, v2, v3, v4, v5], (.ref x :: st), w) := (zE_ (i := .aload_n 0) (by decide +kernel) _ _ _).trans rfl
theorem e189_109 (ls : List Value) (a : Nat) (st : List Value) (w : zH) : zrun none (189, 109, ls, (.ref a :: st), w) = zo (zf w a 1239) (fun x => zrun none (189, 112, ls, (x :: st), w)) := (zE_ (i := .getfield 1239) (by decide +kernel) _ _ _).trans zq_getf
theorem e189_112 (v0 v1 v3 v4 v5 : Value) (x : Int32) (st : List Value) (w : zH) : zrun none (189, 112, [v0, v1, .int x, v3, v4, v5], st, w) = zrun none (189, 113, [v0, v1, .int x, v3, v4, v5], (.int x :: st), w) := (zE_ (i := .iload_n 2) (by decide +kernel) _ _ _).trans rfl
theorem e189_113 (ls st : List Value) (w : zH) : zrun none (189, 113, ls, st, w) = zrun none (189, 114, ls, (.int 1 :: st), w) := (zE_ (i := .iconst 1) (by decide +kernel) _ _ _).trans rfl
theorem e189_114 (v0 v1 v2 v4 v5 : Value) (x : Int32) (st : List Value) (w : zH) : zrun none (189, 114, [v0, v1, v2, .int x, v4, v5], st, w) = zrun none (189, 115, [v0, v1, v2, .int x, v4, v5], (.int x :: st), w) := (zE_ (i := .iload_n 3) (by decide +kernel) _ _ _).trans rfl
theorem e189_115 (ls : List Value) (a b : Int32) (st : List Value) (w : zH) : zrun none (189, 115, ls, (.int b :: .int a :: st), w) = zrun none (189, 116, ls, (.int (a <<< (b &&& 31)) :: st), w) := (zE_ (i := .ishl) (by decide +kernel) _ _ _).trans rfl
theorem e189_116 (ls st : List Value) (w : zH) : zrun none (189, 116, ls, st, w) = zrun none (189, 117, ls, (.int (-1) :: st), w) := (zE_ (i := .iconst (-1)) (by decide +kernel) _ _ _).trans rfl
theorem e189_117 (ls : List Value) (a b : Int32) (st : List Value) (w : zH) : zrun none (189, 117, ls, (.int b :: .int a :: st), w) = zrun none (189, 118, ls, (.int (a ^^^ b) :: st), w) := (zE_ (i := .ixor) (by decide +kernel) _ _ _).trans rfl
theorem e189_118 (ls : List Value) (a b : Int32) (st : List Value) (w : zH) : zrun none (189, 118, ls, (.int b :: .int a :: st), w) = zrun none (189, 119, ls, (.int (a &&& b) :: st), w) := (zE_ (i := .iand) (by decide +kernel) _ _ _).trans rfl
theorem e189_119 (ls : List Value) (j : Int32) (a : Nat) (st : List Value) (w : zH) : zrun none (189, 119, ls, (.int j :: .ref a :: st), w) = zoi (zai w a 100 j) (fun x => zrun none (189, 120, ls, (.int x :: st), w)) := (zE_ (i := .iaload) (by decide +kernel) _ _ _).trans zq_iald
theorem e189_120 (ls st : List Value) (w : zH) : zrun none (189, 120, ls, st, w) = zrun none (189, 124, ls, st, w) := (zE_ (i := .goto 4) (by decide +kernel) _ _ _).trans rfl
theorem e189_123 (ls st : List Value) (w : zH) : zrun none (189, 123, ls, st, w) = zrun none (189, 124, ls, (.int 0 :: st), w) := (zE_ (i := .iconst 0) (by decide +kernel) _ _ _).trans rfl
theorem e189_124 (ls : List Value) (a b : Int32) (st : List Value) (w : zH) : zrun none (189, 124, ls, (.int b :: .int a :: st), w) = zrun none (189, 125, ls, (.int (a + b) :: st), w) := (zE_ (i := .iadd) (by decide +kernel) _ _ _).trans rfl
theorem e189_125 (ls : List Value) (x j : Int32) (a : Nat) (st : List Value) (w : zH) : zrun none (189, 125, ls, (.int x :: .int j :: .ref a :: st), w) = zgd (zin? w a 100 j) (zrun none (189, 126, ls, st, zas w a j (.int x))) := by
  refine (zE_ (i := .iastore) (by decide +kernel) _ _ _).trans ?_
  by_cases hg : zin? w a 100 j
  · rw [zgd_pos hg]
    exact zq_iast hg
  · rw [zgd_neg hg]
    exact zq_iast_no hg
theorem e189_126 (v0 v1 v2 v4 v5 : Value) (x : Int32) (st : List Value) (w : zH) : zrun none (189, 126, [v0, v1, v2, .int x, v4, v5], st, w) = zrun none (189, 129, [v0, v1, v2, .int (x + 1), v4, v5], st, w) := (zE_ (i := .iinc 3 1) (by decide +kernel) _ _ _).trans rfl
theorem e189_129 (ls st : List Value) (w : zH) : zrun none (189, 129, ls, st, w) = zrun none (189, 23, ls, st, w) := (zE_ (i := .goto (-106)) (by decide +kernel) _ _ _).trans rfl
theorem e189_132 (v0 v1 v3 v4 v5 : Value) (x : Int32) (st : List Value) (w : zH) : zrun none (189, 132, [v0, v1, .int x, v3, v4, v5], st, w) = zrun none (189, 135, [v0, v1, .int (x + 1), v3, v4, v5], st, w) := (zE_ (i := .iinc 2 1) (by decide +kernel) _ _ _).trans rfl
theorem e189_135 (ls st : List Value) (w : zH) : zrun none (189, 135, ls, st, w) = zrun none (189, 9, ls, st, w) := (zE_ (i := .goto (-126)) (by decide +kernel) _ _ _).trans rfl
theorem e189_138 (v1 v2 v3 v4 v5 : Value) (x : Nat) (st : List Value) (w : zH) : zrun none (189, 138, [.ref x, v1, v2, v3, v4, v5], st, w) = zrun none (189, 139, [.ref x, v1, v2, v3, v4, v5], (.ref x :: st), w) := (zE_ (i := .aload_n 0) (by decide +kernel) _ _ _).trans rfl
theorem e189_139 (ls : List Value) (a : Nat) (st : List Value) (w : zH) : zrun none (189, 139, ls, (.ref a :: st), w) = zo (zf w a 1239) (fun x => zrun none (189, 142, ls, (x :: st), w)) := (zE_ (i := .getfield 1239) (by decide +kernel) _ _ _).trans zq_getf
theorem e189_142 (v0 v2 v3 v4 v5 : Value) (x : Int32) (st : List Value) (w : zH) : zrun none (189, 142, [v0, .int x, v2, v3, v4, v5], st, w) = zrun none (189, 143, [v0, .int x, v2, v3, v4, v5], (.int x :: st), w) := (zE_ (i := .iload_n 1) (by decide +kernel) _ _ _).trans rfl
theorem e189_143 (ls : List Value) (j : Int32) (a : Nat) (st : List Value) (w : zH) : zrun none (189, 143, ls, (.int j :: .ref a :: st), w) = zoi (zai w a 100 j) (fun x => zrun none (189, 144, ls, (.int x :: st), w)) := (zE_ (i := .iaload) (by decide +kernel) _ _ _).trans zq_iald
theorem e189_144 (ls : List Value) (x : Int32) (w : zH) : zrun none (189, 144, ls, [.int x], w) = some (some (.int x), w) := by
  refine (zE_ (i := .ireturn) (by decide +kernel) _ _ _).trans ?_
  show zres (if narrow .int (.int x) = .int x then _ else none) = _
  rw [if_pos (show narrow .int (.int x) = .int x from rfl)]
  rfl
theorem e190_0 (ls st : List Value) (w : zH) : zrun none (190, 0, ls, st, w) = zrun none (190, 1, ls, (.int 0 :: st), w) := (zE_ (i := .iconst 0) (by decide +kernel) _ _ _).trans rfl
theorem e190_1 (v0 v1 : Value) (x : Int32) (st : List Value) (w : zH) (h : v0.category = 1) : zrun none (190, 1, [v0, v1], (.int x :: st), w) = zrun none (190, 2, [v0, .int x], st, w) := by
  refine (zE_ (i := .istore_n 1) (by decide +kernel) _ _ _).trans ?_
  have hz : zfree [v0, v1] 1 = true := by show decide (v0.category = 1) = true; exact decide_eq_true h
  show zres (zst zint 1 1 190 1 [v0, v1] (.int x :: st) w) = _
  unfold zst
  dsimp only
  rw [if_pos ⟨rfl, Nat.le_of_ble_eq_true rfl, hz⟩]
  rfl
theorem e190_2 (v1 : Value) (x : Int32) (st : List Value) (w : zH) : zrun none (190, 2, [.int x, v1], st, w) = zrun none (190, 3, [.int x, v1], (.int x :: st), w) := (zE_ (i := .iload_n 0) (by decide +kernel) _ _ _).trans rfl
theorem e190_3 (v0 : Value) (x : Int32) (st : List Value) (w : zH) : zrun none (190, 3, [v0, .int x], st, w) = zrun none (190, 4, [v0, .int x], (.int x :: st), w) := (zE_ (i := .iload_n 1) (by decide +kernel) _ _ _).trans rfl
theorem e190_4 (ls : List Value) (a b : Int32) (st : List Value) (w : zH) : zrun none (190, 4, ls, (.int b :: .int a :: st), w) = zrun none (190, 5, ls, (.int (a >>> (b &&& 31)) :: st), w) := (zE_ (i := .ishr) (by decide +kernel) _ _ _).trans rfl
theorem e190_5 (ls st : List Value) (w : zH) : zrun none (190, 5, ls, st, w) = zrun none (190, 6, ls, (.int 1 :: st), w) := (zE_ (i := .iconst 1) (by decide +kernel) _ _ _).trans rfl
theorem e190_6 (ls : List Value) (a b : Int32) (st : List Value) (w : zH) : zrun none (190, 6, ls, (.int b :: .int a :: st), w) = zrun none (190, 7, ls, (.int (a &&& b) :: st), w) := (zE_ (i := .iand) (by decide +kernel) _ _ _).trans rfl
theorem e190_7 (ls : List Value) (a : Int32) (st : List Value) (w : zH) : zrun none (190, 7, ls, (.int a :: st), w) = if a = 0 then zrun none (190, 10, ls, st, w) else zrun none (190, 16, ls, st, w) := (zE_ (i := .ifCond .ne 9) (by decide +kernel) _ _ _).trans (zq_if_ne rfl rfl)
theorem e190_10 (v0 : Value) (x : Int32) (st : List Value) (w : zH) : zrun none (190, 10, [v0, .int x], st, w) = zrun none (190, 13, [v0, .int (x + 1)], st, w) := (zE_ (i := .iinc 1 1) (by decide +kernel) _ _ _).trans rfl
theorem e190_13 (ls st : List Value) (w : zH) : zrun none (190, 13, ls, st, w) = zrun none (190, 2, ls, st, w) := (zE_ (i := .goto (-11)) (by decide +kernel) _ _ _).trans rfl
theorem e190_16 (v0 : Value) (x : Int32) (st : List Value) (w : zH) : zrun none (190, 16, [v0, .int x], st, w) = zrun none (190, 17, [v0, .int x], (.int x :: st), w) := (zE_ (i := .iload_n 1) (by decide +kernel) _ _ _).trans rfl
theorem e190_17 (ls : List Value) (x : Int32) (w : zH) : zrun none (190, 17, ls, [.int x], w) = some (some (.int x), w) := by
  refine (zE_ (i := .ireturn) (by decide +kernel) _ _ _).trans ?_
  show zres (if narrow .int (.int x) = .int x then _ else none) = _
  rw [if_pos (show narrow .int (.int x) = .int x from rfl)]
  rfl
theorem e191_0 (v0 v2 v3 v4 v5 : Value) (x : Int32) (st : List Value) (w : zH) : zrun none (191, 0, [v0, .int x, v2, v3, v4, v5], st, w) = zrun none (191, 1, [v0, .int x, v2, v3, v4, v5], (.int x :: st), w) := (zE_ (i := .iload_n 1) (by decide +kernel) _ _ _).trans rfl
theorem e191_1 (v0 v1 v2 v3 v4 v5 : Value) (x : Int32) (st : List Value) (w : zH) (h : v1.category = 1) : zrun none (191, 1, [v0, v1, v2, v3, v4, v5], (.int x :: st), w) = zrun none (191, 2, [v0, v1, .int x, v3, v4, v5], st, w) := by
  refine (zE_ (i := .istore_n 2) (by decide +kernel) _ _ _).trans ?_
  have hz : zfree [v0, v1, v2, v3, v4, v5] 2 = true := by show decide (v1.category = 1) = true; exact decide_eq_true h
  show zres (zst zint 2 1 191 1 [v0, v1, v2, v3, v4, v5] (.int x :: st) w) = _
  unfold zst
  dsimp only
  rw [if_pos ⟨rfl, Nat.le_of_ble_eq_true rfl, hz⟩]
  rfl
theorem e191_2 (ls st : List Value) (w : zH) : zrun none (191, 2, ls, st, w) = zrun none (191, 3, ls, (.int 1 :: st), w) := (zE_ (i := .iconst 1) (by decide +kernel) _ _ _).trans rfl
theorem e191_3 (v0 v1 v2 v3 v4 v5 : Value) (x : Int32) (st : List Value) (w : zH) (h : v2.category = 1) : zrun none (191, 3, [v0, v1, v2, v3, v4, v5], (.int x :: st), w) = zrun none (191, 4, [v0, v1, v2, .int x, v4, v5], st, w) := by
  refine (zE_ (i := .istore_n 3) (by decide +kernel) _ _ _).trans ?_
  have hz : zfree [v0, v1, v2, v3, v4, v5] 3 = true := by show decide (v2.category = 1) = true; exact decide_eq_true h
  show zres (zst zint 3 1 191 3 [v0, v1, v2, v3, v4, v5] (.int x :: st) w) = _
  unfold zst
  dsimp only
  rw [if_pos ⟨rfl, Nat.le_of_ble_eq_true rfl, hz⟩]
  rfl
theorem e191_4 (v0 v1 v2 v4 v5 : Value) (x : Int32) (st : List Value) (w : zH) : zrun none (191, 4, [v0, v1, v2, .int x, v4, v5], st, w) = zrun none (191, 5, [v0, v1, v2, .int x, v4, v5], (.int x :: st), w) := (zE_ (i := .iload_n 3) (by decide +kernel) _ _ _).trans rfl
theorem e191_5 (ls : List Value) (a : Int32) (st : List Value) (w : zH) : zrun none (191, 5, ls, (.int a :: st), w) = if a = 0 then zrun none (191, 83, ls, st, w) else zrun none (191, 8, ls, st, w) := (zE_ (i := .ifCond .eq 78) (by decide +kernel) _ _ _).trans (zq_if_eq rfl rfl)
theorem e191_8 (ls st : List Value) (w : zH) : zrun none (191, 8, ls, st, w) = zrun none (191, 9, ls, (.int 0 :: st), w) := (zE_ (i := .iconst 0) (by decide +kernel) _ _ _).trans rfl
theorem e191_9 (v0 v1 v2 v3 v4 v5 : Value) (x : Int32) (st : List Value) (w : zH) (h : v3.category = 1) : zrun none (191, 9, [v0, v1, v2, v3, v4, v5], (.int x :: st), w) = zrun none (191, 11, [v0, v1, v2, v3, .int x, v5], st, w) := by
  refine (zE_ (i := .istore 4) (by decide +kernel) _ _ _).trans ?_
  have hz : zfree [v0, v1, v2, v3, v4, v5] 4 = true := by show decide (v3.category = 1) = true; exact decide_eq_true h
  show zres (zst zint 4 2 191 9 [v0, v1, v2, v3, v4, v5] (.int x :: st) w) = _
  unfold zst
  dsimp only
  rw [if_pos ⟨rfl, Nat.le_of_ble_eq_true rfl, hz⟩]
  rfl
theorem e191_11 (ls st : List Value) (w : zH) : zrun none (191, 11, ls, st, w) = zrun none (191, 12, ls, (.int 0 :: st), w) := (zE_ (i := .iconst 0) (by decide +kernel) _ _ _).trans rfl
theorem e191_12 (v0 v1 v2 v3 v4 v5 : Value) (x : Int32) (st : List Value) (w : zH) (h : v4.category = 1) : zrun none (191, 12, [v0, v1, v2, v3, v4, v5], (.int x :: st), w) = zrun none (191, 14, [v0, v1, v2, v3, v4, .int x], st, w) := by
  refine (zE_ (i := .istore 5) (by decide +kernel) _ _ _).trans ?_
  have hz : zfree [v0, v1, v2, v3, v4, v5] 5 = true := by show decide (v4.category = 1) = true; exact decide_eq_true h
  show zres (zst zint 5 2 191 12 [v0, v1, v2, v3, v4, v5] (.int x :: st) w) = _
  unfold zst
  dsimp only
  rw [if_pos ⟨rfl, Nat.le_of_ble_eq_true rfl, hz⟩]
  rfl
theorem e191_14 (v0 v1 v2 v3 v4 : Value) (x : Int32) (st : List Value) (w : zH) : zrun none (191, 14, [v0, v1, v2, v3, v4, .int x], st, w) = zrun none (191, 16, [v0, v1, v2, v3, v4, .int x], (.int x :: st), w) := (zE_ (i := .iload 5) (by decide +kernel) _ _ _).trans rfl
theorem e191_16 (ls st : List Value) (w : zH) : zrun none (191, 16, ls, st, w) = zrun none (191, 18, ls, (.int 8 :: st), w) := (zE_ (i := .bipush 8) (by decide +kernel) _ _ _).trans rfl
theorem e191_18 (ls : List Value) (a b : Int32) (st : List Value) (w : zH) : zrun none (191, 18, ls, (.int b :: .int a :: st), w) = if b ≤ a then zrun none (191, 62, ls, st, w) else zrun none (191, 21, ls, st, w) := (zE_ (i := .if_icmp .ge 44) (by decide +kernel) _ _ _).trans (zq_ic_ge rfl rfl)
theorem e191_21 (v0 v1 v2 v3 v5 : Value) (x : Int32) (st : List Value) (w : zH) : zrun none (191, 21, [v0, v1, v2, v3, .int x, v5], st, w) = zrun none (191, 23, [v0, v1, v2, v3, .int x, v5], (.int x :: st), w) := (zE_ (i := .iload 4) (by decide +kernel) _ _ _).trans rfl
theorem e191_23 (v0 v1 v3 v4 v5 : Value) (x : Int32) (st : List Value) (w : zH) : zrun none (191, 23, [v0, v1, .int x, v3, v4, v5], st, w) = zrun none (191, 24, [v0, v1, .int x, v3, v4, v5], (.int x :: st), w) := (zE_ (i := .iload_n 2) (by decide +kernel) _ _ _).trans rfl
theorem e191_24 (v0 v1 v2 v3 v4 : Value) (x : Int32) (st : List Value) (w : zH) : zrun none (191, 24, [v0, v1, v2, v3, v4, .int x], st, w) = zrun none (191, 26, [v0, v1, v2, v3, v4, .int x], (.int x :: st), w) := (zE_ (i := .iload 5) (by decide +kernel) _ _ _).trans rfl
theorem e191_26 (ls : List Value) (a b : Int32) (st : List Value) (w : zH) : zrun none (191, 26, ls, (.int b :: .int a :: st), w) = zrun none (191, 27, ls, (.int (a >>> (b &&& 31)) :: st), w) := (zE_ (i := .ishr) (by decide +kernel) _ _ _).trans rfl
theorem e191_27 (ls st : List Value) (w : zH) : zrun none (191, 27, ls, st, w) = zrun none (191, 28, ls, (.int 1 :: st), w) := (zE_ (i := .iconst 1) (by decide +kernel) _ _ _).trans rfl
theorem e191_28 (ls : List Value) (a b : Int32) (st : List Value) (w : zH) : zrun none (191, 28, ls, (.int b :: .int a :: st), w) = zrun none (191, 29, ls, (.int (a &&& b) :: st), w) := (zE_ (i := .iand) (by decide +kernel) _ _ _).trans rfl
theorem e191_29 (ls st : List Value) (w : zH) : zrun none (191, 29, ls, st, w) = zrun none (191, 30, ls, (.int 1 :: st), w) := (zE_ (i := .iconst 1) (by decide +kernel) _ _ _).trans rfl
theorem e191_30 (ls : List Value) (a b : Int32) (st : List Value) (w : zH) : zrun none (191, 30, ls, (.int b :: .int a :: st), w) = if a = b then zrun none (191, 33, ls, st, w) else zrun none (191, 52, ls, st, w) := (zE_ (i := .if_icmp .ne 22) (by decide +kernel) _ _ _).trans (zq_ic_ne rfl rfl)
theorem e191_33 (v1 v2 v3 v4 v5 : Value) (x : Nat) (st : List Value) (w : zH) : zrun none (191, 33, [.ref x, v1, v2, v3, v4, v5], st, w) = zrun none (191, 34, [.ref x, v1, v2, v3, v4, v5], (.ref x :: st), w) := (zE_ (i := .aload_n 0) (by decide +kernel) _ _ _).trans rfl
theorem e191_34 (ls : List Value) (a : Nat) (st : List Value) (w : zH) : zrun none (191, 34, ls, (.ref a :: st), w) = zo (zf w a 1238) (fun x => zrun none (191, 37, ls, (x :: st), w)) := (zE_ (i := .getfield 1238) (by decide +kernel) _ _ _).trans zq_getf
theorem e191_37 (v0 v1 v2 v3 v4 : Value) (x : Int32) (st : List Value) (w : zH) : zrun none (191, 37, [v0, v1, v2, v3, v4, .int x], st, w) = zrun none (191, 39, [v0, v1, v2, v3, v4, .int x], (.int x :: st), w) := (zE_ (i := .iload 5) (by decide +kernel) _ _ _).trans rfl
theorem e191_39 (ls : List Value) (j : Int32) (a : Nat) (st : List Value) (w : zH) : zrun none (191, 39, ls, (.int j :: .ref a :: st), w) = zoi (zai w a 100 j) (fun x => zrun none (191, 40, ls, (.int x :: st), w)) := (zE_ (i := .iaload) (by decide +kernel) _ _ _).trans zq_iald
theorem e191_40 (v0 v1 v3 v4 v5 : Value) (x : Int32) (st : List Value) (w : zH) : zrun none (191, 40, [v0, v1, .int x, v3, v4, v5], st, w) = zrun none (191, 41, [v0, v1, .int x, v3, v4, v5], (.int x :: st), w) := (zE_ (i := .iload_n 2) (by decide +kernel) _ _ _).trans rfl
theorem e191_41 (ls : List Value) (a b : Int32) (st : List Value) (w : zH) : zrun none (191, 41, ls, (.int b :: .int a :: st), w) = zrun none (191, 42, ls, (.int (a &&& b) :: st), w) := (zE_ (i := .iand) (by decide +kernel) _ _ _).trans rfl
theorem e191_42 (ls : List Value) (a : Int32) (st : List Value) (w : zH) : zrun none (191, 42, ls, (.int a :: st), w) = if a = 0 then zrun none (191, 45, ls, st, w) else zrun none (191, 52, ls, st, w) := (zE_ (i := .ifCond .ne 10) (by decide +kernel) _ _ _).trans (zq_if_ne rfl rfl)
theorem e191_45 (ls st : List Value) (w : zH) : zrun none (191, 45, ls, st, w) = zrun none (191, 46, ls, (.int 1 :: st), w) := (zE_ (i := .iconst 1) (by decide +kernel) _ _ _).trans rfl
theorem e191_46 (v0 v1 v2 v3 v4 : Value) (x : Int32) (st : List Value) (w : zH) : zrun none (191, 46, [v0, v1, v2, v3, v4, .int x], st, w) = zrun none (191, 48, [v0, v1, v2, v3, v4, .int x], (.int x :: st), w) := (zE_ (i := .iload 5) (by decide +kernel) _ _ _).trans rfl
theorem e191_48 (ls : List Value) (a b : Int32) (st : List Value) (w : zH) : zrun none (191, 48, ls, (.int b :: .int a :: st), w) = zrun none (191, 49, ls, (.int (a <<< (b &&& 31)) :: st), w) := (zE_ (i := .ishl) (by decide +kernel) _ _ _).trans rfl
theorem e191_49 (ls st : List Value) (w : zH) : zrun none (191, 49, ls, st, w) = zrun none (191, 53, ls, st, w) := (zE_ (i := .goto 4) (by decide +kernel) _ _ _).trans rfl
theorem e191_52 (ls st : List Value) (w : zH) : zrun none (191, 52, ls, st, w) = zrun none (191, 53, ls, (.int 0 :: st), w) := (zE_ (i := .iconst 0) (by decide +kernel) _ _ _).trans rfl
theorem e191_53 (ls : List Value) (a b : Int32) (st : List Value) (w : zH) : zrun none (191, 53, ls, (.int b :: .int a :: st), w) = zrun none (191, 54, ls, (.int (a ||| b) :: st), w) := (zE_ (i := .ior) (by decide +kernel) _ _ _).trans rfl
theorem e191_54 (v0 v1 v2 v3 v4 v5 : Value) (x : Int32) (st : List Value) (w : zH) (h : v3.category = 1) : zrun none (191, 54, [v0, v1, v2, v3, v4, v5], (.int x :: st), w) = zrun none (191, 56, [v0, v1, v2, v3, .int x, v5], st, w) := by
  refine (zE_ (i := .istore 4) (by decide +kernel) _ _ _).trans ?_
  have hz : zfree [v0, v1, v2, v3, v4, v5] 4 = true := by show decide (v3.category = 1) = true; exact decide_eq_true h
  show zres (zst zint 4 2 191 54 [v0, v1, v2, v3, v4, v5] (.int x :: st) w) = _
  unfold zst
  dsimp only
  rw [if_pos ⟨rfl, Nat.le_of_ble_eq_true rfl, hz⟩]
  rfl
theorem e191_56 (v0 v1 v2 v3 v4 : Value) (x : Int32) (st : List Value) (w : zH) : zrun none (191, 56, [v0, v1, v2, v3, v4, .int x], st, w) = zrun none (191, 59, [v0, v1, v2, v3, v4, .int (x + 1)], st, w) := (zE_ (i := .iinc 5 1) (by decide +kernel) _ _ _).trans rfl
theorem e191_59 (ls st : List Value) (w : zH) : zrun none (191, 59, ls, st, w) = zrun none (191, 14, ls, st, w) := (zE_ (i := .goto (-45)) (by decide +kernel) _ _ _).trans rfl
theorem e191_62 (v0 v1 v3 v4 v5 : Value) (x : Int32) (st : List Value) (w : zH) : zrun none (191, 62, [v0, v1, .int x, v3, v4, v5], st, w) = zrun none (191, 63, [v0, v1, .int x, v3, v4, v5], (.int x :: st), w) := (zE_ (i := .iload_n 2) (by decide +kernel) _ _ _).trans rfl
theorem e191_63 (v0 v1 v2 v3 v5 : Value) (x : Int32) (st : List Value) (w : zH) : zrun none (191, 63, [v0, v1, v2, v3, .int x, v5], st, w) = zrun none (191, 65, [v0, v1, v2, v3, .int x, v5], (.int x :: st), w) := (zE_ (i := .iload 4) (by decide +kernel) _ _ _).trans rfl
theorem e191_65 (ls st : List Value) (w : zH) : zrun none (191, 65, ls, st, w) = zrun none (191, 66, ls, (.int (-1) :: st), w) := (zE_ (i := .iconst (-1)) (by decide +kernel) _ _ _).trans rfl
theorem e191_66 (ls : List Value) (a b : Int32) (st : List Value) (w : zH) : zrun none (191, 66, ls, (.int b :: .int a :: st), w) = zrun none (191, 67, ls, (.int (a ^^^ b) :: st), w) := (zE_ (i := .ixor) (by decide +kernel) _ _ _).trans rfl
theorem e191_67 (ls : List Value) (a b : Int32) (st : List Value) (w : zH) : zrun none (191, 67, ls, (.int b :: .int a :: st), w) = zrun none (191, 68, ls, (.int (a &&& b) :: st), w) := (zE_ (i := .iand) (by decide +kernel) _ _ _).trans rfl
theorem e191_68 (v0 v1 v2 v3 v4 v5 : Value) (x : Int32) (st : List Value) (w : zH) (h : v1.category = 1) : zrun none (191, 68, [v0, v1, v2, v3, v4, v5], (.int x :: st), w) = zrun none (191, 69, [v0, v1, .int x, v3, v4, v5], st, w) := by
  refine (zE_ (i := .istore_n 2) (by decide +kernel) _ _ _).trans ?_
  have hz : zfree [v0, v1, v2, v3, v4, v5] 2 = true := by show decide (v1.category = 1) = true; exact decide_eq_true h
  show zres (zst zint 2 1 191 68 [v0, v1, v2, v3, v4, v5] (.int x :: st) w) = _
  unfold zst
  dsimp only
  rw [if_pos ⟨rfl, Nat.le_of_ble_eq_true rfl, hz⟩]
  rfl
theorem e191_69 (v0 v1 v2 v3 v5 : Value) (x : Int32) (st : List Value) (w : zH) : zrun none (191, 69, [v0, v1, v2, v3, .int x, v5], st, w) = zrun none (191, 71, [v0, v1, v2, v3, .int x, v5], (.int x :: st), w) := (zE_ (i := .iload 4) (by decide +kernel) _ _ _).trans rfl
theorem e191_71 (ls : List Value) (a : Int32) (st : List Value) (w : zH) : zrun none (191, 71, ls, (.int a :: st), w) = if a = 0 then zrun none (191, 78, ls, st, w) else zrun none (191, 74, ls, st, w) := (zE_ (i := .ifCond .eq 7) (by decide +kernel) _ _ _).trans (zq_if_eq rfl rfl)
theorem e191_74 (ls st : List Value) (w : zH) : zrun none (191, 74, ls, st, w) = zrun none (191, 75, ls, (.int 1 :: st), w) := (zE_ (i := .iconst 1) (by decide +kernel) _ _ _).trans rfl
theorem e191_75 (ls st : List Value) (w : zH) : zrun none (191, 75, ls, st, w) = zrun none (191, 79, ls, st, w) := (zE_ (i := .goto 4) (by decide +kernel) _ _ _).trans rfl
theorem e191_78 (ls st : List Value) (w : zH) : zrun none (191, 78, ls, st, w) = zrun none (191, 79, ls, (.int 0 :: st), w) := (zE_ (i := .iconst 0) (by decide +kernel) _ _ _).trans rfl
theorem e191_79 (v0 v1 v2 v3 v4 v5 : Value) (x : Int32) (st : List Value) (w : zH) (h : v2.category = 1) : zrun none (191, 79, [v0, v1, v2, v3, v4, v5], (.int x :: st), w) = zrun none (191, 80, [v0, v1, v2, .int x, v4, v5], st, w) := by
  refine (zE_ (i := .istore_n 3) (by decide +kernel) _ _ _).trans ?_
  have hz : zfree [v0, v1, v2, v3, v4, v5] 3 = true := by show decide (v2.category = 1) = true; exact decide_eq_true h
  show zres (zst zint 3 1 191 79 [v0, v1, v2, v3, v4, v5] (.int x :: st) w) = _
  unfold zst
  dsimp only
  rw [if_pos ⟨rfl, Nat.le_of_ble_eq_true rfl, hz⟩]
  rfl
theorem e191_80 (ls st : List Value) (w : zH) : zrun none (191, 80, ls, st, w) = zrun none (191, 4, ls, st, w) := (zE_ (i := .goto (-76)) (by decide +kernel) _ _ _).trans rfl
theorem e191_83 (v0 v1 v3 v4 v5 : Value) (x : Int32) (st : List Value) (w : zH) : zrun none (191, 83, [v0, v1, .int x, v3, v4, v5], st, w) = zrun none (191, 84, [v0, v1, .int x, v3, v4, v5], (.int x :: st), w) := (zE_ (i := .iload_n 2) (by decide +kernel) _ _ _).trans rfl
theorem e191_84 (ls : List Value) (x : Int32) (w : zH) : zrun none (191, 84, ls, [.int x], w) = some (some (.int x), w) := by
  refine (zE_ (i := .ireturn) (by decide +kernel) _ _ _).trans ?_
  show zres (if narrow .int (.int x) = .int x then _ else none) = _
  rw [if_pos (show narrow .int (.int x) = .int x from rfl)]
  rfl
theorem e192_0 (v1 v2 v3 v4 : Value) (x : Nat) (st : List Value) (w : zH) : zrun none (192, 0, [.ref x, v1, v2, v3, v4], st, w) = zrun none (192, 1, [.ref x, v1, v2, v3, v4], (.ref x :: st), w) := (zE_ (i := .aload_n 0) (by decide +kernel) _ _ _).trans rfl
theorem e192_1 (ls st : List Value) (w : zH) : zrun none (192, 1, ls, st, w) = zrun none (192, 2, ls, (.int 0 :: st), w) := (zE_ (i := .iconst 0) (by decide +kernel) _ _ _).trans rfl
theorem e192_2 (ls : List Value) (x : Int32) (a : Nat) (st : List Value) (w : zH) : zrun none (192, 2, ls, (.int x :: .ref a :: st), w) = zgd (a < zX ∧ (zf w a 1200).isSome = true) (zrun none (192, 5, ls, st, zpf w a 1200 (.int x))) := by
  refine (zE_ (i := .putfield 1200) (by decide +kernel) _ _ _).trans ?_
  by_cases hg : a < zX ∧ (zf w a 1200).isSome = true
  · rw [zgd_pos hg]
    obtain ⟨ha, h⟩ := hg
    exact zq_putf ha h rfl rfl
  · rw [zgd_neg hg]
    exact zq_putf_no (fun h1 h2 h3 => hg ⟨h1, h2⟩)
theorem e192_5 (v1 v2 v3 v4 : Value) (x : Nat) (st : List Value) (w : zH) : zrun none (192, 5, [.ref x, v1, v2, v3, v4], st, w) = zrun none (192, 6, [.ref x, v1, v2, v3, v4], (.ref x :: st), w) := (zE_ (i := .aload_n 0) (by decide +kernel) _ _ _).trans rfl
theorem e192_6 (v0 v2 v3 v4 : Value) (x : Int32) (st : List Value) (w : zH) : zrun none (192, 6, [v0, .int x, v2, v3, v4], st, w) = zrun none (192, 7, [v0, .int x, v2, v3, v4], (.int x :: st), w) := (zE_ (i := .iload_n 1) (by decide +kernel) _ _ _).trans rfl
theorem e192_7 (ls : List Value) (a : Nat) (x0 : Int32) (st : List Value) (w : zH) (hr : zcat st ≤ 8) : zrun none (192, 7, ls, (.int x0 :: .ref a :: st), w) = zgd (zis w a 12) (zcl (zrun none (186, 0, [.ref a, .int x0], [], w)) (fun r => zrun none (192, 10, ls, r.1.toList ++ st, r.2))) := by
  refine (zE_ (i := .invokevirtual 186) (by decide +kernel) _ _ _).trans ?_
  show zres (zinv none 186 192 7 ls (.int x0 :: .ref a :: st) w) = _
  unfold zinv
  show zres (if zrc none 186 w (.ref a) = true then zcall 186 [.ref a, .int x0] st 192 7 ls w else none) = _
  by_cases hc : zis w a 12
  · rw [if_pos (zrc_is hc (by decide +kernel)), zgd_pos hc]
    exact zq_call hr (Nat.le_of_ble_eq_true rfl) rfl rfl
  · rw [zgd_neg hc, if_neg (fun q => hc (zrc_of q (by decide +kernel)))]
    rfl
theorem e192_10 (ls : List Value) (a : Int32) (st : List Value) (w : zH) : zrun none (192, 10, ls, (.int a :: st), w) = if a = 0 then zrun none (192, 25, ls, st, w) else zrun none (192, 13, ls, st, w) := (zE_ (i := .ifCond .eq 15) (by decide +kernel) _ _ _).trans (zq_if_eq rfl rfl)
theorem e192_13 (v0 v1 v3 v4 : Value) (x : Int32) (st : List Value) (w : zH) : zrun none (192, 13, [v0, v1, .int x, v3, v4], st, w) = zrun none (192, 14, [v0, v1, .int x, v3, v4], (.int x :: st), w) := (zE_ (i := .iload_n 2) (by decide +kernel) _ _ _).trans rfl
theorem e192_14 (ls : List Value) (a : Int32) (st : List Value) (w : zH) : zrun none (192, 14, ls, (.int a :: st), w) = zrun none (192, 15, ls, (.long a.toInt64 :: st), w) := (zE_ (i := .i2l) (by decide +kernel) _ _ _).trans rfl
theorem e192_15 (ls st : List Value) (w : zH) : zrun none (192, 15, ls, st, w) = zrun none (192, 16, ls, (.long 0 :: st), w) := (zE_ (i := .lconst 0) (by decide +kernel) _ _ _).trans rfl
theorem e192_16 (ls st : List Value) (w : zH) : zrun none (192, 16, ls, st, w) = zrun none (192, 19, ls, (.long 3 :: st), w) := (zE_ (i := .ldc2_w 3) (by decide +kernel) _ _ _).trans rfl
theorem e192_19 (ls : List Value) (x0 : Int64) (x1 : Int64) (x2 : Int64) (st : List Value) (w : zH) (hr : zcat st ≤ 8) : zrun none (192, 19, ls, (.long x2 :: .long x1 :: .long x0 :: st), w) = zcl (zrun none (146, 0, [.long x0, zJ, .long x1, zJ, .long x2, zJ], [], w)) (fun r => zrun none (192, 22, ls, r.1.toList ++ st, r.2)) := by
  refine (zE_ (i := .invokestatic 146) (by decide +kernel) _ _ _).trans ?_
  show zres (if (99 : Nat) = 99 ∧ 3 ≤ ((.long x2 :: .long x1 :: .long x0 :: st) : List Value).length then zcall 146 [.long x0, .long x1, .long x2] st 192 19 ls w else none) = _
  rw [if_pos ⟨rfl, by simp⟩]
  exact zq_call hr (Nat.le_of_ble_eq_true rfl) rfl rfl
theorem e192_22 (ls : List Value) (a : Int32) (st : List Value) (w : zH) : zrun none (192, 22, ls, (.int a :: st), w) = if a = 0 then zrun none (192, 25, ls, st, w) else zrun none (192, 28, ls, st, w) := (zE_ (i := .ifCond .ne 6) (by decide +kernel) _ _ _).trans (zq_if_ne rfl rfl)
theorem e192_25 (ls st : List Value) (w : zH) : zrun none (192, 25, ls, st, w) = zrun none (192, 27, ls, (.int (-1000001) :: st), w) := (zE_ (i := .bipush (-1000001)) (by decide +kernel) _ _ _).trans rfl
theorem e192_27 (ls : List Value) (x : Int32) (w : zH) : zrun none (192, 27, ls, [.int x], w) = some (some (.int x), w) := by
  refine (zE_ (i := .ireturn) (by decide +kernel) _ _ _).trans ?_
  show zres (if narrow .int (.int x) = .int x then _ else none) = _
  rw [if_pos (show narrow .int (.int x) = .int x from rfl)]
  rfl
theorem e192_28 (ls st : List Value) (w : zH) : zrun none (192, 28, ls, st, w) = zrun none (192, 29, ls, (.int 0 :: st), w) := (zE_ (i := .iconst 0) (by decide +kernel) _ _ _).trans rfl
theorem e192_29 (v0 v1 v2 v3 v4 : Value) (x : Int32) (st : List Value) (w : zH) (h : v2.category = 1) : zrun none (192, 29, [v0, v1, v2, v3, v4], (.int x :: st), w) = zrun none (192, 30, [v0, v1, v2, .int x, v4], st, w) := by
  refine (zE_ (i := .istore_n 3) (by decide +kernel) _ _ _).trans ?_
  have hz : zfree [v0, v1, v2, v3, v4] 3 = true := by show decide (v2.category = 1) = true; exact decide_eq_true h
  show zres (zst zint 3 1 192 29 [v0, v1, v2, v3, v4] (.int x :: st) w) = _
  unfold zst
  dsimp only
  rw [if_pos ⟨rfl, Nat.le_of_ble_eq_true rfl, hz⟩]
  rfl
theorem e192_30 (ls st : List Value) (w : zH) : zrun none (192, 30, ls, st, w) = zrun none (192, 31, ls, (.int 0 :: st), w) := (zE_ (i := .iconst 0) (by decide +kernel) _ _ _).trans rfl
theorem e192_31 (v0 v1 v2 v3 v4 : Value) (x : Int32) (st : List Value) (w : zH) (h : v3.category = 1) : zrun none (192, 31, [v0, v1, v2, v3, v4], (.int x :: st), w) = zrun none (192, 33, [v0, v1, v2, v3, .int x], st, w) := by
  refine (zE_ (i := .istore 4) (by decide +kernel) _ _ _).trans ?_
  have hz : zfree [v0, v1, v2, v3, v4] 4 = true := by show decide (v3.category = 1) = true; exact decide_eq_true h
  show zres (zst zint 4 2 192 31 [v0, v1, v2, v3, v4] (.int x :: st) w) = _
  unfold zst
  dsimp only
  rw [if_pos ⟨rfl, Nat.le_of_ble_eq_true rfl, hz⟩]
  rfl
theorem e192_33 (v0 v1 v2 v3 : Value) (x : Int32) (st : List Value) (w : zH) : zrun none (192, 33, [v0, v1, v2, v3, .int x], st, w) = zrun none (192, 35, [v0, v1, v2, v3, .int x], (.int x :: st), w) := (zE_ (i := .iload 4) (by decide +kernel) _ _ _).trans rfl
theorem e192_35 (ls st : List Value) (w : zH) : zrun none (192, 35, ls, st, w) = zrun none (192, 37, ls, (.int 8 :: st), w) := (zE_ (i := .bipush 8) (by decide +kernel) _ _ _).trans rfl
theorem e192_37 (ls : List Value) (a b : Int32) (st : List Value) (w : zH) : zrun none (192, 37, ls, (.int b :: .int a :: st), w) = if b ≤ a then zrun none (192, 94, ls, st, w) else zrun none (192, 40, ls, st, w) := (zE_ (i := .if_icmp .ge 57) (by decide +kernel) _ _ _).trans (zq_ic_ge rfl rfl)
theorem e192_40 (v0 v1 v2 v4 : Value) (x : Int32) (st : List Value) (w : zH) : zrun none (192, 40, [v0, v1, v2, .int x, v4], st, w) = zrun none (192, 41, [v0, v1, v2, .int x, v4], (.int x :: st), w) := (zE_ (i := .iload_n 3) (by decide +kernel) _ _ _).trans rfl
theorem e192_41 (v0 v1 v3 v4 : Value) (x : Int32) (st : List Value) (w : zH) : zrun none (192, 41, [v0, v1, .int x, v3, v4], st, w) = zrun none (192, 42, [v0, v1, .int x, v3, v4], (.int x :: st), w) := (zE_ (i := .iload_n 2) (by decide +kernel) _ _ _).trans rfl
theorem e192_42 (ls : List Value) (a : Int32) (st : List Value) (w : zH) : zrun none (192, 42, ls, (.int a :: st), w) = if a = 0 then zrun none (192, 45, ls, st, w) else zrun none (192, 59, ls, st, w) := (zE_ (i := .ifCond .ne 17) (by decide +kernel) _ _ _).trans (zq_if_ne rfl rfl)
theorem e192_45 (v1 v2 v3 v4 : Value) (x : Nat) (st : List Value) (w : zH) : zrun none (192, 45, [.ref x, v1, v2, v3, v4], st, w) = zrun none (192, 46, [.ref x, v1, v2, v3, v4], (.ref x :: st), w) := (zE_ (i := .aload_n 0) (by decide +kernel) _ _ _).trans rfl
theorem e192_46 (ls : List Value) (a : Nat) (st : List Value) (w : zH) : zrun none (192, 46, ls, (.ref a :: st), w) = zo (zf w a 1235) (fun x => zrun none (192, 49, ls, (x :: st), w)) := (zE_ (i := .getfield 1235) (by decide +kernel) _ _ _).trans zq_getf
theorem e192_49 (v0 v2 v3 v4 : Value) (x : Int32) (st : List Value) (w : zH) : zrun none (192, 49, [v0, .int x, v2, v3, v4], st, w) = zrun none (192, 50, [v0, .int x, v2, v3, v4], (.int x :: st), w) := (zE_ (i := .iload_n 1) (by decide +kernel) _ _ _).trans rfl
theorem e192_50 (ls : List Value) (j : Int32) (a : Nat) (st : List Value) (w : zH) : zrun none (192, 50, ls, (.int j :: .ref a :: st), w) = zoi (zai w a 100 j) (fun x => zrun none (192, 51, ls, (.int x :: st), w)) := (zE_ (i := .iaload) (by decide +kernel) _ _ _).trans zq_iald
theorem e192_51 (v0 v1 v2 v3 : Value) (x : Int32) (st : List Value) (w : zH) : zrun none (192, 51, [v0, v1, v2, v3, .int x], st, w) = zrun none (192, 53, [v0, v1, v2, v3, .int x], (.int x :: st), w) := (zE_ (i := .iload 4) (by decide +kernel) _ _ _).trans rfl
theorem e192_53 (ls : List Value) (a b : Int32) (st : List Value) (w : zH) : zrun none (192, 53, ls, (.int b :: .int a :: st), w) = zrun none (192, 54, ls, (.int (a >>> (b &&& 31)) :: st), w) := (zE_ (i := .ishr) (by decide +kernel) _ _ _).trans rfl
theorem e192_54 (ls st : List Value) (w : zH) : zrun none (192, 54, ls, st, w) = zrun none (192, 55, ls, (.int 1 :: st), w) := (zE_ (i := .iconst 1) (by decide +kernel) _ _ _).trans rfl
theorem e192_55 (ls : List Value) (a b : Int32) (st : List Value) (w : zH) : zrun none (192, 55, ls, (.int b :: .int a :: st), w) = zrun none (192, 56, ls, (.int (a &&& b) :: st), w) := (zE_ (i := .iand) (by decide +kernel) _ _ _).trans rfl
theorem e192_56 (ls st : List Value) (w : zH) : zrun none (192, 56, ls, st, w) = zrun none (192, 86, ls, st, w) := (zE_ (i := .goto 30) (by decide +kernel) _ _ _).trans rfl
theorem e192_59 (v0 v1 v3 v4 : Value) (x : Int32) (st : List Value) (w : zH) : zrun none (192, 59, [v0, v1, .int x, v3, v4], st, w) = zrun none (192, 60, [v0, v1, .int x, v3, v4], (.int x :: st), w) := (zE_ (i := .iload_n 2) (by decide +kernel) _ _ _).trans rfl
theorem e192_60 (ls st : List Value) (w : zH) : zrun none (192, 60, ls, st, w) = zrun none (192, 61, ls, (.int 1 :: st), w) := (zE_ (i := .iconst 1) (by decide +kernel) _ _ _).trans rfl
theorem e192_61 (ls : List Value) (a b : Int32) (st : List Value) (w : zH) : zrun none (192, 61, ls, (.int b :: .int a :: st), w) = if a = b then zrun none (192, 64, ls, st, w) else zrun none (192, 85, ls, st, w) := (zE_ (i := .if_icmp .ne 24) (by decide +kernel) _ _ _).trans (zq_ic_ne rfl rfl)
theorem e192_64 (v1 v2 v3 v4 : Value) (x : Nat) (st : List Value) (w : zH) : zrun none (192, 64, [.ref x, v1, v2, v3, v4], st, w) = zrun none (192, 65, [.ref x, v1, v2, v3, v4], (.ref x :: st), w) := (zE_ (i := .aload_n 0) (by decide +kernel) _ _ _).trans rfl
theorem e192_65 (ls : List Value) (a : Nat) (st : List Value) (w : zH) : zrun none (192, 65, ls, (.ref a :: st), w) = zo (zf w a 1236) (fun x => zrun none (192, 68, ls, (x :: st), w)) := (zE_ (i := .getfield 1236) (by decide +kernel) _ _ _).trans zq_getf
theorem e192_68 (ls st : List Value) (w : zH) : zrun none (192, 68, ls, st, w) = zrun none (192, 70, ls, (.int 8 :: st), w) := (zE_ (i := .bipush 8) (by decide +kernel) _ _ _).trans rfl
theorem e192_70 (v0 v2 v3 v4 : Value) (x : Int32) (st : List Value) (w : zH) : zrun none (192, 70, [v0, .int x, v2, v3, v4], st, w) = zrun none (192, 71, [v0, .int x, v2, v3, v4], (.int x :: st), w) := (zE_ (i := .iload_n 1) (by decide +kernel) _ _ _).trans rfl
theorem e192_71 (ls : List Value) (a b : Int32) (st : List Value) (w : zH) : zrun none (192, 71, ls, (.int b :: .int a :: st), w) = zrun none (192, 72, ls, (.int (a * b) :: st), w) := (zE_ (i := .imul) (by decide +kernel) _ _ _).trans rfl
theorem e192_72 (v0 v1 v2 v3 : Value) (x : Int32) (st : List Value) (w : zH) : zrun none (192, 72, [v0, v1, v2, v3, .int x], st, w) = zrun none (192, 74, [v0, v1, v2, v3, .int x], (.int x :: st), w) := (zE_ (i := .iload 4) (by decide +kernel) _ _ _).trans rfl
theorem e192_74 (ls : List Value) (a b : Int32) (st : List Value) (w : zH) : zrun none (192, 74, ls, (.int b :: .int a :: st), w) = zrun none (192, 75, ls, (.int (a + b) :: st), w) := (zE_ (i := .iadd) (by decide +kernel) _ _ _).trans rfl
theorem e192_75 (ls : List Value) (j : Int32) (a : Nat) (st : List Value) (w : zH) : zrun none (192, 75, ls, (.int j :: .ref a :: st), w) = zoi (zai w a 100 j) (fun x => zrun none (192, 76, ls, (.int x :: st), w)) := (zE_ (i := .iaload) (by decide +kernel) _ _ _).trans zq_iald
theorem e192_76 (ls st : List Value) (w : zH) : zrun none (192, 76, ls, st, w) = zrun none (192, 78, ls, (.int (-1000000) :: st), w) := (zE_ (i := .bipush (-1000000)) (by decide +kernel) _ _ _).trans rfl
theorem e192_78 (ls : List Value) (a b : Int32) (st : List Value) (w : zH) : zrun none (192, 78, ls, (.int b :: .int a :: st), w) = if a = b then zrun none (192, 85, ls, st, w) else zrun none (192, 81, ls, st, w) := (zE_ (i := .if_icmp .eq 7) (by decide +kernel) _ _ _).trans (zq_ic_eq rfl rfl)
theorem e192_81 (ls st : List Value) (w : zH) : zrun none (192, 81, ls, st, w) = zrun none (192, 82, ls, (.int 1 :: st), w) := (zE_ (i := .iconst 1) (by decide +kernel) _ _ _).trans rfl
theorem e192_82 (ls st : List Value) (w : zH) : zrun none (192, 82, ls, st, w) = zrun none (192, 86, ls, st, w) := (zE_ (i := .goto 4) (by decide +kernel) _ _ _).trans rfl
theorem e192_85 (ls st : List Value) (w : zH) : zrun none (192, 85, ls, st, w) = zrun none (192, 86, ls, (.int 0 :: st), w) := (zE_ (i := .iconst 0) (by decide +kernel) _ _ _).trans rfl
theorem e192_86 (ls : List Value) (a b : Int32) (st : List Value) (w : zH) : zrun none (192, 86, ls, (.int b :: .int a :: st), w) = zrun none (192, 87, ls, (.int (a + b) :: st), w) := (zE_ (i := .iadd) (by decide +kernel) _ _ _).trans rfl
theorem e192_87 (v0 v1 v2 v3 v4 : Value) (x : Int32) (st : List Value) (w : zH) (h : v2.category = 1) : zrun none (192, 87, [v0, v1, v2, v3, v4], (.int x :: st), w) = zrun none (192, 88, [v0, v1, v2, .int x, v4], st, w) := by
  refine (zE_ (i := .istore_n 3) (by decide +kernel) _ _ _).trans ?_
  have hz : zfree [v0, v1, v2, v3, v4] 3 = true := by show decide (v2.category = 1) = true; exact decide_eq_true h
  show zres (zst zint 3 1 192 87 [v0, v1, v2, v3, v4] (.int x :: st) w) = _
  unfold zst
  dsimp only
  rw [if_pos ⟨rfl, Nat.le_of_ble_eq_true rfl, hz⟩]
  rfl
theorem e192_88 (v0 v1 v2 v3 : Value) (x : Int32) (st : List Value) (w : zH) : zrun none (192, 88, [v0, v1, v2, v3, .int x], st, w) = zrun none (192, 91, [v0, v1, v2, v3, .int (x + 1)], st, w) := (zE_ (i := .iinc 4 1) (by decide +kernel) _ _ _).trans rfl
theorem e192_91 (ls st : List Value) (w : zH) : zrun none (192, 91, ls, st, w) = zrun none (192, 33, ls, st, w) := (zE_ (i := .goto (-58)) (by decide +kernel) _ _ _).trans rfl
theorem e192_94 (v0 v1 v3 v4 : Value) (x : Int32) (st : List Value) (w : zH) : zrun none (192, 94, [v0, v1, .int x, v3, v4], st, w) = zrun none (192, 95, [v0, v1, .int x, v3, v4], (.int x :: st), w) := (zE_ (i := .iload_n 2) (by decide +kernel) _ _ _).trans rfl
theorem e192_95 (ls st : List Value) (w : zH) : zrun none (192, 95, ls, st, w) = zrun none (192, 96, ls, (.int 2 :: st), w) := (zE_ (i := .iconst 2) (by decide +kernel) _ _ _).trans rfl
theorem e192_96 (ls : List Value) (a b : Int32) (st : List Value) (w : zH) : zrun none (192, 96, ls, (.int b :: .int a :: st), w) = if b ≤ a then zrun none (192, 101, ls, st, w) else zrun none (192, 99, ls, st, w) := (zE_ (i := .if_icmp .ge 5) (by decide +kernel) _ _ _).trans (zq_ic_ge rfl rfl)
theorem e192_99 (v0 v1 v2 v4 : Value) (x : Int32) (st : List Value) (w : zH) : zrun none (192, 99, [v0, v1, v2, .int x, v4], st, w) = zrun none (192, 100, [v0, v1, v2, .int x, v4], (.int x :: st), w) := (zE_ (i := .iload_n 3) (by decide +kernel) _ _ _).trans rfl
theorem e192_100 (ls : List Value) (x : Int32) (w : zH) : zrun none (192, 100, ls, [.int x], w) = some (some (.int x), w) := by
  refine (zE_ (i := .ireturn) (by decide +kernel) _ _ _).trans ?_
  show zres (if narrow .int (.int x) = .int x then _ else none) = _
  rw [if_pos (show narrow .int (.int x) = .int x from rfl)]
  rfl
theorem e192_101 (v1 v2 v3 v4 : Value) (x : Nat) (st : List Value) (w : zH) : zrun none (192, 101, [.ref x, v1, v2, v3, v4], st, w) = zrun none (192, 102, [.ref x, v1, v2, v3, v4], (.ref x :: st), w) := (zE_ (i := .aload_n 0) (by decide +kernel) _ _ _).trans rfl
theorem e192_102 (v1 v2 v3 v4 : Value) (x : Nat) (st : List Value) (w : zH) : zrun none (192, 102, [.ref x, v1, v2, v3, v4], st, w) = zrun none (192, 103, [.ref x, v1, v2, v3, v4], (.ref x :: st), w) := (zE_ (i := .aload_n 0) (by decide +kernel) _ _ _).trans rfl
theorem e192_103 (ls : List Value) (a : Nat) (st : List Value) (w : zH) : zrun none (192, 103, ls, (.ref a :: st), w) = zo (zf w a 1235) (fun x => zrun none (192, 106, ls, (x :: st), w)) := (zE_ (i := .getfield 1235) (by decide +kernel) _ _ _).trans zq_getf
theorem e192_106 (v0 v2 v3 v4 : Value) (x : Int32) (st : List Value) (w : zH) : zrun none (192, 106, [v0, .int x, v2, v3, v4], st, w) = zrun none (192, 107, [v0, .int x, v2, v3, v4], (.int x :: st), w) := (zE_ (i := .iload_n 1) (by decide +kernel) _ _ _).trans rfl
theorem e192_107 (ls : List Value) (j : Int32) (a : Nat) (st : List Value) (w : zH) : zrun none (192, 107, ls, (.int j :: .ref a :: st), w) = zoi (zai w a 100 j) (fun x => zrun none (192, 108, ls, (.int x :: st), w)) := (zE_ (i := .iaload) (by decide +kernel) _ _ _).trans zq_iald
theorem e192_108 (ls : List Value) (a : Nat) (x0 : Int32) (st : List Value) (w : zH) (hr : zcat st ≤ 8) : zrun none (192, 108, ls, (.int x0 :: .ref a :: st), w) = zgd (zis w a 12) (zcl (zrun none (191, 0, [.ref a, .int x0, zJ, zJ, zJ, zJ], [], w)) (fun r => zrun none (192, 111, ls, r.1.toList ++ st, r.2))) := by
  refine (zE_ (i := .invokevirtual 191) (by decide +kernel) _ _ _).trans ?_
  show zres (zinv none 191 192 108 ls (.int x0 :: .ref a :: st) w) = _
  unfold zinv
  show zres (if zrc none 191 w (.ref a) = true then zcall 191 [.ref a, .int x0] st 192 108 ls w else none) = _
  by_cases hc : zis w a 12
  · rw [if_pos (zrc_is hc (by decide +kernel)), zgd_pos hc]
    exact zq_call hr (Nat.le_of_ble_eq_true rfl) rfl rfl
  · rw [zgd_neg hc, if_neg (fun q => hc (zrc_of q (by decide +kernel)))]
    rfl
theorem e192_111 (v0 v1 v2 v3 v4 : Value) (x : Int32) (st : List Value) (w : zH) (h : v3.category = 1) : zrun none (192, 111, [v0, v1, v2, v3, v4], (.int x :: st), w) = zrun none (192, 113, [v0, v1, v2, v3, .int x], st, w) := by
  refine (zE_ (i := .istore 4) (by decide +kernel) _ _ _).trans ?_
  have hz : zfree [v0, v1, v2, v3, v4] 4 = true := by show decide (v3.category = 1) = true; exact decide_eq_true h
  show zres (zst zint 4 2 192 111 [v0, v1, v2, v3, v4] (.int x :: st) w) = _
  unfold zst
  dsimp only
  rw [if_pos ⟨rfl, Nat.le_of_ble_eq_true rfl, hz⟩]
  rfl
theorem e192_113 (v0 v1 v3 v4 : Value) (x : Int32) (st : List Value) (w : zH) : zrun none (192, 113, [v0, v1, .int x, v3, v4], st, w) = zrun none (192, 114, [v0, v1, .int x, v3, v4], (.int x :: st), w) := (zE_ (i := .iload_n 2) (by decide +kernel) _ _ _).trans rfl
theorem e192_114 (ls st : List Value) (w : zH) : zrun none (192, 114, ls, st, w) = zrun none (192, 115, ls, (.int 2 :: st), w) := (zE_ (i := .iconst 2) (by decide +kernel) _ _ _).trans rfl
theorem e192_115 (ls : List Value) (a b : Int32) (st : List Value) (w : zH) : zrun none (192, 115, ls, (.int b :: .int a :: st), w) = if a = b then zrun none (192, 118, ls, st, w) else zrun none (192, 131, ls, st, w) := (zE_ (i := .if_icmp .ne 16) (by decide +kernel) _ _ _).trans (zq_ic_ne rfl rfl)
theorem e192_118 (v1 v2 v3 v4 : Value) (x : Nat) (st : List Value) (w : zH) : zrun none (192, 118, [.ref x, v1, v2, v3, v4], st, w) = zrun none (192, 119, [.ref x, v1, v2, v3, v4], (.ref x :: st), w) := (zE_ (i := .aload_n 0) (by decide +kernel) _ _ _).trans rfl
theorem e192_119 (v1 v2 v3 v4 : Value) (x : Nat) (st : List Value) (w : zH) : zrun none (192, 119, [.ref x, v1, v2, v3, v4], st, w) = zrun none (192, 120, [.ref x, v1, v2, v3, v4], (.ref x :: st), w) := (zE_ (i := .aload_n 0) (by decide +kernel) _ _ _).trans rfl
theorem e192_120 (ls : List Value) (a : Nat) (st : List Value) (w : zH) : zrun none (192, 120, ls, (.ref a :: st), w) = zo (zf w a 1235) (fun x => zrun none (192, 123, ls, (x :: st), w)) := (zE_ (i := .getfield 1235) (by decide +kernel) _ _ _).trans zq_getf
theorem e192_123 (v0 v2 v3 v4 : Value) (x : Int32) (st : List Value) (w : zH) : zrun none (192, 123, [v0, .int x, v2, v3, v4], st, w) = zrun none (192, 124, [v0, .int x, v2, v3, v4], (.int x :: st), w) := (zE_ (i := .iload_n 1) (by decide +kernel) _ _ _).trans rfl
theorem e192_124 (ls : List Value) (j : Int32) (a : Nat) (st : List Value) (w : zH) : zrun none (192, 124, ls, (.int j :: .ref a :: st), w) = zoi (zai w a 100 j) (fun x => zrun none (192, 125, ls, (.int x :: st), w)) := (zE_ (i := .iaload) (by decide +kernel) _ _ _).trans zq_iald
theorem e192_125 (ls : List Value) (a : Nat) (x0 : Int32) (st : List Value) (w : zH) (hr : zcat st ≤ 8) : zrun none (192, 125, ls, (.int x0 :: .ref a :: st), w) = zgd (zis w a 12) (zcl (zrun none (189, 0, [.ref a, .int x0, zJ, zJ, zJ, zJ], [], w)) (fun r => zrun none (192, 128, ls, r.1.toList ++ st, r.2))) := by
  refine (zE_ (i := .invokevirtual 189) (by decide +kernel) _ _ _).trans ?_
  show zres (zinv none 189 192 125 ls (.int x0 :: .ref a :: st) w) = _
  unfold zinv
  show zres (if zrc none 189 w (.ref a) = true then zcall 189 [.ref a, .int x0] st 192 125 ls w else none) = _
  by_cases hc : zis w a 12
  · rw [if_pos (zrc_is hc (by decide +kernel)), zgd_pos hc]
    exact zq_call hr (Nat.le_of_ble_eq_true rfl) rfl rfl
  · rw [zgd_neg hc, if_neg (fun q => hc (zrc_of q (by decide +kernel)))]
    rfl
theorem e192_128 (ls st : List Value) (w : zH) : zrun none (192, 128, ls, st, w) = zrun none (192, 146, ls, st, w) := (zE_ (i := .goto 18) (by decide +kernel) _ _ _).trans rfl
theorem e192_131 (v0 v1 v2 v3 : Value) (x : Int32) (st : List Value) (w : zH) : zrun none (192, 131, [v0, v1, v2, v3, .int x], st, w) = zrun none (192, 133, [v0, v1, v2, v3, .int x], (.int x :: st), w) := (zE_ (i := .iload 4) (by decide +kernel) _ _ _).trans rfl
theorem e192_133 (ls : List Value) (a : Int32) (st : List Value) (w : zH) : zrun none (192, 133, ls, (.int a :: st), w) = if a = 0 then zrun none (192, 136, ls, st, w) else zrun none (192, 141, ls, st, w) := (zE_ (i := .ifCond .ne 8) (by decide +kernel) _ _ _).trans (zq_if_ne rfl rfl)
theorem e192_136 (ls st : List Value) (w : zH) : zrun none (192, 136, ls, st, w) = zrun none (192, 138, ls, (.int (-1000000) :: st), w) := (zE_ (i := .bipush (-1000000)) (by decide +kernel) _ _ _).trans rfl
theorem e192_138 (ls st : List Value) (w : zH) : zrun none (192, 138, ls, st, w) = zrun none (192, 146, ls, st, w) := (zE_ (i := .goto 8) (by decide +kernel) _ _ _).trans rfl
theorem e192_141 (v0 v1 v2 v3 : Value) (x : Int32) (st : List Value) (w : zH) : zrun none (192, 141, [v0, v1, v2, v3, .int x], st, w) = zrun none (192, 143, [v0, v1, v2, v3, .int x], (.int x :: st), w) := (zE_ (i := .iload 4) (by decide +kernel) _ _ _).trans rfl
theorem e192_143 (ls : List Value) (x0 : Int32) (st : List Value) (w : zH) (hr : zcat st ≤ 8) : zrun none (192, 143, ls, (.int x0 :: st), w) = zcl (zrun none (190, 0, [.int x0, zJ], [], w)) (fun r => zrun none (192, 146, ls, r.1.toList ++ st, r.2)) := by
  refine (zE_ (i := .invokestatic 190) (by decide +kernel) _ _ _).trans ?_
  show zres (if (99 : Nat) = 99 ∧ 1 ≤ ((.int x0 :: st) : List Value).length then zcall 190 [.int x0] st 192 143 ls w else none) = _
  rw [if_pos ⟨rfl, by simp⟩]
  exact zq_call hr (Nat.le_of_ble_eq_true rfl) rfl rfl
theorem e192_146 (ls : List Value) (x : Int32) (w : zH) : zrun none (192, 146, ls, [.int x], w) = some (some (.int x), w) := by
  refine (zE_ (i := .ireturn) (by decide +kernel) _ _ _).trans ?_
  show zres (if narrow .int (.int x) = .int x then _ else none) = _
  rw [if_pos (show narrow .int (.int x) = .int x from rfl)]
  rfl
theorem e193_0 (v1 v2 v3 v4 v5 : Value) (x : Nat) (st : List Value) (w : zH) : zrun none (193, 0, [.ref x, v1, v2, v3, v4, v5], st, w) = zrun none (193, 1, [.ref x, v1, v2, v3, v4, v5], (.ref x :: st), w) := (zE_ (i := .aload_n 0) (by decide +kernel) _ _ _).trans rfl
theorem e193_1 (ls st : List Value) (w : zH) : zrun none (193, 1, ls, st, w) = zrun none (193, 2, ls, (.int 0 :: st), w) := (zE_ (i := .iconst 0) (by decide +kernel) _ _ _).trans rfl
theorem e193_2 (ls : List Value) (x : Int32) (a : Nat) (st : List Value) (w : zH) : zrun none (193, 2, ls, (.int x :: .ref a :: st), w) = zgd (a < zX ∧ (zf w a 1200).isSome = true) (zrun none (193, 5, ls, st, zpf w a 1200 (.int x))) := by
  refine (zE_ (i := .putfield 1200) (by decide +kernel) _ _ _).trans ?_
  by_cases hg : a < zX ∧ (zf w a 1200).isSome = true
  · rw [zgd_pos hg]
    obtain ⟨ha, h⟩ := hg
    exact zq_putf ha h rfl rfl
  · rw [zgd_neg hg]
    exact zq_putf_no (fun h1 h2 h3 => hg ⟨h1, h2⟩)
theorem e193_5 (v1 v2 v3 v4 v5 : Value) (x : Nat) (st : List Value) (w : zH) : zrun none (193, 5, [.ref x, v1, v2, v3, v4, v5], st, w) = zrun none (193, 6, [.ref x, v1, v2, v3, v4, v5], (.ref x :: st), w) := (zE_ (i := .aload_n 0) (by decide +kernel) _ _ _).trans rfl
theorem e193_6 (v0 v2 v3 v4 v5 : Value) (x : Int32) (st : List Value) (w : zH) : zrun none (193, 6, [v0, .int x, v2, v3, v4, v5], st, w) = zrun none (193, 7, [v0, .int x, v2, v3, v4, v5], (.int x :: st), w) := (zE_ (i := .iload_n 1) (by decide +kernel) _ _ _).trans rfl
theorem e193_7 (ls : List Value) (a : Nat) (x0 : Int32) (st : List Value) (w : zH) (hr : zcat st ≤ 8) : zrun none (193, 7, ls, (.int x0 :: .ref a :: st), w) = zgd (zis w a 12) (zcl (zrun none (186, 0, [.ref a, .int x0], [], w)) (fun r => zrun none (193, 10, ls, r.1.toList ++ st, r.2))) := by
  refine (zE_ (i := .invokevirtual 186) (by decide +kernel) _ _ _).trans ?_
  show zres (zinv none 186 193 7 ls (.int x0 :: .ref a :: st) w) = _
  unfold zinv
  show zres (if zrc none 186 w (.ref a) = true then zcall 186 [.ref a, .int x0] st 193 7 ls w else none) = _
  by_cases hc : zis w a 12
  · rw [if_pos (zrc_is hc (by decide +kernel)), zgd_pos hc]
    exact zq_call hr (Nat.le_of_ble_eq_true rfl) rfl rfl
  · rw [zgd_neg hc, if_neg (fun q => hc (zrc_of q (by decide +kernel)))]
    rfl
theorem e193_10 (ls : List Value) (a : Int32) (st : List Value) (w : zH) : zrun none (193, 10, ls, (.int a :: st), w) = if a = 0 then zrun none (193, 13, ls, st, w) else zrun none (193, 16, ls, st, w) := (zE_ (i := .ifCond .ne 6) (by decide +kernel) _ _ _).trans (zq_if_ne rfl rfl)
theorem e193_13 (ls st : List Value) (w : zH) : zrun none (193, 13, ls, st, w) = zrun none (193, 15, ls, (.int (-1000001) :: st), w) := (zE_ (i := .bipush (-1000001)) (by decide +kernel) _ _ _).trans rfl
theorem e193_15 (ls : List Value) (x : Int32) (w : zH) : zrun none (193, 15, ls, [.int x], w) = some (some (.int x), w) := by
  refine (zE_ (i := .ireturn) (by decide +kernel) _ _ _).trans ?_
  show zres (if narrow .int (.int x) = .int x then _ else none) = _
  rw [if_pos (show narrow .int (.int x) = .int x from rfl)]
  rfl
theorem e193_16 (v1 v2 v3 v4 v5 : Value) (x : Nat) (st : List Value) (w : zH) : zrun none (193, 16, [.ref x, v1, v2, v3, v4, v5], st, w) = zrun none (193, 17, [.ref x, v1, v2, v3, v4, v5], (.ref x :: st), w) := (zE_ (i := .aload_n 0) (by decide +kernel) _ _ _).trans rfl
theorem e193_17 (ls : List Value) (a : Nat) (st : List Value) (w : zH) : zrun none (193, 17, ls, (.ref a :: st), w) = zo (zf w a 1235) (fun x => zrun none (193, 20, ls, (x :: st), w)) := (zE_ (i := .getfield 1235) (by decide +kernel) _ _ _).trans zq_getf
theorem e193_20 (v0 v2 v3 v4 v5 : Value) (x : Int32) (st : List Value) (w : zH) : zrun none (193, 20, [v0, .int x, v2, v3, v4, v5], st, w) = zrun none (193, 21, [v0, .int x, v2, v3, v4, v5], (.int x :: st), w) := (zE_ (i := .iload_n 1) (by decide +kernel) _ _ _).trans rfl
theorem e193_21 (ls : List Value) (j : Int32) (a : Nat) (st : List Value) (w : zH) : zrun none (193, 21, ls, (.int j :: .ref a :: st), w) = zoi (zai w a 100 j) (fun x => zrun none (193, 22, ls, (.int x :: st), w)) := (zE_ (i := .iaload) (by decide +kernel) _ _ _).trans zq_iald
theorem e193_22 (v0 v1 v2 v3 v4 v5 : Value) (x : Int32) (st : List Value) (w : zH) (h : v2.category = 1) : zrun none (193, 22, [v0, v1, v2, v3, v4, v5], (.int x :: st), w) = zrun none (193, 23, [v0, v1, v2, .int x, v4, v5], st, w) := by
  refine (zE_ (i := .istore_n 3) (by decide +kernel) _ _ _).trans ?_
  have hz : zfree [v0, v1, v2, v3, v4, v5] 3 = true := by show decide (v2.category = 1) = true; exact decide_eq_true h
  show zres (zst zint 3 1 193 22 [v0, v1, v2, v3, v4, v5] (.int x :: st) w) = _
  unfold zst
  dsimp only
  rw [if_pos ⟨rfl, Nat.le_of_ble_eq_true rfl, hz⟩]
  rfl
theorem e193_23 (v1 v2 v3 v4 v5 : Value) (x : Nat) (st : List Value) (w : zH) : zrun none (193, 23, [.ref x, v1, v2, v3, v4, v5], st, w) = zrun none (193, 24, [.ref x, v1, v2, v3, v4, v5], (.ref x :: st), w) := (zE_ (i := .aload_n 0) (by decide +kernel) _ _ _).trans rfl
theorem e193_24 (v0 v1 v2 v4 v5 : Value) (x : Int32) (st : List Value) (w : zH) : zrun none (193, 24, [v0, v1, v2, .int x, v4, v5], st, w) = zrun none (193, 25, [v0, v1, v2, .int x, v4, v5], (.int x :: st), w) := (zE_ (i := .iload_n 3) (by decide +kernel) _ _ _).trans rfl
theorem e193_25 (ls : List Value) (a : Nat) (x0 : Int32) (st : List Value) (w : zH) (hr : zcat st ≤ 8) : zrun none (193, 25, ls, (.int x0 :: .ref a :: st), w) = zgd (zis w a 12) (zcl (zrun none (191, 0, [.ref a, .int x0, zJ, zJ, zJ, zJ], [], w)) (fun r => zrun none (193, 28, ls, r.1.toList ++ st, r.2))) := by
  refine (zE_ (i := .invokevirtual 191) (by decide +kernel) _ _ _).trans ?_
  show zres (zinv none 191 193 25 ls (.int x0 :: .ref a :: st) w) = _
  unfold zinv
  show zres (if zrc none 191 w (.ref a) = true then zcall 191 [.ref a, .int x0] st 193 25 ls w else none) = _
  by_cases hc : zis w a 12
  · rw [if_pos (zrc_is hc (by decide +kernel)), zgd_pos hc]
    exact zq_call hr (Nat.le_of_ble_eq_true rfl) rfl rfl
  · rw [zgd_neg hc, if_neg (fun q => hc (zrc_of q (by decide +kernel)))]
    rfl
theorem e193_28 (ls : List Value) (a : Int32) (st : List Value) (w : zH) : zrun none (193, 28, ls, (.int a :: st), w) = if a = 0 then zrun none (193, 34, ls, st, w) else zrun none (193, 31, ls, st, w) := (zE_ (i := .ifCond .eq 6) (by decide +kernel) _ _ _).trans (zq_if_eq rfl rfl)
theorem e193_31 (ls st : List Value) (w : zH) : zrun none (193, 31, ls, st, w) = zrun none (193, 33, ls, (.int (-1000000) :: st), w) := (zE_ (i := .bipush (-1000000)) (by decide +kernel) _ _ _).trans rfl
theorem e193_33 (ls : List Value) (x : Int32) (w : zH) : zrun none (193, 33, ls, [.int x], w) = some (some (.int x), w) := by
  refine (zE_ (i := .ireturn) (by decide +kernel) _ _ _).trans ?_
  show zres (if narrow .int (.int x) = .int x then _ else none) = _
  rw [if_pos (show narrow .int (.int x) = .int x from rfl)]
  rfl
theorem e193_34 (ls st : List Value) (w : zH) : zrun none (193, 34, ls, st, w) = zrun none (193, 35, ls, (.int 0 :: st), w) := (zE_ (i := .iconst 0) (by decide +kernel) _ _ _).trans rfl
theorem e193_35 (v0 v1 v2 v3 v4 v5 : Value) (x : Int32) (st : List Value) (w : zH) (h : v3.category = 1) : zrun none (193, 35, [v0, v1, v2, v3, v4, v5], (.int x :: st), w) = zrun none (193, 37, [v0, v1, v2, v3, .int x, v5], st, w) := by
  refine (zE_ (i := .istore 4) (by decide +kernel) _ _ _).trans ?_
  have hz : zfree [v0, v1, v2, v3, v4, v5] 4 = true := by show decide (v3.category = 1) = true; exact decide_eq_true h
  show zres (zst zint 4 2 193 35 [v0, v1, v2, v3, v4, v5] (.int x :: st) w) = _
  unfold zst
  dsimp only
  rw [if_pos ⟨rfl, Nat.le_of_ble_eq_true rfl, hz⟩]
  rfl
theorem e193_37 (v0 v1 v2 v4 v5 : Value) (x : Int32) (st : List Value) (w : zH) : zrun none (193, 37, [v0, v1, v2, .int x, v4, v5], st, w) = zrun none (193, 38, [v0, v1, v2, .int x, v4, v5], (.int x :: st), w) := (zE_ (i := .iload_n 3) (by decide +kernel) _ _ _).trans rfl
theorem e193_38 (ls : List Value) (a : Int32) (st : List Value) (w : zH) : zrun none (193, 38, ls, (.int a :: st), w) = if a = 0 then zrun none (193, 98, ls, st, w) else zrun none (193, 41, ls, st, w) := (zE_ (i := .ifCond .eq 60) (by decide +kernel) _ _ _).trans (zq_if_eq rfl rfl)
theorem e193_41 (v0 v1 v2 v4 v5 : Value) (x : Int32) (st : List Value) (w : zH) : zrun none (193, 41, [v0, v1, v2, .int x, v4, v5], st, w) = zrun none (193, 42, [v0, v1, v2, .int x, v4, v5], (.int x :: st), w) := (zE_ (i := .iload_n 3) (by decide +kernel) _ _ _).trans rfl
theorem e193_42 (ls : List Value) (x0 : Int32) (st : List Value) (w : zH) (hr : zcat st ≤ 8) : zrun none (193, 42, ls, (.int x0 :: st), w) = zcl (zrun none (190, 0, [.int x0, zJ], [], w)) (fun r => zrun none (193, 45, ls, r.1.toList ++ st, r.2)) := by
  refine (zE_ (i := .invokestatic 190) (by decide +kernel) _ _ _).trans ?_
  show zres (if (99 : Nat) = 99 ∧ 1 ≤ ((.int x0 :: st) : List Value).length then zcall 190 [.int x0] st 193 42 ls w else none) = _
  rw [if_pos ⟨rfl, by simp⟩]
  exact zq_call hr (Nat.le_of_ble_eq_true rfl) rfl rfl
theorem e193_45 (v0 v1 v2 v3 v4 v5 : Value) (x : Int32) (st : List Value) (w : zH) (h : v4.category = 1) : zrun none (193, 45, [v0, v1, v2, v3, v4, v5], (.int x :: st), w) = zrun none (193, 47, [v0, v1, v2, v3, v4, .int x], st, w) := by
  refine (zE_ (i := .istore 5) (by decide +kernel) _ _ _).trans ?_
  have hz : zfree [v0, v1, v2, v3, v4, v5] 5 = true := by show decide (v4.category = 1) = true; exact decide_eq_true h
  show zres (zst zint 5 2 193 45 [v0, v1, v2, v3, v4, v5] (.int x :: st) w) = _
  unfold zst
  dsimp only
  rw [if_pos ⟨rfl, Nat.le_of_ble_eq_true rfl, hz⟩]
  rfl
theorem e193_47 (v0 v1 v2 v4 v5 : Value) (x : Int32) (st : List Value) (w : zH) : zrun none (193, 47, [v0, v1, v2, .int x, v4, v5], st, w) = zrun none (193, 48, [v0, v1, v2, .int x, v4, v5], (.int x :: st), w) := (zE_ (i := .iload_n 3) (by decide +kernel) _ _ _).trans rfl
theorem e193_48 (v0 v1 v2 v3 v4 : Value) (x : Int32) (st : List Value) (w : zH) : zrun none (193, 48, [v0, v1, v2, v3, v4, .int x], st, w) = zrun none (193, 50, [v0, v1, v2, v3, v4, .int x], (.int x :: st), w) := (zE_ (i := .iload 5) (by decide +kernel) _ _ _).trans rfl
theorem e193_50 (ls : List Value) (a b : Int32) (st : List Value) (w : zH) : zrun none (193, 50, ls, (.int b :: .int a :: st), w) = zrun none (193, 51, ls, (.int (a >>> (b &&& 31)) :: st), w) := (zE_ (i := .ishr) (by decide +kernel) _ _ _).trans rfl
theorem e193_51 (ls st : List Value) (w : zH) : zrun none (193, 51, ls, st, w) = zrun none (193, 52, ls, (.int 1 :: st), w) := (zE_ (i := .iconst 1) (by decide +kernel) _ _ _).trans rfl
theorem e193_52 (ls : List Value) (a b : Int32) (st : List Value) (w : zH) : zrun none (193, 52, ls, (.int b :: .int a :: st), w) = zrun none (193, 53, ls, (.int (a &&& b) :: st), w) := (zE_ (i := .iand) (by decide +kernel) _ _ _).trans rfl
theorem e193_53 (ls : List Value) (a : Int32) (st : List Value) (w : zH) : zrun none (193, 53, ls, (.int a :: st), w) = if a = 0 then zrun none (193, 68, ls, st, w) else zrun none (193, 56, ls, st, w) := (zE_ (i := .ifCond .eq 15) (by decide +kernel) _ _ _).trans (zq_if_eq rfl rfl)
theorem e193_56 (v1 v2 v3 v4 v5 : Value) (x : Nat) (st : List Value) (w : zH) : zrun none (193, 56, [.ref x, v1, v2, v3, v4, v5], st, w) = zrun none (193, 57, [.ref x, v1, v2, v3, v4, v5], (.ref x :: st), w) := (zE_ (i := .aload_n 0) (by decide +kernel) _ _ _).trans rfl
theorem e193_57 (ls : List Value) (a : Nat) (st : List Value) (w : zH) : zrun none (193, 57, ls, (.ref a :: st), w) = zo (zf w a 1238) (fun x => zrun none (193, 60, ls, (x :: st), w)) := (zE_ (i := .getfield 1238) (by decide +kernel) _ _ _).trans zq_getf
theorem e193_60 (v0 v1 v2 v3 v4 : Value) (x : Int32) (st : List Value) (w : zH) : zrun none (193, 60, [v0, v1, v2, v3, v4, .int x], st, w) = zrun none (193, 62, [v0, v1, v2, v3, v4, .int x], (.int x :: st), w) := (zE_ (i := .iload 5) (by decide +kernel) _ _ _).trans rfl
theorem e193_62 (ls : List Value) (j : Int32) (a : Nat) (st : List Value) (w : zH) : zrun none (193, 62, ls, (.int j :: .ref a :: st), w) = zoi (zai w a 100 j) (fun x => zrun none (193, 63, ls, (.int x :: st), w)) := (zE_ (i := .iaload) (by decide +kernel) _ _ _).trans zq_iald
theorem e193_63 (v0 v1 v2 v4 v5 : Value) (x : Int32) (st : List Value) (w : zH) : zrun none (193, 63, [v0, v1, v2, .int x, v4, v5], st, w) = zrun none (193, 64, [v0, v1, v2, .int x, v4, v5], (.int x :: st), w) := (zE_ (i := .iload_n 3) (by decide +kernel) _ _ _).trans rfl
theorem e193_64 (ls : List Value) (a b : Int32) (st : List Value) (w : zH) : zrun none (193, 64, ls, (.int b :: .int a :: st), w) = zrun none (193, 65, ls, (.int (a &&& b) :: st), w) := (zE_ (i := .iand) (by decide +kernel) _ _ _).trans rfl
theorem e193_65 (ls : List Value) (a : Int32) (st : List Value) (w : zH) : zrun none (193, 65, ls, (.int a :: st), w) = if a = 0 then zrun none (193, 74, ls, st, w) else zrun none (193, 68, ls, st, w) := (zE_ (i := .ifCond .eq 9) (by decide +kernel) _ _ _).trans (zq_if_eq rfl rfl)
theorem e193_68 (v0 v1 v2 v3 v4 : Value) (x : Int32) (st : List Value) (w : zH) : zrun none (193, 68, [v0, v1, v2, v3, v4, .int x], st, w) = zrun none (193, 71, [v0, v1, v2, v3, v4, .int (x + 1)], st, w) := (zE_ (i := .iinc 5 1) (by decide +kernel) _ _ _).trans rfl
theorem e193_71 (ls st : List Value) (w : zH) : zrun none (193, 71, ls, st, w) = zrun none (193, 47, ls, st, w) := (zE_ (i := .goto (-24)) (by decide +kernel) _ _ _).trans rfl
theorem e193_74 (v0 v1 v2 v3 v5 : Value) (x : Int32) (st : List Value) (w : zH) : zrun none (193, 74, [v0, v1, v2, v3, .int x, v5], st, w) = zrun none (193, 76, [v0, v1, v2, v3, .int x, v5], (.int x :: st), w) := (zE_ (i := .iload 4) (by decide +kernel) _ _ _).trans rfl
theorem e193_76 (v0 v1 v3 v4 v5 : Value) (x : Int32) (st : List Value) (w : zH) : zrun none (193, 76, [v0, v1, .int x, v3, v4, v5], st, w) = zrun none (193, 77, [v0, v1, .int x, v3, v4, v5], (.int x :: st), w) := (zE_ (i := .iload_n 2) (by decide +kernel) _ _ _).trans rfl
theorem e193_77 (ls : List Value) (a b : Int32) (st : List Value) (w : zH) : zrun none (193, 77, ls, (.int b :: .int a :: st), w) = if a = b then zrun none (193, 80, ls, st, w) else zrun none (193, 83, ls, st, w) := (zE_ (i := .if_icmp .ne 6) (by decide +kernel) _ _ _).trans (zq_ic_ne rfl rfl)
theorem e193_80 (v0 v1 v2 v3 v4 : Value) (x : Int32) (st : List Value) (w : zH) : zrun none (193, 80, [v0, v1, v2, v3, v4, .int x], st, w) = zrun none (193, 82, [v0, v1, v2, v3, v4, .int x], (.int x :: st), w) := (zE_ (i := .iload 5) (by decide +kernel) _ _ _).trans rfl
theorem e193_82 (ls : List Value) (x : Int32) (w : zH) : zrun none (193, 82, ls, [.int x], w) = some (some (.int x), w) := by
  refine (zE_ (i := .ireturn) (by decide +kernel) _ _ _).trans ?_
  show zres (if narrow .int (.int x) = .int x then _ else none) = _
  rw [if_pos (show narrow .int (.int x) = .int x from rfl)]
  rfl
theorem e193_83 (v0 v1 v2 v4 v5 : Value) (x : Int32) (st : List Value) (w : zH) : zrun none (193, 83, [v0, v1, v2, .int x, v4, v5], st, w) = zrun none (193, 84, [v0, v1, v2, .int x, v4, v5], (.int x :: st), w) := (zE_ (i := .iload_n 3) (by decide +kernel) _ _ _).trans rfl
theorem e193_84 (ls st : List Value) (w : zH) : zrun none (193, 84, ls, st, w) = zrun none (193, 85, ls, (.int 1 :: st), w) := (zE_ (i := .iconst 1) (by decide +kernel) _ _ _).trans rfl
theorem e193_85 (v0 v1 v2 v3 v4 : Value) (x : Int32) (st : List Value) (w : zH) : zrun none (193, 85, [v0, v1, v2, v3, v4, .int x], st, w) = zrun none (193, 87, [v0, v1, v2, v3, v4, .int x], (.int x :: st), w) := (zE_ (i := .iload 5) (by decide +kernel) _ _ _).trans rfl
theorem e193_87 (ls : List Value) (a b : Int32) (st : List Value) (w : zH) : zrun none (193, 87, ls, (.int b :: .int a :: st), w) = zrun none (193, 88, ls, (.int (a <<< (b &&& 31)) :: st), w) := (zE_ (i := .ishl) (by decide +kernel) _ _ _).trans rfl
theorem e193_88 (ls st : List Value) (w : zH) : zrun none (193, 88, ls, st, w) = zrun none (193, 89, ls, (.int (-1) :: st), w) := (zE_ (i := .iconst (-1)) (by decide +kernel) _ _ _).trans rfl
theorem e193_89 (ls : List Value) (a b : Int32) (st : List Value) (w : zH) : zrun none (193, 89, ls, (.int b :: .int a :: st), w) = zrun none (193, 90, ls, (.int (a ^^^ b) :: st), w) := (zE_ (i := .ixor) (by decide +kernel) _ _ _).trans rfl
theorem e193_90 (ls : List Value) (a b : Int32) (st : List Value) (w : zH) : zrun none (193, 90, ls, (.int b :: .int a :: st), w) = zrun none (193, 91, ls, (.int (a &&& b) :: st), w) := (zE_ (i := .iand) (by decide +kernel) _ _ _).trans rfl
theorem e193_91 (v0 v1 v2 v3 v4 v5 : Value) (x : Int32) (st : List Value) (w : zH) (h : v2.category = 1) : zrun none (193, 91, [v0, v1, v2, v3, v4, v5], (.int x :: st), w) = zrun none (193, 92, [v0, v1, v2, .int x, v4, v5], st, w) := by
  refine (zE_ (i := .istore_n 3) (by decide +kernel) _ _ _).trans ?_
  have hz : zfree [v0, v1, v2, v3, v4, v5] 3 = true := by show decide (v2.category = 1) = true; exact decide_eq_true h
  show zres (zst zint 3 1 193 91 [v0, v1, v2, v3, v4, v5] (.int x :: st) w) = _
  unfold zst
  dsimp only
  rw [if_pos ⟨rfl, Nat.le_of_ble_eq_true rfl, hz⟩]
  rfl
theorem e193_92 (v0 v1 v2 v3 v5 : Value) (x : Int32) (st : List Value) (w : zH) : zrun none (193, 92, [v0, v1, v2, v3, .int x, v5], st, w) = zrun none (193, 95, [v0, v1, v2, v3, .int (x + 1), v5], st, w) := (zE_ (i := .iinc 4 1) (by decide +kernel) _ _ _).trans rfl
theorem e193_95 (ls st : List Value) (w : zH) : zrun none (193, 95, ls, st, w) = zrun none (193, 37, ls, st, w) := (zE_ (i := .goto (-58)) (by decide +kernel) _ _ _).trans rfl
theorem e193_98 (ls st : List Value) (w : zH) : zrun none (193, 98, ls, st, w) = zrun none (193, 100, ls, (.int (-1000000) :: st), w) := (zE_ (i := .bipush (-1000000)) (by decide +kernel) _ _ _).trans rfl
theorem e193_100 (ls : List Value) (x : Int32) (w : zH) : zrun none (193, 100, ls, [.int x], w) = some (some (.int x), w) := by
  refine (zE_ (i := .ireturn) (by decide +kernel) _ _ _).trans ?_
  show zres (if narrow .int (.int x) = .int x then _ else none) = _
  rw [if_pos (show narrow .int (.int x) = .int x from rfl)]
  rfl
theorem e194_0 (v1 v2 v3 : Value) (x : Nat) (st : List Value) (w : zH) : zrun none (194, 0, [.ref x, v1, v2, v3], st, w) = zrun none (194, 1, [.ref x, v1, v2, v3], (.ref x :: st), w) := (zE_ (i := .aload_n 0) (by decide +kernel) _ _ _).trans rfl
theorem e194_1 (ls st : List Value) (w : zH) : zrun none (194, 1, ls, st, w) = zrun none (194, 2, ls, (.int 0 :: st), w) := (zE_ (i := .iconst 0) (by decide +kernel) _ _ _).trans rfl
theorem e194_2 (ls : List Value) (x : Int32) (a : Nat) (st : List Value) (w : zH) : zrun none (194, 2, ls, (.int x :: .ref a :: st), w) = zgd (a < zX ∧ (zf w a 1200).isSome = true) (zrun none (194, 5, ls, st, zpf w a 1200 (.int x))) := by
  refine (zE_ (i := .putfield 1200) (by decide +kernel) _ _ _).trans ?_
  by_cases hg : a < zX ∧ (zf w a 1200).isSome = true
  · rw [zgd_pos hg]
    obtain ⟨ha, h⟩ := hg
    exact zq_putf ha h rfl rfl
  · rw [zgd_neg hg]
    exact zq_putf_no (fun h1 h2 h3 => hg ⟨h1, h2⟩)
theorem e194_5 (v1 v2 v3 : Value) (x : Nat) (st : List Value) (w : zH) : zrun none (194, 5, [.ref x, v1, v2, v3], st, w) = zrun none (194, 6, [.ref x, v1, v2, v3], (.ref x :: st), w) := (zE_ (i := .aload_n 0) (by decide +kernel) _ _ _).trans rfl
theorem e194_6 (v0 v2 v3 : Value) (x : Int32) (st : List Value) (w : zH) : zrun none (194, 6, [v0, .int x, v2, v3], st, w) = zrun none (194, 7, [v0, .int x, v2, v3], (.int x :: st), w) := (zE_ (i := .iload_n 1) (by decide +kernel) _ _ _).trans rfl
theorem e194_7 (ls : List Value) (a : Nat) (x0 : Int32) (st : List Value) (w : zH) (hr : zcat st ≤ 8) : zrun none (194, 7, ls, (.int x0 :: .ref a :: st), w) = zgd (zis w a 12) (zcl (zrun none (162, 0, [.ref a, .int x0], [], w)) (fun r => zrun none (194, 10, ls, r.1.toList ++ st, r.2))) := by
  refine (zE_ (i := .invokevirtual 162) (by decide +kernel) _ _ _).trans ?_
  show zres (zinv none 162 194 7 ls (.int x0 :: .ref a :: st) w) = _
  unfold zinv
  show zres (if zrc none 162 w (.ref a) = true then zcall 162 [.ref a, .int x0] st 194 7 ls w else none) = _
  by_cases hc : zis w a 12
  · rw [if_pos (zrc_is hc (by decide +kernel)), zgd_pos hc]
    exact zq_call hr (Nat.le_of_ble_eq_true rfl) rfl rfl
  · rw [zgd_neg hc, if_neg (fun q => hc (zrc_of q (by decide +kernel)))]
    rfl
theorem e194_10 (ls : List Value) (a : Int32) (st : List Value) (w : zH) : zrun none (194, 10, ls, (.int a :: st), w) = if a = 0 then zrun none (194, 27, ls, st, w) else zrun none (194, 13, ls, st, w) := (zE_ (i := .ifCond .eq 17) (by decide +kernel) _ _ _).trans (zq_if_eq rfl rfl)
theorem e194_13 (v0 v1 v3 : Value) (x : Int32) (st : List Value) (w : zH) : zrun none (194, 13, [v0, v1, .int x, v3], st, w) = zrun none (194, 14, [v0, v1, .int x, v3], (.int x :: st), w) := (zE_ (i := .iload_n 2) (by decide +kernel) _ _ _).trans rfl
theorem e194_14 (ls : List Value) (x0 : Int32) (st : List Value) (w : zH) (hr : zcat st ≤ 8) : zrun none (194, 14, ls, (.int x0 :: st), w) = zcl (zrun none (182, 0, [.int x0], [], w)) (fun r => zrun none (194, 17, ls, r.1.toList ++ st, r.2)) := by
  refine (zE_ (i := .invokestatic 182) (by decide +kernel) _ _ _).trans ?_
  show zres (if (99 : Nat) = 99 ∧ 1 ≤ ((.int x0 :: st) : List Value).length then zcall 182 [.int x0] st 194 14 ls w else none) = _
  rw [if_pos ⟨rfl, by simp⟩]
  exact zq_call hr (Nat.le_of_ble_eq_true rfl) rfl rfl
theorem e194_17 (ls : List Value) (a : Int32) (st : List Value) (w : zH) : zrun none (194, 17, ls, (.int a :: st), w) = if a = 0 then zrun none (194, 27, ls, st, w) else zrun none (194, 20, ls, st, w) := (zE_ (i := .ifCond .eq 10) (by decide +kernel) _ _ _).trans (zq_if_eq rfl rfl)
theorem e194_20 (v0 v1 v2 : Value) (x : Int32) (st : List Value) (w : zH) : zrun none (194, 20, [v0, v1, v2, .int x], st, w) = zrun none (194, 21, [v0, v1, v2, .int x], (.int x :: st), w) := (zE_ (i := .iload_n 3) (by decide +kernel) _ _ _).trans rfl
theorem e194_21 (ls : List Value) (x0 : Int32) (st : List Value) (w : zH) (hr : zcat st ≤ 8) : zrun none (194, 21, ls, (.int x0 :: st), w) = zcl (zrun none (155, 0, [.int x0], [], w)) (fun r => zrun none (194, 24, ls, r.1.toList ++ st, r.2)) := by
  refine (zE_ (i := .invokestatic 155) (by decide +kernel) _ _ _).trans ?_
  show zres (if (99 : Nat) = 99 ∧ 1 ≤ ((.int x0 :: st) : List Value).length then zcall 155 [.int x0] st 194 21 ls w else none) = _
  rw [if_pos ⟨rfl, by simp⟩]
  exact zq_call hr (Nat.le_of_ble_eq_true rfl) rfl rfl
theorem e194_24 (ls : List Value) (a : Int32) (st : List Value) (w : zH) : zrun none (194, 24, ls, (.int a :: st), w) = if a = 0 then zrun none (194, 27, ls, st, w) else zrun none (194, 30, ls, st, w) := (zE_ (i := .ifCond .ne 6) (by decide +kernel) _ _ _).trans (zq_if_ne rfl rfl)
theorem e194_27 (ls st : List Value) (w : zH) : zrun none (194, 27, ls, st, w) = zrun none (194, 29, ls, (.int (-1000001) :: st), w) := (zE_ (i := .bipush (-1000001)) (by decide +kernel) _ _ _).trans rfl
theorem e194_29 (ls : List Value) (x : Int32) (w : zH) : zrun none (194, 29, ls, [.int x], w) = some (some (.int x), w) := by
  refine (zE_ (i := .ireturn) (by decide +kernel) _ _ _).trans ?_
  show zres (if narrow .int (.int x) = .int x then _ else none) = _
  rw [if_pos (show narrow .int (.int x) = .int x from rfl)]
  rfl
theorem e194_30 (v1 v2 v3 : Value) (x : Nat) (st : List Value) (w : zH) : zrun none (194, 30, [.ref x, v1, v2, v3], st, w) = zrun none (194, 31, [.ref x, v1, v2, v3], (.ref x :: st), w) := (zE_ (i := .aload_n 0) (by decide +kernel) _ _ _).trans rfl
theorem e194_31 (ls : List Value) (a : Nat) (st : List Value) (w : zH) : zrun none (194, 31, ls, (.ref a :: st), w) = zo (zf w a 1240) (fun x => zrun none (194, 34, ls, (x :: st), w)) := (zE_ (i := .getfield 1240) (by decide +kernel) _ _ _).trans zq_getf
theorem e194_34 (ls st : List Value) (w : zH) : zrun none (194, 34, ls, st, w) = zrun none (194, 36, ls, (.int 20 :: st), w) := (zE_ (i := .bipush 20) (by decide +kernel) _ _ _).trans rfl
theorem e194_36 (ls : List Value) (a b : Int32) (st : List Value) (w : zH) : zrun none (194, 36, ls, (.int b :: .int a :: st), w) = if a = b then zrun none (194, 39, ls, st, w) else zrun none (194, 42, ls, st, w) := (zE_ (i := .if_icmp .ne 6) (by decide +kernel) _ _ _).trans (zq_ic_ne rfl rfl)
theorem e194_39 (ls st : List Value) (w : zH) : zrun none (194, 39, ls, st, w) = zrun none (194, 41, ls, (.int (-1000003) :: st), w) := (zE_ (i := .bipush (-1000003)) (by decide +kernel) _ _ _).trans rfl
theorem e194_41 (ls : List Value) (x : Int32) (w : zH) : zrun none (194, 41, ls, [.int x], w) = some (some (.int x), w) := by
  refine (zE_ (i := .ireturn) (by decide +kernel) _ _ _).trans ?_
  show zres (if narrow .int (.int x) = .int x then _ else none) = _
  rw [if_pos (show narrow .int (.int x) = .int x from rfl)]
  rfl
theorem e194_42 (v1 v2 v3 : Value) (x : Nat) (st : List Value) (w : zH) : zrun none (194, 42, [.ref x, v1, v2, v3], st, w) = zrun none (194, 43, [.ref x, v1, v2, v3], (.ref x :: st), w) := (zE_ (i := .aload_n 0) (by decide +kernel) _ _ _).trans rfl
theorem e194_43 (ls : List Value) (a : Nat) (st : List Value) (w : zH) : zrun none (194, 43, ls, (.ref a :: st), w) = zo (zf w a 1241) (fun x => zrun none (194, 46, ls, (x :: st), w)) := (zE_ (i := .getfield 1241) (by decide +kernel) _ _ _).trans zq_getf
theorem e194_46 (v1 v2 v3 : Value) (x : Nat) (st : List Value) (w : zH) : zrun none (194, 46, [.ref x, v1, v2, v3], st, w) = zrun none (194, 47, [.ref x, v1, v2, v3], (.ref x :: st), w) := (zE_ (i := .aload_n 0) (by decide +kernel) _ _ _).trans rfl
theorem e194_47 (ls : List Value) (a : Nat) (st : List Value) (w : zH) : zrun none (194, 47, ls, (.ref a :: st), w) = zo (zf w a 1240) (fun x => zrun none (194, 50, ls, (x :: st), w)) := (zE_ (i := .getfield 1240) (by decide +kernel) _ _ _).trans zq_getf
theorem e194_50 (v0 v2 v3 : Value) (x : Int32) (st : List Value) (w : zH) : zrun none (194, 50, [v0, .int x, v2, v3], st, w) = zrun none (194, 51, [v0, .int x, v2, v3], (.int x :: st), w) := (zE_ (i := .iload_n 1) (by decide +kernel) _ _ _).trans rfl
theorem e194_51 (ls : List Value) (x j : Int32) (a : Nat) (st : List Value) (w : zH) : zrun none (194, 51, ls, (.int x :: .int j :: .ref a :: st), w) = zgd (zin? w a 100 j) (zrun none (194, 52, ls, st, zas w a j (.int x))) := by
  refine (zE_ (i := .iastore) (by decide +kernel) _ _ _).trans ?_
  by_cases hg : zin? w a 100 j
  · rw [zgd_pos hg]
    exact zq_iast hg
  · rw [zgd_neg hg]
    exact zq_iast_no hg
theorem e194_52 (v1 v2 v3 : Value) (x : Nat) (st : List Value) (w : zH) : zrun none (194, 52, [.ref x, v1, v2, v3], st, w) = zrun none (194, 53, [.ref x, v1, v2, v3], (.ref x :: st), w) := (zE_ (i := .aload_n 0) (by decide +kernel) _ _ _).trans rfl
theorem e194_53 (ls : List Value) (a : Nat) (st : List Value) (w : zH) : zrun none (194, 53, ls, (.ref a :: st), w) = zo (zf w a 1242) (fun x => zrun none (194, 56, ls, (x :: st), w)) := (zE_ (i := .getfield 1242) (by decide +kernel) _ _ _).trans zq_getf
theorem e194_56 (v1 v2 v3 : Value) (x : Nat) (st : List Value) (w : zH) : zrun none (194, 56, [.ref x, v1, v2, v3], st, w) = zrun none (194, 57, [.ref x, v1, v2, v3], (.ref x :: st), w) := (zE_ (i := .aload_n 0) (by decide +kernel) _ _ _).trans rfl
theorem e194_57 (ls : List Value) (a : Nat) (st : List Value) (w : zH) : zrun none (194, 57, ls, (.ref a :: st), w) = zo (zf w a 1240) (fun x => zrun none (194, 60, ls, (x :: st), w)) := (zE_ (i := .getfield 1240) (by decide +kernel) _ _ _).trans zq_getf
theorem e194_60 (v0 v1 v3 : Value) (x : Int32) (st : List Value) (w : zH) : zrun none (194, 60, [v0, v1, .int x, v3], st, w) = zrun none (194, 61, [v0, v1, .int x, v3], (.int x :: st), w) := (zE_ (i := .iload_n 2) (by decide +kernel) _ _ _).trans rfl
theorem e194_61 (ls : List Value) (x j : Int32) (a : Nat) (st : List Value) (w : zH) : zrun none (194, 61, ls, (.int x :: .int j :: .ref a :: st), w) = zgd (zin? w a 100 j) (zrun none (194, 62, ls, st, zas w a j (.int x))) := by
  refine (zE_ (i := .iastore) (by decide +kernel) _ _ _).trans ?_
  by_cases hg : zin? w a 100 j
  · rw [zgd_pos hg]
    exact zq_iast hg
  · rw [zgd_neg hg]
    exact zq_iast_no hg
theorem e194_62 (v1 v2 v3 : Value) (x : Nat) (st : List Value) (w : zH) : zrun none (194, 62, [.ref x, v1, v2, v3], st, w) = zrun none (194, 63, [.ref x, v1, v2, v3], (.ref x :: st), w) := (zE_ (i := .aload_n 0) (by decide +kernel) _ _ _).trans rfl
theorem e194_63 (ls : List Value) (a : Nat) (st : List Value) (w : zH) : zrun none (194, 63, ls, (.ref a :: st), w) = zo (zf w a 1243) (fun x => zrun none (194, 66, ls, (x :: st), w)) := (zE_ (i := .getfield 1243) (by decide +kernel) _ _ _).trans zq_getf
theorem e194_66 (v1 v2 v3 : Value) (x : Nat) (st : List Value) (w : zH) : zrun none (194, 66, [.ref x, v1, v2, v3], st, w) = zrun none (194, 67, [.ref x, v1, v2, v3], (.ref x :: st), w) := (zE_ (i := .aload_n 0) (by decide +kernel) _ _ _).trans rfl
theorem e194_67 (ls : List Value) (a : Nat) (st : List Value) (w : zH) : zrun none (194, 67, ls, (.ref a :: st), w) = zo (zf w a 1240) (fun x => zrun none (194, 70, ls, (x :: st), w)) := (zE_ (i := .getfield 1240) (by decide +kernel) _ _ _).trans zq_getf
theorem e194_70 (v0 v1 v2 : Value) (x : Int32) (st : List Value) (w : zH) : zrun none (194, 70, [v0, v1, v2, .int x], st, w) = zrun none (194, 71, [v0, v1, v2, .int x], (.int x :: st), w) := (zE_ (i := .iload_n 3) (by decide +kernel) _ _ _).trans rfl
theorem e194_71 (ls : List Value) (x j : Int32) (a : Nat) (st : List Value) (w : zH) : zrun none (194, 71, ls, (.int x :: .int j :: .ref a :: st), w) = zgd (zin? w a 100 j) (zrun none (194, 72, ls, st, zas w a j (.int x))) := by
  refine (zE_ (i := .iastore) (by decide +kernel) _ _ _).trans ?_
  by_cases hg : zin? w a 100 j
  · rw [zgd_pos hg]
    exact zq_iast hg
  · rw [zgd_neg hg]
    exact zq_iast_no hg
theorem e194_72 (v1 v2 v3 : Value) (x : Nat) (st : List Value) (w : zH) : zrun none (194, 72, [.ref x, v1, v2, v3], st, w) = zrun none (194, 73, [.ref x, v1, v2, v3], (.ref x :: st), w) := (zE_ (i := .aload_n 0) (by decide +kernel) _ _ _).trans rfl
theorem e194_73 (ls : List Value) (x : Int32) (st : List Value) (w : zH) : zrun none (194, 73, ls, (.int x :: st), w) = zrun none (194, 74, ls, (.int x :: .int x :: st), w) := (zE_ (i := .dup) (by decide +kernel) _ _ _).trans rfl
theorem e194_73r (ls : List Value) (x : Nat) (st : List Value) (w : zH) : zrun none (194, 73, ls, (.ref x :: st), w) = zrun none (194, 74, ls, (.ref x :: .ref x :: st), w) := (zE_ (i := .dup) (by decide +kernel) _ _ _).trans rfl
theorem e194_74 (ls : List Value) (a : Nat) (st : List Value) (w : zH) : zrun none (194, 74, ls, (.ref a :: st), w) = zo (zf w a 1240) (fun x => zrun none (194, 77, ls, (x :: st), w)) := (zE_ (i := .getfield 1240) (by decide +kernel) _ _ _).trans zq_getf
theorem e194_77 (ls st : List Value) (w : zH) : zrun none (194, 77, ls, st, w) = zrun none (194, 78, ls, (.int 1 :: st), w) := (zE_ (i := .iconst 1) (by decide +kernel) _ _ _).trans rfl
theorem e194_78 (ls : List Value) (a b : Int32) (st : List Value) (w : zH) : zrun none (194, 78, ls, (.int b :: .int a :: st), w) = zrun none (194, 79, ls, (.int (a + b) :: st), w) := (zE_ (i := .iadd) (by decide +kernel) _ _ _).trans rfl
theorem e194_79 (ls : List Value) (x : Int32) (a : Nat) (st : List Value) (w : zH) : zrun none (194, 79, ls, (.int x :: .ref a :: st), w) = zgd (a < zX ∧ (zf w a 1240).isSome = true) (zrun none (194, 82, ls, st, zpf w a 1240 (.int x))) := by
  refine (zE_ (i := .putfield 1240) (by decide +kernel) _ _ _).trans ?_
  by_cases hg : a < zX ∧ (zf w a 1240).isSome = true
  · rw [zgd_pos hg]
    obtain ⟨ha, h⟩ := hg
    exact zq_putf ha h rfl rfl
  · rw [zgd_neg hg]
    exact zq_putf_no (fun h1 h2 h3 => hg ⟨h1, h2⟩)
theorem e194_82 (v1 v2 v3 : Value) (x : Nat) (st : List Value) (w : zH) : zrun none (194, 82, [.ref x, v1, v2, v3], st, w) = zrun none (194, 83, [.ref x, v1, v2, v3], (.ref x :: st), w) := (zE_ (i := .aload_n 0) (by decide +kernel) _ _ _).trans rfl
theorem e194_83 (ls : List Value) (a : Nat) (st : List Value) (w : zH) : zrun none (194, 83, ls, (.ref a :: st), w) = zo (zf w a 1240) (fun x => zrun none (194, 86, ls, (x :: st), w)) := (zE_ (i := .getfield 1240) (by decide +kernel) _ _ _).trans zq_getf
theorem e194_86 (ls st : List Value) (w : zH) : zrun none (194, 86, ls, st, w) = zrun none (194, 87, ls, (.int 1 :: st), w) := (zE_ (i := .iconst 1) (by decide +kernel) _ _ _).trans rfl
theorem e194_87 (ls : List Value) (a b : Int32) (st : List Value) (w : zH) : zrun none (194, 87, ls, (.int b :: .int a :: st), w) = zrun none (194, 88, ls, (.int (a - b) :: st), w) := (zE_ (i := .isub) (by decide +kernel) _ _ _).trans rfl
theorem e194_88 (ls : List Value) (x : Int32) (w : zH) : zrun none (194, 88, ls, [.int x], w) = some (some (.int x), w) := by
  refine (zE_ (i := .ireturn) (by decide +kernel) _ _ _).trans ?_
  show zres (if narrow .int (.int x) = .int x then _ else none) = _
  rw [if_pos (show narrow .int (.int x) = .int x from rfl)]
  rfl
theorem e195_0 (ls st : List Value) (w : zH) : zrun none (195, 0, ls, st, w) = zrun none (195, 1, ls, (.int 1 :: st), w) := (zE_ (i := .iconst 1) (by decide +kernel) _ _ _).trans rfl
theorem e195_1 (v0 v1 v2 v3 v4 v5 : Value) (x : Int32) (st : List Value) (w : zH) (h : v2.category = 1) : zrun none (195, 1, [v0, v1, v2, v3, v4, v5], (.int x :: st), w) = zrun none (195, 2, [v0, v1, v2, .int x, v4, v5], st, w) := by
  refine (zE_ (i := .istore_n 3) (by decide +kernel) _ _ _).trans ?_
  have hz : zfree [v0, v1, v2, v3, v4, v5] 3 = true := by show decide (v2.category = 1) = true; exact decide_eq_true h
  show zres (zst zint 3 1 195 1 [v0, v1, v2, v3, v4, v5] (.int x :: st) w) = _
  unfold zst
  dsimp only
  rw [if_pos ⟨rfl, Nat.le_of_ble_eq_true rfl, hz⟩]
  rfl
theorem e195_2 (ls st : List Value) (w : zH) : zrun none (195, 2, ls, st, w) = zrun none (195, 3, ls, (.int 0 :: st), w) := (zE_ (i := .iconst 0) (by decide +kernel) _ _ _).trans rfl
theorem e195_3 (v0 v1 v2 v3 v4 v5 : Value) (x : Int32) (st : List Value) (w : zH) (h : v3.category = 1) : zrun none (195, 3, [v0, v1, v2, v3, v4, v5], (.int x :: st), w) = zrun none (195, 5, [v0, v1, v2, v3, .int x, v5], st, w) := by
  refine (zE_ (i := .istore 4) (by decide +kernel) _ _ _).trans ?_
  have hz : zfree [v0, v1, v2, v3, v4, v5] 4 = true := by show decide (v3.category = 1) = true; exact decide_eq_true h
  show zres (zst zint 4 2 195 3 [v0, v1, v2, v3, v4, v5] (.int x :: st) w) = _
  unfold zst
  dsimp only
  rw [if_pos ⟨rfl, Nat.le_of_ble_eq_true rfl, hz⟩]
  rfl
theorem e195_5 (v0 v1 v2 v3 v5 : Value) (x : Int32) (st : List Value) (w : zH) : zrun none (195, 5, [v0, v1, v2, v3, .int x, v5], st, w) = zrun none (195, 7, [v0, v1, v2, v3, .int x, v5], (.int x :: st), w) := (zE_ (i := .iload 4) (by decide +kernel) _ _ _).trans rfl
theorem e195_7 (ls st : List Value) (w : zH) : zrun none (195, 7, ls, st, w) = zrun none (195, 9, ls, (.int 8 :: st), w) := (zE_ (i := .bipush 8) (by decide +kernel) _ _ _).trans rfl
theorem e195_9 (ls : List Value) (a b : Int32) (st : List Value) (w : zH) : zrun none (195, 9, ls, (.int b :: .int a :: st), w) = if b ≤ a then zrun none (195, 69, ls, st, w) else zrun none (195, 12, ls, st, w) := (zE_ (i := .if_icmp .ge 60) (by decide +kernel) _ _ _).trans (zq_ic_ge rfl rfl)
theorem e195_12 (v1 v2 v3 v4 v5 : Value) (x : Nat) (st : List Value) (w : zH) : zrun none (195, 12, [.ref x, v1, v2, v3, v4, v5], st, w) = zrun none (195, 13, [.ref x, v1, v2, v3, v4, v5], (.ref x :: st), w) := (zE_ (i := .aload_n 0) (by decide +kernel) _ _ _).trans rfl
theorem e195_13 (ls : List Value) (a : Nat) (st : List Value) (w : zH) : zrun none (195, 13, ls, (.ref a :: st), w) = zo (zf w a 1236) (fun x => zrun none (195, 16, ls, (x :: st), w)) := (zE_ (i := .getfield 1236) (by decide +kernel) _ _ _).trans zq_getf
theorem e195_16 (ls st : List Value) (w : zH) : zrun none (195, 16, ls, st, w) = zrun none (195, 18, ls, (.int 8 :: st), w) := (zE_ (i := .bipush 8) (by decide +kernel) _ _ _).trans rfl
theorem e195_18 (v0 v2 v3 v4 v5 : Value) (x : Int32) (st : List Value) (w : zH) : zrun none (195, 18, [v0, .int x, v2, v3, v4, v5], st, w) = zrun none (195, 19, [v0, .int x, v2, v3, v4, v5], (.int x :: st), w) := (zE_ (i := .iload_n 1) (by decide +kernel) _ _ _).trans rfl
theorem e195_19 (ls : List Value) (a b : Int32) (st : List Value) (w : zH) : zrun none (195, 19, ls, (.int b :: .int a :: st), w) = zrun none (195, 20, ls, (.int (a * b) :: st), w) := (zE_ (i := .imul) (by decide +kernel) _ _ _).trans rfl
theorem e195_20 (v0 v1 v2 v3 v5 : Value) (x : Int32) (st : List Value) (w : zH) : zrun none (195, 20, [v0, v1, v2, v3, .int x, v5], st, w) = zrun none (195, 22, [v0, v1, v2, v3, .int x, v5], (.int x :: st), w) := (zE_ (i := .iload 4) (by decide +kernel) _ _ _).trans rfl
theorem e195_22 (ls : List Value) (a b : Int32) (st : List Value) (w : zH) : zrun none (195, 22, ls, (.int b :: .int a :: st), w) = zrun none (195, 23, ls, (.int (a + b) :: st), w) := (zE_ (i := .iadd) (by decide +kernel) _ _ _).trans rfl
theorem e195_23 (ls : List Value) (j : Int32) (a : Nat) (st : List Value) (w : zH) : zrun none (195, 23, ls, (.int j :: .ref a :: st), w) = zoi (zai w a 100 j) (fun x => zrun none (195, 24, ls, (.int x :: st), w)) := (zE_ (i := .iaload) (by decide +kernel) _ _ _).trans zq_iald
theorem e195_24 (v0 v1 v2 v3 v4 v5 : Value) (x : Int32) (st : List Value) (w : zH) (h : v4.category = 1) : zrun none (195, 24, [v0, v1, v2, v3, v4, v5], (.int x :: st), w) = zrun none (195, 26, [v0, v1, v2, v3, v4, .int x], st, w) := by
  refine (zE_ (i := .istore 5) (by decide +kernel) _ _ _).trans ?_
  have hz : zfree [v0, v1, v2, v3, v4, v5] 5 = true := by show decide (v4.category = 1) = true; exact decide_eq_true h
  show zres (zst zint 5 2 195 24 [v0, v1, v2, v3, v4, v5] (.int x :: st) w) = _
  unfold zst
  dsimp only
  rw [if_pos ⟨rfl, Nat.le_of_ble_eq_true rfl, hz⟩]
  rfl
theorem e195_26 (v0 v1 v2 v4 v5 : Value) (x : Int32) (st : List Value) (w : zH) : zrun none (195, 26, [v0, v1, v2, .int x, v4, v5], st, w) = zrun none (195, 27, [v0, v1, v2, .int x, v4, v5], (.int x :: st), w) := (zE_ (i := .iload_n 3) (by decide +kernel) _ _ _).trans rfl
theorem e195_27 (ls : List Value) (a : Int32) (st : List Value) (w : zH) : zrun none (195, 27, ls, (.int a :: st), w) = if a = 0 then zrun none (195, 61, ls, st, w) else zrun none (195, 30, ls, st, w) := (zE_ (i := .ifCond .eq 34) (by decide +kernel) _ _ _).trans (zq_if_eq rfl rfl)
theorem e195_30 (v1 v2 v3 v4 v5 : Value) (x : Nat) (st : List Value) (w : zH) : zrun none (195, 30, [.ref x, v1, v2, v3, v4, v5], st, w) = zrun none (195, 31, [.ref x, v1, v2, v3, v4, v5], (.ref x :: st), w) := (zE_ (i := .aload_n 0) (by decide +kernel) _ _ _).trans rfl
theorem e195_31 (ls : List Value) (a : Nat) (st : List Value) (w : zH) : zrun none (195, 31, ls, (.ref a :: st), w) = zo (zf w a 1235) (fun x => zrun none (195, 34, ls, (x :: st), w)) := (zE_ (i := .getfield 1235) (by decide +kernel) _ _ _).trans zq_getf
theorem e195_34 (v0 v2 v3 v4 v5 : Value) (x : Int32) (st : List Value) (w : zH) : zrun none (195, 34, [v0, .int x, v2, v3, v4, v5], st, w) = zrun none (195, 35, [v0, .int x, v2, v3, v4, v5], (.int x :: st), w) := (zE_ (i := .iload_n 1) (by decide +kernel) _ _ _).trans rfl
theorem e195_35 (ls : List Value) (j : Int32) (a : Nat) (st : List Value) (w : zH) : zrun none (195, 35, ls, (.int j :: .ref a :: st), w) = zoi (zai w a 100 j) (fun x => zrun none (195, 36, ls, (.int x :: st), w)) := (zE_ (i := .iaload) (by decide +kernel) _ _ _).trans zq_iald
theorem e195_36 (v0 v1 v2 v3 v5 : Value) (x : Int32) (st : List Value) (w : zH) : zrun none (195, 36, [v0, v1, v2, v3, .int x, v5], st, w) = zrun none (195, 38, [v0, v1, v2, v3, .int x, v5], (.int x :: st), w) := (zE_ (i := .iload 4) (by decide +kernel) _ _ _).trans rfl
theorem e195_38 (ls : List Value) (a b : Int32) (st : List Value) (w : zH) : zrun none (195, 38, ls, (.int b :: .int a :: st), w) = zrun none (195, 39, ls, (.int (a >>> (b &&& 31)) :: st), w) := (zE_ (i := .ishr) (by decide +kernel) _ _ _).trans rfl
theorem e195_39 (ls st : List Value) (w : zH) : zrun none (195, 39, ls, st, w) = zrun none (195, 40, ls, (.int 1 :: st), w) := (zE_ (i := .iconst 1) (by decide +kernel) _ _ _).trans rfl
theorem e195_40 (ls : List Value) (a b : Int32) (st : List Value) (w : zH) : zrun none (195, 40, ls, (.int b :: .int a :: st), w) = zrun none (195, 41, ls, (.int (a &&& b) :: st), w) := (zE_ (i := .iand) (by decide +kernel) _ _ _).trans rfl
theorem e195_41 (ls : List Value) (a : Int32) (st : List Value) (w : zH) : zrun none (195, 41, ls, (.int a :: st), w) = if a = 0 then zrun none (195, 57, ls, st, w) else zrun none (195, 44, ls, st, w) := (zE_ (i := .ifCond .eq 16) (by decide +kernel) _ _ _).trans (zq_if_eq rfl rfl)
theorem e195_44 (v0 v1 v2 v3 v4 : Value) (x : Int32) (st : List Value) (w : zH) : zrun none (195, 44, [v0, v1, v2, v3, v4, .int x], st, w) = zrun none (195, 46, [v0, v1, v2, v3, v4, .int x], (.int x :: st), w) := (zE_ (i := .iload 5) (by decide +kernel) _ _ _).trans rfl
theorem e195_46 (ls st : List Value) (w : zH) : zrun none (195, 46, ls, st, w) = zrun none (195, 48, ls, (.int (-1000000) :: st), w) := (zE_ (i := .bipush (-1000000)) (by decide +kernel) _ _ _).trans rfl
theorem e195_48 (ls : List Value) (a b : Int32) (st : List Value) (w : zH) : zrun none (195, 48, ls, (.int b :: .int a :: st), w) = if a = b then zrun none (195, 61, ls, st, w) else zrun none (195, 51, ls, st, w) := (zE_ (i := .if_icmp .eq 13) (by decide +kernel) _ _ _).trans (zq_ic_eq rfl rfl)
theorem e195_51 (v0 v1 v2 v3 v4 : Value) (x : Int32) (st : List Value) (w : zH) : zrun none (195, 51, [v0, v1, v2, v3, v4, .int x], st, w) = zrun none (195, 53, [v0, v1, v2, v3, v4, .int x], (.int x :: st), w) := (zE_ (i := .iload 5) (by decide +kernel) _ _ _).trans rfl
theorem e195_53 (v0 v1 v3 v4 v5 : Value) (x : Int32) (st : List Value) (w : zH) : zrun none (195, 53, [v0, v1, .int x, v3, v4, v5], st, w) = zrun none (195, 54, [v0, v1, .int x, v3, v4, v5], (.int x :: st), w) := (zE_ (i := .iload_n 2) (by decide +kernel) _ _ _).trans rfl
theorem e195_54 (ls : List Value) (a b : Int32) (st : List Value) (w : zH) : zrun none (195, 54, ls, (.int b :: .int a :: st), w) = if b < a then zrun none (195, 61, ls, st, w) else zrun none (195, 57, ls, st, w) := (zE_ (i := .if_icmp .gt 7) (by decide +kernel) _ _ _).trans (zq_ic_gt rfl rfl)
theorem e195_57 (ls st : List Value) (w : zH) : zrun none (195, 57, ls, st, w) = zrun none (195, 58, ls, (.int 1 :: st), w) := (zE_ (i := .iconst 1) (by decide +kernel) _ _ _).trans rfl
theorem e195_58 (ls st : List Value) (w : zH) : zrun none (195, 58, ls, st, w) = zrun none (195, 62, ls, st, w) := (zE_ (i := .goto 4) (by decide +kernel) _ _ _).trans rfl
theorem e195_61 (ls st : List Value) (w : zH) : zrun none (195, 61, ls, st, w) = zrun none (195, 62, ls, (.int 0 :: st), w) := (zE_ (i := .iconst 0) (by decide +kernel) _ _ _).trans rfl
theorem e195_62 (v0 v1 v2 v3 v4 v5 : Value) (x : Int32) (st : List Value) (w : zH) (h : v2.category = 1) : zrun none (195, 62, [v0, v1, v2, v3, v4, v5], (.int x :: st), w) = zrun none (195, 63, [v0, v1, v2, .int x, v4, v5], st, w) := by
  refine (zE_ (i := .istore_n 3) (by decide +kernel) _ _ _).trans ?_
  have hz : zfree [v0, v1, v2, v3, v4, v5] 3 = true := by show decide (v2.category = 1) = true; exact decide_eq_true h
  show zres (zst zint 3 1 195 62 [v0, v1, v2, v3, v4, v5] (.int x :: st) w) = _
  unfold zst
  dsimp only
  rw [if_pos ⟨rfl, Nat.le_of_ble_eq_true rfl, hz⟩]
  rfl
theorem e195_63 (v0 v1 v2 v3 v5 : Value) (x : Int32) (st : List Value) (w : zH) : zrun none (195, 63, [v0, v1, v2, v3, .int x, v5], st, w) = zrun none (195, 66, [v0, v1, v2, v3, .int (x + 1), v5], st, w) := (zE_ (i := .iinc 4 1) (by decide +kernel) _ _ _).trans rfl
theorem e195_66 (ls st : List Value) (w : zH) : zrun none (195, 66, ls, st, w) = zrun none (195, 5, ls, st, w) := (zE_ (i := .goto (-61)) (by decide +kernel) _ _ _).trans rfl
theorem e195_69 (v0 v1 v2 v4 v5 : Value) (x : Int32) (st : List Value) (w : zH) : zrun none (195, 69, [v0, v1, v2, .int x, v4, v5], st, w) = zrun none (195, 70, [v0, v1, v2, .int x, v4, v5], (.int x :: st), w) := (zE_ (i := .iload_n 3) (by decide +kernel) _ _ _).trans rfl
theorem e195_70 (ls : List Value) (x : Int32) (w : zH) (h : narrow .boolean (.int x) = .int x) : zrun none (195, 70, ls, [.int x], w) = some (some (.int x), w) := by
  refine (zE_ (i := .ireturn) (by decide +kernel) _ _ _).trans ?_
  show zres (if narrow .boolean (.int x) = .int x then _ else none) = _
  rw [if_pos h]
  rfl
theorem e196_0 (v1 v2 v3 v4 v5 : Value) (x : Nat) (st : List Value) (w : zH) : zrun none (196, 0, [.ref x, v1, v2, v3, v4, v5], st, w) = zrun none (196, 1, [.ref x, v1, v2, v3, v4, v5], (.ref x :: st), w) := (zE_ (i := .aload_n 0) (by decide +kernel) _ _ _).trans rfl
theorem e196_1 (ls : List Value) (a : Nat) (st : List Value) (w : zH) : zrun none (196, 1, ls, (.ref a :: st), w) = zo (zf w a 1243) (fun x => zrun none (196, 4, ls, (x :: st), w)) := (zE_ (i := .getfield 1243) (by decide +kernel) _ _ _).trans zq_getf
theorem e196_4 (v0 v2 v3 v4 v5 : Value) (x : Int32) (st : List Value) (w : zH) : zrun none (196, 4, [v0, .int x, v2, v3, v4, v5], st, w) = zrun none (196, 5, [v0, .int x, v2, v3, v4, v5], (.int x :: st), w) := (zE_ (i := .iload_n 1) (by decide +kernel) _ _ _).trans rfl
theorem e196_5 (ls : List Value) (j : Int32) (a : Nat) (st : List Value) (w : zH) : zrun none (196, 5, ls, (.int j :: .ref a :: st), w) = zoi (zai w a 100 j) (fun x => zrun none (196, 6, ls, (.int x :: st), w)) := (zE_ (i := .iaload) (by decide +kernel) _ _ _).trans zq_iald
theorem e196_6 (v0 v1 v2 v3 v4 v5 : Value) (x : Int32) (st : List Value) (w : zH) (h : v1.category = 1) : zrun none (196, 6, [v0, v1, v2, v3, v4, v5], (.int x :: st), w) = zrun none (196, 7, [v0, v1, .int x, v3, v4, v5], st, w) := by
  refine (zE_ (i := .istore_n 2) (by decide +kernel) _ _ _).trans ?_
  have hz : zfree [v0, v1, v2, v3, v4, v5] 2 = true := by show decide (v1.category = 1) = true; exact decide_eq_true h
  show zres (zst zint 2 1 196 6 [v0, v1, v2, v3, v4, v5] (.int x :: st) w) = _
  unfold zst
  dsimp only
  rw [if_pos ⟨rfl, Nat.le_of_ble_eq_true rfl, hz⟩]
  rfl
theorem e196_7 (v1 v2 v3 v4 v5 : Value) (x : Nat) (st : List Value) (w : zH) : zrun none (196, 7, [.ref x, v1, v2, v3, v4, v5], st, w) = zrun none (196, 8, [.ref x, v1, v2, v3, v4, v5], (.ref x :: st), w) := (zE_ (i := .aload_n 0) (by decide +kernel) _ _ _).trans rfl
theorem e196_8 (v1 v2 v3 v4 v5 : Value) (x : Nat) (st : List Value) (w : zH) : zrun none (196, 8, [.ref x, v1, v2, v3, v4, v5], st, w) = zrun none (196, 9, [.ref x, v1, v2, v3, v4, v5], (.ref x :: st), w) := (zE_ (i := .aload_n 0) (by decide +kernel) _ _ _).trans rfl
theorem e196_9 (ls : List Value) (a : Nat) (st : List Value) (w : zH) : zrun none (196, 9, ls, (.ref a :: st), w) = zo (zf w a 1241) (fun x => zrun none (196, 12, ls, (x :: st), w)) := (zE_ (i := .getfield 1241) (by decide +kernel) _ _ _).trans zq_getf
theorem e196_12 (v0 v2 v3 v4 v5 : Value) (x : Int32) (st : List Value) (w : zH) : zrun none (196, 12, [v0, .int x, v2, v3, v4, v5], st, w) = zrun none (196, 13, [v0, .int x, v2, v3, v4, v5], (.int x :: st), w) := (zE_ (i := .iload_n 1) (by decide +kernel) _ _ _).trans rfl
theorem e196_13 (ls : List Value) (j : Int32) (a : Nat) (st : List Value) (w : zH) : zrun none (196, 13, ls, (.int j :: .ref a :: st), w) = zoi (zai w a 100 j) (fun x => zrun none (196, 14, ls, (.int x :: st), w)) := (zE_ (i := .iaload) (by decide +kernel) _ _ _).trans zq_iald
theorem e196_14 (v1 v2 v3 v4 v5 : Value) (x : Nat) (st : List Value) (w : zH) : zrun none (196, 14, [.ref x, v1, v2, v3, v4, v5], st, w) = zrun none (196, 15, [.ref x, v1, v2, v3, v4, v5], (.ref x :: st), w) := (zE_ (i := .aload_n 0) (by decide +kernel) _ _ _).trans rfl
theorem e196_15 (ls : List Value) (a : Nat) (st : List Value) (w : zH) : zrun none (196, 15, ls, (.ref a :: st), w) = zo (zf w a 1242) (fun x => zrun none (196, 18, ls, (x :: st), w)) := (zE_ (i := .getfield 1242) (by decide +kernel) _ _ _).trans zq_getf
theorem e196_18 (v0 v2 v3 v4 v5 : Value) (x : Int32) (st : List Value) (w : zH) : zrun none (196, 18, [v0, .int x, v2, v3, v4, v5], st, w) = zrun none (196, 19, [v0, .int x, v2, v3, v4, v5], (.int x :: st), w) := (zE_ (i := .iload_n 1) (by decide +kernel) _ _ _).trans rfl
theorem e196_19 (ls : List Value) (j : Int32) (a : Nat) (st : List Value) (w : zH) : zrun none (196, 19, ls, (.int j :: .ref a :: st), w) = zoi (zai w a 100 j) (fun x => zrun none (196, 20, ls, (.int x :: st), w)) := (zE_ (i := .iaload) (by decide +kernel) _ _ _).trans zq_iald
theorem e196_20 (v0 v1 v3 v4 v5 : Value) (x : Int32) (st : List Value) (w : zH) : zrun none (196, 20, [v0, v1, .int x, v3, v4, v5], st, w) = zrun none (196, 21, [v0, v1, .int x, v3, v4, v5], (.int x :: st), w) := (zE_ (i := .iload_n 2) (by decide +kernel) _ _ _).trans rfl
theorem e196_21 (ls : List Value) (a : Nat) (x0 : Int32) (x1 : Int32) (x2 : Int32) (st : List Value) (w : zH) (hr : zcat st ≤ 8) : zrun none (196, 21, ls, (.int x2 :: .int x1 :: .int x0 :: .ref a :: st), w) = zgd (zis w a 12) (zcl (zrun none (183, 0, [.ref a, .int x0, .int x1, .int x2, zJ], [], w)) (fun r => zrun none (196, 24, ls, r.1.toList ++ st, r.2))) := by
  refine (zE_ (i := .invokevirtual 183) (by decide +kernel) _ _ _).trans ?_
  show zres (zinv none 183 196 21 ls (.int x2 :: .int x1 :: .int x0 :: .ref a :: st) w) = _
  unfold zinv
  show zres (if zrc none 183 w (.ref a) = true then zcall 183 [.ref a, .int x0, .int x1, .int x2] st 196 21 ls w else none) = _
  by_cases hc : zis w a 12
  · rw [if_pos (zrc_is hc (by decide +kernel)), zgd_pos hc]
    exact zq_call hr (Nat.le_of_ble_eq_true rfl) rfl rfl
  · rw [zgd_neg hc, if_neg (fun q => hc (zrc_of q (by decide +kernel)))]
    rfl
theorem e196_24 (ls : List Value) (a : Int32) (st : List Value) (w : zH) : zrun none (196, 24, ls, (.int a :: st), w) = if a = 0 then zrun none (196, 27, ls, st, w) else zrun none (196, 29, ls, st, w) := (zE_ (i := .ifCond .ne 5) (by decide +kernel) _ _ _).trans (zq_if_ne rfl rfl)
theorem e196_27 (ls st : List Value) (w : zH) : zrun none (196, 27, ls, st, w) = zrun none (196, 28, ls, (.int 0 :: st), w) := (zE_ (i := .iconst 0) (by decide +kernel) _ _ _).trans rfl
theorem e196_28 (ls : List Value) (x : Int32) (w : zH) : zrun none (196, 28, ls, [.int x], w) = some (some (.int x), w) := by
  refine (zE_ (i := .ireturn) (by decide +kernel) _ _ _).trans ?_
  show zres (if narrow .int (.int x) = .int x then _ else none) = _
  rw [if_pos (show narrow .int (.int x) = .int x from rfl)]
  rfl
theorem e196_29 (ls st : List Value) (w : zH) : zrun none (196, 29, ls, st, w) = zrun none (196, 30, ls, (.int 5 :: st), w) := (zE_ (i := .iconst 5) (by decide +kernel) _ _ _).trans rfl
theorem e196_30 (v0 v1 v2 v3 v4 v5 : Value) (x : Int32) (st : List Value) (w : zH) (h : v2.category = 1) : zrun none (196, 30, [v0, v1, v2, v3, v4, v5], (.int x :: st), w) = zrun none (196, 31, [v0, v1, v2, .int x, v4, v5], st, w) := by
  refine (zE_ (i := .istore_n 3) (by decide +kernel) _ _ _).trans ?_
  have hz : zfree [v0, v1, v2, v3, v4, v5] 3 = true := by show decide (v2.category = 1) = true; exact decide_eq_true h
  show zres (zst zint 3 1 196 30 [v0, v1, v2, v3, v4, v5] (.int x :: st) w) = _
  unfold zst
  dsimp only
  rw [if_pos ⟨rfl, Nat.le_of_ble_eq_true rfl, hz⟩]
  rfl
theorem e196_31 (ls st : List Value) (w : zH) : zrun none (196, 31, ls, st, w) = zrun none (196, 32, ls, (.int 0 :: st), w) := (zE_ (i := .iconst 0) (by decide +kernel) _ _ _).trans rfl
theorem e196_32 (v0 v1 v2 v3 v4 v5 : Value) (x : Int32) (st : List Value) (w : zH) (h : v3.category = 1) : zrun none (196, 32, [v0, v1, v2, v3, v4, v5], (.int x :: st), w) = zrun none (196, 34, [v0, v1, v2, v3, .int x, v5], st, w) := by
  refine (zE_ (i := .istore 4) (by decide +kernel) _ _ _).trans ?_
  have hz : zfree [v0, v1, v2, v3, v4, v5] 4 = true := by show decide (v3.category = 1) = true; exact decide_eq_true h
  show zres (zst zint 4 2 196 32 [v0, v1, v2, v3, v4, v5] (.int x :: st) w) = _
  unfold zst
  dsimp only
  rw [if_pos ⟨rfl, Nat.le_of_ble_eq_true rfl, hz⟩]
  rfl
theorem e196_34 (v0 v1 v2 v3 v5 : Value) (x : Int32) (st : List Value) (w : zH) : zrun none (196, 34, [v0, v1, v2, v3, .int x, v5], st, w) = zrun none (196, 36, [v0, v1, v2, v3, .int x, v5], (.int x :: st), w) := (zE_ (i := .iload 4) (by decide +kernel) _ _ _).trans rfl
theorem e196_36 (v1 v2 v3 v4 v5 : Value) (x : Nat) (st : List Value) (w : zH) : zrun none (196, 36, [.ref x, v1, v2, v3, v4, v5], st, w) = zrun none (196, 37, [.ref x, v1, v2, v3, v4, v5], (.ref x :: st), w) := (zE_ (i := .aload_n 0) (by decide +kernel) _ _ _).trans rfl
theorem e196_37 (ls : List Value) (a : Nat) (st : List Value) (w : zH) : zrun none (196, 37, ls, (.ref a :: st), w) = zo (zf w a 1230) (fun x => zrun none (196, 40, ls, (x :: st), w)) := (zE_ (i := .getfield 1230) (by decide +kernel) _ _ _).trans zq_getf
theorem e196_40 (ls : List Value) (a b : Int32) (st : List Value) (w : zH) : zrun none (196, 40, ls, (.int b :: .int a :: st), w) = if b ≤ a then zrun none (196, 154, ls, st, w) else zrun none (196, 43, ls, st, w) := (zE_ (i := .if_icmp .ge 114) (by decide +kernel) _ _ _).trans (zq_ic_ge rfl rfl)
theorem e196_43 (v1 v2 v3 v4 v5 : Value) (x : Nat) (st : List Value) (w : zH) : zrun none (196, 43, [.ref x, v1, v2, v3, v4, v5], st, w) = zrun none (196, 44, [.ref x, v1, v2, v3, v4, v5], (.ref x :: st), w) := (zE_ (i := .aload_n 0) (by decide +kernel) _ _ _).trans rfl
theorem e196_44 (ls : List Value) (a : Nat) (st : List Value) (w : zH) : zrun none (196, 44, ls, (.ref a :: st), w) = zo (zf w a 1231) (fun x => zrun none (196, 47, ls, (x :: st), w)) := (zE_ (i := .getfield 1231) (by decide +kernel) _ _ _).trans zq_getf
theorem e196_47 (v0 v1 v2 v3 v5 : Value) (x : Int32) (st : List Value) (w : zH) : zrun none (196, 47, [v0, v1, v2, v3, .int x, v5], st, w) = zrun none (196, 49, [v0, v1, v2, v3, .int x, v5], (.int x :: st), w) := (zE_ (i := .iload 4) (by decide +kernel) _ _ _).trans rfl
theorem e196_49 (ls : List Value) (j : Int32) (a : Nat) (st : List Value) (w : zH) : zrun none (196, 49, ls, (.int j :: .ref a :: st), w) = zoi (zai w a 100 j) (fun x => zrun none (196, 50, ls, (.int x :: st), w)) := (zE_ (i := .iaload) (by decide +kernel) _ _ _).trans zq_iald
theorem e196_50 (v1 v2 v3 v4 v5 : Value) (x : Nat) (st : List Value) (w : zH) : zrun none (196, 50, [.ref x, v1, v2, v3, v4, v5], st, w) = zrun none (196, 51, [.ref x, v1, v2, v3, v4, v5], (.ref x :: st), w) := (zE_ (i := .aload_n 0) (by decide +kernel) _ _ _).trans rfl
theorem e196_51 (ls : List Value) (a : Nat) (st : List Value) (w : zH) : zrun none (196, 51, ls, (.ref a :: st), w) = zo (zf w a 1241) (fun x => zrun none (196, 54, ls, (x :: st), w)) := (zE_ (i := .getfield 1241) (by decide +kernel) _ _ _).trans zq_getf
theorem e196_54 (v0 v2 v3 v4 v5 : Value) (x : Int32) (st : List Value) (w : zH) : zrun none (196, 54, [v0, .int x, v2, v3, v4, v5], st, w) = zrun none (196, 55, [v0, .int x, v2, v3, v4, v5], (.int x :: st), w) := (zE_ (i := .iload_n 1) (by decide +kernel) _ _ _).trans rfl
theorem e196_55 (ls : List Value) (j : Int32) (a : Nat) (st : List Value) (w : zH) : zrun none (196, 55, ls, (.int j :: .ref a :: st), w) = zoi (zai w a 100 j) (fun x => zrun none (196, 56, ls, (.int x :: st), w)) := (zE_ (i := .iaload) (by decide +kernel) _ _ _).trans zq_iald
theorem e196_56 (ls : List Value) (a b : Int32) (st : List Value) (w : zH) : zrun none (196, 56, ls, (.int b :: .int a :: st), w) = if a = b then zrun none (196, 59, ls, st, w) else zrun none (196, 148, ls, st, w) := (zE_ (i := .if_icmp .ne 92) (by decide +kernel) _ _ _).trans (zq_ic_ne rfl rfl)
theorem e196_59 (v1 v2 v3 v4 v5 : Value) (x : Nat) (st : List Value) (w : zH) : zrun none (196, 59, [.ref x, v1, v2, v3, v4, v5], st, w) = zrun none (196, 60, [.ref x, v1, v2, v3, v4, v5], (.ref x :: st), w) := (zE_ (i := .aload_n 0) (by decide +kernel) _ _ _).trans rfl
theorem e196_60 (ls : List Value) (a : Nat) (st : List Value) (w : zH) : zrun none (196, 60, ls, (.ref a :: st), w) = zo (zf w a 1232) (fun x => zrun none (196, 63, ls, (x :: st), w)) := (zE_ (i := .getfield 1232) (by decide +kernel) _ _ _).trans zq_getf
theorem e196_63 (v0 v1 v2 v3 v5 : Value) (x : Int32) (st : List Value) (w : zH) : zrun none (196, 63, [v0, v1, v2, v3, .int x, v5], st, w) = zrun none (196, 65, [v0, v1, v2, v3, .int x, v5], (.int x :: st), w) := (zE_ (i := .iload 4) (by decide +kernel) _ _ _).trans rfl
theorem e196_65 (ls : List Value) (j : Int32) (a : Nat) (st : List Value) (w : zH) : zrun none (196, 65, ls, (.int j :: .ref a :: st), w) = zoi (zai w a 100 j) (fun x => zrun none (196, 66, ls, (.int x :: st), w)) := (zE_ (i := .iaload) (by decide +kernel) _ _ _).trans zq_iald
theorem e196_66 (v1 v2 v3 v4 v5 : Value) (x : Nat) (st : List Value) (w : zH) : zrun none (196, 66, [.ref x, v1, v2, v3, v4, v5], st, w) = zrun none (196, 67, [.ref x, v1, v2, v3, v4, v5], (.ref x :: st), w) := (zE_ (i := .aload_n 0) (by decide +kernel) _ _ _).trans rfl
theorem e196_67 (ls : List Value) (a : Nat) (st : List Value) (w : zH) : zrun none (196, 67, ls, (.ref a :: st), w) = zo (zf w a 1242) (fun x => zrun none (196, 70, ls, (x :: st), w)) := (zE_ (i := .getfield 1242) (by decide +kernel) _ _ _).trans zq_getf
theorem e196_70 (v0 v2 v3 v4 v5 : Value) (x : Int32) (st : List Value) (w : zH) : zrun none (196, 70, [v0, .int x, v2, v3, v4, v5], st, w) = zrun none (196, 71, [v0, .int x, v2, v3, v4, v5], (.int x :: st), w) := (zE_ (i := .iload_n 1) (by decide +kernel) _ _ _).trans rfl
theorem e196_71 (ls : List Value) (j : Int32) (a : Nat) (st : List Value) (w : zH) : zrun none (196, 71, ls, (.int j :: .ref a :: st), w) = zoi (zai w a 100 j) (fun x => zrun none (196, 72, ls, (.int x :: st), w)) := (zE_ (i := .iaload) (by decide +kernel) _ _ _).trans zq_iald
theorem e196_72 (ls : List Value) (a b : Int32) (st : List Value) (w : zH) : zrun none (196, 72, ls, (.int b :: .int a :: st), w) = if a = b then zrun none (196, 75, ls, st, w) else zrun none (196, 148, ls, st, w) := (zE_ (i := .if_icmp .ne 76) (by decide +kernel) _ _ _).trans (zq_ic_ne rfl rfl)
theorem e196_75 (v0 v1 v3 v4 v5 : Value) (x : Int32) (st : List Value) (w : zH) : zrun none (196, 75, [v0, v1, .int x, v3, v4, v5], st, w) = zrun none (196, 76, [v0, v1, .int x, v3, v4, v5], (.int x :: st), w) := (zE_ (i := .iload_n 2) (by decide +kernel) _ _ _).trans rfl
theorem e196_76 (ls : List Value) (a : Int32) (st : List Value) (w : zH) : zrun none (196, 76, ls, (.int a :: st), w) = zrun none (196, 77, ls, (.long a.toInt64 :: st), w) := (zE_ (i := .i2l) (by decide +kernel) _ _ _).trans rfl
theorem e196_77 (v1 v2 v3 v4 v5 : Value) (x : Nat) (st : List Value) (w : zH) : zrun none (196, 77, [.ref x, v1, v2, v3, v4, v5], st, w) = zrun none (196, 78, [.ref x, v1, v2, v3, v4, v5], (.ref x :: st), w) := (zE_ (i := .aload_n 0) (by decide +kernel) _ _ _).trans rfl
theorem e196_78 (ls : List Value) (a : Nat) (st : List Value) (w : zH) : zrun none (196, 78, ls, (.ref a :: st), w) = zo (zf w a 1233) (fun x => zrun none (196, 81, ls, (x :: st), w)) := (zE_ (i := .getfield 1233) (by decide +kernel) _ _ _).trans zq_getf
theorem e196_81 (v0 v1 v2 v3 v5 : Value) (x : Int32) (st : List Value) (w : zH) : zrun none (196, 81, [v0, v1, v2, v3, .int x, v5], st, w) = zrun none (196, 83, [v0, v1, v2, v3, .int x, v5], (.int x :: st), w) := (zE_ (i := .iload 4) (by decide +kernel) _ _ _).trans rfl
theorem e196_83 (ls : List Value) (j : Int32) (a : Nat) (st : List Value) (w : zH) : zrun none (196, 83, ls, (.int j :: .ref a :: st), w) = zoi (zai w a 100 j) (fun x => zrun none (196, 84, ls, (.int x :: st), w)) := (zE_ (i := .iaload) (by decide +kernel) _ _ _).trans zq_iald
theorem e196_84 (ls : List Value) (a : Int32) (st : List Value) (w : zH) : zrun none (196, 84, ls, (.int a :: st), w) = zrun none (196, 85, ls, (.long a.toInt64 :: st), w) := (zE_ (i := .i2l) (by decide +kernel) _ _ _).trans rfl
theorem e196_85 (v1 v2 v3 v4 v5 : Value) (x : Nat) (st : List Value) (w : zH) : zrun none (196, 85, [.ref x, v1, v2, v3, v4, v5], st, w) = zrun none (196, 86, [.ref x, v1, v2, v3, v4, v5], (.ref x :: st), w) := (zE_ (i := .aload_n 0) (by decide +kernel) _ _ _).trans rfl
theorem e196_86 (ls : List Value) (a : Nat) (st : List Value) (w : zH) : zrun none (196, 86, ls, (.ref a :: st), w) = zo (zf w a 1234) (fun x => zrun none (196, 89, ls, (x :: st), w)) := (zE_ (i := .getfield 1234) (by decide +kernel) _ _ _).trans zq_getf
theorem e196_89 (v0 v1 v2 v3 v5 : Value) (x : Int32) (st : List Value) (w : zH) : zrun none (196, 89, [v0, v1, v2, v3, .int x, v5], st, w) = zrun none (196, 91, [v0, v1, v2, v3, .int x, v5], (.int x :: st), w) := (zE_ (i := .iload 4) (by decide +kernel) _ _ _).trans rfl
theorem e196_91 (ls : List Value) (j : Int32) (a : Nat) (st : List Value) (w : zH) : zrun none (196, 91, ls, (.int j :: .ref a :: st), w) = zoi (zai w a 100 j) (fun x => zrun none (196, 92, ls, (.int x :: st), w)) := (zE_ (i := .iaload) (by decide +kernel) _ _ _).trans zq_iald
theorem e196_92 (ls : List Value) (a : Int32) (st : List Value) (w : zH) : zrun none (196, 92, ls, (.int a :: st), w) = zrun none (196, 93, ls, (.long a.toInt64 :: st), w) := (zE_ (i := .i2l) (by decide +kernel) _ _ _).trans rfl
theorem e196_93 (ls : List Value) (x0 : Int64) (x1 : Int64) (x2 : Int64) (st : List Value) (w : zH) (hr : zcat st ≤ 8) : zrun none (196, 93, ls, (.long x2 :: .long x1 :: .long x0 :: st), w) = zcl (zrun none (146, 0, [.long x0, zJ, .long x1, zJ, .long x2, zJ], [], w)) (fun r => zrun none (196, 96, ls, r.1.toList ++ st, r.2)) := by
  refine (zE_ (i := .invokestatic 146) (by decide +kernel) _ _ _).trans ?_
  show zres (if (99 : Nat) = 99 ∧ 3 ≤ ((.long x2 :: .long x1 :: .long x0 :: st) : List Value).length then zcall 146 [.long x0, .long x1, .long x2] st 196 93 ls w else none) = _
  rw [if_pos ⟨rfl, by simp⟩]
  exact zq_call hr (Nat.le_of_ble_eq_true rfl) rfl rfl
theorem e196_96 (ls : List Value) (a : Int32) (st : List Value) (w : zH) : zrun none (196, 96, ls, (.int a :: st), w) = if a = 0 then zrun none (196, 117, ls, st, w) else zrun none (196, 99, ls, st, w) := (zE_ (i := .ifCond .eq 21) (by decide +kernel) _ _ _).trans (zq_if_eq rfl rfl)
theorem e196_99 (v1 v2 v3 v4 v5 : Value) (x : Nat) (st : List Value) (w : zH) : zrun none (196, 99, [.ref x, v1, v2, v3, v4, v5], st, w) = zrun none (196, 100, [.ref x, v1, v2, v3, v4, v5], (.ref x :: st), w) := (zE_ (i := .aload_n 0) (by decide +kernel) _ _ _).trans rfl
theorem e196_100 (v0 v1 v2 v3 v5 : Value) (x : Int32) (st : List Value) (w : zH) : zrun none (196, 100, [v0, v1, v2, v3, .int x, v5], st, w) = zrun none (196, 102, [v0, v1, v2, v3, .int x, v5], (.int x :: st), w) := (zE_ (i := .iload 4) (by decide +kernel) _ _ _).trans rfl
theorem e196_102 (v0 v1 v3 v4 v5 : Value) (x : Int32) (st : List Value) (w : zH) : zrun none (196, 102, [v0, v1, .int x, v3, v4, v5], st, w) = zrun none (196, 103, [v0, v1, .int x, v3, v4, v5], (.int x :: st), w) := (zE_ (i := .iload_n 2) (by decide +kernel) _ _ _).trans rfl
theorem e196_103 (ls : List Value) (a : Nat) (x0 : Int32) (x1 : Int32) (st : List Value) (w : zH) (hr : zcat st ≤ 8) : zrun none (196, 103, ls, (.int x1 :: .int x0 :: .ref a :: st), w) = zgd (zis w a 12) (zcl (zrun none (195, 0, [.ref a, .int x0, .int x1, zJ, zJ, zJ], [], w)) (fun r => zrun none (196, 106, ls, r.1.toList ++ st, r.2))) := by
  refine (zE_ (i := .invokevirtual 195) (by decide +kernel) _ _ _).trans ?_
  show zres (zinv none 195 196 103 ls (.int x1 :: .int x0 :: .ref a :: st) w) = _
  unfold zinv
  show zres (if zrc none 195 w (.ref a) = true then zcall 195 [.ref a, .int x0, .int x1] st 196 103 ls w else none) = _
  by_cases hc : zis w a 12
  · rw [if_pos (zrc_is hc (by decide +kernel)), zgd_pos hc]
    exact zq_call hr (Nat.le_of_ble_eq_true rfl) rfl rfl
  · rw [zgd_neg hc, if_neg (fun q => hc (zrc_of q (by decide +kernel)))]
    rfl
theorem e196_106 (ls : List Value) (a : Int32) (st : List Value) (w : zH) : zrun none (196, 106, ls, (.int a :: st), w) = if a = 0 then zrun none (196, 113, ls, st, w) else zrun none (196, 109, ls, st, w) := (zE_ (i := .ifCond .eq 7) (by decide +kernel) _ _ _).trans (zq_if_eq rfl rfl)
theorem e196_109 (ls st : List Value) (w : zH) : zrun none (196, 109, ls, st, w) = zrun none (196, 110, ls, (.int 1 :: st), w) := (zE_ (i := .iconst 1) (by decide +kernel) _ _ _).trans rfl
theorem e196_110 (ls st : List Value) (w : zH) : zrun none (196, 110, ls, st, w) = zrun none (196, 133, ls, st, w) := (zE_ (i := .goto 23) (by decide +kernel) _ _ _).trans rfl
theorem e196_113 (ls st : List Value) (w : zH) : zrun none (196, 113, ls, st, w) = zrun none (196, 114, ls, (.int 2 :: st), w) := (zE_ (i := .iconst 2) (by decide +kernel) _ _ _).trans rfl
theorem e196_114 (ls st : List Value) (w : zH) : zrun none (196, 114, ls, st, w) = zrun none (196, 133, ls, st, w) := (zE_ (i := .goto 19) (by decide +kernel) _ _ _).trans rfl
theorem e196_117 (v1 v2 v3 v4 v5 : Value) (x : Nat) (st : List Value) (w : zH) : zrun none (196, 117, [.ref x, v1, v2, v3, v4, v5], st, w) = zrun none (196, 118, [.ref x, v1, v2, v3, v4, v5], (.ref x :: st), w) := (zE_ (i := .aload_n 0) (by decide +kernel) _ _ _).trans rfl
theorem e196_118 (ls : List Value) (a : Nat) (st : List Value) (w : zH) : zrun none (196, 118, ls, (.ref a :: st), w) = zo (zf w a 1234) (fun x => zrun none (196, 121, ls, (x :: st), w)) := (zE_ (i := .getfield 1234) (by decide +kernel) _ _ _).trans zq_getf
theorem e196_121 (v0 v1 v2 v3 v5 : Value) (x : Int32) (st : List Value) (w : zH) : zrun none (196, 121, [v0, v1, v2, v3, .int x, v5], st, w) = zrun none (196, 123, [v0, v1, v2, v3, .int x, v5], (.int x :: st), w) := (zE_ (i := .iload 4) (by decide +kernel) _ _ _).trans rfl
theorem e196_123 (ls : List Value) (j : Int32) (a : Nat) (st : List Value) (w : zH) : zrun none (196, 123, ls, (.int j :: .ref a :: st), w) = zoi (zai w a 100 j) (fun x => zrun none (196, 124, ls, (.int x :: st), w)) := (zE_ (i := .iaload) (by decide +kernel) _ _ _).trans zq_iald
theorem e196_124 (v0 v1 v3 v4 v5 : Value) (x : Int32) (st : List Value) (w : zH) : zrun none (196, 124, [v0, v1, .int x, v3, v4, v5], st, w) = zrun none (196, 125, [v0, v1, .int x, v3, v4, v5], (.int x :: st), w) := (zE_ (i := .iload_n 2) (by decide +kernel) _ _ _).trans rfl
theorem e196_125 (ls : List Value) (a b : Int32) (st : List Value) (w : zH) : zrun none (196, 125, ls, (.int b :: .int a :: st), w) = if b ≤ a then zrun none (196, 132, ls, st, w) else zrun none (196, 128, ls, st, w) := (zE_ (i := .if_icmp .ge 7) (by decide +kernel) _ _ _).trans (zq_ic_ge rfl rfl)
theorem e196_128 (ls st : List Value) (w : zH) : zrun none (196, 128, ls, st, w) = zrun none (196, 129, ls, (.int 3 :: st), w) := (zE_ (i := .iconst 3) (by decide +kernel) _ _ _).trans rfl
theorem e196_129 (ls st : List Value) (w : zH) : zrun none (196, 129, ls, st, w) = zrun none (196, 133, ls, st, w) := (zE_ (i := .goto 4) (by decide +kernel) _ _ _).trans rfl
theorem e196_132 (ls st : List Value) (w : zH) : zrun none (196, 132, ls, st, w) = zrun none (196, 133, ls, (.int 4 :: st), w) := (zE_ (i := .iconst 4) (by decide +kernel) _ _ _).trans rfl
theorem e196_133 (v0 v1 v2 v3 v4 v5 : Value) (x : Int32) (st : List Value) (w : zH) (h : v4.category = 1) : zrun none (196, 133, [v0, v1, v2, v3, v4, v5], (.int x :: st), w) = zrun none (196, 135, [v0, v1, v2, v3, v4, .int x], st, w) := by
  refine (zE_ (i := .istore 5) (by decide +kernel) _ _ _).trans ?_
  have hz : zfree [v0, v1, v2, v3, v4, v5] 5 = true := by show decide (v4.category = 1) = true; exact decide_eq_true h
  show zres (zst zint 5 2 196 133 [v0, v1, v2, v3, v4, v5] (.int x :: st) w) = _
  unfold zst
  dsimp only
  rw [if_pos ⟨rfl, Nat.le_of_ble_eq_true rfl, hz⟩]
  rfl
theorem e196_135 (v0 v1 v2 v3 v4 : Value) (x : Int32) (st : List Value) (w : zH) : zrun none (196, 135, [v0, v1, v2, v3, v4, .int x], st, w) = zrun none (196, 137, [v0, v1, v2, v3, v4, .int x], (.int x :: st), w) := (zE_ (i := .iload 5) (by decide +kernel) _ _ _).trans rfl
theorem e196_137 (v0 v1 v2 v4 v5 : Value) (x : Int32) (st : List Value) (w : zH) : zrun none (196, 137, [v0, v1, v2, .int x, v4, v5], st, w) = zrun none (196, 138, [v0, v1, v2, .int x, v4, v5], (.int x :: st), w) := (zE_ (i := .iload_n 3) (by decide +kernel) _ _ _).trans rfl
theorem e196_138 (ls : List Value) (a b : Int32) (st : List Value) (w : zH) : zrun none (196, 138, ls, (.int b :: .int a :: st), w) = if b ≤ a then zrun none (196, 146, ls, st, w) else zrun none (196, 141, ls, st, w) := (zE_ (i := .if_icmp .ge 8) (by decide +kernel) _ _ _).trans (zq_ic_ge rfl rfl)
theorem e196_141 (v0 v1 v2 v3 v4 : Value) (x : Int32) (st : List Value) (w : zH) : zrun none (196, 141, [v0, v1, v2, v3, v4, .int x], st, w) = zrun none (196, 143, [v0, v1, v2, v3, v4, .int x], (.int x :: st), w) := (zE_ (i := .iload 5) (by decide +kernel) _ _ _).trans rfl
theorem e196_143 (ls st : List Value) (w : zH) : zrun none (196, 143, ls, st, w) = zrun none (196, 147, ls, st, w) := (zE_ (i := .goto 4) (by decide +kernel) _ _ _).trans rfl
theorem e196_146 (v0 v1 v2 v4 v5 : Value) (x : Int32) (st : List Value) (w : zH) : zrun none (196, 146, [v0, v1, v2, .int x, v4, v5], st, w) = zrun none (196, 147, [v0, v1, v2, .int x, v4, v5], (.int x :: st), w) := (zE_ (i := .iload_n 3) (by decide +kernel) _ _ _).trans rfl
theorem e196_147 (v0 v1 v2 v3 v4 v5 : Value) (x : Int32) (st : List Value) (w : zH) (h : v2.category = 1) : zrun none (196, 147, [v0, v1, v2, v3, v4, v5], (.int x :: st), w) = zrun none (196, 148, [v0, v1, v2, .int x, v4, v5], st, w) := by
  refine (zE_ (i := .istore_n 3) (by decide +kernel) _ _ _).trans ?_
  have hz : zfree [v0, v1, v2, v3, v4, v5] 3 = true := by show decide (v2.category = 1) = true; exact decide_eq_true h
  show zres (zst zint 3 1 196 147 [v0, v1, v2, v3, v4, v5] (.int x :: st) w) = _
  unfold zst
  dsimp only
  rw [if_pos ⟨rfl, Nat.le_of_ble_eq_true rfl, hz⟩]
  rfl
theorem e196_148 (v0 v1 v2 v3 v5 : Value) (x : Int32) (st : List Value) (w : zH) : zrun none (196, 148, [v0, v1, v2, v3, .int x, v5], st, w) = zrun none (196, 151, [v0, v1, v2, v3, .int (x + 1), v5], st, w) := (zE_ (i := .iinc 4 1) (by decide +kernel) _ _ _).trans rfl
theorem e196_151 (ls st : List Value) (w : zH) : zrun none (196, 151, ls, st, w) = zrun none (196, 34, ls, st, w) := (zE_ (i := .goto (-117)) (by decide +kernel) _ _ _).trans rfl
theorem e196_154 (v0 v1 v2 v4 v5 : Value) (x : Int32) (st : List Value) (w : zH) : zrun none (196, 154, [v0, v1, v2, .int x, v4, v5], st, w) = zrun none (196, 155, [v0, v1, v2, .int x, v4, v5], (.int x :: st), w) := (zE_ (i := .iload_n 3) (by decide +kernel) _ _ _).trans rfl
theorem e196_155 (ls : List Value) (x : Int32) (w : zH) : zrun none (196, 155, ls, [.int x], w) = some (some (.int x), w) := by
  refine (zE_ (i := .ireturn) (by decide +kernel) _ _ _).trans ?_
  show zres (if narrow .int (.int x) = .int x then _ else none) = _
  rw [if_pos (show narrow .int (.int x) = .int x from rfl)]
  rfl
theorem e197_0 (v1 v2 v3 v4 : Value) (x : Nat) (st : List Value) (w : zH) : zrun none (197, 0, [.ref x, v1, v2, v3, v4], st, w) = zrun none (197, 1, [.ref x, v1, v2, v3, v4], (.ref x :: st), w) := (zE_ (i := .aload_n 0) (by decide +kernel) _ _ _).trans rfl
theorem e197_1 (ls st : List Value) (w : zH) : zrun none (197, 1, ls, st, w) = zrun none (197, 2, ls, (.int 0 :: st), w) := (zE_ (i := .iconst 0) (by decide +kernel) _ _ _).trans rfl
theorem e197_2 (ls : List Value) (x : Int32) (a : Nat) (st : List Value) (w : zH) : zrun none (197, 2, ls, (.int x :: .ref a :: st), w) = zgd (a < zX ∧ (zf w a 1200).isSome = true) (zrun none (197, 5, ls, st, zpf w a 1200 (.int x))) := by
  refine (zE_ (i := .putfield 1200) (by decide +kernel) _ _ _).trans ?_
  by_cases hg : a < zX ∧ (zf w a 1200).isSome = true
  · rw [zgd_pos hg]
    obtain ⟨ha, h⟩ := hg
    exact zq_putf ha h rfl rfl
  · rw [zgd_neg hg]
    exact zq_putf_no (fun h1 h2 h3 => hg ⟨h1, h2⟩)
theorem e197_5 (v0 v2 v3 v4 : Value) (x : Int32) (st : List Value) (w : zH) : zrun none (197, 5, [v0, .int x, v2, v3, v4], st, w) = zrun none (197, 6, [v0, .int x, v2, v3, v4], (.int x :: st), w) := (zE_ (i := .iload_n 1) (by decide +kernel) _ _ _).trans rfl
theorem e197_6 (ls : List Value) (a : Int32) (st : List Value) (w : zH) : zrun none (197, 6, ls, (.int a :: st), w) = zrun none (197, 7, ls, (.long a.toInt64 :: st), w) := (zE_ (i := .i2l) (by decide +kernel) _ _ _).trans rfl
theorem e197_7 (ls st : List Value) (w : zH) : zrun none (197, 7, ls, st, w) = zrun none (197, 8, ls, (.long 0 :: st), w) := (zE_ (i := .lconst 0) (by decide +kernel) _ _ _).trans rfl
theorem e197_8 (v1 v2 v3 v4 : Value) (x : Nat) (st : List Value) (w : zH) : zrun none (197, 8, [.ref x, v1, v2, v3, v4], st, w) = zrun none (197, 9, [.ref x, v1, v2, v3, v4], (.ref x :: st), w) := (zE_ (i := .aload_n 0) (by decide +kernel) _ _ _).trans rfl
theorem e197_9 (ls : List Value) (a : Nat) (st : List Value) (w : zH) : zrun none (197, 9, ls, (.ref a :: st), w) = zo (zf w a 1240) (fun x => zrun none (197, 12, ls, (x :: st), w)) := (zE_ (i := .getfield 1240) (by decide +kernel) _ _ _).trans zq_getf
theorem e197_12 (ls st : List Value) (w : zH) : zrun none (197, 12, ls, st, w) = zrun none (197, 13, ls, (.int 1 :: st), w) := (zE_ (i := .iconst 1) (by decide +kernel) _ _ _).trans rfl
theorem e197_13 (ls : List Value) (a b : Int32) (st : List Value) (w : zH) : zrun none (197, 13, ls, (.int b :: .int a :: st), w) = zrun none (197, 14, ls, (.int (a - b) :: st), w) := (zE_ (i := .isub) (by decide +kernel) _ _ _).trans rfl
theorem e197_14 (ls : List Value) (a : Int32) (st : List Value) (w : zH) : zrun none (197, 14, ls, (.int a :: st), w) = zrun none (197, 15, ls, (.long a.toInt64 :: st), w) := (zE_ (i := .i2l) (by decide +kernel) _ _ _).trans rfl
theorem e197_15 (ls : List Value) (x0 : Int64) (x1 : Int64) (x2 : Int64) (st : List Value) (w : zH) (hr : zcat st ≤ 8) : zrun none (197, 15, ls, (.long x2 :: .long x1 :: .long x0 :: st), w) = zcl (zrun none (146, 0, [.long x0, zJ, .long x1, zJ, .long x2, zJ], [], w)) (fun r => zrun none (197, 18, ls, r.1.toList ++ st, r.2)) := by
  refine (zE_ (i := .invokestatic 146) (by decide +kernel) _ _ _).trans ?_
  show zres (if (99 : Nat) = 99 ∧ 3 ≤ ((.long x2 :: .long x1 :: .long x0 :: st) : List Value).length then zcall 146 [.long x0, .long x1, .long x2] st 197 15 ls w else none) = _
  rw [if_pos ⟨rfl, by simp⟩]
  exact zq_call hr (Nat.le_of_ble_eq_true rfl) rfl rfl
theorem e197_18 (ls : List Value) (a : Int32) (st : List Value) (w : zH) : zrun none (197, 18, ls, (.int a :: st), w) = if a = 0 then zrun none (197, 31, ls, st, w) else zrun none (197, 21, ls, st, w) := (zE_ (i := .ifCond .eq 13) (by decide +kernel) _ _ _).trans (zq_if_eq rfl rfl)
theorem e197_21 (v0 v1 v3 v4 : Value) (x : Int32) (st : List Value) (w : zH) : zrun none (197, 21, [v0, v1, .int x, v3, v4], st, w) = zrun none (197, 22, [v0, v1, .int x, v3, v4], (.int x :: st), w) := (zE_ (i := .iload_n 2) (by decide +kernel) _ _ _).trans rfl
theorem e197_22 (ls : List Value) (a : Int32) (st : List Value) (w : zH) : zrun none (197, 22, ls, (.int a :: st), w) = zrun none (197, 23, ls, (.long a.toInt64 :: st), w) := (zE_ (i := .i2l) (by decide +kernel) _ _ _).trans rfl
theorem e197_23 (ls st : List Value) (w : zH) : zrun none (197, 23, ls, st, w) = zrun none (197, 24, ls, (.long 0 :: st), w) := (zE_ (i := .lconst 0) (by decide +kernel) _ _ _).trans rfl
theorem e197_24 (ls st : List Value) (w : zH) : zrun none (197, 24, ls, st, w) = zrun none (197, 25, ls, (.long 1 :: st), w) := (zE_ (i := .lconst 1) (by decide +kernel) _ _ _).trans rfl
theorem e197_25 (ls : List Value) (x0 : Int64) (x1 : Int64) (x2 : Int64) (st : List Value) (w : zH) (hr : zcat st ≤ 8) : zrun none (197, 25, ls, (.long x2 :: .long x1 :: .long x0 :: st), w) = zcl (zrun none (146, 0, [.long x0, zJ, .long x1, zJ, .long x2, zJ], [], w)) (fun r => zrun none (197, 28, ls, r.1.toList ++ st, r.2)) := by
  refine (zE_ (i := .invokestatic 146) (by decide +kernel) _ _ _).trans ?_
  show zres (if (99 : Nat) = 99 ∧ 3 ≤ ((.long x2 :: .long x1 :: .long x0 :: st) : List Value).length then zcall 146 [.long x0, .long x1, .long x2] st 197 25 ls w else none) = _
  rw [if_pos ⟨rfl, by simp⟩]
  exact zq_call hr (Nat.le_of_ble_eq_true rfl) rfl rfl
theorem e197_28 (ls : List Value) (a : Int32) (st : List Value) (w : zH) : zrun none (197, 28, ls, (.int a :: st), w) = if a = 0 then zrun none (197, 31, ls, st, w) else zrun none (197, 34, ls, st, w) := (zE_ (i := .ifCond .ne 6) (by decide +kernel) _ _ _).trans (zq_if_ne rfl rfl)
theorem e197_31 (ls st : List Value) (w : zH) : zrun none (197, 31, ls, st, w) = zrun none (197, 33, ls, (.int (-1000001) :: st), w) := (zE_ (i := .bipush (-1000001)) (by decide +kernel) _ _ _).trans rfl
theorem e197_33 (ls : List Value) (x : Int32) (w : zH) : zrun none (197, 33, ls, [.int x], w) = some (some (.int x), w) := by
  refine (zE_ (i := .ireturn) (by decide +kernel) _ _ _).trans ?_
  show zres (if narrow .int (.int x) = .int x then _ else none) = _
  rw [if_pos (show narrow .int (.int x) = .int x from rfl)]
  rfl
theorem e197_34 (v1 v2 v3 v4 : Value) (x : Nat) (st : List Value) (w : zH) : zrun none (197, 34, [.ref x, v1, v2, v3, v4], st, w) = zrun none (197, 35, [.ref x, v1, v2, v3, v4], (.ref x :: st), w) := (zE_ (i := .aload_n 0) (by decide +kernel) _ _ _).trans rfl
theorem e197_35 (v0 v2 v3 v4 : Value) (x : Int32) (st : List Value) (w : zH) : zrun none (197, 35, [v0, .int x, v2, v3, v4], st, w) = zrun none (197, 36, [v0, .int x, v2, v3, v4], (.int x :: st), w) := (zE_ (i := .iload_n 1) (by decide +kernel) _ _ _).trans rfl
theorem e197_36 (ls : List Value) (a : Nat) (x0 : Int32) (st : List Value) (w : zH) (hr : zcat st ≤ 8) : zrun none (197, 36, ls, (.int x0 :: .ref a :: st), w) = zgd (zis w a 12) (zcl (zrun none (196, 0, [.ref a, .int x0, zJ, zJ, zJ, zJ], [], w)) (fun r => zrun none (197, 39, ls, r.1.toList ++ st, r.2))) := by
  refine (zE_ (i := .invokevirtual 196) (by decide +kernel) _ _ _).trans ?_
  show zres (zinv none 196 197 36 ls (.int x0 :: .ref a :: st) w) = _
  unfold zinv
  show zres (if zrc none 196 w (.ref a) = true then zcall 196 [.ref a, .int x0] st 197 36 ls w else none) = _
  by_cases hc : zis w a 12
  · rw [if_pos (zrc_is hc (by decide +kernel)), zgd_pos hc]
    exact zq_call hr (Nat.le_of_ble_eq_true rfl) rfl rfl
  · rw [zgd_neg hc, if_neg (fun q => hc (zrc_of q (by decide +kernel)))]
    rfl
theorem e197_39 (v0 v1 v2 v3 v4 : Value) (x : Int32) (st : List Value) (w : zH) (h : v2.category = 1) : zrun none (197, 39, [v0, v1, v2, v3, v4], (.int x :: st), w) = zrun none (197, 40, [v0, v1, v2, .int x, v4], st, w) := by
  refine (zE_ (i := .istore_n 3) (by decide +kernel) _ _ _).trans ?_
  have hz : zfree [v0, v1, v2, v3, v4] 3 = true := by show decide (v2.category = 1) = true; exact decide_eq_true h
  show zres (zst zint 3 1 197 39 [v0, v1, v2, v3, v4] (.int x :: st) w) = _
  unfold zst
  dsimp only
  rw [if_pos ⟨rfl, Nat.le_of_ble_eq_true rfl, hz⟩]
  rfl
theorem e197_40 (v1 v2 v3 v4 : Value) (x : Nat) (st : List Value) (w : zH) : zrun none (197, 40, [.ref x, v1, v2, v3, v4], st, w) = zrun none (197, 41, [.ref x, v1, v2, v3, v4], (.ref x :: st), w) := (zE_ (i := .aload_n 0) (by decide +kernel) _ _ _).trans rfl
theorem e197_41 (v1 v2 v3 v4 : Value) (x : Nat) (st : List Value) (w : zH) : zrun none (197, 41, [.ref x, v1, v2, v3, v4], st, w) = zrun none (197, 42, [.ref x, v1, v2, v3, v4], (.ref x :: st), w) := (zE_ (i := .aload_n 0) (by decide +kernel) _ _ _).trans rfl
theorem e197_42 (ls : List Value) (a : Nat) (st : List Value) (w : zH) : zrun none (197, 42, ls, (.ref a :: st), w) = zo (zf w a 1241) (fun x => zrun none (197, 45, ls, (x :: st), w)) := (zE_ (i := .getfield 1241) (by decide +kernel) _ _ _).trans zq_getf
theorem e197_45 (v0 v2 v3 v4 : Value) (x : Int32) (st : List Value) (w : zH) : zrun none (197, 45, [v0, .int x, v2, v3, v4], st, w) = zrun none (197, 46, [v0, .int x, v2, v3, v4], (.int x :: st), w) := (zE_ (i := .iload_n 1) (by decide +kernel) _ _ _).trans rfl
theorem e197_46 (ls : List Value) (j : Int32) (a : Nat) (st : List Value) (w : zH) : zrun none (197, 46, ls, (.int j :: .ref a :: st), w) = zoi (zai w a 100 j) (fun x => zrun none (197, 47, ls, (.int x :: st), w)) := (zE_ (i := .iaload) (by decide +kernel) _ _ _).trans zq_iald
theorem e197_47 (v1 v2 v3 v4 : Value) (x : Nat) (st : List Value) (w : zH) : zrun none (197, 47, [.ref x, v1, v2, v3, v4], st, w) = zrun none (197, 48, [.ref x, v1, v2, v3, v4], (.ref x :: st), w) := (zE_ (i := .aload_n 0) (by decide +kernel) _ _ _).trans rfl
theorem e197_48 (ls : List Value) (a : Nat) (st : List Value) (w : zH) : zrun none (197, 48, ls, (.ref a :: st), w) = zo (zf w a 1243) (fun x => zrun none (197, 51, ls, (x :: st), w)) := (zE_ (i := .getfield 1243) (by decide +kernel) _ _ _).trans zq_getf
theorem e197_51 (v0 v2 v3 v4 : Value) (x : Int32) (st : List Value) (w : zH) : zrun none (197, 51, [v0, .int x, v2, v3, v4], st, w) = zrun none (197, 52, [v0, .int x, v2, v3, v4], (.int x :: st), w) := (zE_ (i := .iload_n 1) (by decide +kernel) _ _ _).trans rfl
theorem e197_52 (ls : List Value) (j : Int32) (a : Nat) (st : List Value) (w : zH) : zrun none (197, 52, ls, (.int j :: .ref a :: st), w) = zoi (zai w a 100 j) (fun x => zrun none (197, 53, ls, (.int x :: st), w)) := (zE_ (i := .iaload) (by decide +kernel) _ _ _).trans zq_iald
theorem e197_53 (ls : List Value) (a : Nat) (x0 : Int32) (x1 : Int32) (st : List Value) (w : zH) (hr : zcat st ≤ 8) : zrun none (197, 53, ls, (.int x1 :: .int x0 :: .ref a :: st), w) = zgd (zis w a 12) (zcl (zrun none (166, 0, [.ref a, .int x0, .int x1, zJ, zJ], [], w)) (fun r => zrun none (197, 56, ls, r.1.toList ++ st, r.2))) := by
  refine (zE_ (i := .invokevirtual 166) (by decide +kernel) _ _ _).trans ?_
  show zres (zinv none 166 197 53 ls (.int x1 :: .int x0 :: .ref a :: st) w) = _
  unfold zinv
  show zres (if zrc none 166 w (.ref a) = true then zcall 166 [.ref a, .int x0, .int x1] st 197 53 ls w else none) = _
  by_cases hc : zis w a 12
  · rw [if_pos (zrc_is hc (by decide +kernel)), zgd_pos hc]
    exact zq_call hr (Nat.le_of_ble_eq_true rfl) rfl rfl
  · rw [zgd_neg hc, if_neg (fun q => hc (zrc_of q (by decide +kernel)))]
    rfl
theorem e197_56 (v0 v1 v2 v3 v4 : Value) (x : Int32) (st : List Value) (w : zH) (h : v3.category = 1) : zrun none (197, 56, [v0, v1, v2, v3, v4], (.int x :: st), w) = zrun none (197, 58, [v0, v1, v2, v3, .int x], st, w) := by
  refine (zE_ (i := .istore 4) (by decide +kernel) _ _ _).trans ?_
  have hz : zfree [v0, v1, v2, v3, v4] 4 = true := by show decide (v3.category = 1) = true; exact decide_eq_true h
  show zres (zst zint 4 2 197 56 [v0, v1, v2, v3, v4] (.int x :: st) w) = _
  unfold zst
  dsimp only
  rw [if_pos ⟨rfl, Nat.le_of_ble_eq_true rfl, hz⟩]
  rfl
theorem e197_58 (v0 v1 v3 v4 : Value) (x : Int32) (st : List Value) (w : zH) : zrun none (197, 58, [v0, v1, .int x, v3, v4], st, w) = zrun none (197, 59, [v0, v1, .int x, v3, v4], (.int x :: st), w) := (zE_ (i := .iload_n 2) (by decide +kernel) _ _ _).trans rfl
theorem e197_59 (ls : List Value) (a : Int32) (st : List Value) (w : zH) : zrun none (197, 59, ls, (.int a :: st), w) = if a = 0 then zrun none (197, 62, ls, st, w) else zrun none (197, 66, ls, st, w) := (zE_ (i := .ifCond .ne 7) (by decide +kernel) _ _ _).trans (zq_if_ne rfl rfl)
theorem e197_62 (v0 v1 v2 v4 : Value) (x : Int32) (st : List Value) (w : zH) : zrun none (197, 62, [v0, v1, v2, .int x, v4], st, w) = zrun none (197, 63, [v0, v1, v2, .int x, v4], (.int x :: st), w) := (zE_ (i := .iload_n 3) (by decide +kernel) _ _ _).trans rfl
theorem e197_63 (ls st : List Value) (w : zH) : zrun none (197, 63, ls, st, w) = zrun none (197, 93, ls, st, w) := (zE_ (i := .goto 30) (by decide +kernel) _ _ _).trans rfl
theorem e197_66 (v0 v1 v2 v4 : Value) (x : Int32) (st : List Value) (w : zH) : zrun none (197, 66, [v0, v1, v2, .int x, v4], st, w) = zrun none (197, 67, [v0, v1, v2, .int x, v4], (.int x :: st), w) := (zE_ (i := .iload_n 3) (by decide +kernel) _ _ _).trans rfl
theorem e197_67 (ls st : List Value) (w : zH) : zrun none (197, 67, ls, st, w) = zrun none (197, 68, ls, (.int 5 :: st), w) := (zE_ (i := .iconst 5) (by decide +kernel) _ _ _).trans rfl
theorem e197_68 (ls : List Value) (a b : Int32) (st : List Value) (w : zH) : zrun none (197, 68, ls, (.int b :: .int a :: st), w) = if a = b then zrun none (197, 88, ls, st, w) else zrun none (197, 71, ls, st, w) := (zE_ (i := .if_icmp .eq 20) (by decide +kernel) _ _ _).trans (zq_ic_eq rfl rfl)
theorem e197_71 (v0 v1 v2 v4 : Value) (x : Int32) (st : List Value) (w : zH) : zrun none (197, 71, [v0, v1, v2, .int x, v4], st, w) = zrun none (197, 72, [v0, v1, v2, .int x, v4], (.int x :: st), w) := (zE_ (i := .iload_n 3) (by decide +kernel) _ _ _).trans rfl
theorem e197_72 (ls st : List Value) (w : zH) : zrun none (197, 72, ls, st, w) = zrun none (197, 73, ls, (.int 4 :: st), w) := (zE_ (i := .iconst 4) (by decide +kernel) _ _ _).trans rfl
theorem e197_73 (ls : List Value) (a b : Int32) (st : List Value) (w : zH) : zrun none (197, 73, ls, (.int b :: .int a :: st), w) = if a = b then zrun none (197, 76, ls, st, w) else zrun none (197, 92, ls, st, w) := (zE_ (i := .if_icmp .ne 19) (by decide +kernel) _ _ _).trans (zq_ic_ne rfl rfl)
theorem e197_76 (v0 v1 v2 v3 : Value) (x : Int32) (st : List Value) (w : zH) : zrun none (197, 76, [v0, v1, v2, v3, .int x], st, w) = zrun none (197, 78, [v0, v1, v2, v3, .int x], (.int x :: st), w) := (zE_ (i := .iload 4) (by decide +kernel) _ _ _).trans rfl
theorem e197_78 (ls st : List Value) (w : zH) : zrun none (197, 78, ls, st, w) = zrun none (197, 79, ls, (.int 1 :: st), w) := (zE_ (i := .iconst 1) (by decide +kernel) _ _ _).trans rfl
theorem e197_79 (ls : List Value) (a b : Int32) (st : List Value) (w : zH) : zrun none (197, 79, ls, (.int b :: .int a :: st), w) = if a = b then zrun none (197, 88, ls, st, w) else zrun none (197, 82, ls, st, w) := (zE_ (i := .if_icmp .eq 9) (by decide +kernel) _ _ _).trans (zq_ic_eq rfl rfl)
theorem e197_82 (v0 v1 v2 v3 : Value) (x : Int32) (st : List Value) (w : zH) : zrun none (197, 82, [v0, v1, v2, v3, .int x], st, w) = zrun none (197, 84, [v0, v1, v2, v3, .int x], (.int x :: st), w) := (zE_ (i := .iload 4) (by decide +kernel) _ _ _).trans rfl
theorem e197_84 (ls st : List Value) (w : zH) : zrun none (197, 84, ls, st, w) = zrun none (197, 85, ls, (.int 2 :: st), w) := (zE_ (i := .iconst 2) (by decide +kernel) _ _ _).trans rfl
theorem e197_85 (ls : List Value) (a b : Int32) (st : List Value) (w : zH) : zrun none (197, 85, ls, (.int b :: .int a :: st), w) = if a = b then zrun none (197, 88, ls, st, w) else zrun none (197, 92, ls, st, w) := (zE_ (i := .if_icmp .ne 7) (by decide +kernel) _ _ _).trans (zq_ic_ne rfl rfl)
theorem e197_88 (ls st : List Value) (w : zH) : zrun none (197, 88, ls, st, w) = zrun none (197, 89, ls, (.int 1 :: st), w) := (zE_ (i := .iconst 1) (by decide +kernel) _ _ _).trans rfl
theorem e197_89 (ls st : List Value) (w : zH) : zrun none (197, 89, ls, st, w) = zrun none (197, 93, ls, st, w) := (zE_ (i := .goto 4) (by decide +kernel) _ _ _).trans rfl
theorem e197_92 (ls st : List Value) (w : zH) : zrun none (197, 92, ls, st, w) = zrun none (197, 93, ls, (.int 0 :: st), w) := (zE_ (i := .iconst 0) (by decide +kernel) _ _ _).trans rfl
theorem e197_93 (ls : List Value) (x : Int32) (w : zH) : zrun none (197, 93, ls, [.int x], w) = some (some (.int x), w) := by
  refine (zE_ (i := .ireturn) (by decide +kernel) _ _ _).trans ?_
  show zres (if narrow .int (.int x) = .int x then _ else none) = _
  rw [if_pos (show narrow .int (.int x) = .int x from rfl)]
  rfl
theorem e198_0 (v0 v2 v3 : Value) (x : Int32) (st : List Value) (w : zH) : zrun none (198, 0, [v0, .int x, v2, v3], st, w) = zrun none (198, 1, [v0, .int x, v2, v3], (.int x :: st), w) := (zE_ (i := .iload_n 1) (by decide +kernel) _ _ _).trans rfl
theorem e198_1 (ls st : List Value) (w : zH) : zrun none (198, 1, ls, st, w) = zrun none (198, 2, ls, (.int 1 :: st), w) := (zE_ (i := .iconst 1) (by decide +kernel) _ _ _).trans rfl
theorem e198_2 (ls : List Value) (a b : Int32) (st : List Value) (w : zH) : zrun none (198, 2, ls, (.int b :: .int a :: st), w) = if a = b then zrun none (198, 5, ls, st, w) else zrun none (198, 11, ls, st, w) := (zE_ (i := .if_icmp .ne 9) (by decide +kernel) _ _ _).trans (zq_ic_ne rfl rfl)
theorem e198_5 (v1 v2 v3 : Value) (x : Int32) (st : List Value) (w : zH) : zrun none (198, 5, [.int x, v1, v2, v3], st, w) = zrun none (198, 6, [.int x, v1, v2, v3], (.int x :: st), w) := (zE_ (i := .iload_n 0) (by decide +kernel) _ _ _).trans rfl
theorem e198_6 (ls st : List Value) (w : zH) : zrun none (198, 6, ls, st, w) = zrun none (198, 7, ls, (.int 2 :: st), w) := (zE_ (i := .iconst 2) (by decide +kernel) _ _ _).trans rfl
theorem e198_7 (ls : List Value) (a b : Int32) (st : List Value) (w : zH) (h : ¬ b = 0) : zrun none (198, 7, ls, (.int b :: .int a :: st), w) = zrun none (198, 8, ls, (.int (a / b) :: st), w) := by
  refine (zE_ (i := .idiv) (by decide +kernel) _ _ _).trans ?_
  simp only [zI, if_neg h]
  rfl
theorem e198_8 (ls st : List Value) (w : zH) : zrun none (198, 8, ls, st, w) = zrun none (198, 35, ls, st, w) := (zE_ (i := .goto 27) (by decide +kernel) _ _ _).trans rfl
theorem e198_11 (v0 v2 v3 : Value) (x : Int32) (st : List Value) (w : zH) : zrun none (198, 11, [v0, .int x, v2, v3], st, w) = zrun none (198, 12, [v0, .int x, v2, v3], (.int x :: st), w) := (zE_ (i := .iload_n 1) (by decide +kernel) _ _ _).trans rfl
theorem e198_12 (ls st : List Value) (w : zH) : zrun none (198, 12, ls, st, w) = zrun none (198, 13, ls, (.int 2 :: st), w) := (zE_ (i := .iconst 2) (by decide +kernel) _ _ _).trans rfl
theorem e198_13 (ls : List Value) (a b : Int32) (st : List Value) (w : zH) : zrun none (198, 13, ls, (.int b :: .int a :: st), w) = if a = b then zrun none (198, 16, ls, st, w) else zrun none (198, 22, ls, st, w) := (zE_ (i := .if_icmp .ne 9) (by decide +kernel) _ _ _).trans (zq_ic_ne rfl rfl)
theorem e198_16 (v1 v2 v3 : Value) (x : Int32) (st : List Value) (w : zH) : zrun none (198, 16, [.int x, v1, v2, v3], st, w) = zrun none (198, 17, [.int x, v1, v2, v3], (.int x :: st), w) := (zE_ (i := .iload_n 0) (by decide +kernel) _ _ _).trans rfl
theorem e198_17 (ls st : List Value) (w : zH) : zrun none (198, 17, ls, st, w) = zrun none (198, 18, ls, (.int 3 :: st), w) := (zE_ (i := .iconst 3) (by decide +kernel) _ _ _).trans rfl
theorem e198_18 (ls : List Value) (a b : Int32) (st : List Value) (w : zH) (h : ¬ b = 0) : zrun none (198, 18, ls, (.int b :: .int a :: st), w) = zrun none (198, 19, ls, (.int (a / b) :: st), w) := by
  refine (zE_ (i := .idiv) (by decide +kernel) _ _ _).trans ?_
  simp only [zI, if_neg h]
  rfl
theorem e198_19 (ls st : List Value) (w : zH) : zrun none (198, 19, ls, st, w) = zrun none (198, 35, ls, st, w) := (zE_ (i := .goto 16) (by decide +kernel) _ _ _).trans rfl
theorem e198_22 (v0 v2 v3 : Value) (x : Int32) (st : List Value) (w : zH) : zrun none (198, 22, [v0, .int x, v2, v3], st, w) = zrun none (198, 23, [v0, .int x, v2, v3], (.int x :: st), w) := (zE_ (i := .iload_n 1) (by decide +kernel) _ _ _).trans rfl
theorem e198_23 (ls st : List Value) (w : zH) : zrun none (198, 23, ls, st, w) = zrun none (198, 24, ls, (.int 3 :: st), w) := (zE_ (i := .iconst 3) (by decide +kernel) _ _ _).trans rfl
theorem e198_24 (ls : List Value) (a b : Int32) (st : List Value) (w : zH) : zrun none (198, 24, ls, (.int b :: .int a :: st), w) = if a = b then zrun none (198, 27, ls, st, w) else zrun none (198, 34, ls, st, w) := (zE_ (i := .if_icmp .ne 10) (by decide +kernel) _ _ _).trans (zq_ic_ne rfl rfl)
theorem e198_27 (v1 v2 v3 : Value) (x : Int32) (st : List Value) (w : zH) : zrun none (198, 27, [.int x, v1, v2, v3], st, w) = zrun none (198, 28, [.int x, v1, v2, v3], (.int x :: st), w) := (zE_ (i := .iload_n 0) (by decide +kernel) _ _ _).trans rfl
theorem e198_28 (ls st : List Value) (w : zH) : zrun none (198, 28, ls, st, w) = zrun none (198, 30, ls, (.int 10 :: st), w) := (zE_ (i := .bipush 10) (by decide +kernel) _ _ _).trans rfl
theorem e198_30 (ls : List Value) (a b : Int32) (st : List Value) (w : zH) (h : ¬ b = 0) : zrun none (198, 30, ls, (.int b :: .int a :: st), w) = zrun none (198, 31, ls, (.int (a / b) :: st), w) := by
  refine (zE_ (i := .idiv) (by decide +kernel) _ _ _).trans ?_
  simp only [zI, if_neg h]
  rfl
theorem e198_31 (ls st : List Value) (w : zH) : zrun none (198, 31, ls, st, w) = zrun none (198, 35, ls, st, w) := (zE_ (i := .goto 4) (by decide +kernel) _ _ _).trans rfl
theorem e198_34 (ls st : List Value) (w : zH) : zrun none (198, 34, ls, st, w) = zrun none (198, 35, ls, (.int 0 :: st), w) := (zE_ (i := .iconst 0) (by decide +kernel) _ _ _).trans rfl
theorem e198_35 (v0 v1 v2 v3 : Value) (x : Int32) (st : List Value) (w : zH) (h : v1.category = 1) : zrun none (198, 35, [v0, v1, v2, v3], (.int x :: st), w) = zrun none (198, 36, [v0, v1, .int x, v3], st, w) := by
  refine (zE_ (i := .istore_n 2) (by decide +kernel) _ _ _).trans ?_
  have hz : zfree [v0, v1, v2, v3] 2 = true := by show decide (v1.category = 1) = true; exact decide_eq_true h
  show zres (zst zint 2 1 198 35 [v0, v1, v2, v3] (.int x :: st) w) = _
  unfold zst
  dsimp only
  rw [if_pos ⟨rfl, Nat.le_of_ble_eq_true rfl, hz⟩]
  rfl
theorem e198_36 (v0 v2 v3 : Value) (x : Int32) (st : List Value) (w : zH) : zrun none (198, 36, [v0, .int x, v2, v3], st, w) = zrun none (198, 37, [v0, .int x, v2, v3], (.int x :: st), w) := (zE_ (i := .iload_n 1) (by decide +kernel) _ _ _).trans rfl
theorem e198_37 (ls st : List Value) (w : zH) : zrun none (198, 37, ls, st, w) = zrun none (198, 38, ls, (.int 1 :: st), w) := (zE_ (i := .iconst 1) (by decide +kernel) _ _ _).trans rfl
theorem e198_38 (ls : List Value) (a b : Int32) (st : List Value) (w : zH) : zrun none (198, 38, ls, (.int b :: .int a :: st), w) = if a = b then zrun none (198, 41, ls, st, w) else zrun none (198, 47, ls, st, w) := (zE_ (i := .if_icmp .ne 9) (by decide +kernel) _ _ _).trans (zq_ic_ne rfl rfl)
theorem e198_41 (ls st : List Value) (w : zH) : zrun none (198, 41, ls, st, w) = zrun none (198, 44, ls, (.int 30000 :: st), w) := (zE_ (i := .sipush 30000) (by decide +kernel) _ _ _).trans rfl
theorem e198_44 (ls st : List Value) (w : zH) : zrun none (198, 44, ls, st, w) = zrun none (198, 61, ls, st, w) := (zE_ (i := .goto 17) (by decide +kernel) _ _ _).trans rfl
theorem e198_47 (v0 v2 v3 : Value) (x : Int32) (st : List Value) (w : zH) : zrun none (198, 47, [v0, .int x, v2, v3], st, w) = zrun none (198, 48, [v0, .int x, v2, v3], (.int x :: st), w) := (zE_ (i := .iload_n 1) (by decide +kernel) _ _ _).trans rfl
theorem e198_48 (ls st : List Value) (w : zH) : zrun none (198, 48, ls, st, w) = zrun none (198, 49, ls, (.int 2 :: st), w) := (zE_ (i := .iconst 2) (by decide +kernel) _ _ _).trans rfl
theorem e198_49 (ls : List Value) (a b : Int32) (st : List Value) (w : zH) : zrun none (198, 49, ls, (.int b :: .int a :: st), w) = if a = b then zrun none (198, 52, ls, st, w) else zrun none (198, 58, ls, st, w) := (zE_ (i := .if_icmp .ne 9) (by decide +kernel) _ _ _).trans (zq_ic_ne rfl rfl)
theorem e198_52 (ls st : List Value) (w : zH) : zrun none (198, 52, ls, st, w) = zrun none (198, 55, ls, (.int 15000 :: st), w) := (zE_ (i := .sipush 15000) (by decide +kernel) _ _ _).trans rfl
theorem e198_55 (ls st : List Value) (w : zH) : zrun none (198, 55, ls, st, w) = zrun none (198, 61, ls, st, w) := (zE_ (i := .goto 6) (by decide +kernel) _ _ _).trans rfl
theorem e198_58 (ls st : List Value) (w : zH) : zrun none (198, 58, ls, st, w) = zrun none (198, 61, ls, (.int 5000 :: st), w) := (zE_ (i := .sipush 5000) (by decide +kernel) _ _ _).trans rfl
theorem e198_61 (v0 v1 v2 v3 : Value) (x : Int32) (st : List Value) (w : zH) (h : v2.category = 1) : zrun none (198, 61, [v0, v1, v2, v3], (.int x :: st), w) = zrun none (198, 62, [v0, v1, v2, .int x], st, w) := by
  refine (zE_ (i := .istore_n 3) (by decide +kernel) _ _ _).trans ?_
  have hz : zfree [v0, v1, v2, v3] 3 = true := by show decide (v2.category = 1) = true; exact decide_eq_true h
  show zres (zst zint 3 1 198 61 [v0, v1, v2, v3] (.int x :: st) w) = _
  unfold zst
  dsimp only
  rw [if_pos ⟨rfl, Nat.le_of_ble_eq_true rfl, hz⟩]
  rfl
theorem e198_62 (v0 v1 v3 : Value) (x : Int32) (st : List Value) (w : zH) : zrun none (198, 62, [v0, v1, .int x, v3], st, w) = zrun none (198, 63, [v0, v1, .int x, v3], (.int x :: st), w) := (zE_ (i := .iload_n 2) (by decide +kernel) _ _ _).trans rfl
theorem e198_63 (v0 v1 v2 : Value) (x : Int32) (st : List Value) (w : zH) : zrun none (198, 63, [v0, v1, v2, .int x], st, w) = zrun none (198, 64, [v0, v1, v2, .int x], (.int x :: st), w) := (zE_ (i := .iload_n 3) (by decide +kernel) _ _ _).trans rfl
theorem e198_64 (ls : List Value) (a b : Int32) (st : List Value) (w : zH) : zrun none (198, 64, ls, (.int b :: .int a :: st), w) = if a ≤ b then zrun none (198, 71, ls, st, w) else zrun none (198, 67, ls, st, w) := (zE_ (i := .if_icmp .le 7) (by decide +kernel) _ _ _).trans (zq_ic_le rfl rfl)
theorem e198_67 (v0 v1 v2 : Value) (x : Int32) (st : List Value) (w : zH) : zrun none (198, 67, [v0, v1, v2, .int x], st, w) = zrun none (198, 68, [v0, v1, v2, .int x], (.int x :: st), w) := (zE_ (i := .iload_n 3) (by decide +kernel) _ _ _).trans rfl
theorem e198_68 (ls st : List Value) (w : zH) : zrun none (198, 68, ls, st, w) = zrun none (198, 72, ls, st, w) := (zE_ (i := .goto 4) (by decide +kernel) _ _ _).trans rfl
theorem e198_71 (v0 v1 v3 : Value) (x : Int32) (st : List Value) (w : zH) : zrun none (198, 71, [v0, v1, .int x, v3], st, w) = zrun none (198, 72, [v0, v1, .int x, v3], (.int x :: st), w) := (zE_ (i := .iload_n 2) (by decide +kernel) _ _ _).trans rfl
theorem e198_72 (ls : List Value) (x : Int32) (w : zH) : zrun none (198, 72, ls, [.int x], w) = some (some (.int x), w) := by
  refine (zE_ (i := .ireturn) (by decide +kernel) _ _ _).trans ?_
  show zres (if narrow .int (.int x) = .int x then _ else none) = _
  rw [if_pos (show narrow .int (.int x) = .int x from rfl)]
  rfl
theorem e199_0 (v1 v2 : Value) (x : Nat) (st : List Value) (w : zH) : zrun none (199, 0, [.ref x, v1, v2], st, w) = zrun none (199, 1, [.ref x, v1, v2], (.ref x :: st), w) := (zE_ (i := .aload_n 0) (by decide +kernel) _ _ _).trans rfl
theorem e199_1 (ls st : List Value) (w : zH) : zrun none (199, 1, ls, st, w) = zrun none (199, 2, ls, (.int 0 :: st), w) := (zE_ (i := .iconst 0) (by decide +kernel) _ _ _).trans rfl
theorem e199_2 (ls : List Value) (x : Int32) (a : Nat) (st : List Value) (w : zH) : zrun none (199, 2, ls, (.int x :: .ref a :: st), w) = zgd (a < zX ∧ (zf w a 1200).isSome = true) (zrun none (199, 5, ls, st, zpf w a 1200 (.int x))) := by
  refine (zE_ (i := .putfield 1200) (by decide +kernel) _ _ _).trans ?_
  by_cases hg : a < zX ∧ (zf w a 1200).isSome = true
  · rw [zgd_pos hg]
    obtain ⟨ha, h⟩ := hg
    exact zq_putf ha h rfl rfl
  · rw [zgd_neg hg]
    exact zq_putf_no (fun h1 h2 h3 => hg ⟨h1, h2⟩)
theorem e199_5 (v0 v2 : Value) (x : Int32) (st : List Value) (w : zH) : zrun none (199, 5, [v0, .int x, v2], st, w) = zrun none (199, 6, [v0, .int x, v2], (.int x :: st), w) := (zE_ (i := .iload_n 1) (by decide +kernel) _ _ _).trans rfl
theorem e199_6 (ls : List Value) (a : Int32) (st : List Value) (w : zH) : zrun none (199, 6, ls, (.int a :: st), w) = zrun none (199, 7, ls, (.long a.toInt64 :: st), w) := (zE_ (i := .i2l) (by decide +kernel) _ _ _).trans rfl
theorem e199_7 (ls st : List Value) (w : zH) : zrun none (199, 7, ls, st, w) = zrun none (199, 8, ls, (.long 0 :: st), w) := (zE_ (i := .lconst 0) (by decide +kernel) _ _ _).trans rfl
theorem e199_8 (ls st : List Value) (w : zH) : zrun none (199, 8, ls, st, w) = zrun none (199, 11, ls, (.long 100000 :: st), w) := (zE_ (i := .ldc2_w 100000) (by decide +kernel) _ _ _).trans rfl
theorem e199_11 (ls : List Value) (x0 : Int64) (x1 : Int64) (x2 : Int64) (st : List Value) (w : zH) (hr : zcat st ≤ 8) : zrun none (199, 11, ls, (.long x2 :: .long x1 :: .long x0 :: st), w) = zcl (zrun none (146, 0, [.long x0, zJ, .long x1, zJ, .long x2, zJ], [], w)) (fun r => zrun none (199, 14, ls, r.1.toList ++ st, r.2)) := by
  refine (zE_ (i := .invokestatic 146) (by decide +kernel) _ _ _).trans ?_
  show zres (if (99 : Nat) = 99 ∧ 3 ≤ ((.long x2 :: .long x1 :: .long x0 :: st) : List Value).length then zcall 146 [.long x0, .long x1, .long x2] st 199 11 ls w else none) = _
  rw [if_pos ⟨rfl, by simp⟩]
  exact zq_call hr (Nat.le_of_ble_eq_true rfl) rfl rfl
theorem e199_14 (ls : List Value) (a : Int32) (st : List Value) (w : zH) : zrun none (199, 14, ls, (.int a :: st), w) = if a = 0 then zrun none (199, 29, ls, st, w) else zrun none (199, 17, ls, st, w) := (zE_ (i := .ifCond .eq 15) (by decide +kernel) _ _ _).trans (zq_if_eq rfl rfl)
theorem e199_17 (v0 v1 : Value) (x : Int32) (st : List Value) (w : zH) : zrun none (199, 17, [v0, v1, .int x], st, w) = zrun none (199, 18, [v0, v1, .int x], (.int x :: st), w) := (zE_ (i := .iload_n 2) (by decide +kernel) _ _ _).trans rfl
theorem e199_18 (ls : List Value) (a : Int32) (st : List Value) (w : zH) : zrun none (199, 18, ls, (.int a :: st), w) = zrun none (199, 19, ls, (.long a.toInt64 :: st), w) := (zE_ (i := .i2l) (by decide +kernel) _ _ _).trans rfl
theorem e199_19 (ls st : List Value) (w : zH) : zrun none (199, 19, ls, st, w) = zrun none (199, 20, ls, (.long 0 :: st), w) := (zE_ (i := .lconst 0) (by decide +kernel) _ _ _).trans rfl
theorem e199_20 (ls st : List Value) (w : zH) : zrun none (199, 20, ls, st, w) = zrun none (199, 23, ls, (.long 3 :: st), w) := (zE_ (i := .ldc2_w 3) (by decide +kernel) _ _ _).trans rfl
theorem e199_23 (ls : List Value) (x0 : Int64) (x1 : Int64) (x2 : Int64) (st : List Value) (w : zH) (hr : zcat st ≤ 8) : zrun none (199, 23, ls, (.long x2 :: .long x1 :: .long x0 :: st), w) = zcl (zrun none (146, 0, [.long x0, zJ, .long x1, zJ, .long x2, zJ], [], w)) (fun r => zrun none (199, 26, ls, r.1.toList ++ st, r.2)) := by
  refine (zE_ (i := .invokestatic 146) (by decide +kernel) _ _ _).trans ?_
  show zres (if (99 : Nat) = 99 ∧ 3 ≤ ((.long x2 :: .long x1 :: .long x0 :: st) : List Value).length then zcall 146 [.long x0, .long x1, .long x2] st 199 23 ls w else none) = _
  rw [if_pos ⟨rfl, by simp⟩]
  exact zq_call hr (Nat.le_of_ble_eq_true rfl) rfl rfl
theorem e199_26 (ls : List Value) (a : Int32) (st : List Value) (w : zH) : zrun none (199, 26, ls, (.int a :: st), w) = if a = 0 then zrun none (199, 29, ls, st, w) else zrun none (199, 34, ls, st, w) := (zE_ (i := .ifCond .ne 8) (by decide +kernel) _ _ _).trans (zq_if_ne rfl rfl)
theorem e199_29 (ls st : List Value) (w : zH) : zrun none (199, 29, ls, st, w) = zrun none (199, 31, ls, (.int (-1000001) :: st), w) := (zE_ (i := .bipush (-1000001)) (by decide +kernel) _ _ _).trans rfl
theorem e199_31 (ls st : List Value) (w : zH) : zrun none (199, 31, ls, st, w) = zrun none (199, 39, ls, st, w) := (zE_ (i := .goto 8) (by decide +kernel) _ _ _).trans rfl
theorem e199_34 (v0 v2 : Value) (x : Int32) (st : List Value) (w : zH) : zrun none (199, 34, [v0, .int x, v2], st, w) = zrun none (199, 35, [v0, .int x, v2], (.int x :: st), w) := (zE_ (i := .iload_n 1) (by decide +kernel) _ _ _).trans rfl
theorem e199_35 (v0 v1 : Value) (x : Int32) (st : List Value) (w : zH) : zrun none (199, 35, [v0, v1, .int x], st, w) = zrun none (199, 36, [v0, v1, .int x], (.int x :: st), w) := (zE_ (i := .iload_n 2) (by decide +kernel) _ _ _).trans rfl
theorem e199_36 (ls : List Value) (x0 : Int32) (x1 : Int32) (st : List Value) (w : zH) (hr : zcat st ≤ 8) : zrun none (199, 36, ls, (.int x1 :: .int x0 :: st), w) = zcl (zrun none (198, 0, [.int x0, .int x1, zJ, zJ], [], w)) (fun r => zrun none (199, 39, ls, r.1.toList ++ st, r.2)) := by
  refine (zE_ (i := .invokestatic 198) (by decide +kernel) _ _ _).trans ?_
  show zres (if (99 : Nat) = 99 ∧ 2 ≤ ((.int x1 :: .int x0 :: st) : List Value).length then zcall 198 [.int x0, .int x1] st 199 36 ls w else none) = _
  rw [if_pos ⟨rfl, by simp⟩]
  exact zq_call hr (Nat.le_of_ble_eq_true rfl) rfl rfl
theorem e199_39 (ls : List Value) (x : Int32) (w : zH) : zrun none (199, 39, ls, [.int x], w) = some (some (.int x), w) := by
  refine (zE_ (i := .ireturn) (by decide +kernel) _ _ _).trans ?_
  show zres (if narrow .int (.int x) = .int x then _ else none) = _
  rw [if_pos (show narrow .int (.int x) = .int x from rfl)]
  rfl
theorem e200_0 (ls st : List Value) (w : zH) : zrun none (200, 0, ls, st, w) = zrun none (200, 1, ls, (.int 0 :: st), w) := (zE_ (i := .iconst 0) (by decide +kernel) _ _ _).trans rfl
theorem e200_1 (v0 v1 v2 v3 v4 v5 : Value) (x : Int32) (st : List Value) (w : zH) (h : v3.category = 1) : zrun none (200, 1, [v0, v1, v2, v3, v4, v5], (.int x :: st), w) = zrun none (200, 3, [v0, v1, v2, v3, .int x, v5], st, w) := by
  refine (zE_ (i := .istore 4) (by decide +kernel) _ _ _).trans ?_
  have hz : zfree [v0, v1, v2, v3, v4, v5] 4 = true := by show decide (v3.category = 1) = true; exact decide_eq_true h
  show zres (zst zint 4 2 200 1 [v0, v1, v2, v3, v4, v5] (.int x :: st) w) = _
  unfold zst
  dsimp only
  rw [if_pos ⟨rfl, Nat.le_of_ble_eq_true rfl, hz⟩]
  rfl
theorem e200_3 (ls st : List Value) (w : zH) : zrun none (200, 3, ls, st, w) = zrun none (200, 4, ls, (.int 0 :: st), w) := (zE_ (i := .iconst 0) (by decide +kernel) _ _ _).trans rfl
theorem e200_4 (v0 v1 v2 v3 v4 v5 : Value) (x : Int32) (st : List Value) (w : zH) (h : v4.category = 1) : zrun none (200, 4, [v0, v1, v2, v3, v4, v5], (.int x :: st), w) = zrun none (200, 6, [v0, v1, v2, v3, v4, .int x], st, w) := by
  refine (zE_ (i := .istore 5) (by decide +kernel) _ _ _).trans ?_
  have hz : zfree [v0, v1, v2, v3, v4, v5] 5 = true := by show decide (v4.category = 1) = true; exact decide_eq_true h
  show zres (zst zint 5 2 200 4 [v0, v1, v2, v3, v4, v5] (.int x :: st) w) = _
  unfold zst
  dsimp only
  rw [if_pos ⟨rfl, Nat.le_of_ble_eq_true rfl, hz⟩]
  rfl
theorem e200_6 (v0 v1 v2 v3 v4 : Value) (x : Int32) (st : List Value) (w : zH) : zrun none (200, 6, [v0, v1, v2, v3, v4, .int x], st, w) = zrun none (200, 8, [v0, v1, v2, v3, v4, .int x], (.int x :: st), w) := (zE_ (i := .iload 5) (by decide +kernel) _ _ _).trans rfl
theorem e200_8 (ls st : List Value) (w : zH) : zrun none (200, 8, ls, st, w) = zrun none (200, 10, ls, (.int 12 :: st), w) := (zE_ (i := .bipush 12) (by decide +kernel) _ _ _).trans rfl
theorem e200_10 (ls : List Value) (a b : Int32) (st : List Value) (w : zH) : zrun none (200, 10, ls, (.int b :: .int a :: st), w) = if b ≤ a then zrun none (200, 51, ls, st, w) else zrun none (200, 13, ls, st, w) := (zE_ (i := .if_icmp .ge 41) (by decide +kernel) _ _ _).trans (zq_ic_ge rfl rfl)
theorem e200_13 (v0 v1 v2 v3 v5 : Value) (x : Int32) (st : List Value) (w : zH) : zrun none (200, 13, [v0, v1, v2, v3, .int x, v5], st, w) = zrun none (200, 15, [v0, v1, v2, v3, .int x, v5], (.int x :: st), w) := (zE_ (i := .iload 4) (by decide +kernel) _ _ _).trans rfl
theorem e200_15 (v0 v1 v3 v4 v5 : Value) (x : Int32) (st : List Value) (w : zH) : zrun none (200, 15, [v0, v1, .int x, v3, v4, v5], st, w) = zrun none (200, 16, [v0, v1, .int x, v3, v4, v5], (.int x :: st), w) := (zE_ (i := .iload_n 2) (by decide +kernel) _ _ _).trans rfl
theorem e200_16 (v0 v1 v2 v3 v4 : Value) (x : Int32) (st : List Value) (w : zH) : zrun none (200, 16, [v0, v1, v2, v3, v4, .int x], st, w) = zrun none (200, 18, [v0, v1, v2, v3, v4, .int x], (.int x :: st), w) := (zE_ (i := .iload 5) (by decide +kernel) _ _ _).trans rfl
theorem e200_18 (ls : List Value) (a b : Int32) (st : List Value) (w : zH) : zrun none (200, 18, ls, (.int b :: .int a :: st), w) = zrun none (200, 19, ls, (.int (a >>> (b &&& 31)) :: st), w) := (zE_ (i := .ishr) (by decide +kernel) _ _ _).trans rfl
theorem e200_19 (ls st : List Value) (w : zH) : zrun none (200, 19, ls, st, w) = zrun none (200, 20, ls, (.int 1 :: st), w) := (zE_ (i := .iconst 1) (by decide +kernel) _ _ _).trans rfl
theorem e200_20 (ls : List Value) (a b : Int32) (st : List Value) (w : zH) : zrun none (200, 20, ls, (.int b :: .int a :: st), w) = zrun none (200, 21, ls, (.int (a &&& b) :: st), w) := (zE_ (i := .iand) (by decide +kernel) _ _ _).trans rfl
theorem e200_21 (ls st : List Value) (w : zH) : zrun none (200, 21, ls, st, w) = zrun none (200, 22, ls, (.int 1 :: st), w) := (zE_ (i := .iconst 1) (by decide +kernel) _ _ _).trans rfl
theorem e200_22 (ls : List Value) (a b : Int32) (st : List Value) (w : zH) : zrun none (200, 22, ls, (.int b :: .int a :: st), w) = if a = b then zrun none (200, 25, ls, st, w) else zrun none (200, 41, ls, st, w) := (zE_ (i := .if_icmp .ne 19) (by decide +kernel) _ _ _).trans (zq_ic_ne rfl rfl)
theorem e200_25 (v1 v2 v3 v4 v5 : Value) (x : Nat) (st : List Value) (w : zH) : zrun none (200, 25, [.ref x, v1, v2, v3, v4, v5], st, w) = zrun none (200, 26, [.ref x, v1, v2, v3, v4, v5], (.ref x :: st), w) := (zE_ (i := .aload_n 0) (by decide +kernel) _ _ _).trans rfl
theorem e200_26 (ls : List Value) (a : Nat) (st : List Value) (w : zH) : zrun none (200, 26, ls, (.ref a :: st), w) = zo (zf w a 1204) (fun x => zrun none (200, 29, ls, (x :: st), w)) := (zE_ (i := .getfield 1204) (by decide +kernel) _ _ _).trans zq_getf
theorem e200_29 (v0 v2 v3 v4 v5 : Value) (x : Int32) (st : List Value) (w : zH) : zrun none (200, 29, [v0, .int x, v2, v3, v4, v5], st, w) = zrun none (200, 30, [v0, .int x, v2, v3, v4, v5], (.int x :: st), w) := (zE_ (i := .iload_n 1) (by decide +kernel) _ _ _).trans rfl
theorem e200_30 (ls st : List Value) (w : zH) : zrun none (200, 30, ls, st, w) = zrun none (200, 31, ls, (.int 2 :: st), w) := (zE_ (i := .iconst 2) (by decide +kernel) _ _ _).trans rfl
theorem e200_31 (v0 v1 v2 v3 v4 : Value) (x : Int32) (st : List Value) (w : zH) : zrun none (200, 31, [v0, v1, v2, v3, v4, .int x], st, w) = zrun none (200, 33, [v0, v1, v2, v3, v4, .int x], (.int x :: st), w) := (zE_ (i := .iload 5) (by decide +kernel) _ _ _).trans rfl
theorem e200_33 (ls : List Value) (a b : Int32) (st : List Value) (w : zH) : zrun none (200, 33, ls, (.int b :: .int a :: st), w) = zrun none (200, 34, ls, (.int (a * b) :: st), w) := (zE_ (i := .imul) (by decide +kernel) _ _ _).trans rfl
theorem e200_34 (ls : List Value) (a b : Int32) (st : List Value) (w : zH) : zrun none (200, 34, ls, (.int b :: .int a :: st), w) = zrun none (200, 35, ls, (.int (a + b) :: st), w) := (zE_ (i := .iadd) (by decide +kernel) _ _ _).trans rfl
theorem e200_35 (v0 v1 v2 v4 v5 : Value) (x : Int32) (st : List Value) (w : zH) : zrun none (200, 35, [v0, v1, v2, .int x, v4, v5], st, w) = zrun none (200, 36, [v0, v1, v2, .int x, v4, v5], (.int x :: st), w) := (zE_ (i := .iload_n 3) (by decide +kernel) _ _ _).trans rfl
theorem e200_36 (ls : List Value) (a b : Int32) (st : List Value) (w : zH) : zrun none (200, 36, ls, (.int b :: .int a :: st), w) = zrun none (200, 37, ls, (.int (a + b) :: st), w) := (zE_ (i := .iadd) (by decide +kernel) _ _ _).trans rfl
theorem e200_37 (ls : List Value) (j : Int32) (a : Nat) (st : List Value) (w : zH) : zrun none (200, 37, ls, (.int j :: .ref a :: st), w) = zoi (zai w a 100 j) (fun x => zrun none (200, 38, ls, (.int x :: st), w)) := (zE_ (i := .iaload) (by decide +kernel) _ _ _).trans zq_iald
theorem e200_38 (ls st : List Value) (w : zH) : zrun none (200, 38, ls, st, w) = zrun none (200, 42, ls, st, w) := (zE_ (i := .goto 4) (by decide +kernel) _ _ _).trans rfl
theorem e200_41 (ls st : List Value) (w : zH) : zrun none (200, 41, ls, st, w) = zrun none (200, 42, ls, (.int 0 :: st), w) := (zE_ (i := .iconst 0) (by decide +kernel) _ _ _).trans rfl
theorem e200_42 (ls : List Value) (a b : Int32) (st : List Value) (w : zH) : zrun none (200, 42, ls, (.int b :: .int a :: st), w) = zrun none (200, 43, ls, (.int (a + b) :: st), w) := (zE_ (i := .iadd) (by decide +kernel) _ _ _).trans rfl
theorem e200_43 (v0 v1 v2 v3 v4 v5 : Value) (x : Int32) (st : List Value) (w : zH) (h : v3.category = 1) : zrun none (200, 43, [v0, v1, v2, v3, v4, v5], (.int x :: st), w) = zrun none (200, 45, [v0, v1, v2, v3, .int x, v5], st, w) := by
  refine (zE_ (i := .istore 4) (by decide +kernel) _ _ _).trans ?_
  have hz : zfree [v0, v1, v2, v3, v4, v5] 4 = true := by show decide (v3.category = 1) = true; exact decide_eq_true h
  show zres (zst zint 4 2 200 43 [v0, v1, v2, v3, v4, v5] (.int x :: st) w) = _
  unfold zst
  dsimp only
  rw [if_pos ⟨rfl, Nat.le_of_ble_eq_true rfl, hz⟩]
  rfl
theorem e200_45 (v0 v1 v2 v3 v4 : Value) (x : Int32) (st : List Value) (w : zH) : zrun none (200, 45, [v0, v1, v2, v3, v4, .int x], st, w) = zrun none (200, 48, [v0, v1, v2, v3, v4, .int (x + 1)], st, w) := (zE_ (i := .iinc 5 1) (by decide +kernel) _ _ _).trans rfl
theorem e200_48 (ls st : List Value) (w : zH) : zrun none (200, 48, ls, st, w) = zrun none (200, 6, ls, st, w) := (zE_ (i := .goto (-42)) (by decide +kernel) _ _ _).trans rfl
theorem e200_51 (v0 v1 v2 v3 v5 : Value) (x : Int32) (st : List Value) (w : zH) : zrun none (200, 51, [v0, v1, v2, v3, .int x, v5], st, w) = zrun none (200, 53, [v0, v1, v2, v3, .int x, v5], (.int x :: st), w) := (zE_ (i := .iload 4) (by decide +kernel) _ _ _).trans rfl
theorem e200_53 (ls : List Value) (x : Int32) (w : zH) : zrun none (200, 53, ls, [.int x], w) = some (some (.int x), w) := by
  refine (zE_ (i := .ireturn) (by decide +kernel) _ _ _).trans ?_
  show zres (if narrow .int (.int x) = .int x then _ else none) = _
  rw [if_pos (show narrow .int (.int x) = .int x from rfl)]
  rfl
theorem e201_0 (v1 v2 v3 v4 v5 v6 v7 v8 v9 v10 : Value) (x : Nat) (st : List Value) (w : zH) : zrun none (201, 0, [.ref x, v1, v2, v3, v4, v5, v6, v7, v8, v9, v10], st, w) = zrun none (201, 1, [.ref x, v1, v2, v3, v4, v5, v6, v7, v8, v9, v10], (.ref x :: st), w) := (zE_ (i := .aload_n 0) (by decide +kernel) _ _ _).trans rfl
theorem e201_1 (ls st : List Value) (w : zH) : zrun none (201, 1, ls, st, w) = zrun none (201, 2, ls, (.int 0 :: st), w) := (zE_ (i := .iconst 0) (by decide +kernel) _ _ _).trans rfl
theorem e201_2 (ls : List Value) (x : Int32) (a : Nat) (st : List Value) (w : zH) : zrun none (201, 2, ls, (.int x :: .ref a :: st), w) = zgd (a < zX ∧ (zf w a 1200).isSome = true) (zrun none (201, 5, ls, st, zpf w a 1200 (.int x))) := by
  refine (zE_ (i := .putfield 1200) (by decide +kernel) _ _ _).trans ?_
  by_cases hg : a < zX ∧ (zf w a 1200).isSome = true
  · rw [zgd_pos hg]
    obtain ⟨ha, h⟩ := hg
    exact zq_putf ha h rfl rfl
  · rw [zgd_neg hg]
    exact zq_putf_no (fun h1 h2 h3 => hg ⟨h1, h2⟩)
theorem e201_5 (v0 v2 v3 v4 v5 v6 v7 v8 v9 v10 : Value) (x : Int32) (st : List Value) (w : zH) : zrun none (201, 5, [v0, .int x, v2, v3, v4, v5, v6, v7, v8, v9, v10], st, w) = zrun none (201, 6, [v0, .int x, v2, v3, v4, v5, v6, v7, v8, v9, v10], (.int x :: st), w) := (zE_ (i := .iload_n 1) (by decide +kernel) _ _ _).trans rfl
theorem e201_6 (ls : List Value) (x0 : Int32) (st : List Value) (w : zH) (hr : zcat st ≤ 8) : zrun none (201, 6, ls, (.int x0 :: st), w) = zcl (zrun none (149, 0, [.int x0], [], w)) (fun r => zrun none (201, 9, ls, r.1.toList ++ st, r.2)) := by
  refine (zE_ (i := .invokestatic 149) (by decide +kernel) _ _ _).trans ?_
  show zres (if (99 : Nat) = 99 ∧ 1 ≤ ((.int x0 :: st) : List Value).length then zcall 149 [.int x0] st 201 6 ls w else none) = _
  rw [if_pos ⟨rfl, by simp⟩]
  exact zq_call hr (Nat.le_of_ble_eq_true rfl) rfl rfl
theorem e201_9 (ls : List Value) (a : Int32) (st : List Value) (w : zH) : zrun none (201, 9, ls, (.int a :: st), w) = if a = 0 then zrun none (201, 48, ls, st, w) else zrun none (201, 12, ls, st, w) := (zE_ (i := .ifCond .eq 39) (by decide +kernel) _ _ _).trans (zq_if_eq rfl rfl)
theorem e201_12 (v0 v1 v2 v4 v5 v6 v7 v8 v9 v10 : Value) (x : Int32) (st : List Value) (w : zH) : zrun none (201, 12, [v0, v1, v2, .int x, v4, v5, v6, v7, v8, v9, v10], st, w) = zrun none (201, 13, [v0, v1, v2, .int x, v4, v5, v6, v7, v8, v9, v10], (.int x :: st), w) := (zE_ (i := .iload_n 3) (by decide +kernel) _ _ _).trans rfl
theorem e201_13 (ls : List Value) (a : Int32) (st : List Value) (w : zH) : zrun none (201, 13, ls, (.int a :: st), w) = zrun none (201, 14, ls, (.long a.toInt64 :: st), w) := (zE_ (i := .i2l) (by decide +kernel) _ _ _).trans rfl
theorem e201_14 (ls st : List Value) (w : zH) : zrun none (201, 14, ls, st, w) = zrun none (201, 15, ls, (.long 1 :: st), w) := (zE_ (i := .lconst 1) (by decide +kernel) _ _ _).trans rfl
theorem e201_15 (ls st : List Value) (w : zH) : zrun none (201, 15, ls, st, w) = zrun none (201, 18, ls, (.long 12 :: st), w) := (zE_ (i := .ldc2_w 12) (by decide +kernel) _ _ _).trans rfl
theorem e201_18 (ls : List Value) (x0 : Int64) (x1 : Int64) (x2 : Int64) (st : List Value) (w : zH) (hr : zcat st ≤ 8) : zrun none (201, 18, ls, (.long x2 :: .long x1 :: .long x0 :: st), w) = zcl (zrun none (146, 0, [.long x0, zJ, .long x1, zJ, .long x2, zJ], [], w)) (fun r => zrun none (201, 21, ls, r.1.toList ++ st, r.2)) := by
  refine (zE_ (i := .invokestatic 146) (by decide +kernel) _ _ _).trans ?_
  show zres (if (99 : Nat) = 99 ∧ 3 ≤ ((.long x2 :: .long x1 :: .long x0 :: st) : List Value).length then zcall 146 [.long x0, .long x1, .long x2] st 201 18 ls w else none) = _
  rw [if_pos ⟨rfl, by simp⟩]
  exact zq_call hr (Nat.le_of_ble_eq_true rfl) rfl rfl
theorem e201_21 (ls : List Value) (a : Int32) (st : List Value) (w : zH) : zrun none (201, 21, ls, (.int a :: st), w) = if a = 0 then zrun none (201, 48, ls, st, w) else zrun none (201, 24, ls, st, w) := (zE_ (i := .ifCond .eq 27) (by decide +kernel) _ _ _).trans (zq_if_eq rfl rfl)
theorem e201_24 (v0 v1 v2 v3 v5 v6 v7 v8 v9 v10 : Value) (x : Int32) (st : List Value) (w : zH) : zrun none (201, 24, [v0, v1, v2, v3, .int x, v5, v6, v7, v8, v9, v10], st, w) = zrun none (201, 26, [v0, v1, v2, v3, .int x, v5, v6, v7, v8, v9, v10], (.int x :: st), w) := (zE_ (i := .iload 4) (by decide +kernel) _ _ _).trans rfl
theorem e201_26 (ls : List Value) (a : Int32) (st : List Value) (w : zH) : zrun none (201, 26, ls, (.int a :: st), w) = zrun none (201, 27, ls, (.long a.toInt64 :: st), w) := (zE_ (i := .i2l) (by decide +kernel) _ _ _).trans rfl
theorem e201_27 (ls st : List Value) (w : zH) : zrun none (201, 27, ls, st, w) = zrun none (201, 28, ls, (.long 0 :: st), w) := (zE_ (i := .lconst 0) (by decide +kernel) _ _ _).trans rfl
theorem e201_28 (ls st : List Value) (w : zH) : zrun none (201, 28, ls, st, w) = zrun none (201, 31, ls, (.long 500 :: st), w) := (zE_ (i := .ldc2_w 500) (by decide +kernel) _ _ _).trans rfl
theorem e201_31 (ls : List Value) (x0 : Int64) (x1 : Int64) (x2 : Int64) (st : List Value) (w : zH) (hr : zcat st ≤ 8) : zrun none (201, 31, ls, (.long x2 :: .long x1 :: .long x0 :: st), w) = zcl (zrun none (146, 0, [.long x0, zJ, .long x1, zJ, .long x2, zJ], [], w)) (fun r => zrun none (201, 34, ls, r.1.toList ++ st, r.2)) := by
  refine (zE_ (i := .invokestatic 146) (by decide +kernel) _ _ _).trans ?_
  show zres (if (99 : Nat) = 99 ∧ 3 ≤ ((.long x2 :: .long x1 :: .long x0 :: st) : List Value).length then zcall 146 [.long x0, .long x1, .long x2] st 201 31 ls w else none) = _
  rw [if_pos ⟨rfl, by simp⟩]
  exact zq_call hr (Nat.le_of_ble_eq_true rfl) rfl rfl
theorem e201_34 (ls : List Value) (a : Int32) (st : List Value) (w : zH) : zrun none (201, 34, ls, (.int a :: st), w) = if a = 0 then zrun none (201, 48, ls, st, w) else zrun none (201, 37, ls, st, w) := (zE_ (i := .ifCond .eq 14) (by decide +kernel) _ _ _).trans (zq_if_eq rfl rfl)
theorem e201_37 (v0 v1 v2 v3 v4 v6 v7 v8 v9 v10 : Value) (x : Int32) (st : List Value) (w : zH) : zrun none (201, 37, [v0, v1, v2, v3, v4, .int x, v6, v7, v8, v9, v10], st, w) = zrun none (201, 39, [v0, v1, v2, v3, v4, .int x, v6, v7, v8, v9, v10], (.int x :: st), w) := (zE_ (i := .iload 5) (by decide +kernel) _ _ _).trans rfl
theorem e201_39 (ls : List Value) (a : Int32) (st : List Value) (w : zH) : zrun none (201, 39, ls, (.int a :: st), w) = zrun none (201, 40, ls, (.long a.toInt64 :: st), w) := (zE_ (i := .i2l) (by decide +kernel) _ _ _).trans rfl
theorem e201_40 (ls st : List Value) (w : zH) : zrun none (201, 40, ls, st, w) = zrun none (201, 41, ls, (.long 0 :: st), w) := (zE_ (i := .lconst 0) (by decide +kernel) _ _ _).trans rfl
theorem e201_41 (ls st : List Value) (w : zH) : zrun none (201, 41, ls, st, w) = zrun none (201, 42, ls, (.long 1 :: st), w) := (zE_ (i := .lconst 1) (by decide +kernel) _ _ _).trans rfl
theorem e201_42 (ls : List Value) (x0 : Int64) (x1 : Int64) (x2 : Int64) (st : List Value) (w : zH) (hr : zcat st ≤ 8) : zrun none (201, 42, ls, (.long x2 :: .long x1 :: .long x0 :: st), w) = zcl (zrun none (146, 0, [.long x0, zJ, .long x1, zJ, .long x2, zJ], [], w)) (fun r => zrun none (201, 45, ls, r.1.toList ++ st, r.2)) := by
  refine (zE_ (i := .invokestatic 146) (by decide +kernel) _ _ _).trans ?_
  show zres (if (99 : Nat) = 99 ∧ 3 ≤ ((.long x2 :: .long x1 :: .long x0 :: st) : List Value).length then zcall 146 [.long x0, .long x1, .long x2] st 201 42 ls w else none) = _
  rw [if_pos ⟨rfl, by simp⟩]
  exact zq_call hr (Nat.le_of_ble_eq_true rfl) rfl rfl
theorem e201_45 (ls : List Value) (a : Int32) (st : List Value) (w : zH) : zrun none (201, 45, ls, (.int a :: st), w) = if a = 0 then zrun none (201, 48, ls, st, w) else zrun none (201, 51, ls, st, w) := (zE_ (i := .ifCond .ne 6) (by decide +kernel) _ _ _).trans (zq_if_ne rfl rfl)
theorem e201_48 (ls st : List Value) (w : zH) : zrun none (201, 48, ls, st, w) = zrun none (201, 50, ls, (.int (-1000001) :: st), w) := (zE_ (i := .bipush (-1000001)) (by decide +kernel) _ _ _).trans rfl
theorem e201_50 (ls : List Value) (x : Int32) (w : zH) : zrun none (201, 50, ls, [.int x], w) = some (some (.int x), w) := by
  refine (zE_ (i := .ireturn) (by decide +kernel) _ _ _).trans ?_
  show zres (if narrow .int (.int x) = .int x then _ else none) = _
  rw [if_pos (show narrow .int (.int x) = .int x from rfl)]
  rfl
theorem e201_51 (v1 v2 v3 v4 v5 v6 v7 v8 v9 v10 : Value) (x : Nat) (st : List Value) (w : zH) : zrun none (201, 51, [.ref x, v1, v2, v3, v4, v5, v6, v7, v8, v9, v10], st, w) = zrun none (201, 52, [.ref x, v1, v2, v3, v4, v5, v6, v7, v8, v9, v10], (.ref x :: st), w) := (zE_ (i := .aload_n 0) (by decide +kernel) _ _ _).trans rfl
theorem e201_52 (v0 v2 v3 v4 v5 v6 v7 v8 v9 v10 : Value) (x : Int32) (st : List Value) (w : zH) : zrun none (201, 52, [v0, .int x, v2, v3, v4, v5, v6, v7, v8, v9, v10], st, w) = zrun none (201, 53, [v0, .int x, v2, v3, v4, v5, v6, v7, v8, v9, v10], (.int x :: st), w) := (zE_ (i := .iload_n 1) (by decide +kernel) _ _ _).trans rfl
theorem e201_53 (v0 v1 v3 v4 v5 v6 v7 v8 v9 v10 : Value) (x : Int32) (st : List Value) (w : zH) : zrun none (201, 53, [v0, v1, .int x, v3, v4, v5, v6, v7, v8, v9, v10], st, w) = zrun none (201, 54, [v0, v1, .int x, v3, v4, v5, v6, v7, v8, v9, v10], (.int x :: st), w) := (zE_ (i := .iload_n 2) (by decide +kernel) _ _ _).trans rfl
theorem e201_54 (v0 v1 v2 v4 v5 v6 v7 v8 v9 v10 : Value) (x : Int32) (st : List Value) (w : zH) : zrun none (201, 54, [v0, v1, v2, .int x, v4, v5, v6, v7, v8, v9, v10], st, w) = zrun none (201, 55, [v0, v1, v2, .int x, v4, v5, v6, v7, v8, v9, v10], (.int x :: st), w) := (zE_ (i := .iload_n 3) (by decide +kernel) _ _ _).trans rfl
theorem e201_55 (ls st : List Value) (w : zH) : zrun none (201, 55, ls, st, w) = zrun none (201, 56, ls, (.int 1 :: st), w) := (zE_ (i := .iconst 1) (by decide +kernel) _ _ _).trans rfl
theorem e201_56 (ls st : List Value) (w : zH) : zrun none (201, 56, ls, st, w) = zrun none (201, 58, ls, (.int 100 :: st), w) := (zE_ (i := .bipush 100) (by decide +kernel) _ _ _).trans rfl
theorem e201_58 (ls st : List Value) (w : zH) : zrun none (201, 58, ls, st, w) = zrun none (201, 61, ls, (.int 1000 :: st), w) := (zE_ (i := .sipush 1000) (by decide +kernel) _ _ _).trans rfl
theorem e201_61 (ls : List Value) (a : Nat) (x0 : Int32) (x1 : Int32) (x2 : Int32) (x3 : Int32) (x4 : Int32) (x5 : Int32) (st : List Value) (w : zH) (hr : zcat st ≤ 8) : zrun none (201, 61, ls, (.int x5 :: .int x4 :: .int x3 :: .int x2 :: .int x1 :: .int x0 :: .ref a :: st), w) = zgd (zis w a 12) (zcl (zrun none (154, 0, [.ref a, .int x0, .int x1, .int x2, .int x3, .int x4, .int x5, zJ], [], w)) (fun r => zrun none (201, 64, ls, r.1.toList ++ st, r.2))) := by
  refine (zE_ (i := .invokevirtual 154) (by decide +kernel) _ _ _).trans ?_
  show zres (zinv none 154 201 61 ls (.int x5 :: .int x4 :: .int x3 :: .int x2 :: .int x1 :: .int x0 :: .ref a :: st) w) = _
  unfold zinv
  show zres (if zrc none 154 w (.ref a) = true then zcall 154 [.ref a, .int x0, .int x1, .int x2, .int x3, .int x4, .int x5] st 201 61 ls w else none) = _
  by_cases hc : zis w a 12
  · rw [if_pos (zrc_is hc (by decide +kernel)), zgd_pos hc]
    exact zq_call hr (Nat.le_of_ble_eq_true rfl) rfl rfl
  · rw [zgd_neg hc, if_neg (fun q => hc (zrc_of q (by decide +kernel)))]
    rfl
theorem e201_64 (v0 v1 v2 v3 v4 v5 v6 v7 v8 v9 v10 : Value) (x : Int32) (st : List Value) (w : zH) (h : v5.category = 1) : zrun none (201, 64, [v0, v1, v2, v3, v4, v5, v6, v7, v8, v9, v10], (.int x :: st), w) = zrun none (201, 66, [v0, v1, v2, v3, v4, v5, .int x, v7, v8, v9, v10], st, w) := by
  refine (zE_ (i := .istore 6) (by decide +kernel) _ _ _).trans ?_
  have hz : zfree [v0, v1, v2, v3, v4, v5, v6, v7, v8, v9, v10] 6 = true := by show decide (v5.category = 1) = true; exact decide_eq_true h
  show zres (zst zint 6 2 201 64 [v0, v1, v2, v3, v4, v5, v6, v7, v8, v9, v10] (.int x :: st) w) = _
  unfold zst
  dsimp only
  rw [if_pos ⟨rfl, Nat.le_of_ble_eq_true rfl, hz⟩]
  rfl
theorem e201_66 (v0 v1 v2 v3 v4 v5 v7 v8 v9 v10 : Value) (x : Int32) (st : List Value) (w : zH) : zrun none (201, 66, [v0, v1, v2, v3, v4, v5, .int x, v7, v8, v9, v10], st, w) = zrun none (201, 68, [v0, v1, v2, v3, v4, v5, .int x, v7, v8, v9, v10], (.int x :: st), w) := (zE_ (i := .iload 6) (by decide +kernel) _ _ _).trans rfl
theorem e201_68 (ls : List Value) (a : Int32) (st : List Value) (w : zH) : zrun none (201, 68, ls, (.int a :: st), w) = if 0 ≤ a then zrun none (201, 74, ls, st, w) else zrun none (201, 71, ls, st, w) := (zE_ (i := .ifCond .ge 6) (by decide +kernel) _ _ _).trans (zq_if_ge rfl rfl)
theorem e201_71 (v0 v1 v2 v3 v4 v5 v7 v8 v9 v10 : Value) (x : Int32) (st : List Value) (w : zH) : zrun none (201, 71, [v0, v1, v2, v3, v4, v5, .int x, v7, v8, v9, v10], st, w) = zrun none (201, 73, [v0, v1, v2, v3, v4, v5, .int x, v7, v8, v9, v10], (.int x :: st), w) := (zE_ (i := .iload 6) (by decide +kernel) _ _ _).trans rfl
theorem e201_73 (ls : List Value) (x : Int32) (w : zH) : zrun none (201, 73, ls, [.int x], w) = some (some (.int x), w) := by
  refine (zE_ (i := .ireturn) (by decide +kernel) _ _ _).trans ?_
  show zres (if narrow .int (.int x) = .int x then _ else none) = _
  rw [if_pos (show narrow .int (.int x) = .int x from rfl)]
  rfl
theorem e201_74 (ls st : List Value) (w : zH) : zrun none (201, 74, ls, st, w) = zrun none (201, 76, ls, (.int 100 :: st), w) := (zE_ (i := .bipush 100) (by decide +kernel) _ _ _).trans rfl
theorem e201_76 (v0 v2 v3 v4 v5 v6 v7 v8 v9 v10 : Value) (x : Int32) (st : List Value) (w : zH) : zrun none (201, 76, [v0, .int x, v2, v3, v4, v5, v6, v7, v8, v9, v10], st, w) = zrun none (201, 77, [v0, .int x, v2, v3, v4, v5, v6, v7, v8, v9, v10], (.int x :: st), w) := (zE_ (i := .iload_n 1) (by decide +kernel) _ _ _).trans rfl
theorem e201_77 (ls : List Value) (a b : Int32) (st : List Value) (w : zH) : zrun none (201, 77, ls, (.int b :: .int a :: st), w) = zrun none (201, 78, ls, (.int (a * b) :: st), w) := (zE_ (i := .imul) (by decide +kernel) _ _ _).trans rfl
theorem e201_78 (v0 v1 v3 v4 v5 v6 v7 v8 v9 v10 : Value) (x : Int32) (st : List Value) (w : zH) : zrun none (201, 78, [v0, v1, .int x, v3, v4, v5, v6, v7, v8, v9, v10], st, w) = zrun none (201, 79, [v0, v1, .int x, v3, v4, v5, v6, v7, v8, v9, v10], (.int x :: st), w) := (zE_ (i := .iload_n 2) (by decide +kernel) _ _ _).trans rfl
theorem e201_79 (ls : List Value) (a b : Int32) (st : List Value) (w : zH) : zrun none (201, 79, ls, (.int b :: .int a :: st), w) = zrun none (201, 80, ls, (.int (a + b) :: st), w) := (zE_ (i := .iadd) (by decide +kernel) _ _ _).trans rfl
theorem e201_80 (v0 v1 v2 v3 v4 v5 v6 v7 v8 v9 v10 : Value) (x : Int32) (st : List Value) (w : zH) (h : v6.category = 1) : zrun none (201, 80, [v0, v1, v2, v3, v4, v5, v6, v7, v8, v9, v10], (.int x :: st), w) = zrun none (201, 82, [v0, v1, v2, v3, v4, v5, v6, .int x, v8, v9, v10], st, w) := by
  refine (zE_ (i := .istore 7) (by decide +kernel) _ _ _).trans ?_
  have hz : zfree [v0, v1, v2, v3, v4, v5, v6, v7, v8, v9, v10] 7 = true := by show decide (v6.category = 1) = true; exact decide_eq_true h
  show zres (zst zint 7 2 201 80 [v0, v1, v2, v3, v4, v5, v6, v7, v8, v9, v10] (.int x :: st) w) = _
  unfold zst
  dsimp only
  rw [if_pos ⟨rfl, Nat.le_of_ble_eq_true rfl, hz⟩]
  rfl
theorem e201_82 (ls st : List Value) (w : zH) : zrun none (201, 82, ls, st, w) = zrun none (201, 83, ls, (.int 0 :: st), w) := (zE_ (i := .iconst 0) (by decide +kernel) _ _ _).trans rfl
theorem e201_83 (v0 v1 v2 v3 v4 v5 v6 v7 v8 v9 v10 : Value) (x : Int32) (st : List Value) (w : zH) (h : v7.category = 1) : zrun none (201, 83, [v0, v1, v2, v3, v4, v5, v6, v7, v8, v9, v10], (.int x :: st), w) = zrun none (201, 85, [v0, v1, v2, v3, v4, v5, v6, v7, .int x, v9, v10], st, w) := by
  refine (zE_ (i := .istore 8) (by decide +kernel) _ _ _).trans ?_
  have hz : zfree [v0, v1, v2, v3, v4, v5, v6, v7, v8, v9, v10] 8 = true := by show decide (v7.category = 1) = true; exact decide_eq_true h
  show zres (zst zint 8 2 201 83 [v0, v1, v2, v3, v4, v5, v6, v7, v8, v9, v10] (.int x :: st) w) = _
  unfold zst
  dsimp only
  rw [if_pos ⟨rfl, Nat.le_of_ble_eq_true rfl, hz⟩]
  rfl
theorem e201_85 (ls st : List Value) (w : zH) : zrun none (201, 85, ls, st, w) = zrun none (201, 86, ls, (.int 0 :: st), w) := (zE_ (i := .iconst 0) (by decide +kernel) _ _ _).trans rfl
theorem e201_86 (v0 v1 v2 v3 v4 v5 v6 v7 v8 v9 v10 : Value) (x : Int32) (st : List Value) (w : zH) (h : v8.category = 1) : zrun none (201, 86, [v0, v1, v2, v3, v4, v5, v6, v7, v8, v9, v10], (.int x :: st), w) = zrun none (201, 88, [v0, v1, v2, v3, v4, v5, v6, v7, v8, .int x, v10], st, w) := by
  refine (zE_ (i := .istore 9) (by decide +kernel) _ _ _).trans ?_
  have hz : zfree [v0, v1, v2, v3, v4, v5, v6, v7, v8, v9, v10] 9 = true := by show decide (v8.category = 1) = true; exact decide_eq_true h
  show zres (zst zint 9 2 201 86 [v0, v1, v2, v3, v4, v5, v6, v7, v8, v9, v10] (.int x :: st) w) = _
  unfold zst
  dsimp only
  rw [if_pos ⟨rfl, Nat.le_of_ble_eq_true rfl, hz⟩]
  rfl
theorem e201_88 (ls st : List Value) (w : zH) : zrun none (201, 88, ls, st, w) = zrun none (201, 89, ls, (.int 1 :: st), w) := (zE_ (i := .iconst 1) (by decide +kernel) _ _ _).trans rfl
theorem e201_89 (v0 v1 v2 v3 v4 v5 v6 v7 v8 v9 v10 : Value) (x : Int32) (st : List Value) (w : zH) (h : v9.category = 1) : zrun none (201, 89, [v0, v1, v2, v3, v4, v5, v6, v7, v8, v9, v10], (.int x :: st), w) = zrun none (201, 91, [v0, v1, v2, v3, v4, v5, v6, v7, v8, v9, .int x], st, w) := by
  refine (zE_ (i := .istore 10) (by decide +kernel) _ _ _).trans ?_
  have hz : zfree [v0, v1, v2, v3, v4, v5, v6, v7, v8, v9, v10] 10 = true := by show decide (v9.category = 1) = true; exact decide_eq_true h
  show zres (zst zint 10 2 201 89 [v0, v1, v2, v3, v4, v5, v6, v7, v8, v9, v10] (.int x :: st) w) = _
  unfold zst
  dsimp only
  rw [if_pos ⟨rfl, Nat.le_of_ble_eq_true rfl, hz⟩]
  rfl
theorem e201_91 (v0 v1 v2 v3 v4 v5 v6 v7 v8 v9 : Value) (x : Int32) (st : List Value) (w : zH) : zrun none (201, 91, [v0, v1, v2, v3, v4, v5, v6, v7, v8, v9, .int x], st, w) = zrun none (201, 93, [v0, v1, v2, v3, v4, v5, v6, v7, v8, v9, .int x], (.int x :: st), w) := (zE_ (i := .iload 10) (by decide +kernel) _ _ _).trans rfl
theorem e201_93 (ls st : List Value) (w : zH) : zrun none (201, 93, ls, st, w) = zrun none (201, 94, ls, (.int 1 :: st), w) := (zE_ (i := .iconst 1) (by decide +kernel) _ _ _).trans rfl
theorem e201_94 (v0 v1 v2 v4 v5 v6 v7 v8 v9 v10 : Value) (x : Int32) (st : List Value) (w : zH) : zrun none (201, 94, [v0, v1, v2, .int x, v4, v5, v6, v7, v8, v9, v10], st, w) = zrun none (201, 95, [v0, v1, v2, .int x, v4, v5, v6, v7, v8, v9, v10], (.int x :: st), w) := (zE_ (i := .iload_n 3) (by decide +kernel) _ _ _).trans rfl
theorem e201_95 (ls : List Value) (a b : Int32) (st : List Value) (w : zH) : zrun none (201, 95, ls, (.int b :: .int a :: st), w) = zrun none (201, 96, ls, (.int (a <<< (b &&& 31)) :: st), w) := (zE_ (i := .ishl) (by decide +kernel) _ _ _).trans rfl
theorem e201_96 (ls : List Value) (a b : Int32) (st : List Value) (w : zH) : zrun none (201, 96, ls, (.int b :: .int a :: st), w) = if b ≤ a then zrun none (201, 148, ls, st, w) else zrun none (201, 99, ls, st, w) := (zE_ (i := .if_icmp .ge 52) (by decide +kernel) _ _ _).trans (zq_ic_ge rfl rfl)
theorem e201_99 (v1 v2 v3 v4 v5 v6 v7 v8 v9 v10 : Value) (x : Nat) (st : List Value) (w : zH) : zrun none (201, 99, [.ref x, v1, v2, v3, v4, v5, v6, v7, v8, v9, v10], st, w) = zrun none (201, 100, [.ref x, v1, v2, v3, v4, v5, v6, v7, v8, v9, v10], (.ref x :: st), w) := (zE_ (i := .aload_n 0) (by decide +kernel) _ _ _).trans rfl
theorem e201_100 (v0 v1 v2 v3 v4 v5 v6 v8 v9 v10 : Value) (x : Int32) (st : List Value) (w : zH) : zrun none (201, 100, [v0, v1, v2, v3, v4, v5, v6, .int x, v8, v9, v10], st, w) = zrun none (201, 102, [v0, v1, v2, v3, v4, v5, v6, .int x, v8, v9, v10], (.int x :: st), w) := (zE_ (i := .iload 7) (by decide +kernel) _ _ _).trans rfl
theorem e201_102 (v0 v1 v2 v3 v4 v5 v6 v7 v8 v9 : Value) (x : Int32) (st : List Value) (w : zH) : zrun none (201, 102, [v0, v1, v2, v3, v4, v5, v6, v7, v8, v9, .int x], st, w) = zrun none (201, 104, [v0, v1, v2, v3, v4, v5, v6, v7, v8, v9, .int x], (.int x :: st), w) := (zE_ (i := .iload 10) (by decide +kernel) _ _ _).trans rfl
theorem e201_104 (ls st : List Value) (w : zH) : zrun none (201, 104, ls, st, w) = zrun none (201, 105, ls, (.int 0 :: st), w) := (zE_ (i := .iconst 0) (by decide +kernel) _ _ _).trans rfl
theorem e201_105 (ls : List Value) (a : Nat) (x0 : Int32) (x1 : Int32) (x2 : Int32) (st : List Value) (w : zH) (hr : zcat st ≤ 8) : zrun none (201, 105, ls, (.int x2 :: .int x1 :: .int x0 :: .ref a :: st), w) = zgd (zis w a 12) (zcl (zrun none (200, 0, [.ref a, .int x0, .int x1, .int x2, zJ, zJ], [], w)) (fun r => zrun none (201, 108, ls, r.1.toList ++ st, r.2))) := by
  refine (zE_ (i := .invokevirtual 200) (by decide +kernel) _ _ _).trans ?_
  show zres (zinv none 200 201 105 ls (.int x2 :: .int x1 :: .int x0 :: .ref a :: st) w) = _
  unfold zinv
  show zres (if zrc none 200 w (.ref a) = true then zcall 200 [.ref a, .int x0, .int x1, .int x2] st 201 105 ls w else none) = _
  by_cases hc : zis w a 12
  · rw [if_pos (zrc_is hc (by decide +kernel)), zgd_pos hc]
    exact zq_call hr (Nat.le_of_ble_eq_true rfl) rfl rfl
  · rw [zgd_neg hc, if_neg (fun q => hc (zrc_of q (by decide +kernel)))]
    rfl
theorem e201_108 (v0 v1 v2 v3 v5 v6 v7 v8 v9 v10 : Value) (x : Int32) (st : List Value) (w : zH) : zrun none (201, 108, [v0, v1, v2, v3, .int x, v5, v6, v7, v8, v9, v10], st, w) = zrun none (201, 110, [v0, v1, v2, v3, .int x, v5, v6, v7, v8, v9, v10], (.int x :: st), w) := (zE_ (i := .iload 4) (by decide +kernel) _ _ _).trans rfl
theorem e201_110 (ls : List Value) (a b : Int32) (st : List Value) (w : zH) : zrun none (201, 110, ls, (.int b :: .int a :: st), w) = if b < a then zrun none (201, 142, ls, st, w) else zrun none (201, 113, ls, st, w) := (zE_ (i := .if_icmp .gt 32) (by decide +kernel) _ _ _).trans (zq_ic_gt rfl rfl)
theorem e201_113 (v1 v2 v3 v4 v5 v6 v7 v8 v9 v10 : Value) (x : Nat) (st : List Value) (w : zH) : zrun none (201, 113, [.ref x, v1, v2, v3, v4, v5, v6, v7, v8, v9, v10], st, w) = zrun none (201, 114, [.ref x, v1, v2, v3, v4, v5, v6, v7, v8, v9, v10], (.ref x :: st), w) := (zE_ (i := .aload_n 0) (by decide +kernel) _ _ _).trans rfl
theorem e201_114 (v0 v1 v2 v3 v4 v5 v6 v8 v9 v10 : Value) (x : Int32) (st : List Value) (w : zH) : zrun none (201, 114, [v0, v1, v2, v3, v4, v5, v6, .int x, v8, v9, v10], st, w) = zrun none (201, 116, [v0, v1, v2, v3, v4, v5, v6, .int x, v8, v9, v10], (.int x :: st), w) := (zE_ (i := .iload 7) (by decide +kernel) _ _ _).trans rfl
theorem e201_116 (v0 v1 v2 v3 v4 v5 v6 v7 v8 v9 : Value) (x : Int32) (st : List Value) (w : zH) : zrun none (201, 116, [v0, v1, v2, v3, v4, v5, v6, v7, v8, v9, .int x], st, w) = zrun none (201, 118, [v0, v1, v2, v3, v4, v5, v6, v7, v8, v9, .int x], (.int x :: st), w) := (zE_ (i := .iload 10) (by decide +kernel) _ _ _).trans rfl
theorem e201_118 (ls st : List Value) (w : zH) : zrun none (201, 118, ls, st, w) = zrun none (201, 119, ls, (.int 1 :: st), w) := (zE_ (i := .iconst 1) (by decide +kernel) _ _ _).trans rfl
theorem e201_119 (ls : List Value) (a : Nat) (x0 : Int32) (x1 : Int32) (x2 : Int32) (st : List Value) (w : zH) (hr : zcat st ≤ 8) : zrun none (201, 119, ls, (.int x2 :: .int x1 :: .int x0 :: .ref a :: st), w) = zgd (zis w a 12) (zcl (zrun none (200, 0, [.ref a, .int x0, .int x1, .int x2, zJ, zJ], [], w)) (fun r => zrun none (201, 122, ls, r.1.toList ++ st, r.2))) := by
  refine (zE_ (i := .invokevirtual 200) (by decide +kernel) _ _ _).trans ?_
  show zres (zinv none 200 201 119 ls (.int x2 :: .int x1 :: .int x0 :: .ref a :: st) w) = _
  unfold zinv
  show zres (if zrc none 200 w (.ref a) = true then zcall 200 [.ref a, .int x0, .int x1, .int x2] st 201 119 ls w else none) = _
  by_cases hc : zis w a 12
  · rw [if_pos (zrc_is hc (by decide +kernel)), zgd_pos hc]
    exact zq_call hr (Nat.le_of_ble_eq_true rfl) rfl rfl
  · rw [zgd_neg hc, if_neg (fun q => hc (zrc_of q (by decide +kernel)))]
    rfl
theorem e201_122 (v0 v1 v2 v3 v4 v5 v6 v7 v8 v10 : Value) (x : Int32) (st : List Value) (w : zH) : zrun none (201, 122, [v0, v1, v2, v3, v4, v5, v6, v7, v8, .int x, v10], st, w) = zrun none (201, 124, [v0, v1, v2, v3, v4, v5, v6, v7, v8, .int x, v10], (.int x :: st), w) := (zE_ (i := .iload 9) (by decide +kernel) _ _ _).trans rfl
theorem e201_124 (ls : List Value) (a b : Int32) (st : List Value) (w : zH) : zrun none (201, 124, ls, (.int b :: .int a :: st), w) = if a ≤ b then zrun none (201, 142, ls, st, w) else zrun none (201, 127, ls, st, w) := (zE_ (i := .if_icmp .le 18) (by decide +kernel) _ _ _).trans (zq_ic_le rfl rfl)
theorem e201_127 (v1 v2 v3 v4 v5 v6 v7 v8 v9 v10 : Value) (x : Nat) (st : List Value) (w : zH) : zrun none (201, 127, [.ref x, v1, v2, v3, v4, v5, v6, v7, v8, v9, v10], st, w) = zrun none (201, 128, [.ref x, v1, v2, v3, v4, v5, v6, v7, v8, v9, v10], (.ref x :: st), w) := (zE_ (i := .aload_n 0) (by decide +kernel) _ _ _).trans rfl
theorem e201_128 (v0 v1 v2 v3 v4 v5 v6 v8 v9 v10 : Value) (x : Int32) (st : List Value) (w : zH) : zrun none (201, 128, [v0, v1, v2, v3, v4, v5, v6, .int x, v8, v9, v10], st, w) = zrun none (201, 130, [v0, v1, v2, v3, v4, v5, v6, .int x, v8, v9, v10], (.int x :: st), w) := (zE_ (i := .iload 7) (by decide +kernel) _ _ _).trans rfl
theorem e201_130 (v0 v1 v2 v3 v4 v5 v6 v7 v8 v9 : Value) (x : Int32) (st : List Value) (w : zH) : zrun none (201, 130, [v0, v1, v2, v3, v4, v5, v6, v7, v8, v9, .int x], st, w) = zrun none (201, 132, [v0, v1, v2, v3, v4, v5, v6, v7, v8, v9, .int x], (.int x :: st), w) := (zE_ (i := .iload 10) (by decide +kernel) _ _ _).trans rfl
theorem e201_132 (ls st : List Value) (w : zH) : zrun none (201, 132, ls, st, w) = zrun none (201, 133, ls, (.int 1 :: st), w) := (zE_ (i := .iconst 1) (by decide +kernel) _ _ _).trans rfl
theorem e201_133 (ls : List Value) (a : Nat) (x0 : Int32) (x1 : Int32) (x2 : Int32) (st : List Value) (w : zH) (hr : zcat st ≤ 8) : zrun none (201, 133, ls, (.int x2 :: .int x1 :: .int x0 :: .ref a :: st), w) = zgd (zis w a 12) (zcl (zrun none (200, 0, [.ref a, .int x0, .int x1, .int x2, zJ, zJ], [], w)) (fun r => zrun none (201, 136, ls, r.1.toList ++ st, r.2))) := by
  refine (zE_ (i := .invokevirtual 200) (by decide +kernel) _ _ _).trans ?_
  show zres (zinv none 200 201 133 ls (.int x2 :: .int x1 :: .int x0 :: .ref a :: st) w) = _
  unfold zinv
  show zres (if zrc none 200 w (.ref a) = true then zcall 200 [.ref a, .int x0, .int x1, .int x2] st 201 133 ls w else none) = _
  by_cases hc : zis w a 12
  · rw [if_pos (zrc_is hc (by decide +kernel)), zgd_pos hc]
    exact zq_call hr (Nat.le_of_ble_eq_true rfl) rfl rfl
  · rw [zgd_neg hc, if_neg (fun q => hc (zrc_of q (by decide +kernel)))]
    rfl
theorem e201_136 (v0 v1 v2 v3 v4 v5 v6 v7 v8 v9 v10 : Value) (x : Int32) (st : List Value) (w : zH) (h : v8.category = 1) : zrun none (201, 136, [v0, v1, v2, v3, v4, v5, v6, v7, v8, v9, v10], (.int x :: st), w) = zrun none (201, 138, [v0, v1, v2, v3, v4, v5, v6, v7, v8, .int x, v10], st, w) := by
  refine (zE_ (i := .istore 9) (by decide +kernel) _ _ _).trans ?_
  have hz : zfree [v0, v1, v2, v3, v4, v5, v6, v7, v8, v9, v10] 9 = true := by show decide (v8.category = 1) = true; exact decide_eq_true h
  show zres (zst zint 9 2 201 136 [v0, v1, v2, v3, v4, v5, v6, v7, v8, v9, v10] (.int x :: st) w) = _
  unfold zst
  dsimp only
  rw [if_pos ⟨rfl, Nat.le_of_ble_eq_true rfl, hz⟩]
  rfl
theorem e201_138 (v0 v1 v2 v3 v4 v5 v6 v7 v8 v9 : Value) (x : Int32) (st : List Value) (w : zH) : zrun none (201, 138, [v0, v1, v2, v3, v4, v5, v6, v7, v8, v9, .int x], st, w) = zrun none (201, 140, [v0, v1, v2, v3, v4, v5, v6, v7, v8, v9, .int x], (.int x :: st), w) := (zE_ (i := .iload 10) (by decide +kernel) _ _ _).trans rfl
theorem e201_140 (v0 v1 v2 v3 v4 v5 v6 v7 v8 v9 v10 : Value) (x : Int32) (st : List Value) (w : zH) (h : v7.category = 1) : zrun none (201, 140, [v0, v1, v2, v3, v4, v5, v6, v7, v8, v9, v10], (.int x :: st), w) = zrun none (201, 142, [v0, v1, v2, v3, v4, v5, v6, v7, .int x, v9, v10], st, w) := by
  refine (zE_ (i := .istore 8) (by decide +kernel) _ _ _).trans ?_
  have hz : zfree [v0, v1, v2, v3, v4, v5, v6, v7, v8, v9, v10] 8 = true := by show decide (v7.category = 1) = true; exact decide_eq_true h
  show zres (zst zint 8 2 201 140 [v0, v1, v2, v3, v4, v5, v6, v7, v8, v9, v10] (.int x :: st) w) = _
  unfold zst
  dsimp only
  rw [if_pos ⟨rfl, Nat.le_of_ble_eq_true rfl, hz⟩]
  rfl
theorem e201_142 (v0 v1 v2 v3 v4 v5 v6 v7 v8 v9 : Value) (x : Int32) (st : List Value) (w : zH) : zrun none (201, 142, [v0, v1, v2, v3, v4, v5, v6, v7, v8, v9, .int x], st, w) = zrun none (201, 145, [v0, v1, v2, v3, v4, v5, v6, v7, v8, v9, .int (x + 1)], st, w) := (zE_ (i := .iinc 10 1) (by decide +kernel) _ _ _).trans rfl
theorem e201_145 (ls st : List Value) (w : zH) : zrun none (201, 145, ls, st, w) = zrun none (201, 91, ls, st, w) := (zE_ (i := .goto (-54)) (by decide +kernel) _ _ _).trans rfl
theorem e201_148 (v0 v1 v2 v3 v4 v6 v7 v8 v9 v10 : Value) (x : Int32) (st : List Value) (w : zH) : zrun none (201, 148, [v0, v1, v2, v3, v4, .int x, v6, v7, v8, v9, v10], st, w) = zrun none (201, 150, [v0, v1, v2, v3, v4, .int x, v6, v7, v8, v9, v10], (.int x :: st), w) := (zE_ (i := .iload 5) (by decide +kernel) _ _ _).trans rfl
theorem e201_150 (ls : List Value) (a : Int32) (st : List Value) (w : zH) : zrun none (201, 150, ls, (.int a :: st), w) = if a = 0 then zrun none (201, 153, ls, st, w) else zrun none (201, 158, ls, st, w) := (zE_ (i := .ifCond .ne 8) (by decide +kernel) _ _ _).trans (zq_if_ne rfl rfl)
theorem e201_153 (v0 v1 v2 v3 v4 v5 v6 v7 v9 v10 : Value) (x : Int32) (st : List Value) (w : zH) : zrun none (201, 153, [v0, v1, v2, v3, v4, v5, v6, v7, .int x, v9, v10], st, w) = zrun none (201, 155, [v0, v1, v2, v3, v4, v5, v6, v7, .int x, v9, v10], (.int x :: st), w) := (zE_ (i := .iload 8) (by decide +kernel) _ _ _).trans rfl
theorem e201_155 (ls st : List Value) (w : zH) : zrun none (201, 155, ls, st, w) = zrun none (201, 160, ls, st, w) := (zE_ (i := .goto 5) (by decide +kernel) _ _ _).trans rfl
theorem e201_158 (v0 v1 v2 v3 v4 v5 v6 v7 v8 v10 : Value) (x : Int32) (st : List Value) (w : zH) : zrun none (201, 158, [v0, v1, v2, v3, v4, v5, v6, v7, v8, .int x, v10], st, w) = zrun none (201, 160, [v0, v1, v2, v3, v4, v5, v6, v7, v8, .int x, v10], (.int x :: st), w) := (zE_ (i := .iload 9) (by decide +kernel) _ _ _).trans rfl
theorem e201_160 (ls : List Value) (x : Int32) (w : zH) : zrun none (201, 160, ls, [.int x], w) = some (some (.int x), w) := by
  refine (zE_ (i := .ireturn) (by decide +kernel) _ _ _).trans ?_
  show zres (if narrow .int (.int x) = .int x then _ else none) = _
  rw [if_pos (show narrow .int (.int x) = .int x from rfl)]
  rfl
theorem e202_0 (v1 v2 v3 v4 v5 v6 v7 v8 v9 v10 v11 v12 : Value) (x : Nat) (st : List Value) (w : zH) : zrun none (202, 0, [.ref x, v1, v2, v3, v4, v5, v6, v7, v8, v9, v10, v11, v12], st, w) = zrun none (202, 1, [.ref x, v1, v2, v3, v4, v5, v6, v7, v8, v9, v10, v11, v12], (.ref x :: st), w) := (zE_ (i := .aload_n 0) (by decide +kernel) _ _ _).trans rfl
theorem e202_1 (ls st : List Value) (w : zH) : zrun none (202, 1, ls, st, w) = zrun none (202, 2, ls, (.int 0 :: st), w) := (zE_ (i := .iconst 0) (by decide +kernel) _ _ _).trans rfl
theorem e202_2 (ls : List Value) (x : Int32) (a : Nat) (st : List Value) (w : zH) : zrun none (202, 2, ls, (.int x :: .ref a :: st), w) = zgd (a < zX ∧ (zf w a 1200).isSome = true) (zrun none (202, 5, ls, st, zpf w a 1200 (.int x))) := by
  refine (zE_ (i := .putfield 1200) (by decide +kernel) _ _ _).trans ?_
  by_cases hg : a < zX ∧ (zf w a 1200).isSome = true
  · rw [zgd_pos hg]
    obtain ⟨ha, h⟩ := hg
    exact zq_putf ha h rfl rfl
  · rw [zgd_neg hg]
    exact zq_putf_no (fun h1 h2 h3 => hg ⟨h1, h2⟩)
theorem e202_5 (v0 v2 v3 v4 v5 v6 v7 v8 v9 v10 v11 v12 : Value) (x : Int32) (st : List Value) (w : zH) : zrun none (202, 5, [v0, .int x, v2, v3, v4, v5, v6, v7, v8, v9, v10, v11, v12], st, w) = zrun none (202, 6, [v0, .int x, v2, v3, v4, v5, v6, v7, v8, v9, v10, v11, v12], (.int x :: st), w) := (zE_ (i := .iload_n 1) (by decide +kernel) _ _ _).trans rfl
theorem e202_6 (ls : List Value) (x0 : Int32) (st : List Value) (w : zH) (hr : zcat st ≤ 8) : zrun none (202, 6, ls, (.int x0 :: st), w) = zcl (zrun none (149, 0, [.int x0], [], w)) (fun r => zrun none (202, 9, ls, r.1.toList ++ st, r.2)) := by
  refine (zE_ (i := .invokestatic 149) (by decide +kernel) _ _ _).trans ?_
  show zres (if (99 : Nat) = 99 ∧ 1 ≤ ((.int x0 :: st) : List Value).length then zcall 149 [.int x0] st 202 6 ls w else none) = _
  rw [if_pos ⟨rfl, by simp⟩]
  exact zq_call hr (Nat.le_of_ble_eq_true rfl) rfl rfl
theorem e202_9 (ls : List Value) (a : Int32) (st : List Value) (w : zH) : zrun none (202, 9, ls, (.int a :: st), w) = if a = 0 then zrun none (202, 76, ls, st, w) else zrun none (202, 12, ls, st, w) := (zE_ (i := .ifCond .eq 67) (by decide +kernel) _ _ _).trans (zq_if_eq rfl rfl)
theorem e202_12 (v0 v1 v2 v4 v5 v6 v7 v8 v9 v10 v11 v12 : Value) (x : Int32) (st : List Value) (w : zH) : zrun none (202, 12, [v0, v1, v2, .int x, v4, v5, v6, v7, v8, v9, v10, v11, v12], st, w) = zrun none (202, 13, [v0, v1, v2, .int x, v4, v5, v6, v7, v8, v9, v10, v11, v12], (.int x :: st), w) := (zE_ (i := .iload_n 3) (by decide +kernel) _ _ _).trans rfl
theorem e202_13 (ls : List Value) (a : Int32) (st : List Value) (w : zH) : zrun none (202, 13, ls, (.int a :: st), w) = zrun none (202, 14, ls, (.long a.toInt64 :: st), w) := (zE_ (i := .i2l) (by decide +kernel) _ _ _).trans rfl
theorem e202_14 (ls st : List Value) (w : zH) : zrun none (202, 14, ls, st, w) = zrun none (202, 15, ls, (.long 1 :: st), w) := (zE_ (i := .lconst 1) (by decide +kernel) _ _ _).trans rfl
theorem e202_15 (ls st : List Value) (w : zH) : zrun none (202, 15, ls, st, w) = zrun none (202, 18, ls, (.long 12 :: st), w) := (zE_ (i := .ldc2_w 12) (by decide +kernel) _ _ _).trans rfl
theorem e202_18 (ls : List Value) (x0 : Int64) (x1 : Int64) (x2 : Int64) (st : List Value) (w : zH) (hr : zcat st ≤ 8) : zrun none (202, 18, ls, (.long x2 :: .long x1 :: .long x0 :: st), w) = zcl (zrun none (146, 0, [.long x0, zJ, .long x1, zJ, .long x2, zJ], [], w)) (fun r => zrun none (202, 21, ls, r.1.toList ++ st, r.2)) := by
  refine (zE_ (i := .invokestatic 146) (by decide +kernel) _ _ _).trans ?_
  show zres (if (99 : Nat) = 99 ∧ 3 ≤ ((.long x2 :: .long x1 :: .long x0 :: st) : List Value).length then zcall 146 [.long x0, .long x1, .long x2] st 202 18 ls w else none) = _
  rw [if_pos ⟨rfl, by simp⟩]
  exact zq_call hr (Nat.le_of_ble_eq_true rfl) rfl rfl
theorem e202_21 (ls : List Value) (a : Int32) (st : List Value) (w : zH) : zrun none (202, 21, ls, (.int a :: st), w) = if a = 0 then zrun none (202, 76, ls, st, w) else zrun none (202, 24, ls, st, w) := (zE_ (i := .ifCond .eq 55) (by decide +kernel) _ _ _).trans (zq_if_eq rfl rfl)
theorem e202_24 (v0 v1 v2 v3 v5 v6 v7 v8 v9 v10 v11 v12 : Value) (x : Int32) (st : List Value) (w : zH) : zrun none (202, 24, [v0, v1, v2, v3, .int x, v5, v6, v7, v8, v9, v10, v11, v12], st, w) = zrun none (202, 26, [v0, v1, v2, v3, .int x, v5, v6, v7, v8, v9, v10, v11, v12], (.int x :: st), w) := (zE_ (i := .iload 4) (by decide +kernel) _ _ _).trans rfl
theorem e202_26 (ls : List Value) (a : Int32) (st : List Value) (w : zH) : zrun none (202, 26, ls, (.int a :: st), w) = zrun none (202, 27, ls, (.long a.toInt64 :: st), w) := (zE_ (i := .i2l) (by decide +kernel) _ _ _).trans rfl
theorem e202_27 (ls st : List Value) (w : zH) : zrun none (202, 27, ls, st, w) = zrun none (202, 28, ls, (.long 0 :: st), w) := (zE_ (i := .lconst 0) (by decide +kernel) _ _ _).trans rfl
theorem e202_28 (ls st : List Value) (w : zH) : zrun none (202, 28, ls, st, w) = zrun none (202, 31, ls, (.long 5000 :: st), w) := (zE_ (i := .ldc2_w 5000) (by decide +kernel) _ _ _).trans rfl
theorem e202_31 (ls : List Value) (x0 : Int64) (x1 : Int64) (x2 : Int64) (st : List Value) (w : zH) (hr : zcat st ≤ 8) : zrun none (202, 31, ls, (.long x2 :: .long x1 :: .long x0 :: st), w) = zcl (zrun none (146, 0, [.long x0, zJ, .long x1, zJ, .long x2, zJ], [], w)) (fun r => zrun none (202, 34, ls, r.1.toList ++ st, r.2)) := by
  refine (zE_ (i := .invokestatic 146) (by decide +kernel) _ _ _).trans ?_
  show zres (if (99 : Nat) = 99 ∧ 3 ≤ ((.long x2 :: .long x1 :: .long x0 :: st) : List Value).length then zcall 146 [.long x0, .long x1, .long x2] st 202 31 ls w else none) = _
  rw [if_pos ⟨rfl, by simp⟩]
  exact zq_call hr (Nat.le_of_ble_eq_true rfl) rfl rfl
theorem e202_34 (ls : List Value) (a : Int32) (st : List Value) (w : zH) : zrun none (202, 34, ls, (.int a :: st), w) = if a = 0 then zrun none (202, 76, ls, st, w) else zrun none (202, 37, ls, st, w) := (zE_ (i := .ifCond .eq 42) (by decide +kernel) _ _ _).trans (zq_if_eq rfl rfl)
theorem e202_37 (v0 v1 v2 v3 v4 v6 v7 v8 v9 v10 v11 v12 : Value) (x : Int32) (st : List Value) (w : zH) : zrun none (202, 37, [v0, v1, v2, v3, v4, .int x, v6, v7, v8, v9, v10, v11, v12], st, w) = zrun none (202, 39, [v0, v1, v2, v3, v4, .int x, v6, v7, v8, v9, v10, v11, v12], (.int x :: st), w) := (zE_ (i := .iload 5) (by decide +kernel) _ _ _).trans rfl
theorem e202_39 (ls : List Value) (a : Int32) (st : List Value) (w : zH) : zrun none (202, 39, ls, (.int a :: st), w) = zrun none (202, 40, ls, (.long a.toInt64 :: st), w) := (zE_ (i := .i2l) (by decide +kernel) _ _ _).trans rfl
theorem e202_40 (ls st : List Value) (w : zH) : zrun none (202, 40, ls, st, w) = zrun none (202, 41, ls, (.long 0 :: st), w) := (zE_ (i := .lconst 0) (by decide +kernel) _ _ _).trans rfl
theorem e202_41 (ls st : List Value) (w : zH) : zrun none (202, 41, ls, st, w) = zrun none (202, 44, ls, (.long 3 :: st), w) := (zE_ (i := .ldc2_w 3) (by decide +kernel) _ _ _).trans rfl
theorem e202_44 (ls : List Value) (x0 : Int64) (x1 : Int64) (x2 : Int64) (st : List Value) (w : zH) (hr : zcat st ≤ 8) : zrun none (202, 44, ls, (.long x2 :: .long x1 :: .long x0 :: st), w) = zcl (zrun none (146, 0, [.long x0, zJ, .long x1, zJ, .long x2, zJ], [], w)) (fun r => zrun none (202, 47, ls, r.1.toList ++ st, r.2)) := by
  refine (zE_ (i := .invokestatic 146) (by decide +kernel) _ _ _).trans ?_
  show zres (if (99 : Nat) = 99 ∧ 3 ≤ ((.long x2 :: .long x1 :: .long x0 :: st) : List Value).length then zcall 146 [.long x0, .long x1, .long x2] st 202 44 ls w else none) = _
  rw [if_pos ⟨rfl, by simp⟩]
  exact zq_call hr (Nat.le_of_ble_eq_true rfl) rfl rfl
theorem e202_47 (ls : List Value) (a : Int32) (st : List Value) (w : zH) : zrun none (202, 47, ls, (.int a :: st), w) = if a = 0 then zrun none (202, 76, ls, st, w) else zrun none (202, 50, ls, st, w) := (zE_ (i := .ifCond .eq 29) (by decide +kernel) _ _ _).trans (zq_if_eq rfl rfl)
theorem e202_50 (v0 v1 v2 v3 v4 v5 v7 v8 v9 v10 v11 v12 : Value) (x : Int32) (st : List Value) (w : zH) : zrun none (202, 50, [v0, v1, v2, v3, v4, v5, .int x, v7, v8, v9, v10, v11, v12], st, w) = zrun none (202, 52, [v0, v1, v2, v3, v4, v5, .int x, v7, v8, v9, v10, v11, v12], (.int x :: st), w) := (zE_ (i := .iload 6) (by decide +kernel) _ _ _).trans rfl
theorem e202_52 (ls : List Value) (a : Int32) (st : List Value) (w : zH) : zrun none (202, 52, ls, (.int a :: st), w) = zrun none (202, 53, ls, (.long a.toInt64 :: st), w) := (zE_ (i := .i2l) (by decide +kernel) _ _ _).trans rfl
theorem e202_53 (ls st : List Value) (w : zH) : zrun none (202, 53, ls, st, w) = zrun none (202, 54, ls, (.long 0 :: st), w) := (zE_ (i := .lconst 0) (by decide +kernel) _ _ _).trans rfl
theorem e202_54 (ls st : List Value) (w : zH) : zrun none (202, 54, ls, st, w) = zrun none (202, 57, ls, (.long 100000 :: st), w) := (zE_ (i := .ldc2_w 100000) (by decide +kernel) _ _ _).trans rfl
theorem e202_57 (ls : List Value) (x0 : Int64) (x1 : Int64) (x2 : Int64) (st : List Value) (w : zH) (hr : zcat st ≤ 8) : zrun none (202, 57, ls, (.long x2 :: .long x1 :: .long x0 :: st), w) = zcl (zrun none (146, 0, [.long x0, zJ, .long x1, zJ, .long x2, zJ], [], w)) (fun r => zrun none (202, 60, ls, r.1.toList ++ st, r.2)) := by
  refine (zE_ (i := .invokestatic 146) (by decide +kernel) _ _ _).trans ?_
  show zres (if (99 : Nat) = 99 ∧ 3 ≤ ((.long x2 :: .long x1 :: .long x0 :: st) : List Value).length then zcall 146 [.long x0, .long x1, .long x2] st 202 57 ls w else none) = _
  rw [if_pos ⟨rfl, by simp⟩]
  exact zq_call hr (Nat.le_of_ble_eq_true rfl) rfl rfl
theorem e202_60 (ls : List Value) (a : Int32) (st : List Value) (w : zH) : zrun none (202, 60, ls, (.int a :: st), w) = if a = 0 then zrun none (202, 76, ls, st, w) else zrun none (202, 63, ls, st, w) := (zE_ (i := .ifCond .eq 16) (by decide +kernel) _ _ _).trans (zq_if_eq rfl rfl)
theorem e202_63 (v0 v1 v2 v3 v4 v5 v6 v8 v9 v10 v11 v12 : Value) (x : Int32) (st : List Value) (w : zH) : zrun none (202, 63, [v0, v1, v2, v3, v4, v5, v6, .int x, v8, v9, v10, v11, v12], st, w) = zrun none (202, 65, [v0, v1, v2, v3, v4, v5, v6, .int x, v8, v9, v10, v11, v12], (.int x :: st), w) := (zE_ (i := .iload 7) (by decide +kernel) _ _ _).trans rfl
theorem e202_65 (ls : List Value) (a : Int32) (st : List Value) (w : zH) : zrun none (202, 65, ls, (.int a :: st), w) = zrun none (202, 66, ls, (.long a.toInt64 :: st), w) := (zE_ (i := .i2l) (by decide +kernel) _ _ _).trans rfl
theorem e202_66 (ls st : List Value) (w : zH) : zrun none (202, 66, ls, st, w) = zrun none (202, 67, ls, (.long 0 :: st), w) := (zE_ (i := .lconst 0) (by decide +kernel) _ _ _).trans rfl
theorem e202_67 (ls st : List Value) (w : zH) : zrun none (202, 67, ls, st, w) = zrun none (202, 70, ls, (.long 2 :: st), w) := (zE_ (i := .ldc2_w 2) (by decide +kernel) _ _ _).trans rfl
theorem e202_70 (ls : List Value) (x0 : Int64) (x1 : Int64) (x2 : Int64) (st : List Value) (w : zH) (hr : zcat st ≤ 8) : zrun none (202, 70, ls, (.long x2 :: .long x1 :: .long x0 :: st), w) = zcl (zrun none (146, 0, [.long x0, zJ, .long x1, zJ, .long x2, zJ], [], w)) (fun r => zrun none (202, 73, ls, r.1.toList ++ st, r.2)) := by
  refine (zE_ (i := .invokestatic 146) (by decide +kernel) _ _ _).trans ?_
  show zres (if (99 : Nat) = 99 ∧ 3 ≤ ((.long x2 :: .long x1 :: .long x0 :: st) : List Value).length then zcall 146 [.long x0, .long x1, .long x2] st 202 70 ls w else none) = _
  rw [if_pos ⟨rfl, by simp⟩]
  exact zq_call hr (Nat.le_of_ble_eq_true rfl) rfl rfl
theorem e202_73 (ls : List Value) (a : Int32) (st : List Value) (w : zH) : zrun none (202, 73, ls, (.int a :: st), w) = if a = 0 then zrun none (202, 76, ls, st, w) else zrun none (202, 79, ls, st, w) := (zE_ (i := .ifCond .ne 6) (by decide +kernel) _ _ _).trans (zq_if_ne rfl rfl)
theorem e202_76 (ls st : List Value) (w : zH) : zrun none (202, 76, ls, st, w) = zrun none (202, 78, ls, (.int (-1000001) :: st), w) := (zE_ (i := .bipush (-1000001)) (by decide +kernel) _ _ _).trans rfl
theorem e202_78 (ls : List Value) (x : Int32) (w : zH) : zrun none (202, 78, ls, [.int x], w) = some (some (.int x), w) := by
  refine (zE_ (i := .ireturn) (by decide +kernel) _ _ _).trans ?_
  show zres (if narrow .int (.int x) = .int x then _ else none) = _
  rw [if_pos (show narrow .int (.int x) = .int x from rfl)]
  rfl
theorem e202_79 (v1 v2 v3 v4 v5 v6 v7 v8 v9 v10 v11 v12 : Value) (x : Nat) (st : List Value) (w : zH) : zrun none (202, 79, [.ref x, v1, v2, v3, v4, v5, v6, v7, v8, v9, v10, v11, v12], st, w) = zrun none (202, 80, [.ref x, v1, v2, v3, v4, v5, v6, v7, v8, v9, v10, v11, v12], (.ref x :: st), w) := (zE_ (i := .aload_n 0) (by decide +kernel) _ _ _).trans rfl
theorem e202_80 (v0 v2 v3 v4 v5 v6 v7 v8 v9 v10 v11 v12 : Value) (x : Int32) (st : List Value) (w : zH) : zrun none (202, 80, [v0, .int x, v2, v3, v4, v5, v6, v7, v8, v9, v10, v11, v12], st, w) = zrun none (202, 81, [v0, .int x, v2, v3, v4, v5, v6, v7, v8, v9, v10, v11, v12], (.int x :: st), w) := (zE_ (i := .iload_n 1) (by decide +kernel) _ _ _).trans rfl
theorem e202_81 (v0 v1 v3 v4 v5 v6 v7 v8 v9 v10 v11 v12 : Value) (x : Int32) (st : List Value) (w : zH) : zrun none (202, 81, [v0, v1, .int x, v3, v4, v5, v6, v7, v8, v9, v10, v11, v12], st, w) = zrun none (202, 82, [v0, v1, .int x, v3, v4, v5, v6, v7, v8, v9, v10, v11, v12], (.int x :: st), w) := (zE_ (i := .iload_n 2) (by decide +kernel) _ _ _).trans rfl
theorem e202_82 (v0 v1 v2 v4 v5 v6 v7 v8 v9 v10 v11 v12 : Value) (x : Int32) (st : List Value) (w : zH) : zrun none (202, 82, [v0, v1, v2, .int x, v4, v5, v6, v7, v8, v9, v10, v11, v12], st, w) = zrun none (202, 83, [v0, v1, v2, .int x, v4, v5, v6, v7, v8, v9, v10, v11, v12], (.int x :: st), w) := (zE_ (i := .iload_n 3) (by decide +kernel) _ _ _).trans rfl
theorem e202_83 (ls st : List Value) (w : zH) : zrun none (202, 83, ls, st, w) = zrun none (202, 84, ls, (.int 1 :: st), w) := (zE_ (i := .iconst 1) (by decide +kernel) _ _ _).trans rfl
theorem e202_84 (ls st : List Value) (w : zH) : zrun none (202, 84, ls, st, w) = zrun none (202, 87, ls, (.int 1000 :: st), w) := (zE_ (i := .sipush 1000) (by decide +kernel) _ _ _).trans rfl
theorem e202_87 (ls st : List Value) (w : zH) : zrun none (202, 87, ls, st, w) = zrun none (202, 90, ls, (.int 1000 :: st), w) := (zE_ (i := .sipush 1000) (by decide +kernel) _ _ _).trans rfl
theorem e202_90 (ls : List Value) (a : Nat) (x0 : Int32) (x1 : Int32) (x2 : Int32) (x3 : Int32) (x4 : Int32) (x5 : Int32) (st : List Value) (w : zH) (hr : zcat st ≤ 8) : zrun none (202, 90, ls, (.int x5 :: .int x4 :: .int x3 :: .int x2 :: .int x1 :: .int x0 :: .ref a :: st), w) = zgd (zis w a 12) (zcl (zrun none (154, 0, [.ref a, .int x0, .int x1, .int x2, .int x3, .int x4, .int x5, zJ], [], w)) (fun r => zrun none (202, 93, ls, r.1.toList ++ st, r.2))) := by
  refine (zE_ (i := .invokevirtual 154) (by decide +kernel) _ _ _).trans ?_
  show zres (zinv none 154 202 90 ls (.int x5 :: .int x4 :: .int x3 :: .int x2 :: .int x1 :: .int x0 :: .ref a :: st) w) = _
  unfold zinv
  show zres (if zrc none 154 w (.ref a) = true then zcall 154 [.ref a, .int x0, .int x1, .int x2, .int x3, .int x4, .int x5] st 202 90 ls w else none) = _
  by_cases hc : zis w a 12
  · rw [if_pos (zrc_is hc (by decide +kernel)), zgd_pos hc]
    exact zq_call hr (Nat.le_of_ble_eq_true rfl) rfl rfl
  · rw [zgd_neg hc, if_neg (fun q => hc (zrc_of q (by decide +kernel)))]
    rfl
theorem e202_93 (v0 v1 v2 v3 v4 v5 v6 v7 v8 v9 v10 v11 v12 : Value) (x : Int32) (st : List Value) (w : zH) (h : v7.category = 1) : zrun none (202, 93, [v0, v1, v2, v3, v4, v5, v6, v7, v8, v9, v10, v11, v12], (.int x :: st), w) = zrun none (202, 95, [v0, v1, v2, v3, v4, v5, v6, v7, .int x, v9, v10, v11, v12], st, w) := by
  refine (zE_ (i := .istore 8) (by decide +kernel) _ _ _).trans ?_
  have hz : zfree [v0, v1, v2, v3, v4, v5, v6, v7, v8, v9, v10, v11, v12] 8 = true := by show decide (v7.category = 1) = true; exact decide_eq_true h
  show zres (zst zint 8 2 202 93 [v0, v1, v2, v3, v4, v5, v6, v7, v8, v9, v10, v11, v12] (.int x :: st) w) = _
  unfold zst
  dsimp only
  rw [if_pos ⟨rfl, Nat.le_of_ble_eq_true rfl, hz⟩]
  rfl
theorem e202_95 (v0 v1 v2 v3 v4 v5 v6 v7 v9 v10 v11 v12 : Value) (x : Int32) (st : List Value) (w : zH) : zrun none (202, 95, [v0, v1, v2, v3, v4, v5, v6, v7, .int x, v9, v10, v11, v12], st, w) = zrun none (202, 97, [v0, v1, v2, v3, v4, v5, v6, v7, .int x, v9, v10, v11, v12], (.int x :: st), w) := (zE_ (i := .iload 8) (by decide +kernel) _ _ _).trans rfl
theorem e202_97 (ls : List Value) (a : Int32) (st : List Value) (w : zH) : zrun none (202, 97, ls, (.int a :: st), w) = if 0 ≤ a then zrun none (202, 103, ls, st, w) else zrun none (202, 100, ls, st, w) := (zE_ (i := .ifCond .ge 6) (by decide +kernel) _ _ _).trans (zq_if_ge rfl rfl)
theorem e202_100 (v0 v1 v2 v3 v4 v5 v6 v7 v9 v10 v11 v12 : Value) (x : Int32) (st : List Value) (w : zH) : zrun none (202, 100, [v0, v1, v2, v3, v4, v5, v6, v7, .int x, v9, v10, v11, v12], st, w) = zrun none (202, 102, [v0, v1, v2, v3, v4, v5, v6, v7, .int x, v9, v10, v11, v12], (.int x :: st), w) := (zE_ (i := .iload 8) (by decide +kernel) _ _ _).trans rfl
theorem e202_102 (ls : List Value) (x : Int32) (w : zH) : zrun none (202, 102, ls, [.int x], w) = some (some (.int x), w) := by
  refine (zE_ (i := .ireturn) (by decide +kernel) _ _ _).trans ?_
  show zres (if narrow .int (.int x) = .int x then _ else none) = _
  rw [if_pos (show narrow .int (.int x) = .int x from rfl)]
  rfl
theorem e202_103 (ls st : List Value) (w : zH) : zrun none (202, 103, ls, st, w) = zrun none (202, 105, ls, (.int 100 :: st), w) := (zE_ (i := .bipush 100) (by decide +kernel) _ _ _).trans rfl
theorem e202_105 (v0 v2 v3 v4 v5 v6 v7 v8 v9 v10 v11 v12 : Value) (x : Int32) (st : List Value) (w : zH) : zrun none (202, 105, [v0, .int x, v2, v3, v4, v5, v6, v7, v8, v9, v10, v11, v12], st, w) = zrun none (202, 106, [v0, .int x, v2, v3, v4, v5, v6, v7, v8, v9, v10, v11, v12], (.int x :: st), w) := (zE_ (i := .iload_n 1) (by decide +kernel) _ _ _).trans rfl
theorem e202_106 (ls : List Value) (a b : Int32) (st : List Value) (w : zH) : zrun none (202, 106, ls, (.int b :: .int a :: st), w) = zrun none (202, 107, ls, (.int (a * b) :: st), w) := (zE_ (i := .imul) (by decide +kernel) _ _ _).trans rfl
theorem e202_107 (v0 v1 v3 v4 v5 v6 v7 v8 v9 v10 v11 v12 : Value) (x : Int32) (st : List Value) (w : zH) : zrun none (202, 107, [v0, v1, .int x, v3, v4, v5, v6, v7, v8, v9, v10, v11, v12], st, w) = zrun none (202, 108, [v0, v1, .int x, v3, v4, v5, v6, v7, v8, v9, v10, v11, v12], (.int x :: st), w) := (zE_ (i := .iload_n 2) (by decide +kernel) _ _ _).trans rfl
theorem e202_108 (ls : List Value) (a b : Int32) (st : List Value) (w : zH) : zrun none (202, 108, ls, (.int b :: .int a :: st), w) = zrun none (202, 109, ls, (.int (a + b) :: st), w) := (zE_ (i := .iadd) (by decide +kernel) _ _ _).trans rfl
theorem e202_109 (v0 v1 v2 v3 v4 v5 v6 v7 v8 v9 v10 v11 v12 : Value) (x : Int32) (st : List Value) (w : zH) (h : v8.category = 1) : zrun none (202, 109, [v0, v1, v2, v3, v4, v5, v6, v7, v8, v9, v10, v11, v12], (.int x :: st), w) = zrun none (202, 111, [v0, v1, v2, v3, v4, v5, v6, v7, v8, .int x, v10, v11, v12], st, w) := by
  refine (zE_ (i := .istore 9) (by decide +kernel) _ _ _).trans ?_
  have hz : zfree [v0, v1, v2, v3, v4, v5, v6, v7, v8, v9, v10, v11, v12] 9 = true := by show decide (v8.category = 1) = true; exact decide_eq_true h
  show zres (zst zint 9 2 202 109 [v0, v1, v2, v3, v4, v5, v6, v7, v8, v9, v10, v11, v12] (.int x :: st) w) = _
  unfold zst
  dsimp only
  rw [if_pos ⟨rfl, Nat.le_of_ble_eq_true rfl, hz⟩]
  rfl
theorem e202_111 (ls st : List Value) (w : zH) : zrun none (202, 111, ls, st, w) = zrun none (202, 113, ls, (.int (-1000000) :: st), w) := (zE_ (i := .bipush (-1000000)) (by decide +kernel) _ _ _).trans rfl
theorem e202_113 (v0 v1 v2 v3 v4 v5 v6 v7 v8 v9 v10 v11 v12 : Value) (x : Int32) (st : List Value) (w : zH) (h : v9.category = 1) : zrun none (202, 113, [v0, v1, v2, v3, v4, v5, v6, v7, v8, v9, v10, v11, v12], (.int x :: st), w) = zrun none (202, 115, [v0, v1, v2, v3, v4, v5, v6, v7, v8, v9, .int x, v11, v12], st, w) := by
  refine (zE_ (i := .istore 10) (by decide +kernel) _ _ _).trans ?_
  have hz : zfree [v0, v1, v2, v3, v4, v5, v6, v7, v8, v9, v10, v11, v12] 10 = true := by show decide (v9.category = 1) = true; exact decide_eq_true h
  show zres (zst zint 10 2 202 113 [v0, v1, v2, v3, v4, v5, v6, v7, v8, v9, v10, v11, v12] (.int x :: st) w) = _
  unfold zst
  dsimp only
  rw [if_pos ⟨rfl, Nat.le_of_ble_eq_true rfl, hz⟩]
  rfl
theorem e202_115 (ls st : List Value) (w : zH) : zrun none (202, 115, ls, st, w) = zrun none (202, 116, ls, (.int 0 :: st), w) := (zE_ (i := .iconst 0) (by decide +kernel) _ _ _).trans rfl
theorem e202_116 (v0 v1 v2 v3 v4 v5 v6 v7 v8 v9 v10 v11 v12 : Value) (x : Int32) (st : List Value) (w : zH) (h : v10.category = 1) : zrun none (202, 116, [v0, v1, v2, v3, v4, v5, v6, v7, v8, v9, v10, v11, v12], (.int x :: st), w) = zrun none (202, 118, [v0, v1, v2, v3, v4, v5, v6, v7, v8, v9, v10, .int x, v12], st, w) := by
  refine (zE_ (i := .istore 11) (by decide +kernel) _ _ _).trans ?_
  have hz : zfree [v0, v1, v2, v3, v4, v5, v6, v7, v8, v9, v10, v11, v12] 11 = true := by show decide (v10.category = 1) = true; exact decide_eq_true h
  show zres (zst zint 11 2 202 116 [v0, v1, v2, v3, v4, v5, v6, v7, v8, v9, v10, v11, v12] (.int x :: st) w) = _
  unfold zst
  dsimp only
  rw [if_pos ⟨rfl, Nat.le_of_ble_eq_true rfl, hz⟩]
  rfl
theorem e202_118 (ls st : List Value) (w : zH) : zrun none (202, 118, ls, st, w) = zrun none (202, 119, ls, (.int 0 :: st), w) := (zE_ (i := .iconst 0) (by decide +kernel) _ _ _).trans rfl
theorem e202_119 (v0 v1 v2 v3 v4 v5 v6 v7 v8 v9 v10 v11 v12 : Value) (x : Int32) (st : List Value) (w : zH) (h : v11.category = 1) : zrun none (202, 119, [v0, v1, v2, v3, v4, v5, v6, v7, v8, v9, v10, v11, v12], (.int x :: st), w) = zrun none (202, 121, [v0, v1, v2, v3, v4, v5, v6, v7, v8, v9, v10, v11, .int x], st, w) := by
  refine (zE_ (i := .istore 12) (by decide +kernel) _ _ _).trans ?_
  have hz : zfree [v0, v1, v2, v3, v4, v5, v6, v7, v8, v9, v10, v11, v12] 12 = true := by show decide (v11.category = 1) = true; exact decide_eq_true h
  show zres (zst zint 12 2 202 119 [v0, v1, v2, v3, v4, v5, v6, v7, v8, v9, v10, v11, v12] (.int x :: st) w) = _
  unfold zst
  dsimp only
  rw [if_pos ⟨rfl, Nat.le_of_ble_eq_true rfl, hz⟩]
  rfl
theorem e202_121 (v0 v1 v2 v3 v4 v5 v6 v7 v8 v9 v10 v11 : Value) (x : Int32) (st : List Value) (w : zH) : zrun none (202, 121, [v0, v1, v2, v3, v4, v5, v6, v7, v8, v9, v10, v11, .int x], st, w) = zrun none (202, 123, [v0, v1, v2, v3, v4, v5, v6, v7, v8, v9, v10, v11, .int x], (.int x :: st), w) := (zE_ (i := .iload 12) (by decide +kernel) _ _ _).trans rfl
theorem e202_123 (ls st : List Value) (w : zH) : zrun none (202, 123, ls, st, w) = zrun none (202, 124, ls, (.int 1 :: st), w) := (zE_ (i := .iconst 1) (by decide +kernel) _ _ _).trans rfl
theorem e202_124 (v0 v1 v2 v4 v5 v6 v7 v8 v9 v10 v11 v12 : Value) (x : Int32) (st : List Value) (w : zH) : zrun none (202, 124, [v0, v1, v2, .int x, v4, v5, v6, v7, v8, v9, v10, v11, v12], st, w) = zrun none (202, 125, [v0, v1, v2, .int x, v4, v5, v6, v7, v8, v9, v10, v11, v12], (.int x :: st), w) := (zE_ (i := .iload_n 3) (by decide +kernel) _ _ _).trans rfl
theorem e202_125 (ls : List Value) (a b : Int32) (st : List Value) (w : zH) : zrun none (202, 125, ls, (.int b :: .int a :: st), w) = zrun none (202, 126, ls, (.int (a <<< (b &&& 31)) :: st), w) := (zE_ (i := .ishl) (by decide +kernel) _ _ _).trans rfl
theorem e202_126 (ls : List Value) (a b : Int32) (st : List Value) (w : zH) : zrun none (202, 126, ls, (.int b :: .int a :: st), w) = if b ≤ a then zrun none (202, 185, ls, st, w) else zrun none (202, 129, ls, st, w) := (zE_ (i := .if_icmp .ge 59) (by decide +kernel) _ _ _).trans (zq_ic_ge rfl rfl)
theorem e202_129 (v1 v2 v3 v4 v5 v6 v7 v8 v9 v10 v11 v12 : Value) (x : Nat) (st : List Value) (w : zH) : zrun none (202, 129, [.ref x, v1, v2, v3, v4, v5, v6, v7, v8, v9, v10, v11, v12], st, w) = zrun none (202, 130, [.ref x, v1, v2, v3, v4, v5, v6, v7, v8, v9, v10, v11, v12], (.ref x :: st), w) := (zE_ (i := .aload_n 0) (by decide +kernel) _ _ _).trans rfl
theorem e202_130 (v0 v1 v2 v3 v4 v5 v6 v7 v8 v10 v11 v12 : Value) (x : Int32) (st : List Value) (w : zH) : zrun none (202, 130, [v0, v1, v2, v3, v4, v5, v6, v7, v8, .int x, v10, v11, v12], st, w) = zrun none (202, 132, [v0, v1, v2, v3, v4, v5, v6, v7, v8, .int x, v10, v11, v12], (.int x :: st), w) := (zE_ (i := .iload 9) (by decide +kernel) _ _ _).trans rfl
theorem e202_132 (v0 v1 v2 v3 v4 v5 v6 v7 v8 v9 v10 v11 : Value) (x : Int32) (st : List Value) (w : zH) : zrun none (202, 132, [v0, v1, v2, v3, v4, v5, v6, v7, v8, v9, v10, v11, .int x], st, w) = zrun none (202, 134, [v0, v1, v2, v3, v4, v5, v6, v7, v8, v9, v10, v11, .int x], (.int x :: st), w) := (zE_ (i := .iload 12) (by decide +kernel) _ _ _).trans rfl
theorem e202_134 (ls st : List Value) (w : zH) : zrun none (202, 134, ls, st, w) = zrun none (202, 135, ls, (.int 1 :: st), w) := (zE_ (i := .iconst 1) (by decide +kernel) _ _ _).trans rfl
theorem e202_135 (ls : List Value) (a : Nat) (x0 : Int32) (x1 : Int32) (x2 : Int32) (st : List Value) (w : zH) (hr : zcat st ≤ 8) : zrun none (202, 135, ls, (.int x2 :: .int x1 :: .int x0 :: .ref a :: st), w) = zgd (zis w a 12) (zcl (zrun none (200, 0, [.ref a, .int x0, .int x1, .int x2, zJ, zJ], [], w)) (fun r => zrun none (202, 138, ls, r.1.toList ++ st, r.2))) := by
  refine (zE_ (i := .invokevirtual 200) (by decide +kernel) _ _ _).trans ?_
  show zres (zinv none 200 202 135 ls (.int x2 :: .int x1 :: .int x0 :: .ref a :: st) w) = _
  unfold zinv
  show zres (if zrc none 200 w (.ref a) = true then zcall 200 [.ref a, .int x0, .int x1, .int x2] st 202 135 ls w else none) = _
  by_cases hc : zis w a 12
  · rw [if_pos (zrc_is hc (by decide +kernel)), zgd_pos hc]
    exact zq_call hr (Nat.le_of_ble_eq_true rfl) rfl rfl
  · rw [zgd_neg hc, if_neg (fun q => hc (zrc_of q (by decide +kernel)))]
    rfl
theorem e202_138 (v0 v1 v2 v3 v5 v6 v7 v8 v9 v10 v11 v12 : Value) (x : Int32) (st : List Value) (w : zH) : zrun none (202, 138, [v0, v1, v2, v3, .int x, v5, v6, v7, v8, v9, v10, v11, v12], st, w) = zrun none (202, 140, [v0, v1, v2, v3, .int x, v5, v6, v7, v8, v9, v10, v11, v12], (.int x :: st), w) := (zE_ (i := .iload 4) (by decide +kernel) _ _ _).trans rfl
theorem e202_140 (ls : List Value) (a b : Int32) (st : List Value) (w : zH) : zrun none (202, 140, ls, (.int b :: .int a :: st), w) = if a < b then zrun none (202, 179, ls, st, w) else zrun none (202, 143, ls, st, w) := (zE_ (i := .if_icmp .lt 39) (by decide +kernel) _ _ _).trans (zq_ic_lt rfl rfl)
theorem e202_143 (v0 v1 v2 v3 v4 v5 v6 v7 v8 v9 v11 v12 : Value) (x : Int32) (st : List Value) (w : zH) : zrun none (202, 143, [v0, v1, v2, v3, v4, v5, v6, v7, v8, v9, .int x, v11, v12], st, w) = zrun none (202, 145, [v0, v1, v2, v3, v4, v5, v6, v7, v8, v9, .int x, v11, v12], (.int x :: st), w) := (zE_ (i := .iload 10) (by decide +kernel) _ _ _).trans rfl
theorem e202_145 (ls st : List Value) (w : zH) : zrun none (202, 145, ls, st, w) = zrun none (202, 147, ls, (.int (-1000000) :: st), w) := (zE_ (i := .bipush (-1000000)) (by decide +kernel) _ _ _).trans rfl
theorem e202_147 (ls : List Value) (a b : Int32) (st : List Value) (w : zH) : zrun none (202, 147, ls, (.int b :: .int a :: st), w) = if a = b then zrun none (202, 164, ls, st, w) else zrun none (202, 150, ls, st, w) := (zE_ (i := .if_icmp .eq 17) (by decide +kernel) _ _ _).trans (zq_ic_eq rfl rfl)
theorem e202_150 (v1 v2 v3 v4 v5 v6 v7 v8 v9 v10 v11 v12 : Value) (x : Nat) (st : List Value) (w : zH) : zrun none (202, 150, [.ref x, v1, v2, v3, v4, v5, v6, v7, v8, v9, v10, v11, v12], st, w) = zrun none (202, 151, [.ref x, v1, v2, v3, v4, v5, v6, v7, v8, v9, v10, v11, v12], (.ref x :: st), w) := (zE_ (i := .aload_n 0) (by decide +kernel) _ _ _).trans rfl
theorem e202_151 (v0 v1 v2 v3 v4 v5 v6 v7 v8 v10 v11 v12 : Value) (x : Int32) (st : List Value) (w : zH) : zrun none (202, 151, [v0, v1, v2, v3, v4, v5, v6, v7, v8, .int x, v10, v11, v12], st, w) = zrun none (202, 153, [v0, v1, v2, v3, v4, v5, v6, v7, v8, .int x, v10, v11, v12], (.int x :: st), w) := (zE_ (i := .iload 9) (by decide +kernel) _ _ _).trans rfl
theorem e202_153 (v0 v1 v2 v3 v4 v5 v6 v7 v8 v9 v10 v11 : Value) (x : Int32) (st : List Value) (w : zH) : zrun none (202, 153, [v0, v1, v2, v3, v4, v5, v6, v7, v8, v9, v10, v11, .int x], st, w) = zrun none (202, 155, [v0, v1, v2, v3, v4, v5, v6, v7, v8, v9, v10, v11, .int x], (.int x :: st), w) := (zE_ (i := .iload 12) (by decide +kernel) _ _ _).trans rfl
theorem e202_155 (ls st : List Value) (w : zH) : zrun none (202, 155, ls, st, w) = zrun none (202, 156, ls, (.int 0 :: st), w) := (zE_ (i := .iconst 0) (by decide +kernel) _ _ _).trans rfl
theorem e202_156 (ls : List Value) (a : Nat) (x0 : Int32) (x1 : Int32) (x2 : Int32) (st : List Value) (w : zH) (hr : zcat st ≤ 8) : zrun none (202, 156, ls, (.int x2 :: .int x1 :: .int x0 :: .ref a :: st), w) = zgd (zis w a 12) (zcl (zrun none (200, 0, [.ref a, .int x0, .int x1, .int x2, zJ, zJ], [], w)) (fun r => zrun none (202, 159, ls, r.1.toList ++ st, r.2))) := by
  refine (zE_ (i := .invokevirtual 200) (by decide +kernel) _ _ _).trans ?_
  show zres (zinv none 200 202 156 ls (.int x2 :: .int x1 :: .int x0 :: .ref a :: st) w) = _
  unfold zinv
  show zres (if zrc none 200 w (.ref a) = true then zcall 200 [.ref a, .int x0, .int x1, .int x2] st 202 156 ls w else none) = _
  by_cases hc : zis w a 12
  · rw [if_pos (zrc_is hc (by decide +kernel)), zgd_pos hc]
    exact zq_call hr (Nat.le_of_ble_eq_true rfl) rfl rfl
  · rw [zgd_neg hc, if_neg (fun q => hc (zrc_of q (by decide +kernel)))]
    rfl
theorem e202_159 (v0 v1 v2 v3 v4 v5 v6 v7 v8 v9 v10 v12 : Value) (x : Int32) (st : List Value) (w : zH) : zrun none (202, 159, [v0, v1, v2, v3, v4, v5, v6, v7, v8, v9, v10, .int x, v12], st, w) = zrun none (202, 161, [v0, v1, v2, v3, v4, v5, v6, v7, v8, v9, v10, .int x, v12], (.int x :: st), w) := (zE_ (i := .iload 11) (by decide +kernel) _ _ _).trans rfl
theorem e202_161 (ls : List Value) (a b : Int32) (st : List Value) (w : zH) : zrun none (202, 161, ls, (.int b :: .int a :: st), w) = if b ≤ a then zrun none (202, 179, ls, st, w) else zrun none (202, 164, ls, st, w) := (zE_ (i := .if_icmp .ge 18) (by decide +kernel) _ _ _).trans (zq_ic_ge rfl rfl)
theorem e202_164 (v1 v2 v3 v4 v5 v6 v7 v8 v9 v10 v11 v12 : Value) (x : Nat) (st : List Value) (w : zH) : zrun none (202, 164, [.ref x, v1, v2, v3, v4, v5, v6, v7, v8, v9, v10, v11, v12], st, w) = zrun none (202, 165, [.ref x, v1, v2, v3, v4, v5, v6, v7, v8, v9, v10, v11, v12], (.ref x :: st), w) := (zE_ (i := .aload_n 0) (by decide +kernel) _ _ _).trans rfl
theorem e202_165 (v0 v1 v2 v3 v4 v5 v6 v7 v8 v10 v11 v12 : Value) (x : Int32) (st : List Value) (w : zH) : zrun none (202, 165, [v0, v1, v2, v3, v4, v5, v6, v7, v8, .int x, v10, v11, v12], st, w) = zrun none (202, 167, [v0, v1, v2, v3, v4, v5, v6, v7, v8, .int x, v10, v11, v12], (.int x :: st), w) := (zE_ (i := .iload 9) (by decide +kernel) _ _ _).trans rfl
theorem e202_167 (v0 v1 v2 v3 v4 v5 v6 v7 v8 v9 v10 v11 : Value) (x : Int32) (st : List Value) (w : zH) : zrun none (202, 167, [v0, v1, v2, v3, v4, v5, v6, v7, v8, v9, v10, v11, .int x], st, w) = zrun none (202, 169, [v0, v1, v2, v3, v4, v5, v6, v7, v8, v9, v10, v11, .int x], (.int x :: st), w) := (zE_ (i := .iload 12) (by decide +kernel) _ _ _).trans rfl
theorem e202_169 (ls st : List Value) (w : zH) : zrun none (202, 169, ls, st, w) = zrun none (202, 170, ls, (.int 0 :: st), w) := (zE_ (i := .iconst 0) (by decide +kernel) _ _ _).trans rfl
theorem e202_170 (ls : List Value) (a : Nat) (x0 : Int32) (x1 : Int32) (x2 : Int32) (st : List Value) (w : zH) (hr : zcat st ≤ 8) : zrun none (202, 170, ls, (.int x2 :: .int x1 :: .int x0 :: .ref a :: st), w) = zgd (zis w a 12) (zcl (zrun none (200, 0, [.ref a, .int x0, .int x1, .int x2, zJ, zJ], [], w)) (fun r => zrun none (202, 173, ls, r.1.toList ++ st, r.2))) := by
  refine (zE_ (i := .invokevirtual 200) (by decide +kernel) _ _ _).trans ?_
  show zres (zinv none 200 202 170 ls (.int x2 :: .int x1 :: .int x0 :: .ref a :: st) w) = _
  unfold zinv
  show zres (if zrc none 200 w (.ref a) = true then zcall 200 [.ref a, .int x0, .int x1, .int x2] st 202 170 ls w else none) = _
  by_cases hc : zis w a 12
  · rw [if_pos (zrc_is hc (by decide +kernel)), zgd_pos hc]
    exact zq_call hr (Nat.le_of_ble_eq_true rfl) rfl rfl
  · rw [zgd_neg hc, if_neg (fun q => hc (zrc_of q (by decide +kernel)))]
    rfl
theorem e202_173 (v0 v1 v2 v3 v4 v5 v6 v7 v8 v9 v10 v11 v12 : Value) (x : Int32) (st : List Value) (w : zH) (h : v10.category = 1) : zrun none (202, 173, [v0, v1, v2, v3, v4, v5, v6, v7, v8, v9, v10, v11, v12], (.int x :: st), w) = zrun none (202, 175, [v0, v1, v2, v3, v4, v5, v6, v7, v8, v9, v10, .int x, v12], st, w) := by
  refine (zE_ (i := .istore 11) (by decide +kernel) _ _ _).trans ?_
  have hz : zfree [v0, v1, v2, v3, v4, v5, v6, v7, v8, v9, v10, v11, v12] 11 = true := by show decide (v10.category = 1) = true; exact decide_eq_true h
  show zres (zst zint 11 2 202 173 [v0, v1, v2, v3, v4, v5, v6, v7, v8, v9, v10, v11, v12] (.int x :: st) w) = _
  unfold zst
  dsimp only
  rw [if_pos ⟨rfl, Nat.le_of_ble_eq_true rfl, hz⟩]
  rfl
theorem e202_175 (v0 v1 v2 v3 v4 v5 v6 v7 v8 v9 v10 v11 : Value) (x : Int32) (st : List Value) (w : zH) : zrun none (202, 175, [v0, v1, v2, v3, v4, v5, v6, v7, v8, v9, v10, v11, .int x], st, w) = zrun none (202, 177, [v0, v1, v2, v3, v4, v5, v6, v7, v8, v9, v10, v11, .int x], (.int x :: st), w) := (zE_ (i := .iload 12) (by decide +kernel) _ _ _).trans rfl
theorem e202_177 (v0 v1 v2 v3 v4 v5 v6 v7 v8 v9 v10 v11 v12 : Value) (x : Int32) (st : List Value) (w : zH) (h : v9.category = 1) : zrun none (202, 177, [v0, v1, v2, v3, v4, v5, v6, v7, v8, v9, v10, v11, v12], (.int x :: st), w) = zrun none (202, 179, [v0, v1, v2, v3, v4, v5, v6, v7, v8, v9, .int x, v11, v12], st, w) := by
  refine (zE_ (i := .istore 10) (by decide +kernel) _ _ _).trans ?_
  have hz : zfree [v0, v1, v2, v3, v4, v5, v6, v7, v8, v9, v10, v11, v12] 10 = true := by show decide (v9.category = 1) = true; exact decide_eq_true h
  show zres (zst zint 10 2 202 177 [v0, v1, v2, v3, v4, v5, v6, v7, v8, v9, v10, v11, v12] (.int x :: st) w) = _
  unfold zst
  dsimp only
  rw [if_pos ⟨rfl, Nat.le_of_ble_eq_true rfl, hz⟩]
  rfl
theorem e202_179 (v0 v1 v2 v3 v4 v5 v6 v7 v8 v9 v10 v11 : Value) (x : Int32) (st : List Value) (w : zH) : zrun none (202, 179, [v0, v1, v2, v3, v4, v5, v6, v7, v8, v9, v10, v11, .int x], st, w) = zrun none (202, 182, [v0, v1, v2, v3, v4, v5, v6, v7, v8, v9, v10, v11, .int (x + 1)], st, w) := (zE_ (i := .iinc 12 1) (by decide +kernel) _ _ _).trans rfl
theorem e202_182 (ls st : List Value) (w : zH) : zrun none (202, 182, ls, st, w) = zrun none (202, 121, ls, st, w) := (zE_ (i := .goto (-61)) (by decide +kernel) _ _ _).trans rfl
theorem e202_185 (v0 v1 v2 v3 v4 v5 v6 v7 v8 v9 v11 v12 : Value) (x : Int32) (st : List Value) (w : zH) : zrun none (202, 185, [v0, v1, v2, v3, v4, v5, v6, v7, v8, v9, .int x, v11, v12], st, w) = zrun none (202, 187, [v0, v1, v2, v3, v4, v5, v6, v7, v8, v9, .int x, v11, v12], (.int x :: st), w) := (zE_ (i := .iload 10) (by decide +kernel) _ _ _).trans rfl
theorem e202_187 (ls st : List Value) (w : zH) : zrun none (202, 187, ls, st, w) = zrun none (202, 189, ls, (.int (-1000000) :: st), w) := (zE_ (i := .bipush (-1000000)) (by decide +kernel) _ _ _).trans rfl
theorem e202_189 (ls : List Value) (a b : Int32) (st : List Value) (w : zH) : zrun none (202, 189, ls, (.int b :: .int a :: st), w) = if a = b then zrun none (202, 192, ls, st, w) else zrun none (202, 195, ls, st, w) := (zE_ (i := .if_icmp .ne 6) (by decide +kernel) _ _ _).trans (zq_ic_ne rfl rfl)
theorem e202_192 (ls st : List Value) (w : zH) : zrun none (202, 192, ls, st, w) = zrun none (202, 194, ls, (.int (-1000000) :: st), w) := (zE_ (i := .bipush (-1000000)) (by decide +kernel) _ _ _).trans rfl
theorem e202_194 (ls : List Value) (x : Int32) (w : zH) : zrun none (202, 194, ls, [.int x], w) = some (some (.int x), w) := by
  refine (zE_ (i := .ireturn) (by decide +kernel) _ _ _).trans ?_
  show zres (if narrow .int (.int x) = .int x then _ else none) = _
  rw [if_pos (show narrow .int (.int x) = .int x from rfl)]
  rfl
theorem e202_195 (v0 v1 v2 v3 v4 v5 v6 v7 v8 v9 v10 v12 : Value) (x : Int32) (st : List Value) (w : zH) : zrun none (202, 195, [v0, v1, v2, v3, v4, v5, v6, v7, v8, v9, v10, .int x, v12], st, w) = zrun none (202, 197, [v0, v1, v2, v3, v4, v5, v6, v7, v8, v9, v10, .int x, v12], (.int x :: st), w) := (zE_ (i := .iload 11) (by decide +kernel) _ _ _).trans rfl
theorem e202_197 (v0 v1 v2 v3 v4 v5 v6 v7 v8 v9 v10 v12 : Value) (x : Int32) (st : List Value) (w : zH) : zrun none (202, 197, [v0, v1, v2, v3, v4, v5, v6, v7, v8, v9, v10, .int x, v12], st, w) = zrun none (202, 199, [v0, v1, v2, v3, v4, v5, v6, v7, v8, v9, v10, .int x, v12], (.int x :: st), w) := (zE_ (i := .iload 11) (by decide +kernel) _ _ _).trans rfl
theorem e202_199 (v0 v1 v2 v3 v4 v6 v7 v8 v9 v10 v11 v12 : Value) (x : Int32) (st : List Value) (w : zH) : zrun none (202, 199, [v0, v1, v2, v3, v4, .int x, v6, v7, v8, v9, v10, v11, v12], st, w) = zrun none (202, 201, [v0, v1, v2, v3, v4, .int x, v6, v7, v8, v9, v10, v11, v12], (.int x :: st), w) := (zE_ (i := .iload 5) (by decide +kernel) _ _ _).trans rfl
theorem e202_201 (ls : List Value) (x0 : Int32) (x1 : Int32) (st : List Value) (w : zH) (hr : zcat st ≤ 8) : zrun none (202, 201, ls, (.int x1 :: .int x0 :: st), w) = zcl (zrun none (198, 0, [.int x0, .int x1, zJ, zJ], [], w)) (fun r => zrun none (202, 204, ls, r.1.toList ++ st, r.2)) := by
  refine (zE_ (i := .invokestatic 198) (by decide +kernel) _ _ _).trans ?_
  show zres (if (99 : Nat) = 99 ∧ 2 ≤ ((.int x1 :: .int x0 :: st) : List Value).length then zcall 198 [.int x0, .int x1] st 202 201 ls w else none) = _
  rw [if_pos ⟨rfl, by simp⟩]
  exact zq_call hr (Nat.le_of_ble_eq_true rfl) rfl rfl
theorem e202_204 (ls : List Value) (a b : Int32) (st : List Value) (w : zH) : zrun none (202, 204, ls, (.int b :: .int a :: st), w) = zrun none (202, 205, ls, (.int (a - b) :: st), w) := (zE_ (i := .isub) (by decide +kernel) _ _ _).trans rfl
theorem e202_205 (v0 v1 v2 v3 v4 v5 v7 v8 v9 v10 v11 v12 : Value) (x : Int32) (st : List Value) (w : zH) : zrun none (202, 205, [v0, v1, v2, v3, v4, v5, .int x, v7, v8, v9, v10, v11, v12], st, w) = zrun none (202, 207, [v0, v1, v2, v3, v4, v5, .int x, v7, v8, v9, v10, v11, v12], (.int x :: st), w) := (zE_ (i := .iload 6) (by decide +kernel) _ _ _).trans rfl
theorem e202_207 (ls : List Value) (a b : Int32) (st : List Value) (w : zH) : zrun none (202, 207, ls, (.int b :: .int a :: st), w) = zrun none (202, 208, ls, (.int (a - b) :: st), w) := (zE_ (i := .isub) (by decide +kernel) _ _ _).trans rfl
theorem e202_208 (v0 v1 v2 v3 v4 v5 v6 v7 v8 v9 v10 v11 v12 : Value) (x : Int32) (st : List Value) (w : zH) (h : v11.category = 1) : zrun none (202, 208, [v0, v1, v2, v3, v4, v5, v6, v7, v8, v9, v10, v11, v12], (.int x :: st), w) = zrun none (202, 210, [v0, v1, v2, v3, v4, v5, v6, v7, v8, v9, v10, v11, .int x], st, w) := by
  refine (zE_ (i := .istore 12) (by decide +kernel) _ _ _).trans ?_
  have hz : zfree [v0, v1, v2, v3, v4, v5, v6, v7, v8, v9, v10, v11, v12] 12 = true := by show decide (v11.category = 1) = true; exact decide_eq_true h
  show zres (zst zint 12 2 202 208 [v0, v1, v2, v3, v4, v5, v6, v7, v8, v9, v10, v11, v12] (.int x :: st) w) = _
  unfold zst
  dsimp only
  rw [if_pos ⟨rfl, Nat.le_of_ble_eq_true rfl, hz⟩]
  rfl
theorem e202_210 (v0 v1 v2 v3 v4 v5 v6 v8 v9 v10 v11 v12 : Value) (x : Int32) (st : List Value) (w : zH) : zrun none (202, 210, [v0, v1, v2, v3, v4, v5, v6, .int x, v8, v9, v10, v11, v12], st, w) = zrun none (202, 212, [v0, v1, v2, v3, v4, v5, v6, .int x, v8, v9, v10, v11, v12], (.int x :: st), w) := (zE_ (i := .iload 7) (by decide +kernel) _ _ _).trans rfl
theorem e202_212 (ls : List Value) (a : Int32) (st : List Value) (w : zH) : zrun none (202, 212, ls, (.int a :: st), w) = if a = 0 then zrun none (202, 215, ls, st, w) else zrun none (202, 220, ls, st, w) := (zE_ (i := .ifCond .ne 8) (by decide +kernel) _ _ _).trans (zq_if_ne rfl rfl)
theorem e202_215 (v0 v1 v2 v3 v4 v5 v6 v7 v8 v9 v11 v12 : Value) (x : Int32) (st : List Value) (w : zH) : zrun none (202, 215, [v0, v1, v2, v3, v4, v5, v6, v7, v8, v9, .int x, v11, v12], st, w) = zrun none (202, 217, [v0, v1, v2, v3, v4, v5, v6, v7, v8, v9, .int x, v11, v12], (.int x :: st), w) := (zE_ (i := .iload 10) (by decide +kernel) _ _ _).trans rfl
theorem e202_217 (ls st : List Value) (w : zH) : zrun none (202, 217, ls, st, w) = zrun none (202, 242, ls, st, w) := (zE_ (i := .goto 25) (by decide +kernel) _ _ _).trans rfl
theorem e202_220 (v0 v1 v2 v3 v4 v5 v6 v8 v9 v10 v11 v12 : Value) (x : Int32) (st : List Value) (w : zH) : zrun none (202, 220, [v0, v1, v2, v3, v4, v5, v6, .int x, v8, v9, v10, v11, v12], st, w) = zrun none (202, 222, [v0, v1, v2, v3, v4, v5, v6, .int x, v8, v9, v10, v11, v12], (.int x :: st), w) := (zE_ (i := .iload 7) (by decide +kernel) _ _ _).trans rfl
theorem e202_222 (ls st : List Value) (w : zH) : zrun none (202, 222, ls, st, w) = zrun none (202, 223, ls, (.int 1 :: st), w) := (zE_ (i := .iconst 1) (by decide +kernel) _ _ _).trans rfl
theorem e202_223 (ls : List Value) (a b : Int32) (st : List Value) (w : zH) : zrun none (202, 223, ls, (.int b :: .int a :: st), w) = if a = b then zrun none (202, 226, ls, st, w) else zrun none (202, 231, ls, st, w) := (zE_ (i := .if_icmp .ne 8) (by decide +kernel) _ _ _).trans (zq_ic_ne rfl rfl)
theorem e202_226 (v0 v1 v2 v3 v4 v5 v6 v7 v8 v9 v10 v12 : Value) (x : Int32) (st : List Value) (w : zH) : zrun none (202, 226, [v0, v1, v2, v3, v4, v5, v6, v7, v8, v9, v10, .int x, v12], st, w) = zrun none (202, 228, [v0, v1, v2, v3, v4, v5, v6, v7, v8, v9, v10, .int x, v12], (.int x :: st), w) := (zE_ (i := .iload 11) (by decide +kernel) _ _ _).trans rfl
theorem e202_228 (ls st : List Value) (w : zH) : zrun none (202, 228, ls, st, w) = zrun none (202, 242, ls, st, w) := (zE_ (i := .goto 14) (by decide +kernel) _ _ _).trans rfl
theorem e202_231 (v0 v1 v2 v3 v4 v5 v6 v7 v8 v9 v10 v11 : Value) (x : Int32) (st : List Value) (w : zH) : zrun none (202, 231, [v0, v1, v2, v3, v4, v5, v6, v7, v8, v9, v10, v11, .int x], st, w) = zrun none (202, 233, [v0, v1, v2, v3, v4, v5, v6, v7, v8, v9, v10, v11, .int x], (.int x :: st), w) := (zE_ (i := .iload 12) (by decide +kernel) _ _ _).trans rfl
theorem e202_233 (ls : List Value) (a : Int32) (st : List Value) (w : zH) : zrun none (202, 233, ls, (.int a :: st), w) = if 0 ≤ a then zrun none (202, 240, ls, st, w) else zrun none (202, 236, ls, st, w) := (zE_ (i := .ifCond .ge 7) (by decide +kernel) _ _ _).trans (zq_if_ge rfl rfl)
theorem e202_236 (ls st : List Value) (w : zH) : zrun none (202, 236, ls, st, w) = zrun none (202, 237, ls, (.int 0 :: st), w) := (zE_ (i := .iconst 0) (by decide +kernel) _ _ _).trans rfl
theorem e202_237 (ls st : List Value) (w : zH) : zrun none (202, 237, ls, st, w) = zrun none (202, 242, ls, st, w) := (zE_ (i := .goto 5) (by decide +kernel) _ _ _).trans rfl
theorem e202_240 (v0 v1 v2 v3 v4 v5 v6 v7 v8 v9 v10 v11 : Value) (x : Int32) (st : List Value) (w : zH) : zrun none (202, 240, [v0, v1, v2, v3, v4, v5, v6, v7, v8, v9, v10, v11, .int x], st, w) = zrun none (202, 242, [v0, v1, v2, v3, v4, v5, v6, v7, v8, v9, v10, v11, .int x], (.int x :: st), w) := (zE_ (i := .iload 12) (by decide +kernel) _ _ _).trans rfl
theorem e202_242 (ls : List Value) (x : Int32) (w : zH) : zrun none (202, 242, ls, [.int x], w) = some (some (.int x), w) := by
  refine (zE_ (i := .ireturn) (by decide +kernel) _ _ _).trans ?_
  show zres (if narrow .int (.int x) = .int x then _ else none) = _
  rw [if_pos (show narrow .int (.int x) = .int x from rfl)]
  rfl
theorem e203_0 (x : Int32) (st : List Value) (w : zH) : zrun none (203, 0, [.int x], st, w) = zrun none (203, 1, [.int x], (.int x :: st), w) := (zE_ (i := .iload_n 0) (by decide +kernel) _ _ _).trans rfl
theorem e203_1 (ls : List Value) (a : Int32) (st : List Value) (w : zH) : zrun none (203, 1, ls, (.int a :: st), w) = zrun none (203, 2, ls, (.long a.toInt64 :: st), w) := (zE_ (i := .i2l) (by decide +kernel) _ _ _).trans rfl
theorem e203_2 (ls st : List Value) (w : zH) : zrun none (203, 2, ls, st, w) = zrun none (203, 3, ls, (.long 0 :: st), w) := (zE_ (i := .lconst 0) (by decide +kernel) _ _ _).trans rfl
theorem e203_3 (ls st : List Value) (w : zH) : zrun none (203, 3, ls, st, w) = zrun none (203, 6, ls, (.long 4095 :: st), w) := (zE_ (i := .ldc2_w 4095) (by decide +kernel) _ _ _).trans rfl
theorem e203_6 (ls : List Value) (x0 : Int64) (x1 : Int64) (x2 : Int64) (st : List Value) (w : zH) (hr : zcat st ≤ 8) : zrun none (203, 6, ls, (.long x2 :: .long x1 :: .long x0 :: st), w) = zcl (zrun none (146, 0, [.long x0, zJ, .long x1, zJ, .long x2, zJ], [], w)) (fun r => zrun none (203, 9, ls, r.1.toList ++ st, r.2)) := by
  refine (zE_ (i := .invokestatic 146) (by decide +kernel) _ _ _).trans ?_
  show zres (if (99 : Nat) = 99 ∧ 3 ≤ ((.long x2 :: .long x1 :: .long x0 :: st) : List Value).length then zcall 146 [.long x0, .long x1, .long x2] st 203 6 ls w else none) = _
  rw [if_pos ⟨rfl, by simp⟩]
  exact zq_call hr (Nat.le_of_ble_eq_true rfl) rfl rfl
theorem e203_9 (ls : List Value) (x : Int32) (w : zH) (h : narrow .boolean (.int x) = .int x) : zrun none (203, 9, ls, [.int x], w) = some (some (.int x), w) := by
  refine (zE_ (i := .ireturn) (by decide +kernel) _ _ _).trans ?_
  show zres (if narrow .boolean (.int x) = .int x then _ else none) = _
  rw [if_pos h]
  rfl
theorem e204_0 (v1 v2 v3 : Value) (x : Nat) (st : List Value) (w : zH) : zrun none (204, 0, [.ref x, v1, v2, v3], st, w) = zrun none (204, 1, [.ref x, v1, v2, v3], (.ref x :: st), w) := (zE_ (i := .aload_n 0) (by decide +kernel) _ _ _).trans rfl
theorem e204_1 (ls st : List Value) (w : zH) : zrun none (204, 1, ls, st, w) = zrun none (204, 2, ls, (.int 0 :: st), w) := (zE_ (i := .iconst 0) (by decide +kernel) _ _ _).trans rfl
theorem e204_2 (ls : List Value) (x : Int32) (a : Nat) (st : List Value) (w : zH) : zrun none (204, 2, ls, (.int x :: .ref a :: st), w) = zgd (a < zX ∧ (zf w a 1200).isSome = true) (zrun none (204, 5, ls, st, zpf w a 1200 (.int x))) := by
  refine (zE_ (i := .putfield 1200) (by decide +kernel) _ _ _).trans ?_
  by_cases hg : a < zX ∧ (zf w a 1200).isSome = true
  · rw [zgd_pos hg]
    obtain ⟨ha, h⟩ := hg
    exact zq_putf ha h rfl rfl
  · rw [zgd_neg hg]
    exact zq_putf_no (fun h1 h2 h3 => hg ⟨h1, h2⟩)
theorem e204_5 (v0 v2 v3 : Value) (x : Int32) (st : List Value) (w : zH) : zrun none (204, 5, [v0, .int x, v2, v3], st, w) = zrun none (204, 6, [v0, .int x, v2, v3], (.int x :: st), w) := (zE_ (i := .iload_n 1) (by decide +kernel) _ _ _).trans rfl
theorem e204_6 (ls : List Value) (x0 : Int32) (st : List Value) (w : zH) (hr : zcat st ≤ 8) : zrun none (204, 6, ls, (.int x0 :: st), w) = zcl (zrun none (203, 0, [.int x0], [], w)) (fun r => zrun none (204, 9, ls, r.1.toList ++ st, r.2)) := by
  refine (zE_ (i := .invokestatic 203) (by decide +kernel) _ _ _).trans ?_
  show zres (if (99 : Nat) = 99 ∧ 1 ≤ ((.int x0 :: st) : List Value).length then zcall 203 [.int x0] st 204 6 ls w else none) = _
  rw [if_pos ⟨rfl, by simp⟩]
  exact zq_call hr (Nat.le_of_ble_eq_true rfl) rfl rfl
theorem e204_9 (ls : List Value) (a : Int32) (st : List Value) (w : zH) : zrun none (204, 9, ls, (.int a :: st), w) = if a = 0 then zrun none (204, 29, ls, st, w) else zrun none (204, 12, ls, st, w) := (zE_ (i := .ifCond .eq 20) (by decide +kernel) _ _ _).trans (zq_if_eq rfl rfl)
theorem e204_12 (v0 v1 v3 : Value) (x : Int32) (st : List Value) (w : zH) : zrun none (204, 12, [v0, v1, .int x, v3], st, w) = zrun none (204, 13, [v0, v1, .int x, v3], (.int x :: st), w) := (zE_ (i := .iload_n 2) (by decide +kernel) _ _ _).trans rfl
theorem e204_13 (ls : List Value) (a : Int32) (st : List Value) (w : zH) : zrun none (204, 13, ls, (.int a :: st), w) = zrun none (204, 14, ls, (.long a.toInt64 :: st), w) := (zE_ (i := .i2l) (by decide +kernel) _ _ _).trans rfl
theorem e204_14 (ls st : List Value) (w : zH) : zrun none (204, 14, ls, st, w) = zrun none (204, 15, ls, (.long 0 :: st), w) := (zE_ (i := .lconst 0) (by decide +kernel) _ _ _).trans rfl
theorem e204_15 (ls st : List Value) (w : zH) : zrun none (204, 15, ls, st, w) = zrun none (204, 16, ls, (.long 1 :: st), w) := (zE_ (i := .lconst 1) (by decide +kernel) _ _ _).trans rfl
theorem e204_16 (ls : List Value) (x0 : Int64) (x1 : Int64) (x2 : Int64) (st : List Value) (w : zH) (hr : zcat st ≤ 8) : zrun none (204, 16, ls, (.long x2 :: .long x1 :: .long x0 :: st), w) = zcl (zrun none (146, 0, [.long x0, zJ, .long x1, zJ, .long x2, zJ], [], w)) (fun r => zrun none (204, 19, ls, r.1.toList ++ st, r.2)) := by
  refine (zE_ (i := .invokestatic 146) (by decide +kernel) _ _ _).trans ?_
  show zres (if (99 : Nat) = 99 ∧ 3 ≤ ((.long x2 :: .long x1 :: .long x0 :: st) : List Value).length then zcall 146 [.long x0, .long x1, .long x2] st 204 16 ls w else none) = _
  rw [if_pos ⟨rfl, by simp⟩]
  exact zq_call hr (Nat.le_of_ble_eq_true rfl) rfl rfl
theorem e204_19 (ls : List Value) (a : Int32) (st : List Value) (w : zH) : zrun none (204, 19, ls, (.int a :: st), w) = if a = 0 then zrun none (204, 29, ls, st, w) else zrun none (204, 22, ls, st, w) := (zE_ (i := .ifCond .eq 10) (by decide +kernel) _ _ _).trans (zq_if_eq rfl rfl)
theorem e204_22 (v0 v1 v2 : Value) (x : Int32) (st : List Value) (w : zH) : zrun none (204, 22, [v0, v1, v2, .int x], st, w) = zrun none (204, 23, [v0, v1, v2, .int x], (.int x :: st), w) := (zE_ (i := .iload_n 3) (by decide +kernel) _ _ _).trans rfl
theorem e204_23 (ls : List Value) (x0 : Int32) (st : List Value) (w : zH) (hr : zcat st ≤ 8) : zrun none (204, 23, ls, (.int x0 :: st), w) = zcl (zrun none (155, 0, [.int x0], [], w)) (fun r => zrun none (204, 26, ls, r.1.toList ++ st, r.2)) := by
  refine (zE_ (i := .invokestatic 155) (by decide +kernel) _ _ _).trans ?_
  show zres (if (99 : Nat) = 99 ∧ 1 ≤ ((.int x0 :: st) : List Value).length then zcall 155 [.int x0] st 204 23 ls w else none) = _
  rw [if_pos ⟨rfl, by simp⟩]
  exact zq_call hr (Nat.le_of_ble_eq_true rfl) rfl rfl
theorem e204_26 (ls : List Value) (a : Int32) (st : List Value) (w : zH) : zrun none (204, 26, ls, (.int a :: st), w) = if a = 0 then zrun none (204, 29, ls, st, w) else zrun none (204, 32, ls, st, w) := (zE_ (i := .ifCond .ne 6) (by decide +kernel) _ _ _).trans (zq_if_ne rfl rfl)
theorem e204_29 (ls st : List Value) (w : zH) : zrun none (204, 29, ls, st, w) = zrun none (204, 31, ls, (.int (-1000001) :: st), w) := (zE_ (i := .bipush (-1000001)) (by decide +kernel) _ _ _).trans rfl
theorem e204_31 (ls : List Value) (x : Int32) (w : zH) : zrun none (204, 31, ls, [.int x], w) = some (some (.int x), w) := by
  refine (zE_ (i := .ireturn) (by decide +kernel) _ _ _).trans ?_
  show zres (if narrow .int (.int x) = .int x then _ else none) = _
  rw [if_pos (show narrow .int (.int x) = .int x from rfl)]
  rfl
theorem e204_32 (v1 v2 v3 : Value) (x : Nat) (st : List Value) (w : zH) : zrun none (204, 32, [.ref x, v1, v2, v3], st, w) = zrun none (204, 33, [.ref x, v1, v2, v3], (.ref x :: st), w) := (zE_ (i := .aload_n 0) (by decide +kernel) _ _ _).trans rfl
theorem e204_33 (ls : List Value) (a : Nat) (st : List Value) (w : zH) : zrun none (204, 33, ls, (.ref a :: st), w) = zo (zf w a 1244) (fun x => zrun none (204, 36, ls, (x :: st), w)) := (zE_ (i := .getfield 1244) (by decide +kernel) _ _ _).trans zq_getf
theorem e204_36 (ls st : List Value) (w : zH) : zrun none (204, 36, ls, st, w) = zrun none (204, 38, ls, (.int 16 :: st), w) := (zE_ (i := .bipush 16) (by decide +kernel) _ _ _).trans rfl
theorem e204_38 (ls : List Value) (a b : Int32) (st : List Value) (w : zH) : zrun none (204, 38, ls, (.int b :: .int a :: st), w) = if a = b then zrun none (204, 41, ls, st, w) else zrun none (204, 44, ls, st, w) := (zE_ (i := .if_icmp .ne 6) (by decide +kernel) _ _ _).trans (zq_ic_ne rfl rfl)
theorem e204_41 (ls st : List Value) (w : zH) : zrun none (204, 41, ls, st, w) = zrun none (204, 43, ls, (.int (-1000003) :: st), w) := (zE_ (i := .bipush (-1000003)) (by decide +kernel) _ _ _).trans rfl
theorem e204_43 (ls : List Value) (x : Int32) (w : zH) : zrun none (204, 43, ls, [.int x], w) = some (some (.int x), w) := by
  refine (zE_ (i := .ireturn) (by decide +kernel) _ _ _).trans ?_
  show zres (if narrow .int (.int x) = .int x then _ else none) = _
  rw [if_pos (show narrow .int (.int x) = .int x from rfl)]
  rfl
theorem e204_44 (v1 v2 v3 : Value) (x : Nat) (st : List Value) (w : zH) : zrun none (204, 44, [.ref x, v1, v2, v3], st, w) = zrun none (204, 45, [.ref x, v1, v2, v3], (.ref x :: st), w) := (zE_ (i := .aload_n 0) (by decide +kernel) _ _ _).trans rfl
theorem e204_45 (ls : List Value) (a : Nat) (st : List Value) (w : zH) : zrun none (204, 45, ls, (.ref a :: st), w) = zo (zf w a 1245) (fun x => zrun none (204, 48, ls, (x :: st), w)) := (zE_ (i := .getfield 1245) (by decide +kernel) _ _ _).trans zq_getf
theorem e204_48 (v1 v2 v3 : Value) (x : Nat) (st : List Value) (w : zH) : zrun none (204, 48, [.ref x, v1, v2, v3], st, w) = zrun none (204, 49, [.ref x, v1, v2, v3], (.ref x :: st), w) := (zE_ (i := .aload_n 0) (by decide +kernel) _ _ _).trans rfl
theorem e204_49 (ls : List Value) (a : Nat) (st : List Value) (w : zH) : zrun none (204, 49, ls, (.ref a :: st), w) = zo (zf w a 1244) (fun x => zrun none (204, 52, ls, (x :: st), w)) := (zE_ (i := .getfield 1244) (by decide +kernel) _ _ _).trans zq_getf
theorem e204_52 (v0 v2 v3 : Value) (x : Int32) (st : List Value) (w : zH) : zrun none (204, 52, [v0, .int x, v2, v3], st, w) = zrun none (204, 53, [v0, .int x, v2, v3], (.int x :: st), w) := (zE_ (i := .iload_n 1) (by decide +kernel) _ _ _).trans rfl
theorem e204_53 (ls : List Value) (x j : Int32) (a : Nat) (st : List Value) (w : zH) : zrun none (204, 53, ls, (.int x :: .int j :: .ref a :: st), w) = zgd (zin? w a 100 j) (zrun none (204, 54, ls, st, zas w a j (.int x))) := by
  refine (zE_ (i := .iastore) (by decide +kernel) _ _ _).trans ?_
  by_cases hg : zin? w a 100 j
  · rw [zgd_pos hg]
    exact zq_iast hg
  · rw [zgd_neg hg]
    exact zq_iast_no hg
theorem e204_54 (v1 v2 v3 : Value) (x : Nat) (st : List Value) (w : zH) : zrun none (204, 54, [.ref x, v1, v2, v3], st, w) = zrun none (204, 55, [.ref x, v1, v2, v3], (.ref x :: st), w) := (zE_ (i := .aload_n 0) (by decide +kernel) _ _ _).trans rfl
theorem e204_55 (ls : List Value) (a : Nat) (st : List Value) (w : zH) : zrun none (204, 55, ls, (.ref a :: st), w) = zo (zf w a 1246) (fun x => zrun none (204, 58, ls, (x :: st), w)) := (zE_ (i := .getfield 1246) (by decide +kernel) _ _ _).trans zq_getf
theorem e204_58 (v1 v2 v3 : Value) (x : Nat) (st : List Value) (w : zH) : zrun none (204, 58, [.ref x, v1, v2, v3], st, w) = zrun none (204, 59, [.ref x, v1, v2, v3], (.ref x :: st), w) := (zE_ (i := .aload_n 0) (by decide +kernel) _ _ _).trans rfl
theorem e204_59 (ls : List Value) (a : Nat) (st : List Value) (w : zH) : zrun none (204, 59, ls, (.ref a :: st), w) = zo (zf w a 1244) (fun x => zrun none (204, 62, ls, (x :: st), w)) := (zE_ (i := .getfield 1244) (by decide +kernel) _ _ _).trans zq_getf
theorem e204_62 (v0 v1 v3 : Value) (x : Int32) (st : List Value) (w : zH) : zrun none (204, 62, [v0, v1, .int x, v3], st, w) = zrun none (204, 63, [v0, v1, .int x, v3], (.int x :: st), w) := (zE_ (i := .iload_n 2) (by decide +kernel) _ _ _).trans rfl
theorem e204_63 (ls : List Value) (x j : Int32) (a : Nat) (st : List Value) (w : zH) : zrun none (204, 63, ls, (.int x :: .int j :: .ref a :: st), w) = zgd (zin? w a 100 j) (zrun none (204, 64, ls, st, zas w a j (.int x))) := by
  refine (zE_ (i := .iastore) (by decide +kernel) _ _ _).trans ?_
  by_cases hg : zin? w a 100 j
  · rw [zgd_pos hg]
    exact zq_iast hg
  · rw [zgd_neg hg]
    exact zq_iast_no hg
theorem e204_64 (v1 v2 v3 : Value) (x : Nat) (st : List Value) (w : zH) : zrun none (204, 64, [.ref x, v1, v2, v3], st, w) = zrun none (204, 65, [.ref x, v1, v2, v3], (.ref x :: st), w) := (zE_ (i := .aload_n 0) (by decide +kernel) _ _ _).trans rfl
theorem e204_65 (ls : List Value) (a : Nat) (st : List Value) (w : zH) : zrun none (204, 65, ls, (.ref a :: st), w) = zo (zf w a 1247) (fun x => zrun none (204, 68, ls, (x :: st), w)) := (zE_ (i := .getfield 1247) (by decide +kernel) _ _ _).trans zq_getf
theorem e204_68 (v1 v2 v3 : Value) (x : Nat) (st : List Value) (w : zH) : zrun none (204, 68, [.ref x, v1, v2, v3], st, w) = zrun none (204, 69, [.ref x, v1, v2, v3], (.ref x :: st), w) := (zE_ (i := .aload_n 0) (by decide +kernel) _ _ _).trans rfl
theorem e204_69 (ls : List Value) (a : Nat) (st : List Value) (w : zH) : zrun none (204, 69, ls, (.ref a :: st), w) = zo (zf w a 1244) (fun x => zrun none (204, 72, ls, (x :: st), w)) := (zE_ (i := .getfield 1244) (by decide +kernel) _ _ _).trans zq_getf
theorem e204_72 (v0 v1 v2 : Value) (x : Int32) (st : List Value) (w : zH) : zrun none (204, 72, [v0, v1, v2, .int x], st, w) = zrun none (204, 73, [v0, v1, v2, .int x], (.int x :: st), w) := (zE_ (i := .iload_n 3) (by decide +kernel) _ _ _).trans rfl
theorem e204_73 (ls : List Value) (x j : Int32) (a : Nat) (st : List Value) (w : zH) : zrun none (204, 73, ls, (.int x :: .int j :: .ref a :: st), w) = zgd (zin? w a 100 j) (zrun none (204, 74, ls, st, zas w a j (.int x))) := by
  refine (zE_ (i := .iastore) (by decide +kernel) _ _ _).trans ?_
  by_cases hg : zin? w a 100 j
  · rw [zgd_pos hg]
    exact zq_iast hg
  · rw [zgd_neg hg]
    exact zq_iast_no hg
theorem e204_74 (v1 v2 v3 : Value) (x : Nat) (st : List Value) (w : zH) : zrun none (204, 74, [.ref x, v1, v2, v3], st, w) = zrun none (204, 75, [.ref x, v1, v2, v3], (.ref x :: st), w) := (zE_ (i := .aload_n 0) (by decide +kernel) _ _ _).trans rfl
theorem e204_75 (ls : List Value) (x : Int32) (st : List Value) (w : zH) : zrun none (204, 75, ls, (.int x :: st), w) = zrun none (204, 76, ls, (.int x :: .int x :: st), w) := (zE_ (i := .dup) (by decide +kernel) _ _ _).trans rfl
theorem e204_75r (ls : List Value) (x : Nat) (st : List Value) (w : zH) : zrun none (204, 75, ls, (.ref x :: st), w) = zrun none (204, 76, ls, (.ref x :: .ref x :: st), w) := (zE_ (i := .dup) (by decide +kernel) _ _ _).trans rfl
theorem e204_76 (ls : List Value) (a : Nat) (st : List Value) (w : zH) : zrun none (204, 76, ls, (.ref a :: st), w) = zo (zf w a 1244) (fun x => zrun none (204, 79, ls, (x :: st), w)) := (zE_ (i := .getfield 1244) (by decide +kernel) _ _ _).trans zq_getf
theorem e204_79 (ls st : List Value) (w : zH) : zrun none (204, 79, ls, st, w) = zrun none (204, 80, ls, (.int 1 :: st), w) := (zE_ (i := .iconst 1) (by decide +kernel) _ _ _).trans rfl
theorem e204_80 (ls : List Value) (a b : Int32) (st : List Value) (w : zH) : zrun none (204, 80, ls, (.int b :: .int a :: st), w) = zrun none (204, 81, ls, (.int (a + b) :: st), w) := (zE_ (i := .iadd) (by decide +kernel) _ _ _).trans rfl
theorem e204_81 (ls : List Value) (x : Int32) (a : Nat) (st : List Value) (w : zH) : zrun none (204, 81, ls, (.int x :: .ref a :: st), w) = zgd (a < zX ∧ (zf w a 1244).isSome = true) (zrun none (204, 84, ls, st, zpf w a 1244 (.int x))) := by
  refine (zE_ (i := .putfield 1244) (by decide +kernel) _ _ _).trans ?_
  by_cases hg : a < zX ∧ (zf w a 1244).isSome = true
  · rw [zgd_pos hg]
    obtain ⟨ha, h⟩ := hg
    exact zq_putf ha h rfl rfl
  · rw [zgd_neg hg]
    exact zq_putf_no (fun h1 h2 h3 => hg ⟨h1, h2⟩)
theorem e204_84 (v1 v2 v3 : Value) (x : Nat) (st : List Value) (w : zH) : zrun none (204, 84, [.ref x, v1, v2, v3], st, w) = zrun none (204, 85, [.ref x, v1, v2, v3], (.ref x :: st), w) := (zE_ (i := .aload_n 0) (by decide +kernel) _ _ _).trans rfl
theorem e204_85 (ls : List Value) (a : Nat) (st : List Value) (w : zH) : zrun none (204, 85, ls, (.ref a :: st), w) = zo (zf w a 1244) (fun x => zrun none (204, 88, ls, (x :: st), w)) := (zE_ (i := .getfield 1244) (by decide +kernel) _ _ _).trans zq_getf
theorem e204_88 (ls st : List Value) (w : zH) : zrun none (204, 88, ls, st, w) = zrun none (204, 89, ls, (.int 1 :: st), w) := (zE_ (i := .iconst 1) (by decide +kernel) _ _ _).trans rfl
theorem e204_89 (ls : List Value) (a b : Int32) (st : List Value) (w : zH) : zrun none (204, 89, ls, (.int b :: .int a :: st), w) = zrun none (204, 90, ls, (.int (a - b) :: st), w) := (zE_ (i := .isub) (by decide +kernel) _ _ _).trans rfl
theorem e204_90 (ls : List Value) (x : Int32) (w : zH) : zrun none (204, 90, ls, [.int x], w) = some (some (.int x), w) := by
  refine (zE_ (i := .ireturn) (by decide +kernel) _ _ _).trans ?_
  show zres (if narrow .int (.int x) = .int x then _ else none) = _
  rw [if_pos (show narrow .int (.int x) = .int x from rfl)]
  rfl
theorem e205_0 (v1 v2 v3 : Value) (x : Nat) (st : List Value) (w : zH) : zrun none (205, 0, [.ref x, v1, v2, v3], st, w) = zrun none (205, 1, [.ref x, v1, v2, v3], (.ref x :: st), w) := (zE_ (i := .aload_n 0) (by decide +kernel) _ _ _).trans rfl
theorem e205_1 (ls st : List Value) (w : zH) : zrun none (205, 1, ls, st, w) = zrun none (205, 2, ls, (.int 0 :: st), w) := (zE_ (i := .iconst 0) (by decide +kernel) _ _ _).trans rfl
theorem e205_2 (ls : List Value) (x : Int32) (a : Nat) (st : List Value) (w : zH) : zrun none (205, 2, ls, (.int x :: .ref a :: st), w) = zgd (a < zX ∧ (zf w a 1200).isSome = true) (zrun none (205, 5, ls, st, zpf w a 1200 (.int x))) := by
  refine (zE_ (i := .putfield 1200) (by decide +kernel) _ _ _).trans ?_
  by_cases hg : a < zX ∧ (zf w a 1200).isSome = true
  · rw [zgd_pos hg]
    obtain ⟨ha, h⟩ := hg
    exact zq_putf ha h rfl rfl
  · rw [zgd_neg hg]
    exact zq_putf_no (fun h1 h2 h3 => hg ⟨h1, h2⟩)
theorem e205_5 (v0 v2 v3 : Value) (x : Int32) (st : List Value) (w : zH) : zrun none (205, 5, [v0, .int x, v2, v3], st, w) = zrun none (205, 6, [v0, .int x, v2, v3], (.int x :: st), w) := (zE_ (i := .iload_n 1) (by decide +kernel) _ _ _).trans rfl
theorem e205_6 (ls : List Value) (a : Int32) (st : List Value) (w : zH) : zrun none (205, 6, ls, (.int a :: st), w) = zrun none (205, 7, ls, (.long a.toInt64 :: st), w) := (zE_ (i := .i2l) (by decide +kernel) _ _ _).trans rfl
theorem e205_7 (ls st : List Value) (w : zH) : zrun none (205, 7, ls, st, w) = zrun none (205, 8, ls, (.long 0 :: st), w) := (zE_ (i := .lconst 0) (by decide +kernel) _ _ _).trans rfl
theorem e205_8 (ls st : List Value) (w : zH) : zrun none (205, 8, ls, st, w) = zrun none (205, 11, ls, (.long 11 :: st), w) := (zE_ (i := .ldc2_w 11) (by decide +kernel) _ _ _).trans rfl
theorem e205_11 (ls : List Value) (x0 : Int64) (x1 : Int64) (x2 : Int64) (st : List Value) (w : zH) (hr : zcat st ≤ 8) : zrun none (205, 11, ls, (.long x2 :: .long x1 :: .long x0 :: st), w) = zcl (zrun none (146, 0, [.long x0, zJ, .long x1, zJ, .long x2, zJ], [], w)) (fun r => zrun none (205, 14, ls, r.1.toList ++ st, r.2)) := by
  refine (zE_ (i := .invokestatic 146) (by decide +kernel) _ _ _).trans ?_
  show zres (if (99 : Nat) = 99 ∧ 3 ≤ ((.long x2 :: .long x1 :: .long x0 :: st) : List Value).length then zcall 146 [.long x0, .long x1, .long x2] st 205 11 ls w else none) = _
  rw [if_pos ⟨rfl, by simp⟩]
  exact zq_call hr (Nat.le_of_ble_eq_true rfl) rfl rfl
theorem e205_14 (ls : List Value) (a : Int32) (st : List Value) (w : zH) : zrun none (205, 14, ls, (.int a :: st), w) = if a = 0 then zrun none (205, 29, ls, st, w) else zrun none (205, 17, ls, st, w) := (zE_ (i := .ifCond .eq 15) (by decide +kernel) _ _ _).trans (zq_if_eq rfl rfl)
theorem e205_17 (v0 v1 v3 : Value) (x : Int32) (st : List Value) (w : zH) : zrun none (205, 17, [v0, v1, .int x, v3], st, w) = zrun none (205, 18, [v0, v1, .int x, v3], (.int x :: st), w) := (zE_ (i := .iload_n 2) (by decide +kernel) _ _ _).trans rfl
theorem e205_18 (ls : List Value) (a : Int32) (st : List Value) (w : zH) : zrun none (205, 18, ls, (.int a :: st), w) = zrun none (205, 19, ls, (.long a.toInt64 :: st), w) := (zE_ (i := .i2l) (by decide +kernel) _ _ _).trans rfl
theorem e205_19 (ls st : List Value) (w : zH) : zrun none (205, 19, ls, st, w) = zrun none (205, 20, ls, (.long 1 :: st), w) := (zE_ (i := .lconst 1) (by decide +kernel) _ _ _).trans rfl
theorem e205_20 (ls st : List Value) (w : zH) : zrun none (205, 20, ls, st, w) = zrun none (205, 23, ls, (.long 9 :: st), w) := (zE_ (i := .ldc2_w 9) (by decide +kernel) _ _ _).trans rfl
theorem e205_23 (ls : List Value) (x0 : Int64) (x1 : Int64) (x2 : Int64) (st : List Value) (w : zH) (hr : zcat st ≤ 8) : zrun none (205, 23, ls, (.long x2 :: .long x1 :: .long x0 :: st), w) = zcl (zrun none (146, 0, [.long x0, zJ, .long x1, zJ, .long x2, zJ], [], w)) (fun r => zrun none (205, 26, ls, r.1.toList ++ st, r.2)) := by
  refine (zE_ (i := .invokestatic 146) (by decide +kernel) _ _ _).trans ?_
  show zres (if (99 : Nat) = 99 ∧ 3 ≤ ((.long x2 :: .long x1 :: .long x0 :: st) : List Value).length then zcall 146 [.long x0, .long x1, .long x2] st 205 23 ls w else none) = _
  rw [if_pos ⟨rfl, by simp⟩]
  exact zq_call hr (Nat.le_of_ble_eq_true rfl) rfl rfl
theorem e205_26 (ls : List Value) (a : Int32) (st : List Value) (w : zH) : zrun none (205, 26, ls, (.int a :: st), w) = if a = 0 then zrun none (205, 29, ls, st, w) else zrun none (205, 32, ls, st, w) := (zE_ (i := .ifCond .ne 6) (by decide +kernel) _ _ _).trans (zq_if_ne rfl rfl)
theorem e205_29 (ls st : List Value) (w : zH) : zrun none (205, 29, ls, st, w) = zrun none (205, 31, ls, (.int (-1000001) :: st), w) := (zE_ (i := .bipush (-1000001)) (by decide +kernel) _ _ _).trans rfl
theorem e205_31 (ls : List Value) (x : Int32) (w : zH) : zrun none (205, 31, ls, [.int x], w) = some (some (.int x), w) := by
  refine (zE_ (i := .ireturn) (by decide +kernel) _ _ _).trans ?_
  show zres (if narrow .int (.int x) = .int x then _ else none) = _
  rw [if_pos (show narrow .int (.int x) = .int x from rfl)]
  rfl
theorem e205_32 (v1 v2 v3 : Value) (x : Nat) (st : List Value) (w : zH) : zrun none (205, 32, [.ref x, v1, v2, v3], st, w) = zrun none (205, 33, [.ref x, v1, v2, v3], (.ref x :: st), w) := (zE_ (i := .aload_n 0) (by decide +kernel) _ _ _).trans rfl
theorem e205_33 (ls : List Value) (a : Nat) (st : List Value) (w : zH) : zrun none (205, 33, ls, (.ref a :: st), w) = zo (zf w a 1248) (fun x => zrun none (205, 36, ls, (x :: st), w)) := (zE_ (i := .getfield 1248) (by decide +kernel) _ _ _).trans zq_getf
theorem e205_36 (v0 v2 v3 : Value) (x : Int32) (st : List Value) (w : zH) : zrun none (205, 36, [v0, .int x, v2, v3], st, w) = zrun none (205, 37, [v0, .int x, v2, v3], (.int x :: st), w) := (zE_ (i := .iload_n 1) (by decide +kernel) _ _ _).trans rfl
theorem e205_37 (ls : List Value) (j : Int32) (a : Nat) (st : List Value) (w : zH) : zrun none (205, 37, ls, (.int j :: .ref a :: st), w) = zoi (zai w a 100 j) (fun x => zrun none (205, 38, ls, (.int x :: st), w)) := (zE_ (i := .iaload) (by decide +kernel) _ _ _).trans zq_iald
theorem e205_38 (v0 v1 v2 v3 : Value) (x : Int32) (st : List Value) (w : zH) (h : v2.category = 1) : zrun none (205, 38, [v0, v1, v2, v3], (.int x :: st), w) = zrun none (205, 39, [v0, v1, v2, .int x], st, w) := by
  refine (zE_ (i := .istore_n 3) (by decide +kernel) _ _ _).trans ?_
  have hz : zfree [v0, v1, v2, v3] 3 = true := by show decide (v2.category = 1) = true; exact decide_eq_true h
  show zres (zst zint 3 1 205 38 [v0, v1, v2, v3] (.int x :: st) w) = _
  unfold zst
  dsimp only
  rw [if_pos ⟨rfl, Nat.le_of_ble_eq_true rfl, hz⟩]
  rfl
theorem e205_39 (v1 v2 v3 : Value) (x : Nat) (st : List Value) (w : zH) : zrun none (205, 39, [.ref x, v1, v2, v3], st, w) = zrun none (205, 40, [.ref x, v1, v2, v3], (.ref x :: st), w) := (zE_ (i := .aload_n 0) (by decide +kernel) _ _ _).trans rfl
theorem e205_40 (ls : List Value) (a : Nat) (st : List Value) (w : zH) : zrun none (205, 40, ls, (.ref a :: st), w) = zo (zf w a 1248) (fun x => zrun none (205, 43, ls, (x :: st), w)) := (zE_ (i := .getfield 1248) (by decide +kernel) _ _ _).trans zq_getf
theorem e205_43 (v0 v2 v3 : Value) (x : Int32) (st : List Value) (w : zH) : zrun none (205, 43, [v0, .int x, v2, v3], st, w) = zrun none (205, 44, [v0, .int x, v2, v3], (.int x :: st), w) := (zE_ (i := .iload_n 1) (by decide +kernel) _ _ _).trans rfl
theorem e205_44 (v0 v1 v3 : Value) (x : Int32) (st : List Value) (w : zH) : zrun none (205, 44, [v0, v1, .int x, v3], st, w) = zrun none (205, 45, [v0, v1, .int x, v3], (.int x :: st), w) := (zE_ (i := .iload_n 2) (by decide +kernel) _ _ _).trans rfl
theorem e205_45 (ls : List Value) (x j : Int32) (a : Nat) (st : List Value) (w : zH) : zrun none (205, 45, ls, (.int x :: .int j :: .ref a :: st), w) = zgd (zin? w a 100 j) (zrun none (205, 46, ls, st, zas w a j (.int x))) := by
  refine (zE_ (i := .iastore) (by decide +kernel) _ _ _).trans ?_
  by_cases hg : zin? w a 100 j
  · rw [zgd_pos hg]
    exact zq_iast hg
  · rw [zgd_neg hg]
    exact zq_iast_no hg
theorem e205_46 (v0 v1 v2 : Value) (x : Int32) (st : List Value) (w : zH) : zrun none (205, 46, [v0, v1, v2, .int x], st, w) = zrun none (205, 47, [v0, v1, v2, .int x], (.int x :: st), w) := (zE_ (i := .iload_n 3) (by decide +kernel) _ _ _).trans rfl
theorem e205_47 (ls : List Value) (x : Int32) (w : zH) : zrun none (205, 47, ls, [.int x], w) = some (some (.int x), w) := by
  refine (zE_ (i := .ireturn) (by decide +kernel) _ _ _).trans ?_
  show zres (if narrow .int (.int x) = .int x then _ else none) = _
  rw [if_pos (show narrow .int (.int x) = .int x from rfl)]
  rfl
theorem e206_0 (ls st : List Value) (w : zH) : zrun none (206, 0, ls, st, w) = zrun none (206, 1, ls, (.int 0 :: st), w) := (zE_ (i := .iconst 0) (by decide +kernel) _ _ _).trans rfl
theorem e206_1 (v0 v1 v2 v3 v4 : Value) (x : Int32) (st : List Value) (w : zH) (h : v2.category = 1) : zrun none (206, 1, [v0, v1, v2, v3, v4], (.int x :: st), w) = zrun none (206, 2, [v0, v1, v2, .int x, v4], st, w) := by
  refine (zE_ (i := .istore_n 3) (by decide +kernel) _ _ _).trans ?_
  have hz : zfree [v0, v1, v2, v3, v4] 3 = true := by show decide (v2.category = 1) = true; exact decide_eq_true h
  show zres (zst zint 3 1 206 1 [v0, v1, v2, v3, v4] (.int x :: st) w) = _
  unfold zst
  dsimp only
  rw [if_pos ⟨rfl, Nat.le_of_ble_eq_true rfl, hz⟩]
  rfl
theorem e206_2 (ls st : List Value) (w : zH) : zrun none (206, 2, ls, st, w) = zrun none (206, 3, ls, (.int 0 :: st), w) := (zE_ (i := .iconst 0) (by decide +kernel) _ _ _).trans rfl
theorem e206_3 (v0 v1 v2 v3 v4 : Value) (x : Int32) (st : List Value) (w : zH) (h : v3.category = 1) : zrun none (206, 3, [v0, v1, v2, v3, v4], (.int x :: st), w) = zrun none (206, 5, [v0, v1, v2, v3, .int x], st, w) := by
  refine (zE_ (i := .istore 4) (by decide +kernel) _ _ _).trans ?_
  have hz : zfree [v0, v1, v2, v3, v4] 4 = true := by show decide (v3.category = 1) = true; exact decide_eq_true h
  show zres (zst zint 4 2 206 3 [v0, v1, v2, v3, v4] (.int x :: st) w) = _
  unfold zst
  dsimp only
  rw [if_pos ⟨rfl, Nat.le_of_ble_eq_true rfl, hz⟩]
  rfl
theorem e206_5 (v0 v1 v2 v3 : Value) (x : Int32) (st : List Value) (w : zH) : zrun none (206, 5, [v0, v1, v2, v3, .int x], st, w) = zrun none (206, 7, [v0, v1, v2, v3, .int x], (.int x :: st), w) := (zE_ (i := .iload 4) (by decide +kernel) _ _ _).trans rfl
theorem e206_7 (ls st : List Value) (w : zH) : zrun none (206, 7, ls, st, w) = zrun none (206, 9, ls, (.int 12 :: st), w) := (zE_ (i := .bipush 12) (by decide +kernel) _ _ _).trans rfl
theorem e206_9 (ls : List Value) (a b : Int32) (st : List Value) (w : zH) : zrun none (206, 9, ls, (.int b :: .int a :: st), w) = if b ≤ a then zrun none (206, 52, ls, st, w) else zrun none (206, 12, ls, st, w) := (zE_ (i := .if_icmp .ge 43) (by decide +kernel) _ _ _).trans (zq_ic_ge rfl rfl)
theorem e206_12 (v0 v1 v2 v4 : Value) (x : Int32) (st : List Value) (w : zH) : zrun none (206, 12, [v0, v1, v2, .int x, v4], st, w) = zrun none (206, 13, [v0, v1, v2, .int x, v4], (.int x :: st), w) := (zE_ (i := .iload_n 3) (by decide +kernel) _ _ _).trans rfl
theorem e206_13 (v1 v2 v3 v4 : Value) (x : Nat) (st : List Value) (w : zH) : zrun none (206, 13, [.ref x, v1, v2, v3, v4], st, w) = zrun none (206, 14, [.ref x, v1, v2, v3, v4], (.ref x :: st), w) := (zE_ (i := .aload_n 0) (by decide +kernel) _ _ _).trans rfl
theorem e206_14 (ls : List Value) (a : Nat) (st : List Value) (w : zH) : zrun none (206, 14, ls, (.ref a :: st), w) = zo (zf w a 1245) (fun x => zrun none (206, 17, ls, (x :: st), w)) := (zE_ (i := .getfield 1245) (by decide +kernel) _ _ _).trans zq_getf
theorem e206_17 (v0 v2 v3 v4 : Value) (x : Int32) (st : List Value) (w : zH) : zrun none (206, 17, [v0, .int x, v2, v3, v4], st, w) = zrun none (206, 18, [v0, .int x, v2, v3, v4], (.int x :: st), w) := (zE_ (i := .iload_n 1) (by decide +kernel) _ _ _).trans rfl
theorem e206_18 (ls : List Value) (j : Int32) (a : Nat) (st : List Value) (w : zH) : zrun none (206, 18, ls, (.int j :: .ref a :: st), w) = zoi (zai w a 100 j) (fun x => zrun none (206, 19, ls, (.int x :: st), w)) := (zE_ (i := .iaload) (by decide +kernel) _ _ _).trans zq_iald
theorem e206_19 (v0 v1 v2 v3 : Value) (x : Int32) (st : List Value) (w : zH) : zrun none (206, 19, [v0, v1, v2, v3, .int x], st, w) = zrun none (206, 21, [v0, v1, v2, v3, .int x], (.int x :: st), w) := (zE_ (i := .iload 4) (by decide +kernel) _ _ _).trans rfl
theorem e206_21 (ls : List Value) (a b : Int32) (st : List Value) (w : zH) : zrun none (206, 21, ls, (.int b :: .int a :: st), w) = zrun none (206, 22, ls, (.int (a >>> (b &&& 31)) :: st), w) := (zE_ (i := .ishr) (by decide +kernel) _ _ _).trans rfl
theorem e206_22 (ls st : List Value) (w : zH) : zrun none (206, 22, ls, st, w) = zrun none (206, 23, ls, (.int 1 :: st), w) := (zE_ (i := .iconst 1) (by decide +kernel) _ _ _).trans rfl
theorem e206_23 (ls : List Value) (a b : Int32) (st : List Value) (w : zH) : zrun none (206, 23, ls, (.int b :: .int a :: st), w) = zrun none (206, 24, ls, (.int (a &&& b) :: st), w) := (zE_ (i := .iand) (by decide +kernel) _ _ _).trans rfl
theorem e206_24 (v0 v1 v3 v4 : Value) (x : Int32) (st : List Value) (w : zH) : zrun none (206, 24, [v0, v1, .int x, v3, v4], st, w) = zrun none (206, 25, [v0, v1, .int x, v3, v4], (.int x :: st), w) := (zE_ (i := .iload_n 2) (by decide +kernel) _ _ _).trans rfl
theorem e206_25 (v0 v1 v2 v3 : Value) (x : Int32) (st : List Value) (w : zH) : zrun none (206, 25, [v0, v1, v2, v3, .int x], st, w) = zrun none (206, 27, [v0, v1, v2, v3, .int x], (.int x :: st), w) := (zE_ (i := .iload 4) (by decide +kernel) _ _ _).trans rfl
theorem e206_27 (ls : List Value) (a b : Int32) (st : List Value) (w : zH) : zrun none (206, 27, ls, (.int b :: .int a :: st), w) = zrun none (206, 28, ls, (.int (a >>> (b &&& 31)) :: st), w) := (zE_ (i := .ishr) (by decide +kernel) _ _ _).trans rfl
theorem e206_28 (ls st : List Value) (w : zH) : zrun none (206, 28, ls, st, w) = zrun none (206, 29, ls, (.int 1 :: st), w) := (zE_ (i := .iconst 1) (by decide +kernel) _ _ _).trans rfl
theorem e206_29 (ls : List Value) (a b : Int32) (st : List Value) (w : zH) : zrun none (206, 29, ls, (.int b :: .int a :: st), w) = zrun none (206, 30, ls, (.int (a &&& b) :: st), w) := (zE_ (i := .iand) (by decide +kernel) _ _ _).trans rfl
theorem e206_30 (ls : List Value) (a b : Int32) (st : List Value) (w : zH) : zrun none (206, 30, ls, (.int b :: .int a :: st), w) = if a = b then zrun none (206, 43, ls, st, w) else zrun none (206, 33, ls, st, w) := (zE_ (i := .if_icmp .eq 13) (by decide +kernel) _ _ _).trans (zq_ic_eq rfl rfl)
theorem e206_33 (v1 v2 v3 v4 : Value) (x : Nat) (st : List Value) (w : zH) : zrun none (206, 33, [.ref x, v1, v2, v3, v4], st, w) = zrun none (206, 34, [.ref x, v1, v2, v3, v4], (.ref x :: st), w) := (zE_ (i := .aload_n 0) (by decide +kernel) _ _ _).trans rfl
theorem e206_34 (ls : List Value) (a : Nat) (st : List Value) (w : zH) : zrun none (206, 34, ls, (.ref a :: st), w) = zo (zf w a 1248) (fun x => zrun none (206, 37, ls, (x :: st), w)) := (zE_ (i := .getfield 1248) (by decide +kernel) _ _ _).trans zq_getf
theorem e206_37 (v0 v1 v2 v3 : Value) (x : Int32) (st : List Value) (w : zH) : zrun none (206, 37, [v0, v1, v2, v3, .int x], st, w) = zrun none (206, 39, [v0, v1, v2, v3, .int x], (.int x :: st), w) := (zE_ (i := .iload 4) (by decide +kernel) _ _ _).trans rfl
theorem e206_39 (ls : List Value) (j : Int32) (a : Nat) (st : List Value) (w : zH) : zrun none (206, 39, ls, (.int j :: .ref a :: st), w) = zoi (zai w a 100 j) (fun x => zrun none (206, 40, ls, (.int x :: st), w)) := (zE_ (i := .iaload) (by decide +kernel) _ _ _).trans zq_iald
theorem e206_40 (ls st : List Value) (w : zH) : zrun none (206, 40, ls, st, w) = zrun none (206, 44, ls, st, w) := (zE_ (i := .goto 4) (by decide +kernel) _ _ _).trans rfl
theorem e206_43 (ls st : List Value) (w : zH) : zrun none (206, 43, ls, st, w) = zrun none (206, 44, ls, (.int 0 :: st), w) := (zE_ (i := .iconst 0) (by decide +kernel) _ _ _).trans rfl
theorem e206_44 (ls : List Value) (a b : Int32) (st : List Value) (w : zH) : zrun none (206, 44, ls, (.int b :: .int a :: st), w) = zrun none (206, 45, ls, (.int (a + b) :: st), w) := (zE_ (i := .iadd) (by decide +kernel) _ _ _).trans rfl
theorem e206_45 (v0 v1 v2 v3 v4 : Value) (x : Int32) (st : List Value) (w : zH) (h : v2.category = 1) : zrun none (206, 45, [v0, v1, v2, v3, v4], (.int x :: st), w) = zrun none (206, 46, [v0, v1, v2, .int x, v4], st, w) := by
  refine (zE_ (i := .istore_n 3) (by decide +kernel) _ _ _).trans ?_
  have hz : zfree [v0, v1, v2, v3, v4] 3 = true := by show decide (v2.category = 1) = true; exact decide_eq_true h
  show zres (zst zint 3 1 206 45 [v0, v1, v2, v3, v4] (.int x :: st) w) = _
  unfold zst
  dsimp only
  rw [if_pos ⟨rfl, Nat.le_of_ble_eq_true rfl, hz⟩]
  rfl
theorem e206_46 (v0 v1 v2 v3 : Value) (x : Int32) (st : List Value) (w : zH) : zrun none (206, 46, [v0, v1, v2, v3, .int x], st, w) = zrun none (206, 49, [v0, v1, v2, v3, .int (x + 1)], st, w) := (zE_ (i := .iinc 4 1) (by decide +kernel) _ _ _).trans rfl
theorem e206_49 (ls st : List Value) (w : zH) : zrun none (206, 49, ls, st, w) = zrun none (206, 5, ls, st, w) := (zE_ (i := .goto (-44)) (by decide +kernel) _ _ _).trans rfl
theorem e206_52 (v0 v1 v2 v4 : Value) (x : Int32) (st : List Value) (w : zH) : zrun none (206, 52, [v0, v1, v2, .int x, v4], st, w) = zrun none (206, 53, [v0, v1, v2, .int x, v4], (.int x :: st), w) := (zE_ (i := .iload_n 3) (by decide +kernel) _ _ _).trans rfl
theorem e206_53 (ls : List Value) (x : Int32) (w : zH) : zrun none (206, 53, ls, [.int x], w) = some (some (.int x), w) := by
  refine (zE_ (i := .ireturn) (by decide +kernel) _ _ _).trans ?_
  show zres (if narrow .int (.int x) = .int x then _ else none) = _
  rw [if_pos (show narrow .int (.int x) = .int x from rfl)]
  rfl
theorem e207_0 (v1 v2 v3 v4 : Value) (x : Nat) (st : List Value) (w : zH) : zrun none (207, 0, [.ref x, v1, v2, v3, v4], st, w) = zrun none (207, 1, [.ref x, v1, v2, v3, v4], (.ref x :: st), w) := (zE_ (i := .aload_n 0) (by decide +kernel) _ _ _).trans rfl
theorem e207_1 (v0 v2 v3 v4 : Value) (x : Int32) (st : List Value) (w : zH) : zrun none (207, 1, [v0, .int x, v2, v3, v4], st, w) = zrun none (207, 2, [v0, .int x, v2, v3, v4], (.int x :: st), w) := (zE_ (i := .iload_n 1) (by decide +kernel) _ _ _).trans rfl
theorem e207_2 (v0 v1 v2 v4 : Value) (x : Int32) (st : List Value) (w : zH) : zrun none (207, 2, [v0, v1, v2, .int x, v4], st, w) = zrun none (207, 3, [v0, v1, v2, .int x, v4], (.int x :: st), w) := (zE_ (i := .iload_n 3) (by decide +kernel) _ _ _).trans rfl
theorem e207_3 (ls : List Value) (a : Nat) (x0 : Int32) (x1 : Int32) (st : List Value) (w : zH) (hr : zcat st ≤ 8) : zrun none (207, 3, ls, (.int x1 :: .int x0 :: .ref a :: st), w) = zgd (zis w a 12) (zcl (zrun none (206, 0, [.ref a, .int x0, .int x1, zJ, zJ], [], w)) (fun r => zrun none (207, 6, ls, r.1.toList ++ st, r.2))) := by
  refine (zE_ (i := .invokevirtual 206) (by decide +kernel) _ _ _).trans ?_
  show zres (zinv none 206 207 3 ls (.int x1 :: .int x0 :: .ref a :: st) w) = _
  unfold zinv
  show zres (if zrc none 206 w (.ref a) = true then zcall 206 [.ref a, .int x0, .int x1] st 207 3 ls w else none) = _
  by_cases hc : zis w a 12
  · rw [if_pos (zrc_is hc (by decide +kernel)), zgd_pos hc]
    exact zq_call hr (Nat.le_of_ble_eq_true rfl) rfl rfl
  · rw [zgd_neg hc, if_neg (fun q => hc (zrc_of q (by decide +kernel)))]
    rfl
theorem e207_6 (v1 v2 v3 v4 : Value) (x : Nat) (st : List Value) (w : zH) : zrun none (207, 6, [.ref x, v1, v2, v3, v4], st, w) = zrun none (207, 7, [.ref x, v1, v2, v3, v4], (.ref x :: st), w) := (zE_ (i := .aload_n 0) (by decide +kernel) _ _ _).trans rfl
theorem e207_7 (v0 v1 v3 v4 : Value) (x : Int32) (st : List Value) (w : zH) : zrun none (207, 7, [v0, v1, .int x, v3, v4], st, w) = zrun none (207, 8, [v0, v1, .int x, v3, v4], (.int x :: st), w) := (zE_ (i := .iload_n 2) (by decide +kernel) _ _ _).trans rfl
theorem e207_8 (v0 v1 v2 v4 : Value) (x : Int32) (st : List Value) (w : zH) : zrun none (207, 8, [v0, v1, v2, .int x, v4], st, w) = zrun none (207, 9, [v0, v1, v2, .int x, v4], (.int x :: st), w) := (zE_ (i := .iload_n 3) (by decide +kernel) _ _ _).trans rfl
theorem e207_9 (ls : List Value) (a : Nat) (x0 : Int32) (x1 : Int32) (st : List Value) (w : zH) (hr : zcat st ≤ 8) : zrun none (207, 9, ls, (.int x1 :: .int x0 :: .ref a :: st), w) = zgd (zis w a 12) (zcl (zrun none (206, 0, [.ref a, .int x0, .int x1, zJ, zJ], [], w)) (fun r => zrun none (207, 12, ls, r.1.toList ++ st, r.2))) := by
  refine (zE_ (i := .invokevirtual 206) (by decide +kernel) _ _ _).trans ?_
  show zres (zinv none 206 207 9 ls (.int x1 :: .int x0 :: .ref a :: st) w) = _
  unfold zinv
  show zres (if zrc none 206 w (.ref a) = true then zcall 206 [.ref a, .int x0, .int x1] st 207 9 ls w else none) = _
  by_cases hc : zis w a 12
  · rw [if_pos (zrc_is hc (by decide +kernel)), zgd_pos hc]
    exact zq_call hr (Nat.le_of_ble_eq_true rfl) rfl rfl
  · rw [zgd_neg hc, if_neg (fun q => hc (zrc_of q (by decide +kernel)))]
    rfl
theorem e207_12 (ls : List Value) (a b : Int32) (st : List Value) (w : zH) : zrun none (207, 12, ls, (.int b :: .int a :: st), w) = zrun none (207, 13, ls, (.int (a - b) :: st), w) := (zE_ (i := .isub) (by decide +kernel) _ _ _).trans rfl
theorem e207_13 (v0 v1 v2 v3 v4 : Value) (x : Int32) (st : List Value) (w : zH) (h : v3.category = 1) : zrun none (207, 13, [v0, v1, v2, v3, v4], (.int x :: st), w) = zrun none (207, 15, [v0, v1, v2, v3, .int x], st, w) := by
  refine (zE_ (i := .istore 4) (by decide +kernel) _ _ _).trans ?_
  have hz : zfree [v0, v1, v2, v3, v4] 4 = true := by show decide (v3.category = 1) = true; exact decide_eq_true h
  show zres (zst zint 4 2 207 13 [v0, v1, v2, v3, v4] (.int x :: st) w) = _
  unfold zst
  dsimp only
  rw [if_pos ⟨rfl, Nat.le_of_ble_eq_true rfl, hz⟩]
  rfl
theorem e207_15 (v0 v1 v2 v3 : Value) (x : Int32) (st : List Value) (w : zH) : zrun none (207, 15, [v0, v1, v2, v3, .int x], st, w) = zrun none (207, 17, [v0, v1, v2, v3, .int x], (.int x :: st), w) := (zE_ (i := .iload 4) (by decide +kernel) _ _ _).trans rfl
theorem e207_17 (ls : List Value) (a : Int32) (st : List Value) (w : zH) : zrun none (207, 17, ls, (.int a :: st), w) = if a < 0 then zrun none (207, 60, ls, st, w) else zrun none (207, 20, ls, st, w) := (zE_ (i := .ifCond .lt 43) (by decide +kernel) _ _ _).trans (zq_if_lt rfl rfl)
theorem e207_20 (v0 v1 v2 v3 : Value) (x : Int32) (st : List Value) (w : zH) : zrun none (207, 20, [v0, v1, v2, v3, .int x], st, w) = zrun none (207, 22, [v0, v1, v2, v3, .int x], (.int x :: st), w) := (zE_ (i := .iload 4) (by decide +kernel) _ _ _).trans rfl
theorem e207_22 (ls : List Value) (a : Int32) (st : List Value) (w : zH) : zrun none (207, 22, ls, (.int a :: st), w) = if a = 0 then zrun none (207, 25, ls, st, w) else zrun none (207, 64, ls, st, w) := (zE_ (i := .ifCond .ne 42) (by decide +kernel) _ _ _).trans (zq_if_ne rfl rfl)
theorem e207_25 (v1 v2 v3 v4 : Value) (x : Nat) (st : List Value) (w : zH) : zrun none (207, 25, [.ref x, v1, v2, v3, v4], st, w) = zrun none (207, 26, [.ref x, v1, v2, v3, v4], (.ref x :: st), w) := (zE_ (i := .aload_n 0) (by decide +kernel) _ _ _).trans rfl
theorem e207_26 (ls : List Value) (a : Nat) (st : List Value) (w : zH) : zrun none (207, 26, ls, (.ref a :: st), w) = zo (zf w a 1247) (fun x => zrun none (207, 29, ls, (x :: st), w)) := (zE_ (i := .getfield 1247) (by decide +kernel) _ _ _).trans zq_getf
theorem e207_29 (v0 v2 v3 v4 : Value) (x : Int32) (st : List Value) (w : zH) : zrun none (207, 29, [v0, .int x, v2, v3, v4], st, w) = zrun none (207, 30, [v0, .int x, v2, v3, v4], (.int x :: st), w) := (zE_ (i := .iload_n 1) (by decide +kernel) _ _ _).trans rfl
theorem e207_30 (ls : List Value) (j : Int32) (a : Nat) (st : List Value) (w : zH) : zrun none (207, 30, ls, (.int j :: .ref a :: st), w) = zoi (zai w a 100 j) (fun x => zrun none (207, 31, ls, (.int x :: st), w)) := (zE_ (i := .iaload) (by decide +kernel) _ _ _).trans zq_iald
theorem e207_31 (v1 v2 v3 v4 : Value) (x : Nat) (st : List Value) (w : zH) : zrun none (207, 31, [.ref x, v1, v2, v3, v4], st, w) = zrun none (207, 32, [.ref x, v1, v2, v3, v4], (.ref x :: st), w) := (zE_ (i := .aload_n 0) (by decide +kernel) _ _ _).trans rfl
theorem e207_32 (ls : List Value) (a : Nat) (st : List Value) (w : zH) : zrun none (207, 32, ls, (.ref a :: st), w) = zo (zf w a 1247) (fun x => zrun none (207, 35, ls, (x :: st), w)) := (zE_ (i := .getfield 1247) (by decide +kernel) _ _ _).trans zq_getf
theorem e207_35 (v0 v1 v3 v4 : Value) (x : Int32) (st : List Value) (w : zH) : zrun none (207, 35, [v0, v1, .int x, v3, v4], st, w) = zrun none (207, 36, [v0, v1, .int x, v3, v4], (.int x :: st), w) := (zE_ (i := .iload_n 2) (by decide +kernel) _ _ _).trans rfl
theorem e207_36 (ls : List Value) (j : Int32) (a : Nat) (st : List Value) (w : zH) : zrun none (207, 36, ls, (.int j :: .ref a :: st), w) = zoi (zai w a 100 j) (fun x => zrun none (207, 37, ls, (.int x :: st), w)) := (zE_ (i := .iaload) (by decide +kernel) _ _ _).trans zq_iald
theorem e207_37 (ls : List Value) (a b : Int32) (st : List Value) (w : zH) : zrun none (207, 37, ls, (.int b :: .int a :: st), w) = if b < a then zrun none (207, 60, ls, st, w) else zrun none (207, 40, ls, st, w) := (zE_ (i := .if_icmp .gt 23) (by decide +kernel) _ _ _).trans (zq_ic_gt rfl rfl)
theorem e207_40 (v1 v2 v3 v4 : Value) (x : Nat) (st : List Value) (w : zH) : zrun none (207, 40, [.ref x, v1, v2, v3, v4], st, w) = zrun none (207, 41, [.ref x, v1, v2, v3, v4], (.ref x :: st), w) := (zE_ (i := .aload_n 0) (by decide +kernel) _ _ _).trans rfl
theorem e207_41 (ls : List Value) (a : Nat) (st : List Value) (w : zH) : zrun none (207, 41, ls, (.ref a :: st), w) = zo (zf w a 1247) (fun x => zrun none (207, 44, ls, (x :: st), w)) := (zE_ (i := .getfield 1247) (by decide +kernel) _ _ _).trans zq_getf
theorem e207_44 (v0 v2 v3 v4 : Value) (x : Int32) (st : List Value) (w : zH) : zrun none (207, 44, [v0, .int x, v2, v3, v4], st, w) = zrun none (207, 45, [v0, .int x, v2, v3, v4], (.int x :: st), w) := (zE_ (i := .iload_n 1) (by decide +kernel) _ _ _).trans rfl
theorem e207_45 (ls : List Value) (j : Int32) (a : Nat) (st : List Value) (w : zH) : zrun none (207, 45, ls, (.int j :: .ref a :: st), w) = zoi (zai w a 100 j) (fun x => zrun none (207, 46, ls, (.int x :: st), w)) := (zE_ (i := .iaload) (by decide +kernel) _ _ _).trans zq_iald
theorem e207_46 (v1 v2 v3 v4 : Value) (x : Nat) (st : List Value) (w : zH) : zrun none (207, 46, [.ref x, v1, v2, v3, v4], st, w) = zrun none (207, 47, [.ref x, v1, v2, v3, v4], (.ref x :: st), w) := (zE_ (i := .aload_n 0) (by decide +kernel) _ _ _).trans rfl
theorem e207_47 (ls : List Value) (a : Nat) (st : List Value) (w : zH) : zrun none (207, 47, ls, (.ref a :: st), w) = zo (zf w a 1247) (fun x => zrun none (207, 50, ls, (x :: st), w)) := (zE_ (i := .getfield 1247) (by decide +kernel) _ _ _).trans zq_getf
theorem e207_50 (v0 v1 v3 v4 : Value) (x : Int32) (st : List Value) (w : zH) : zrun none (207, 50, [v0, v1, .int x, v3, v4], st, w) = zrun none (207, 51, [v0, v1, .int x, v3, v4], (.int x :: st), w) := (zE_ (i := .iload_n 2) (by decide +kernel) _ _ _).trans rfl
theorem e207_51 (ls : List Value) (j : Int32) (a : Nat) (st : List Value) (w : zH) : zrun none (207, 51, ls, (.int j :: .ref a :: st), w) = zoi (zai w a 100 j) (fun x => zrun none (207, 52, ls, (.int x :: st), w)) := (zE_ (i := .iaload) (by decide +kernel) _ _ _).trans zq_iald
theorem e207_52 (ls : List Value) (a b : Int32) (st : List Value) (w : zH) : zrun none (207, 52, ls, (.int b :: .int a :: st), w) = if a = b then zrun none (207, 55, ls, st, w) else zrun none (207, 64, ls, st, w) := (zE_ (i := .if_icmp .ne 12) (by decide +kernel) _ _ _).trans (zq_ic_ne rfl rfl)
theorem e207_55 (v0 v2 v3 v4 : Value) (x : Int32) (st : List Value) (w : zH) : zrun none (207, 55, [v0, .int x, v2, v3, v4], st, w) = zrun none (207, 56, [v0, .int x, v2, v3, v4], (.int x :: st), w) := (zE_ (i := .iload_n 1) (by decide +kernel) _ _ _).trans rfl
theorem e207_56 (v0 v1 v3 v4 : Value) (x : Int32) (st : List Value) (w : zH) : zrun none (207, 56, [v0, v1, .int x, v3, v4], st, w) = zrun none (207, 57, [v0, v1, .int x, v3, v4], (.int x :: st), w) := (zE_ (i := .iload_n 2) (by decide +kernel) _ _ _).trans rfl
theorem e207_57 (ls : List Value) (a b : Int32) (st : List Value) (w : zH) : zrun none (207, 57, ls, (.int b :: .int a :: st), w) = if a ≤ b then zrun none (207, 64, ls, st, w) else zrun none (207, 60, ls, st, w) := (zE_ (i := .if_icmp .le 7) (by decide +kernel) _ _ _).trans (zq_ic_le rfl rfl)
theorem e207_60 (ls st : List Value) (w : zH) : zrun none (207, 60, ls, st, w) = zrun none (207, 61, ls, (.int 1 :: st), w) := (zE_ (i := .iconst 1) (by decide +kernel) _ _ _).trans rfl
theorem e207_61 (ls st : List Value) (w : zH) : zrun none (207, 61, ls, st, w) = zrun none (207, 65, ls, st, w) := (zE_ (i := .goto 4) (by decide +kernel) _ _ _).trans rfl
theorem e207_64 (ls st : List Value) (w : zH) : zrun none (207, 64, ls, st, w) = zrun none (207, 65, ls, (.int 0 :: st), w) := (zE_ (i := .iconst 0) (by decide +kernel) _ _ _).trans rfl
theorem e207_65 (ls : List Value) (x : Int32) (w : zH) (h : narrow .boolean (.int x) = .int x) : zrun none (207, 65, ls, [.int x], w) = some (some (.int x), w) := by
  refine (zE_ (i := .ireturn) (by decide +kernel) _ _ _).trans ?_
  show zres (if narrow .boolean (.int x) = .int x then _ else none) = _
  rw [if_pos h]
  rfl
theorem e208_0 (ls st : List Value) (w : zH) : zrun none (208, 0, ls, st, w) = zrun none (208, 1, ls, (.int 0 :: st), w) := (zE_ (i := .iconst 0) (by decide +kernel) _ _ _).trans rfl
theorem e208_1 (v0 v1 v2 v3 v4 v5 v6 v7 v8 : Value) (x : Int32) (st : List Value) (w : zH) (h : v3.category = 1) : zrun none (208, 1, [v0, v1, v2, v3, v4, v5, v6, v7, v8], (.int x :: st), w) = zrun none (208, 3, [v0, v1, v2, v3, .int x, v5, v6, v7, v8], st, w) := by
  refine (zE_ (i := .istore 4) (by decide +kernel) _ _ _).trans ?_
  have hz : zfree [v0, v1, v2, v3, v4, v5, v6, v7, v8] 4 = true := by show decide (v3.category = 1) = true; exact decide_eq_true h
  show zres (zst zint 4 2 208 1 [v0, v1, v2, v3, v4, v5, v6, v7, v8] (.int x :: st) w) = _
  unfold zst
  dsimp only
  rw [if_pos ⟨rfl, Nat.le_of_ble_eq_true rfl, hz⟩]
  rfl
theorem e208_3 (ls st : List Value) (w : zH) : zrun none (208, 3, ls, st, w) = zrun none (208, 5, ls, (.int (-1000000) :: st), w) := (zE_ (i := .bipush (-1000000)) (by decide +kernel) _ _ _).trans rfl
theorem e208_5 (v0 v1 v2 v3 v4 v5 v6 v7 v8 : Value) (x : Int32) (st : List Value) (w : zH) (h : v4.category = 1) : zrun none (208, 5, [v0, v1, v2, v3, v4, v5, v6, v7, v8], (.int x :: st), w) = zrun none (208, 7, [v0, v1, v2, v3, v4, .int x, v6, v7, v8], st, w) := by
  refine (zE_ (i := .istore 5) (by decide +kernel) _ _ _).trans ?_
  have hz : zfree [v0, v1, v2, v3, v4, v5, v6, v7, v8] 5 = true := by show decide (v4.category = 1) = true; exact decide_eq_true h
  show zres (zst zint 5 2 208 5 [v0, v1, v2, v3, v4, v5, v6, v7, v8] (.int x :: st) w) = _
  unfold zst
  dsimp only
  rw [if_pos ⟨rfl, Nat.le_of_ble_eq_true rfl, hz⟩]
  rfl
theorem e208_7 (ls st : List Value) (w : zH) : zrun none (208, 7, ls, st, w) = zrun none (208, 8, ls, (.int 0 :: st), w) := (zE_ (i := .iconst 0) (by decide +kernel) _ _ _).trans rfl
theorem e208_8 (v0 v1 v2 v3 v4 v5 v6 v7 v8 : Value) (x : Int32) (st : List Value) (w : zH) (h : v5.category = 1) : zrun none (208, 8, [v0, v1, v2, v3, v4, v5, v6, v7, v8], (.int x :: st), w) = zrun none (208, 10, [v0, v1, v2, v3, v4, v5, .int x, v7, v8], st, w) := by
  refine (zE_ (i := .istore 6) (by decide +kernel) _ _ _).trans ?_
  have hz : zfree [v0, v1, v2, v3, v4, v5, v6, v7, v8] 6 = true := by show decide (v5.category = 1) = true; exact decide_eq_true h
  show zres (zst zint 6 2 208 8 [v0, v1, v2, v3, v4, v5, v6, v7, v8] (.int x :: st) w) = _
  unfold zst
  dsimp only
  rw [if_pos ⟨rfl, Nat.le_of_ble_eq_true rfl, hz⟩]
  rfl
theorem e208_10 (v0 v1 v2 v3 v4 v5 v7 v8 : Value) (x : Int32) (st : List Value) (w : zH) : zrun none (208, 10, [v0, v1, v2, v3, v4, v5, .int x, v7, v8], st, w) = zrun none (208, 12, [v0, v1, v2, v3, v4, v5, .int x, v7, v8], (.int x :: st), w) := (zE_ (i := .iload 6) (by decide +kernel) _ _ _).trans rfl
theorem e208_12 (v0 v1 v2 v4 v5 v6 v7 v8 : Value) (x : Int32) (st : List Value) (w : zH) : zrun none (208, 12, [v0, v1, v2, .int x, v4, v5, v6, v7, v8], st, w) = zrun none (208, 13, [v0, v1, v2, .int x, v4, v5, v6, v7, v8], (.int x :: st), w) := (zE_ (i := .iload_n 3) (by decide +kernel) _ _ _).trans rfl
theorem e208_13 (ls : List Value) (a b : Int32) (st : List Value) (w : zH) : zrun none (208, 13, ls, (.int b :: .int a :: st), w) = if b < a then zrun none (208, 124, ls, st, w) else zrun none (208, 16, ls, st, w) := (zE_ (i := .if_icmp .gt 111) (by decide +kernel) _ _ _).trans (zq_ic_gt rfl rfl)
theorem e208_16 (ls st : List Value) (w : zH) : zrun none (208, 16, ls, st, w) = zrun none (208, 18, ls, (.int (-1000000) :: st), w) := (zE_ (i := .bipush (-1000000)) (by decide +kernel) _ _ _).trans rfl
theorem e208_18 (v0 v1 v2 v3 v4 v5 v6 v7 v8 : Value) (x : Int32) (st : List Value) (w : zH) (h : v4.category = 1) : zrun none (208, 18, [v0, v1, v2, v3, v4, v5, v6, v7, v8], (.int x :: st), w) = zrun none (208, 20, [v0, v1, v2, v3, v4, .int x, v6, v7, v8], st, w) := by
  refine (zE_ (i := .istore 5) (by decide +kernel) _ _ _).trans ?_
  have hz : zfree [v0, v1, v2, v3, v4, v5, v6, v7, v8] 5 = true := by show decide (v4.category = 1) = true; exact decide_eq_true h
  show zres (zst zint 5 2 208 18 [v0, v1, v2, v3, v4, v5, v6, v7, v8] (.int x :: st) w) = _
  unfold zst
  dsimp only
  rw [if_pos ⟨rfl, Nat.le_of_ble_eq_true rfl, hz⟩]
  rfl
theorem e208_20 (ls st : List Value) (w : zH) : zrun none (208, 20, ls, st, w) = zrun none (208, 21, ls, (.int 0 :: st), w) := (zE_ (i := .iconst 0) (by decide +kernel) _ _ _).trans rfl
theorem e208_21 (v0 v1 v2 v3 v4 v5 v6 v7 v8 : Value) (x : Int32) (st : List Value) (w : zH) (h : v6.category = 1) : zrun none (208, 21, [v0, v1, v2, v3, v4, v5, v6, v7, v8], (.int x :: st), w) = zrun none (208, 23, [v0, v1, v2, v3, v4, v5, v6, .int x, v8], st, w) := by
  refine (zE_ (i := .istore 7) (by decide +kernel) _ _ _).trans ?_
  have hz : zfree [v0, v1, v2, v3, v4, v5, v6, v7, v8] 7 = true := by show decide (v6.category = 1) = true; exact decide_eq_true h
  show zres (zst zint 7 2 208 21 [v0, v1, v2, v3, v4, v5, v6, v7, v8] (.int x :: st) w) = _
  unfold zst
  dsimp only
  rw [if_pos ⟨rfl, Nat.le_of_ble_eq_true rfl, hz⟩]
  rfl
theorem e208_23 (v0 v1 v2 v3 v4 v5 v6 v8 : Value) (x : Int32) (st : List Value) (w : zH) : zrun none (208, 23, [v0, v1, v2, v3, v4, v5, v6, .int x, v8], st, w) = zrun none (208, 25, [v0, v1, v2, v3, v4, v5, v6, .int x, v8], (.int x :: st), w) := (zE_ (i := .iload 7) (by decide +kernel) _ _ _).trans rfl
theorem e208_25 (v1 v2 v3 v4 v5 v6 v7 v8 : Value) (x : Nat) (st : List Value) (w : zH) : zrun none (208, 25, [.ref x, v1, v2, v3, v4, v5, v6, v7, v8], st, w) = zrun none (208, 26, [.ref x, v1, v2, v3, v4, v5, v6, v7, v8], (.ref x :: st), w) := (zE_ (i := .aload_n 0) (by decide +kernel) _ _ _).trans rfl
theorem e208_26 (ls : List Value) (a : Nat) (st : List Value) (w : zH) : zrun none (208, 26, ls, (.ref a :: st), w) = zo (zf w a 1244) (fun x => zrun none (208, 29, ls, (x :: st), w)) := (zE_ (i := .getfield 1244) (by decide +kernel) _ _ _).trans zq_getf
theorem e208_29 (ls : List Value) (a b : Int32) (st : List Value) (w : zH) : zrun none (208, 29, ls, (.int b :: .int a :: st), w) = if b ≤ a then zrun none (208, 99, ls, st, w) else zrun none (208, 32, ls, st, w) := (zE_ (i := .if_icmp .ge 70) (by decide +kernel) _ _ _).trans (zq_ic_ge rfl rfl)
theorem e208_32 (v1 v2 v3 v4 v5 v6 v7 v8 : Value) (x : Nat) (st : List Value) (w : zH) : zrun none (208, 32, [.ref x, v1, v2, v3, v4, v5, v6, v7, v8], st, w) = zrun none (208, 33, [.ref x, v1, v2, v3, v4, v5, v6, v7, v8], (.ref x :: st), w) := (zE_ (i := .aload_n 0) (by decide +kernel) _ _ _).trans rfl
theorem e208_33 (ls : List Value) (a : Nat) (st : List Value) (w : zH) : zrun none (208, 33, ls, (.ref a :: st), w) = zo (zf w a 1247) (fun x => zrun none (208, 36, ls, (x :: st), w)) := (zE_ (i := .getfield 1247) (by decide +kernel) _ _ _).trans zq_getf
theorem e208_36 (v0 v1 v2 v3 v4 v5 v6 v8 : Value) (x : Int32) (st : List Value) (w : zH) : zrun none (208, 36, [v0, v1, v2, v3, v4, v5, v6, .int x, v8], st, w) = zrun none (208, 38, [v0, v1, v2, v3, v4, v5, v6, .int x, v8], (.int x :: st), w) := (zE_ (i := .iload 7) (by decide +kernel) _ _ _).trans rfl
theorem e208_38 (ls : List Value) (j : Int32) (a : Nat) (st : List Value) (w : zH) : zrun none (208, 38, ls, (.int j :: .ref a :: st), w) = zoi (zai w a 100 j) (fun x => zrun none (208, 39, ls, (.int x :: st), w)) := (zE_ (i := .iaload) (by decide +kernel) _ _ _).trans zq_iald
theorem e208_39 (v0 v1 v3 v4 v5 v6 v7 v8 : Value) (x : Int32) (st : List Value) (w : zH) : zrun none (208, 39, [v0, v1, .int x, v3, v4, v5, v6, v7, v8], st, w) = zrun none (208, 40, [v0, v1, .int x, v3, v4, v5, v6, v7, v8], (.int x :: st), w) := (zE_ (i := .iload_n 2) (by decide +kernel) _ _ _).trans rfl
theorem e208_40 (ls : List Value) (a b : Int32) (st : List Value) (w : zH) : zrun none (208, 40, ls, (.int b :: .int a :: st), w) = if b < a then zrun none (208, 57, ls, st, w) else zrun none (208, 43, ls, st, w) := (zE_ (i := .if_icmp .gt 17) (by decide +kernel) _ _ _).trans (zq_ic_gt rfl rfl)
theorem e208_43 (v0 v1 v2 v3 v5 v6 v7 v8 : Value) (x : Int32) (st : List Value) (w : zH) : zrun none (208, 43, [v0, v1, v2, v3, .int x, v5, v6, v7, v8], st, w) = zrun none (208, 45, [v0, v1, v2, v3, .int x, v5, v6, v7, v8], (.int x :: st), w) := (zE_ (i := .iload 4) (by decide +kernel) _ _ _).trans rfl
theorem e208_45 (v0 v1 v2 v3 v4 v5 v6 v8 : Value) (x : Int32) (st : List Value) (w : zH) : zrun none (208, 45, [v0, v1, v2, v3, v4, v5, v6, .int x, v8], st, w) = zrun none (208, 47, [v0, v1, v2, v3, v4, v5, v6, .int x, v8], (.int x :: st), w) := (zE_ (i := .iload 7) (by decide +kernel) _ _ _).trans rfl
theorem e208_47 (ls : List Value) (a b : Int32) (st : List Value) (w : zH) : zrun none (208, 47, ls, (.int b :: .int a :: st), w) = zrun none (208, 48, ls, (.int (a >>> (b &&& 31)) :: st), w) := (zE_ (i := .ishr) (by decide +kernel) _ _ _).trans rfl
theorem e208_48 (ls st : List Value) (w : zH) : zrun none (208, 48, ls, st, w) = zrun none (208, 49, ls, (.int 1 :: st), w) := (zE_ (i := .iconst 1) (by decide +kernel) _ _ _).trans rfl
theorem e208_49 (ls : List Value) (a b : Int32) (st : List Value) (w : zH) : zrun none (208, 49, ls, (.int b :: .int a :: st), w) = zrun none (208, 50, ls, (.int (a &&& b) :: st), w) := (zE_ (i := .iand) (by decide +kernel) _ _ _).trans rfl
theorem e208_50 (ls : List Value) (a : Int32) (st : List Value) (w : zH) : zrun none (208, 50, ls, (.int a :: st), w) = if a = 0 then zrun none (208, 53, ls, st, w) else zrun none (208, 57, ls, st, w) := (zE_ (i := .ifCond .ne 7) (by decide +kernel) _ _ _).trans (zq_if_ne rfl rfl)
theorem e208_53 (ls st : List Value) (w : zH) : zrun none (208, 53, ls, st, w) = zrun none (208, 54, ls, (.int 1 :: st), w) := (zE_ (i := .iconst 1) (by decide +kernel) _ _ _).trans rfl
theorem e208_54 (ls st : List Value) (w : zH) : zrun none (208, 54, ls, st, w) = zrun none (208, 58, ls, st, w) := (zE_ (i := .goto 4) (by decide +kernel) _ _ _).trans rfl
theorem e208_57 (ls st : List Value) (w : zH) : zrun none (208, 57, ls, st, w) = zrun none (208, 58, ls, (.int 0 :: st), w) := (zE_ (i := .iconst 0) (by decide +kernel) _ _ _).trans rfl
theorem e208_58 (v0 v1 v2 v3 v4 v5 v6 v7 v8 : Value) (x : Int32) (st : List Value) (w : zH) (h : v7.category = 1) : zrun none (208, 58, [v0, v1, v2, v3, v4, v5, v6, v7, v8], (.int x :: st), w) = zrun none (208, 60, [v0, v1, v2, v3, v4, v5, v6, v7, .int x], st, w) := by
  refine (zE_ (i := .istore 8) (by decide +kernel) _ _ _).trans ?_
  have hz : zfree [v0, v1, v2, v3, v4, v5, v6, v7, v8] 8 = true := by show decide (v7.category = 1) = true; exact decide_eq_true h
  show zres (zst zint 8 2 208 58 [v0, v1, v2, v3, v4, v5, v6, v7, v8] (.int x :: st) w) = _
  unfold zst
  dsimp only
  rw [if_pos ⟨rfl, Nat.le_of_ble_eq_true rfl, hz⟩]
  rfl
theorem e208_60 (v0 v1 v2 v3 v4 v5 v6 v7 : Value) (x : Int32) (st : List Value) (w : zH) : zrun none (208, 60, [v0, v1, v2, v3, v4, v5, v6, v7, .int x], st, w) = zrun none (208, 62, [v0, v1, v2, v3, v4, v5, v6, v7, .int x], (.int x :: st), w) := (zE_ (i := .iload 8) (by decide +kernel) _ _ _).trans rfl
theorem e208_62 (ls : List Value) (a : Int32) (st : List Value) (w : zH) : zrun none (208, 62, ls, (.int a :: st), w) = if a = 0 then zrun none (208, 89, ls, st, w) else zrun none (208, 65, ls, st, w) := (zE_ (i := .ifCond .eq 27) (by decide +kernel) _ _ _).trans (zq_if_eq rfl rfl)
theorem e208_65 (v0 v1 v2 v3 v4 v6 v7 v8 : Value) (x : Int32) (st : List Value) (w : zH) : zrun none (208, 65, [v0, v1, v2, v3, v4, .int x, v6, v7, v8], st, w) = zrun none (208, 67, [v0, v1, v2, v3, v4, .int x, v6, v7, v8], (.int x :: st), w) := (zE_ (i := .iload 5) (by decide +kernel) _ _ _).trans rfl
theorem e208_67 (ls st : List Value) (w : zH) : zrun none (208, 67, ls, st, w) = zrun none (208, 69, ls, (.int (-1000000) :: st), w) := (zE_ (i := .bipush (-1000000)) (by decide +kernel) _ _ _).trans rfl
theorem e208_69 (ls : List Value) (a b : Int32) (st : List Value) (w : zH) : zrun none (208, 69, ls, (.int b :: .int a :: st), w) = if a = b then zrun none (208, 84, ls, st, w) else zrun none (208, 72, ls, st, w) := (zE_ (i := .if_icmp .eq 15) (by decide +kernel) _ _ _).trans (zq_ic_eq rfl rfl)
theorem e208_72 (v1 v2 v3 v4 v5 v6 v7 v8 : Value) (x : Nat) (st : List Value) (w : zH) : zrun none (208, 72, [.ref x, v1, v2, v3, v4, v5, v6, v7, v8], st, w) = zrun none (208, 73, [.ref x, v1, v2, v3, v4, v5, v6, v7, v8], (.ref x :: st), w) := (zE_ (i := .aload_n 0) (by decide +kernel) _ _ _).trans rfl
theorem e208_73 (v0 v1 v2 v3 v4 v5 v6 v8 : Value) (x : Int32) (st : List Value) (w : zH) : zrun none (208, 73, [v0, v1, v2, v3, v4, v5, v6, .int x, v8], st, w) = zrun none (208, 75, [v0, v1, v2, v3, v4, v5, v6, .int x, v8], (.int x :: st), w) := (zE_ (i := .iload 7) (by decide +kernel) _ _ _).trans rfl
theorem e208_75 (v0 v1 v2 v3 v4 v6 v7 v8 : Value) (x : Int32) (st : List Value) (w : zH) : zrun none (208, 75, [v0, v1, v2, v3, v4, .int x, v6, v7, v8], st, w) = zrun none (208, 77, [v0, v1, v2, v3, v4, .int x, v6, v7, v8], (.int x :: st), w) := (zE_ (i := .iload 5) (by decide +kernel) _ _ _).trans rfl
theorem e208_77 (v0 v2 v3 v4 v5 v6 v7 v8 : Value) (x : Int32) (st : List Value) (w : zH) : zrun none (208, 77, [v0, .int x, v2, v3, v4, v5, v6, v7, v8], st, w) = zrun none (208, 78, [v0, .int x, v2, v3, v4, v5, v6, v7, v8], (.int x :: st), w) := (zE_ (i := .iload_n 1) (by decide +kernel) _ _ _).trans rfl
theorem e208_78 (ls : List Value) (a : Nat) (x0 : Int32) (x1 : Int32) (x2 : Int32) (st : List Value) (w : zH) (hr : zcat st ≤ 8) : zrun none (208, 78, ls, (.int x2 :: .int x1 :: .int x0 :: .ref a :: st), w) = zgd (zis w a 12) (zcl (zrun none (207, 0, [.ref a, .int x0, .int x1, .int x2, zJ], [], w)) (fun r => zrun none (208, 81, ls, r.1.toList ++ st, r.2))) := by
  refine (zE_ (i := .invokevirtual 207) (by decide +kernel) _ _ _).trans ?_
  show zres (zinv none 207 208 78 ls (.int x2 :: .int x1 :: .int x0 :: .ref a :: st) w) = _
  unfold zinv
  show zres (if zrc none 207 w (.ref a) = true then zcall 207 [.ref a, .int x0, .int x1, .int x2] st 208 78 ls w else none) = _
  by_cases hc : zis w a 12
  · rw [if_pos (zrc_is hc (by decide +kernel)), zgd_pos hc]
    exact zq_call hr (Nat.le_of_ble_eq_true rfl) rfl rfl
  · rw [zgd_neg hc, if_neg (fun q => hc (zrc_of q (by decide +kernel)))]
    rfl
theorem e208_81 (ls : List Value) (a : Int32) (st : List Value) (w : zH) : zrun none (208, 81, ls, (.int a :: st), w) = if a = 0 then zrun none (208, 89, ls, st, w) else zrun none (208, 84, ls, st, w) := (zE_ (i := .ifCond .eq 8) (by decide +kernel) _ _ _).trans (zq_if_eq rfl rfl)
theorem e208_84 (v0 v1 v2 v3 v4 v5 v6 v8 : Value) (x : Int32) (st : List Value) (w : zH) : zrun none (208, 84, [v0, v1, v2, v3, v4, v5, v6, .int x, v8], st, w) = zrun none (208, 86, [v0, v1, v2, v3, v4, v5, v6, .int x, v8], (.int x :: st), w) := (zE_ (i := .iload 7) (by decide +kernel) _ _ _).trans rfl
theorem e208_86 (ls st : List Value) (w : zH) : zrun none (208, 86, ls, st, w) = zrun none (208, 91, ls, st, w) := (zE_ (i := .goto 5) (by decide +kernel) _ _ _).trans rfl
theorem e208_89 (v0 v1 v2 v3 v4 v6 v7 v8 : Value) (x : Int32) (st : List Value) (w : zH) : zrun none (208, 89, [v0, v1, v2, v3, v4, .int x, v6, v7, v8], st, w) = zrun none (208, 91, [v0, v1, v2, v3, v4, .int x, v6, v7, v8], (.int x :: st), w) := (zE_ (i := .iload 5) (by decide +kernel) _ _ _).trans rfl
theorem e208_91 (v0 v1 v2 v3 v4 v5 v6 v7 v8 : Value) (x : Int32) (st : List Value) (w : zH) (h : v4.category = 1) : zrun none (208, 91, [v0, v1, v2, v3, v4, v5, v6, v7, v8], (.int x :: st), w) = zrun none (208, 93, [v0, v1, v2, v3, v4, .int x, v6, v7, v8], st, w) := by
  refine (zE_ (i := .istore 5) (by decide +kernel) _ _ _).trans ?_
  have hz : zfree [v0, v1, v2, v3, v4, v5, v6, v7, v8] 5 = true := by show decide (v4.category = 1) = true; exact decide_eq_true h
  show zres (zst zint 5 2 208 91 [v0, v1, v2, v3, v4, v5, v6, v7, v8] (.int x :: st) w) = _
  unfold zst
  dsimp only
  rw [if_pos ⟨rfl, Nat.le_of_ble_eq_true rfl, hz⟩]
  rfl
theorem e208_93 (v0 v1 v2 v3 v4 v5 v6 v8 : Value) (x : Int32) (st : List Value) (w : zH) : zrun none (208, 93, [v0, v1, v2, v3, v4, v5, v6, .int x, v8], st, w) = zrun none (208, 96, [v0, v1, v2, v3, v4, v5, v6, .int (x + 1), v8], st, w) := (zE_ (i := .iinc 7 1) (by decide +kernel) _ _ _).trans rfl
theorem e208_96 (ls st : List Value) (w : zH) : zrun none (208, 96, ls, st, w) = zrun none (208, 23, ls, st, w) := (zE_ (i := .goto (-73)) (by decide +kernel) _ _ _).trans rfl
theorem e208_99 (v0 v1 v2 v3 v4 v6 v7 v8 : Value) (x : Int32) (st : List Value) (w : zH) : zrun none (208, 99, [v0, v1, v2, v3, v4, .int x, v6, v7, v8], st, w) = zrun none (208, 101, [v0, v1, v2, v3, v4, .int x, v6, v7, v8], (.int x :: st), w) := (zE_ (i := .iload 5) (by decide +kernel) _ _ _).trans rfl
theorem e208_101 (ls st : List Value) (w : zH) : zrun none (208, 101, ls, st, w) = zrun none (208, 103, ls, (.int (-1000000) :: st), w) := (zE_ (i := .bipush (-1000000)) (by decide +kernel) _ _ _).trans rfl
theorem e208_103 (ls : List Value) (a b : Int32) (st : List Value) (w : zH) : zrun none (208, 103, ls, (.int b :: .int a :: st), w) = if a = b then zrun none (208, 106, ls, st, w) else zrun none (208, 109, ls, st, w) := (zE_ (i := .if_icmp .ne 6) (by decide +kernel) _ _ _).trans (zq_ic_ne rfl rfl)
theorem e208_106 (ls st : List Value) (w : zH) : zrun none (208, 106, ls, st, w) = zrun none (208, 108, ls, (.int (-1000000) :: st), w) := (zE_ (i := .bipush (-1000000)) (by decide +kernel) _ _ _).trans rfl
theorem e208_108 (ls : List Value) (x : Int32) (w : zH) : zrun none (208, 108, ls, [.int x], w) = some (some (.int x), w) := by
  refine (zE_ (i := .ireturn) (by decide +kernel) _ _ _).trans ?_
  show zres (if narrow .int (.int x) = .int x then _ else none) = _
  rw [if_pos (show narrow .int (.int x) = .int x from rfl)]
  rfl
theorem e208_109 (v0 v1 v2 v3 v5 v6 v7 v8 : Value) (x : Int32) (st : List Value) (w : zH) : zrun none (208, 109, [v0, v1, v2, v3, .int x, v5, v6, v7, v8], st, w) = zrun none (208, 111, [v0, v1, v2, v3, .int x, v5, v6, v7, v8], (.int x :: st), w) := (zE_ (i := .iload 4) (by decide +kernel) _ _ _).trans rfl
theorem e208_111 (ls st : List Value) (w : zH) : zrun none (208, 111, ls, st, w) = zrun none (208, 112, ls, (.int 1 :: st), w) := (zE_ (i := .iconst 1) (by decide +kernel) _ _ _).trans rfl
theorem e208_112 (v0 v1 v2 v3 v4 v6 v7 v8 : Value) (x : Int32) (st : List Value) (w : zH) : zrun none (208, 112, [v0, v1, v2, v3, v4, .int x, v6, v7, v8], st, w) = zrun none (208, 114, [v0, v1, v2, v3, v4, .int x, v6, v7, v8], (.int x :: st), w) := (zE_ (i := .iload 5) (by decide +kernel) _ _ _).trans rfl
theorem e208_114 (ls : List Value) (a b : Int32) (st : List Value) (w : zH) : zrun none (208, 114, ls, (.int b :: .int a :: st), w) = zrun none (208, 115, ls, (.int (a <<< (b &&& 31)) :: st), w) := (zE_ (i := .ishl) (by decide +kernel) _ _ _).trans rfl
theorem e208_115 (ls : List Value) (a b : Int32) (st : List Value) (w : zH) : zrun none (208, 115, ls, (.int b :: .int a :: st), w) = zrun none (208, 116, ls, (.int (a ||| b) :: st), w) := (zE_ (i := .ior) (by decide +kernel) _ _ _).trans rfl
theorem e208_116 (v0 v1 v2 v3 v4 v5 v6 v7 v8 : Value) (x : Int32) (st : List Value) (w : zH) (h : v3.category = 1) : zrun none (208, 116, [v0, v1, v2, v3, v4, v5, v6, v7, v8], (.int x :: st), w) = zrun none (208, 118, [v0, v1, v2, v3, .int x, v5, v6, v7, v8], st, w) := by
  refine (zE_ (i := .istore 4) (by decide +kernel) _ _ _).trans ?_
  have hz : zfree [v0, v1, v2, v3, v4, v5, v6, v7, v8] 4 = true := by show decide (v3.category = 1) = true; exact decide_eq_true h
  show zres (zst zint 4 2 208 116 [v0, v1, v2, v3, v4, v5, v6, v7, v8] (.int x :: st) w) = _
  unfold zst
  dsimp only
  rw [if_pos ⟨rfl, Nat.le_of_ble_eq_true rfl, hz⟩]
  rfl
theorem e208_118 (v0 v1 v2 v3 v4 v5 v7 v8 : Value) (x : Int32) (st : List Value) (w : zH) : zrun none (208, 118, [v0, v1, v2, v3, v4, v5, .int x, v7, v8], st, w) = zrun none (208, 121, [v0, v1, v2, v3, v4, v5, .int (x + 1), v7, v8], st, w) := (zE_ (i := .iinc 6 1) (by decide +kernel) _ _ _).trans rfl
theorem e208_121 (ls st : List Value) (w : zH) : zrun none (208, 121, ls, st, w) = zrun none (208, 10, ls, st, w) := (zE_ (i := .goto (-111)) (by decide +kernel) _ _ _).trans rfl
theorem e208_124 (v0 v1 v2 v3 v4 v6 v7 v8 : Value) (x : Int32) (st : List Value) (w : zH) : zrun none (208, 124, [v0, v1, v2, v3, v4, .int x, v6, v7, v8], st, w) = zrun none (208, 126, [v0, v1, v2, v3, v4, .int x, v6, v7, v8], (.int x :: st), w) := (zE_ (i := .iload 5) (by decide +kernel) _ _ _).trans rfl
theorem e208_126 (ls : List Value) (x : Int32) (w : zH) : zrun none (208, 126, ls, [.int x], w) = some (some (.int x), w) := by
  refine (zE_ (i := .ireturn) (by decide +kernel) _ _ _).trans ?_
  show zres (if narrow .int (.int x) = .int x then _ else none) = _
  rw [if_pos (show narrow .int (.int x) = .int x from rfl)]
  rfl
theorem e209_0 (v1 v2 v3 v4 v5 : Value) (x : Nat) (st : List Value) (w : zH) : zrun none (209, 0, [.ref x, v1, v2, v3, v4, v5], st, w) = zrun none (209, 1, [.ref x, v1, v2, v3, v4, v5], (.ref x :: st), w) := (zE_ (i := .aload_n 0) (by decide +kernel) _ _ _).trans rfl
theorem e209_1 (ls st : List Value) (w : zH) : zrun none (209, 1, ls, st, w) = zrun none (209, 2, ls, (.int 0 :: st), w) := (zE_ (i := .iconst 0) (by decide +kernel) _ _ _).trans rfl
theorem e209_2 (ls : List Value) (x : Int32) (a : Nat) (st : List Value) (w : zH) : zrun none (209, 2, ls, (.int x :: .ref a :: st), w) = zgd (a < zX ∧ (zf w a 1200).isSome = true) (zrun none (209, 5, ls, st, zpf w a 1200 (.int x))) := by
  refine (zE_ (i := .putfield 1200) (by decide +kernel) _ _ _).trans ?_
  by_cases hg : a < zX ∧ (zf w a 1200).isSome = true
  · rw [zgd_pos hg]
    obtain ⟨ha, h⟩ := hg
    exact zq_putf ha h rfl rfl
  · rw [zgd_neg hg]
    exact zq_putf_no (fun h1 h2 h3 => hg ⟨h1, h2⟩)
theorem e209_5 (v0 v2 v3 v4 v5 : Value) (x : Int32) (st : List Value) (w : zH) : zrun none (209, 5, [v0, .int x, v2, v3, v4, v5], st, w) = zrun none (209, 6, [v0, .int x, v2, v3, v4, v5], (.int x :: st), w) := (zE_ (i := .iload_n 1) (by decide +kernel) _ _ _).trans rfl
theorem e209_6 (ls : List Value) (x0 : Int32) (st : List Value) (w : zH) (hr : zcat st ≤ 8) : zrun none (209, 6, ls, (.int x0 :: st), w) = zcl (zrun none (203, 0, [.int x0], [], w)) (fun r => zrun none (209, 9, ls, r.1.toList ++ st, r.2)) := by
  refine (zE_ (i := .invokestatic 203) (by decide +kernel) _ _ _).trans ?_
  show zres (if (99 : Nat) = 99 ∧ 1 ≤ ((.int x0 :: st) : List Value).length then zcall 203 [.int x0] st 209 6 ls w else none) = _
  rw [if_pos ⟨rfl, by simp⟩]
  exact zq_call hr (Nat.le_of_ble_eq_true rfl) rfl rfl
theorem e209_9 (ls : List Value) (a : Int32) (st : List Value) (w : zH) : zrun none (209, 9, ls, (.int a :: st), w) = if a = 0 then zrun none (209, 32, ls, st, w) else zrun none (209, 12, ls, st, w) := (zE_ (i := .ifCond .eq 23) (by decide +kernel) _ _ _).trans (zq_if_eq rfl rfl)
theorem e209_12 (v0 v1 v3 v4 v5 : Value) (x : Int32) (st : List Value) (w : zH) : zrun none (209, 12, [v0, v1, .int x, v3, v4, v5], st, w) = zrun none (209, 13, [v0, v1, .int x, v3, v4, v5], (.int x :: st), w) := (zE_ (i := .iload_n 2) (by decide +kernel) _ _ _).trans rfl
theorem e209_13 (ls : List Value) (x0 : Int32) (st : List Value) (w : zH) (hr : zcat st ≤ 8) : zrun none (209, 13, ls, (.int x0 :: st), w) = zcl (zrun none (155, 0, [.int x0], [], w)) (fun r => zrun none (209, 16, ls, r.1.toList ++ st, r.2)) := by
  refine (zE_ (i := .invokestatic 155) (by decide +kernel) _ _ _).trans ?_
  show zres (if (99 : Nat) = 99 ∧ 1 ≤ ((.int x0 :: st) : List Value).length then zcall 155 [.int x0] st 209 13 ls w else none) = _
  rw [if_pos ⟨rfl, by simp⟩]
  exact zq_call hr (Nat.le_of_ble_eq_true rfl) rfl rfl
theorem e209_16 (ls : List Value) (a : Int32) (st : List Value) (w : zH) : zrun none (209, 16, ls, (.int a :: st), w) = if a = 0 then zrun none (209, 32, ls, st, w) else zrun none (209, 19, ls, st, w) := (zE_ (i := .ifCond .eq 16) (by decide +kernel) _ _ _).trans (zq_if_eq rfl rfl)
theorem e209_19 (v0 v1 v2 v3 v5 : Value) (x : Int32) (st : List Value) (w : zH) : zrun none (209, 19, [v0, v1, v2, v3, .int x, v5], st, w) = zrun none (209, 21, [v0, v1, v2, v3, .int x, v5], (.int x :: st), w) := (zE_ (i := .iload 4) (by decide +kernel) _ _ _).trans rfl
theorem e209_21 (ls : List Value) (a : Int32) (st : List Value) (w : zH) : zrun none (209, 21, ls, (.int a :: st), w) = zrun none (209, 22, ls, (.long a.toInt64 :: st), w) := (zE_ (i := .i2l) (by decide +kernel) _ _ _).trans rfl
theorem e209_22 (ls st : List Value) (w : zH) : zrun none (209, 22, ls, st, w) = zrun none (209, 23, ls, (.long 0 :: st), w) := (zE_ (i := .lconst 0) (by decide +kernel) _ _ _).trans rfl
theorem e209_23 (ls st : List Value) (w : zH) : zrun none (209, 23, ls, st, w) = zrun none (209, 26, ls, (.long 2 :: st), w) := (zE_ (i := .ldc2_w 2) (by decide +kernel) _ _ _).trans rfl
theorem e209_26 (ls : List Value) (x0 : Int64) (x1 : Int64) (x2 : Int64) (st : List Value) (w : zH) (hr : zcat st ≤ 8) : zrun none (209, 26, ls, (.long x2 :: .long x1 :: .long x0 :: st), w) = zcl (zrun none (146, 0, [.long x0, zJ, .long x1, zJ, .long x2, zJ], [], w)) (fun r => zrun none (209, 29, ls, r.1.toList ++ st, r.2)) := by
  refine (zE_ (i := .invokestatic 146) (by decide +kernel) _ _ _).trans ?_
  show zres (if (99 : Nat) = 99 ∧ 3 ≤ ((.long x2 :: .long x1 :: .long x0 :: st) : List Value).length then zcall 146 [.long x0, .long x1, .long x2] st 209 26 ls w else none) = _
  rw [if_pos ⟨rfl, by simp⟩]
  exact zq_call hr (Nat.le_of_ble_eq_true rfl) rfl rfl
theorem e209_29 (ls : List Value) (a : Int32) (st : List Value) (w : zH) : zrun none (209, 29, ls, (.int a :: st), w) = if a = 0 then zrun none (209, 32, ls, st, w) else zrun none (209, 35, ls, st, w) := (zE_ (i := .ifCond .ne 6) (by decide +kernel) _ _ _).trans (zq_if_ne rfl rfl)
theorem e209_32 (ls st : List Value) (w : zH) : zrun none (209, 32, ls, st, w) = zrun none (209, 34, ls, (.int (-1000001) :: st), w) := (zE_ (i := .bipush (-1000001)) (by decide +kernel) _ _ _).trans rfl
theorem e209_34 (ls : List Value) (x : Int32) (w : zH) : zrun none (209, 34, ls, [.int x], w) = some (some (.int x), w) := by
  refine (zE_ (i := .ireturn) (by decide +kernel) _ _ _).trans ?_
  show zres (if narrow .int (.int x) = .int x then _ else none) = _
  rw [if_pos (show narrow .int (.int x) = .int x from rfl)]
  rfl
theorem e209_35 (v1 v2 v3 v4 v5 : Value) (x : Nat) (st : List Value) (w : zH) : zrun none (209, 35, [.ref x, v1, v2, v3, v4, v5], st, w) = zrun none (209, 36, [.ref x, v1, v2, v3, v4, v5], (.ref x :: st), w) := (zE_ (i := .aload_n 0) (by decide +kernel) _ _ _).trans rfl
theorem e209_36 (v0 v2 v3 v4 v5 : Value) (x : Int32) (st : List Value) (w : zH) : zrun none (209, 36, [v0, .int x, v2, v3, v4, v5], st, w) = zrun none (209, 37, [v0, .int x, v2, v3, v4, v5], (.int x :: st), w) := (zE_ (i := .iload_n 1) (by decide +kernel) _ _ _).trans rfl
theorem e209_37 (v0 v1 v3 v4 v5 : Value) (x : Int32) (st : List Value) (w : zH) : zrun none (209, 37, [v0, v1, .int x, v3, v4, v5], st, w) = zrun none (209, 38, [v0, v1, .int x, v3, v4, v5], (.int x :: st), w) := (zE_ (i := .iload_n 2) (by decide +kernel) _ _ _).trans rfl
theorem e209_38 (v0 v1 v2 v4 v5 : Value) (x : Int32) (st : List Value) (w : zH) : zrun none (209, 38, [v0, v1, v2, .int x, v4, v5], st, w) = zrun none (209, 39, [v0, v1, v2, .int x, v4, v5], (.int x :: st), w) := (zE_ (i := .iload_n 3) (by decide +kernel) _ _ _).trans rfl
theorem e209_39 (ls : List Value) (a : Nat) (x0 : Int32) (x1 : Int32) (x2 : Int32) (st : List Value) (w : zH) (hr : zcat st ≤ 8) : zrun none (209, 39, ls, (.int x2 :: .int x1 :: .int x0 :: .ref a :: st), w) = zgd (zis w a 12) (zcl (zrun none (208, 0, [.ref a, .int x0, .int x1, .int x2, zJ, zJ, zJ, zJ, zJ], [], w)) (fun r => zrun none (209, 42, ls, r.1.toList ++ st, r.2))) := by
  refine (zE_ (i := .invokevirtual 208) (by decide +kernel) _ _ _).trans ?_
  show zres (zinv none 208 209 39 ls (.int x2 :: .int x1 :: .int x0 :: .ref a :: st) w) = _
  unfold zinv
  show zres (if zrc none 208 w (.ref a) = true then zcall 208 [.ref a, .int x0, .int x1, .int x2] st 209 39 ls w else none) = _
  by_cases hc : zis w a 12
  · rw [if_pos (zrc_is hc (by decide +kernel)), zgd_pos hc]
    exact zq_call hr (Nat.le_of_ble_eq_true rfl) rfl rfl
  · rw [zgd_neg hc, if_neg (fun q => hc (zrc_of q (by decide +kernel)))]
    rfl
theorem e209_42 (v0 v1 v2 v3 v4 v5 : Value) (x : Int32) (st : List Value) (w : zH) (h : v4.category = 1) : zrun none (209, 42, [v0, v1, v2, v3, v4, v5], (.int x :: st), w) = zrun none (209, 44, [v0, v1, v2, v3, v4, .int x], st, w) := by
  refine (zE_ (i := .istore 5) (by decide +kernel) _ _ _).trans ?_
  have hz : zfree [v0, v1, v2, v3, v4, v5] 5 = true := by show decide (v4.category = 1) = true; exact decide_eq_true h
  show zres (zst zint 5 2 209 42 [v0, v1, v2, v3, v4, v5] (.int x :: st) w) = _
  unfold zst
  dsimp only
  rw [if_pos ⟨rfl, Nat.le_of_ble_eq_true rfl, hz⟩]
  rfl
theorem e209_44 (v0 v1 v2 v3 v4 : Value) (x : Int32) (st : List Value) (w : zH) : zrun none (209, 44, [v0, v1, v2, v3, v4, .int x], st, w) = zrun none (209, 46, [v0, v1, v2, v3, v4, .int x], (.int x :: st), w) := (zE_ (i := .iload 5) (by decide +kernel) _ _ _).trans rfl
theorem e209_46 (ls st : List Value) (w : zH) : zrun none (209, 46, ls, st, w) = zrun none (209, 48, ls, (.int (-1000000) :: st), w) := (zE_ (i := .bipush (-1000000)) (by decide +kernel) _ _ _).trans rfl
theorem e209_48 (ls : List Value) (a b : Int32) (st : List Value) (w : zH) : zrun none (209, 48, ls, (.int b :: .int a :: st), w) = if a = b then zrun none (209, 51, ls, st, w) else zrun none (209, 56, ls, st, w) := (zE_ (i := .if_icmp .ne 8) (by decide +kernel) _ _ _).trans (zq_ic_ne rfl rfl)
theorem e209_51 (ls st : List Value) (w : zH) : zrun none (209, 51, ls, st, w) = zrun none (209, 53, ls, (.int (-1000000) :: st), w) := (zE_ (i := .bipush (-1000000)) (by decide +kernel) _ _ _).trans rfl
theorem e209_53 (ls st : List Value) (w : zH) : zrun none (209, 53, ls, st, w) = zrun none (209, 91, ls, st, w) := (zE_ (i := .goto 38) (by decide +kernel) _ _ _).trans rfl
theorem e209_56 (v0 v1 v2 v3 v5 : Value) (x : Int32) (st : List Value) (w : zH) : zrun none (209, 56, [v0, v1, v2, v3, .int x, v5], st, w) = zrun none (209, 58, [v0, v1, v2, v3, .int x, v5], (.int x :: st), w) := (zE_ (i := .iload 4) (by decide +kernel) _ _ _).trans rfl
theorem e209_58 (ls : List Value) (a : Int32) (st : List Value) (w : zH) : zrun none (209, 58, ls, (.int a :: st), w) = if a = 0 then zrun none (209, 61, ls, st, w) else zrun none (209, 66, ls, st, w) := (zE_ (i := .ifCond .ne 8) (by decide +kernel) _ _ _).trans (zq_if_ne rfl rfl)
theorem e209_61 (v0 v1 v2 v3 v4 : Value) (x : Int32) (st : List Value) (w : zH) : zrun none (209, 61, [v0, v1, v2, v3, v4, .int x], st, w) = zrun none (209, 63, [v0, v1, v2, v3, v4, .int x], (.int x :: st), w) := (zE_ (i := .iload 5) (by decide +kernel) _ _ _).trans rfl
theorem e209_63 (ls st : List Value) (w : zH) : zrun none (209, 63, ls, st, w) = zrun none (209, 91, ls, st, w) := (zE_ (i := .goto 28) (by decide +kernel) _ _ _).trans rfl
theorem e209_66 (v0 v1 v2 v3 v5 : Value) (x : Int32) (st : List Value) (w : zH) : zrun none (209, 66, [v0, v1, v2, v3, .int x, v5], st, w) = zrun none (209, 68, [v0, v1, v2, v3, .int x, v5], (.int x :: st), w) := (zE_ (i := .iload 4) (by decide +kernel) _ _ _).trans rfl
theorem e209_68 (ls st : List Value) (w : zH) : zrun none (209, 68, ls, st, w) = zrun none (209, 69, ls, (.int 1 :: st), w) := (zE_ (i := .iconst 1) (by decide +kernel) _ _ _).trans rfl
theorem e209_69 (ls : List Value) (a b : Int32) (st : List Value) (w : zH) : zrun none (209, 69, ls, (.int b :: .int a :: st), w) = if a = b then zrun none (209, 72, ls, st, w) else zrun none (209, 82, ls, st, w) := (zE_ (i := .if_icmp .ne 13) (by decide +kernel) _ _ _).trans (zq_ic_ne rfl rfl)
theorem e209_72 (v1 v2 v3 v4 v5 : Value) (x : Nat) (st : List Value) (w : zH) : zrun none (209, 72, [.ref x, v1, v2, v3, v4, v5], st, w) = zrun none (209, 73, [.ref x, v1, v2, v3, v4, v5], (.ref x :: st), w) := (zE_ (i := .aload_n 0) (by decide +kernel) _ _ _).trans rfl
theorem e209_73 (v0 v1 v2 v3 v4 : Value) (x : Int32) (st : List Value) (w : zH) : zrun none (209, 73, [v0, v1, v2, v3, v4, .int x], st, w) = zrun none (209, 75, [v0, v1, v2, v3, v4, .int x], (.int x :: st), w) := (zE_ (i := .iload 5) (by decide +kernel) _ _ _).trans rfl
theorem e209_75 (v0 v2 v3 v4 v5 : Value) (x : Int32) (st : List Value) (w : zH) : zrun none (209, 75, [v0, .int x, v2, v3, v4, v5], st, w) = zrun none (209, 76, [v0, .int x, v2, v3, v4, v5], (.int x :: st), w) := (zE_ (i := .iload_n 1) (by decide +kernel) _ _ _).trans rfl
theorem e209_76 (ls : List Value) (a : Nat) (x0 : Int32) (x1 : Int32) (st : List Value) (w : zH) (hr : zcat st ≤ 8) : zrun none (209, 76, ls, (.int x1 :: .int x0 :: .ref a :: st), w) = zgd (zis w a 12) (zcl (zrun none (206, 0, [.ref a, .int x0, .int x1, zJ, zJ], [], w)) (fun r => zrun none (209, 79, ls, r.1.toList ++ st, r.2))) := by
  refine (zE_ (i := .invokevirtual 206) (by decide +kernel) _ _ _).trans ?_
  show zres (zinv none 206 209 76 ls (.int x1 :: .int x0 :: .ref a :: st) w) = _
  unfold zinv
  show zres (if zrc none 206 w (.ref a) = true then zcall 206 [.ref a, .int x0, .int x1] st 209 76 ls w else none) = _
  by_cases hc : zis w a 12
  · rw [if_pos (zrc_is hc (by decide +kernel)), zgd_pos hc]
    exact zq_call hr (Nat.le_of_ble_eq_true rfl) rfl rfl
  · rw [zgd_neg hc, if_neg (fun q => hc (zrc_of q (by decide +kernel)))]
    rfl
theorem e209_79 (ls st : List Value) (w : zH) : zrun none (209, 79, ls, st, w) = zrun none (209, 91, ls, st, w) := (zE_ (i := .goto 12) (by decide +kernel) _ _ _).trans rfl
theorem e209_82 (v1 v2 v3 v4 v5 : Value) (x : Nat) (st : List Value) (w : zH) : zrun none (209, 82, [.ref x, v1, v2, v3, v4, v5], st, w) = zrun none (209, 83, [.ref x, v1, v2, v3, v4, v5], (.ref x :: st), w) := (zE_ (i := .aload_n 0) (by decide +kernel) _ _ _).trans rfl
theorem e209_83 (ls : List Value) (a : Nat) (st : List Value) (w : zH) : zrun none (209, 83, ls, (.ref a :: st), w) = zo (zf w a 1245) (fun x => zrun none (209, 86, ls, (x :: st), w)) := (zE_ (i := .getfield 1245) (by decide +kernel) _ _ _).trans zq_getf
theorem e209_86 (v0 v1 v2 v3 v4 : Value) (x : Int32) (st : List Value) (w : zH) : zrun none (209, 86, [v0, v1, v2, v3, v4, .int x], st, w) = zrun none (209, 88, [v0, v1, v2, v3, v4, .int x], (.int x :: st), w) := (zE_ (i := .iload 5) (by decide +kernel) _ _ _).trans rfl
theorem e209_88 (ls : List Value) (j : Int32) (a : Nat) (st : List Value) (w : zH) : zrun none (209, 88, ls, (.int j :: .ref a :: st), w) = zoi (zai w a 100 j) (fun x => zrun none (209, 89, ls, (.int x :: st), w)) := (zE_ (i := .iaload) (by decide +kernel) _ _ _).trans zq_iald
theorem e209_89 (v0 v2 v3 v4 v5 : Value) (x : Int32) (st : List Value) (w : zH) : zrun none (209, 89, [v0, .int x, v2, v3, v4, v5], st, w) = zrun none (209, 90, [v0, .int x, v2, v3, v4, v5], (.int x :: st), w) := (zE_ (i := .iload_n 1) (by decide +kernel) _ _ _).trans rfl
theorem e209_90 (ls : List Value) (a b : Int32) (st : List Value) (w : zH) : zrun none (209, 90, ls, (.int b :: .int a :: st), w) = zrun none (209, 91, ls, (.int (a ^^^ b) :: st), w) := (zE_ (i := .ixor) (by decide +kernel) _ _ _).trans rfl
theorem e209_91 (ls : List Value) (x : Int32) (w : zH) : zrun none (209, 91, ls, [.int x], w) = some (some (.int x), w) := by
  refine (zE_ (i := .ireturn) (by decide +kernel) _ _ _).trans ?_
  show zres (if narrow .int (.int x) = .int x then _ else none) = _
  rw [if_pos (show narrow .int (.int x) = .int x from rfl)]
  rfl
theorem e210_0 (v1 v2 v3 v4 v5 : Value) (x : Nat) (st : List Value) (w : zH) : zrun none (210, 0, [.ref x, v1, v2, v3, v4, v5], st, w) = zrun none (210, 1, [.ref x, v1, v2, v3, v4, v5], (.ref x :: st), w) := (zE_ (i := .aload_n 0) (by decide +kernel) _ _ _).trans rfl
theorem e210_1 (ls st : List Value) (w : zH) : zrun none (210, 1, ls, st, w) = zrun none (210, 2, ls, (.int 0 :: st), w) := (zE_ (i := .iconst 0) (by decide +kernel) _ _ _).trans rfl
theorem e210_2 (ls : List Value) (x : Int32) (a : Nat) (st : List Value) (w : zH) : zrun none (210, 2, ls, (.int x :: .ref a :: st), w) = zgd (a < zX ∧ (zf w a 1200).isSome = true) (zrun none (210, 5, ls, st, zpf w a 1200 (.int x))) := by
  refine (zE_ (i := .putfield 1200) (by decide +kernel) _ _ _).trans ?_
  by_cases hg : a < zX ∧ (zf w a 1200).isSome = true
  · rw [zgd_pos hg]
    obtain ⟨ha, h⟩ := hg
    exact zq_putf ha h rfl rfl
  · rw [zgd_neg hg]
    exact zq_putf_no (fun h1 h2 h3 => hg ⟨h1, h2⟩)
theorem e210_5 (v0 v2 v3 v4 v5 : Value) (x : Int32) (st : List Value) (w : zH) : zrun none (210, 5, [v0, .int x, v2, v3, v4, v5], st, w) = zrun none (210, 6, [v0, .int x, v2, v3, v4, v5], (.int x :: st), w) := (zE_ (i := .iload_n 1) (by decide +kernel) _ _ _).trans rfl
theorem e210_6 (ls : List Value) (x0 : Int32) (st : List Value) (w : zH) (hr : zcat st ≤ 8) : zrun none (210, 6, ls, (.int x0 :: st), w) = zcl (zrun none (203, 0, [.int x0], [], w)) (fun r => zrun none (210, 9, ls, r.1.toList ++ st, r.2)) := by
  refine (zE_ (i := .invokestatic 203) (by decide +kernel) _ _ _).trans ?_
  show zres (if (99 : Nat) = 99 ∧ 1 ≤ ((.int x0 :: st) : List Value).length then zcall 203 [.int x0] st 210 6 ls w else none) = _
  rw [if_pos ⟨rfl, by simp⟩]
  exact zq_call hr (Nat.le_of_ble_eq_true rfl) rfl rfl
theorem e210_9 (ls : List Value) (a : Int32) (st : List Value) (w : zH) : zrun none (210, 9, ls, (.int a :: st), w) = if a = 0 then zrun none (210, 19, ls, st, w) else zrun none (210, 12, ls, st, w) := (zE_ (i := .ifCond .eq 10) (by decide +kernel) _ _ _).trans (zq_if_eq rfl rfl)
theorem e210_12 (v0 v1 v3 v4 v5 : Value) (x : Int32) (st : List Value) (w : zH) : zrun none (210, 12, [v0, v1, .int x, v3, v4, v5], st, w) = zrun none (210, 13, [v0, v1, .int x, v3, v4, v5], (.int x :: st), w) := (zE_ (i := .iload_n 2) (by decide +kernel) _ _ _).trans rfl
theorem e210_13 (ls : List Value) (x0 : Int32) (st : List Value) (w : zH) (hr : zcat st ≤ 8) : zrun none (210, 13, ls, (.int x0 :: st), w) = zcl (zrun none (155, 0, [.int x0], [], w)) (fun r => zrun none (210, 16, ls, r.1.toList ++ st, r.2)) := by
  refine (zE_ (i := .invokestatic 155) (by decide +kernel) _ _ _).trans ?_
  show zres (if (99 : Nat) = 99 ∧ 1 ≤ ((.int x0 :: st) : List Value).length then zcall 155 [.int x0] st 210 13 ls w else none) = _
  rw [if_pos ⟨rfl, by simp⟩]
  exact zq_call hr (Nat.le_of_ble_eq_true rfl) rfl rfl
theorem e210_16 (ls : List Value) (a : Int32) (st : List Value) (w : zH) : zrun none (210, 16, ls, (.int a :: st), w) = if a = 0 then zrun none (210, 19, ls, st, w) else zrun none (210, 22, ls, st, w) := (zE_ (i := .ifCond .ne 6) (by decide +kernel) _ _ _).trans (zq_if_ne rfl rfl)
theorem e210_19 (ls st : List Value) (w : zH) : zrun none (210, 19, ls, st, w) = zrun none (210, 21, ls, (.int (-1000001) :: st), w) := (zE_ (i := .bipush (-1000001)) (by decide +kernel) _ _ _).trans rfl
theorem e210_21 (ls : List Value) (x : Int32) (w : zH) : zrun none (210, 21, ls, [.int x], w) = some (some (.int x), w) := by
  refine (zE_ (i := .ireturn) (by decide +kernel) _ _ _).trans ?_
  show zres (if narrow .int (.int x) = .int x then _ else none) = _
  rw [if_pos (show narrow .int (.int x) = .int x from rfl)]
  rfl
theorem e210_22 (v1 v2 v3 v4 v5 : Value) (x : Nat) (st : List Value) (w : zH) : zrun none (210, 22, [.ref x, v1, v2, v3, v4, v5], st, w) = zrun none (210, 23, [.ref x, v1, v2, v3, v4, v5], (.ref x :: st), w) := (zE_ (i := .aload_n 0) (by decide +kernel) _ _ _).trans rfl
theorem e210_23 (v0 v2 v3 v4 v5 : Value) (x : Int32) (st : List Value) (w : zH) : zrun none (210, 23, [v0, .int x, v2, v3, v4, v5], st, w) = zrun none (210, 24, [v0, .int x, v2, v3, v4, v5], (.int x :: st), w) := (zE_ (i := .iload_n 1) (by decide +kernel) _ _ _).trans rfl
theorem e210_24 (v0 v1 v3 v4 v5 : Value) (x : Int32) (st : List Value) (w : zH) : zrun none (210, 24, [v0, v1, .int x, v3, v4, v5], st, w) = zrun none (210, 25, [v0, v1, .int x, v3, v4, v5], (.int x :: st), w) := (zE_ (i := .iload_n 2) (by decide +kernel) _ _ _).trans rfl
theorem e210_25 (ls st : List Value) (w : zH) : zrun none (210, 25, ls, st, w) = zrun none (210, 26, ls, (.int 0 :: st), w) := (zE_ (i := .iconst 0) (by decide +kernel) _ _ _).trans rfl
theorem e210_26 (ls : List Value) (a : Nat) (x0 : Int32) (x1 : Int32) (x2 : Int32) (st : List Value) (w : zH) (hr : zcat st ≤ 8) : zrun none (210, 26, ls, (.int x2 :: .int x1 :: .int x0 :: .ref a :: st), w) = zgd (zis w a 12) (zcl (zrun none (208, 0, [.ref a, .int x0, .int x1, .int x2, zJ, zJ, zJ, zJ, zJ], [], w)) (fun r => zrun none (210, 29, ls, r.1.toList ++ st, r.2))) := by
  refine (zE_ (i := .invokevirtual 208) (by decide +kernel) _ _ _).trans ?_
  show zres (zinv none 208 210 26 ls (.int x2 :: .int x1 :: .int x0 :: .ref a :: st) w) = _
  unfold zinv
  show zres (if zrc none 208 w (.ref a) = true then zcall 208 [.ref a, .int x0, .int x1, .int x2] st 210 26 ls w else none) = _
  by_cases hc : zis w a 12
  · rw [if_pos (zrc_is hc (by decide +kernel)), zgd_pos hc]
    exact zq_call hr (Nat.le_of_ble_eq_true rfl) rfl rfl
  · rw [zgd_neg hc, if_neg (fun q => hc (zrc_of q (by decide +kernel)))]
    rfl
theorem e210_29 (v0 v1 v2 v3 v4 v5 : Value) (x : Int32) (st : List Value) (w : zH) (h : v2.category = 1) : zrun none (210, 29, [v0, v1, v2, v3, v4, v5], (.int x :: st), w) = zrun none (210, 30, [v0, v1, v2, .int x, v4, v5], st, w) := by
  refine (zE_ (i := .istore_n 3) (by decide +kernel) _ _ _).trans ?_
  have hz : zfree [v0, v1, v2, v3, v4, v5] 3 = true := by show decide (v2.category = 1) = true; exact decide_eq_true h
  show zres (zst zint 3 1 210 29 [v0, v1, v2, v3, v4, v5] (.int x :: st) w) = _
  unfold zst
  dsimp only
  rw [if_pos ⟨rfl, Nat.le_of_ble_eq_true rfl, hz⟩]
  rfl
theorem e210_30 (v0 v1 v2 v4 v5 : Value) (x : Int32) (st : List Value) (w : zH) : zrun none (210, 30, [v0, v1, v2, .int x, v4, v5], st, w) = zrun none (210, 31, [v0, v1, v2, .int x, v4, v5], (.int x :: st), w) := (zE_ (i := .iload_n 3) (by decide +kernel) _ _ _).trans rfl
theorem e210_31 (ls st : List Value) (w : zH) : zrun none (210, 31, ls, st, w) = zrun none (210, 33, ls, (.int (-1000000) :: st), w) := (zE_ (i := .bipush (-1000000)) (by decide +kernel) _ _ _).trans rfl
theorem e210_33 (ls : List Value) (a b : Int32) (st : List Value) (w : zH) : zrun none (210, 33, ls, (.int b :: .int a :: st), w) = if a = b then zrun none (210, 36, ls, st, w) else zrun none (210, 39, ls, st, w) := (zE_ (i := .if_icmp .ne 6) (by decide +kernel) _ _ _).trans (zq_ic_ne rfl rfl)
theorem e210_36 (ls st : List Value) (w : zH) : zrun none (210, 36, ls, st, w) = zrun none (210, 38, ls, (.int (-1000000) :: st), w) := (zE_ (i := .bipush (-1000000)) (by decide +kernel) _ _ _).trans rfl
theorem e210_38 (ls : List Value) (x : Int32) (w : zH) : zrun none (210, 38, ls, [.int x], w) = some (some (.int x), w) := by
  refine (zE_ (i := .ireturn) (by decide +kernel) _ _ _).trans ?_
  show zres (if narrow .int (.int x) = .int x then _ else none) = _
  rw [if_pos (show narrow .int (.int x) = .int x from rfl)]
  rfl
theorem e210_39 (ls st : List Value) (w : zH) : zrun none (210, 39, ls, st, w) = zrun none (210, 40, ls, (.int 0 :: st), w) := (zE_ (i := .iconst 0) (by decide +kernel) _ _ _).trans rfl
theorem e210_40 (v0 v1 v2 v3 v4 v5 : Value) (x : Int32) (st : List Value) (w : zH) (h : v3.category = 1) : zrun none (210, 40, [v0, v1, v2, v3, v4, v5], (.int x :: st), w) = zrun none (210, 42, [v0, v1, v2, v3, .int x, v5], st, w) := by
  refine (zE_ (i := .istore 4) (by decide +kernel) _ _ _).trans ?_
  have hz : zfree [v0, v1, v2, v3, v4, v5] 4 = true := by show decide (v3.category = 1) = true; exact decide_eq_true h
  show zres (zst zint 4 2 210 40 [v0, v1, v2, v3, v4, v5] (.int x :: st) w) = _
  unfold zst
  dsimp only
  rw [if_pos ⟨rfl, Nat.le_of_ble_eq_true rfl, hz⟩]
  rfl
theorem e210_42 (ls st : List Value) (w : zH) : zrun none (210, 42, ls, st, w) = zrun none (210, 43, ls, (.int 0 :: st), w) := (zE_ (i := .iconst 0) (by decide +kernel) _ _ _).trans rfl
theorem e210_43 (v0 v1 v2 v3 v4 v5 : Value) (x : Int32) (st : List Value) (w : zH) (h : v4.category = 1) : zrun none (210, 43, [v0, v1, v2, v3, v4, v5], (.int x :: st), w) = zrun none (210, 45, [v0, v1, v2, v3, v4, .int x], st, w) := by
  refine (zE_ (i := .istore 5) (by decide +kernel) _ _ _).trans ?_
  have hz : zfree [v0, v1, v2, v3, v4, v5] 5 = true := by show decide (v4.category = 1) = true; exact decide_eq_true h
  show zres (zst zint 5 2 210 43 [v0, v1, v2, v3, v4, v5] (.int x :: st) w) = _
  unfold zst
  dsimp only
  rw [if_pos ⟨rfl, Nat.le_of_ble_eq_true rfl, hz⟩]
  rfl
theorem e210_45 (v0 v1 v2 v3 v4 : Value) (x : Int32) (st : List Value) (w : zH) : zrun none (210, 45, [v0, v1, v2, v3, v4, .int x], st, w) = zrun none (210, 47, [v0, v1, v2, v3, v4, .int x], (.int x :: st), w) := (zE_ (i := .iload 5) (by decide +kernel) _ _ _).trans rfl
theorem e210_47 (v1 v2 v3 v4 v5 : Value) (x : Nat) (st : List Value) (w : zH) : zrun none (210, 47, [.ref x, v1, v2, v3, v4, v5], st, w) = zrun none (210, 48, [.ref x, v1, v2, v3, v4, v5], (.ref x :: st), w) := (zE_ (i := .aload_n 0) (by decide +kernel) _ _ _).trans rfl
theorem e210_48 (ls : List Value) (a : Nat) (st : List Value) (w : zH) : zrun none (210, 48, ls, (.ref a :: st), w) = zo (zf w a 1244) (fun x => zrun none (210, 51, ls, (x :: st), w)) := (zE_ (i := .getfield 1244) (by decide +kernel) _ _ _).trans zq_getf
theorem e210_51 (ls : List Value) (a b : Int32) (st : List Value) (w : zH) : zrun none (210, 51, ls, (.int b :: .int a :: st), w) = if b ≤ a then zrun none (210, 108, ls, st, w) else zrun none (210, 54, ls, st, w) := (zE_ (i := .if_icmp .ge 57) (by decide +kernel) _ _ _).trans (zq_ic_ge rfl rfl)
theorem e210_54 (v1 v2 v3 v4 v5 : Value) (x : Nat) (st : List Value) (w : zH) : zrun none (210, 54, [.ref x, v1, v2, v3, v4, v5], st, w) = zrun none (210, 55, [.ref x, v1, v2, v3, v4, v5], (.ref x :: st), w) := (zE_ (i := .aload_n 0) (by decide +kernel) _ _ _).trans rfl
theorem e210_55 (ls : List Value) (a : Nat) (st : List Value) (w : zH) : zrun none (210, 55, ls, (.ref a :: st), w) = zo (zf w a 1247) (fun x => zrun none (210, 58, ls, (x :: st), w)) := (zE_ (i := .getfield 1247) (by decide +kernel) _ _ _).trans zq_getf
theorem e210_58 (v0 v1 v2 v3 v4 : Value) (x : Int32) (st : List Value) (w : zH) : zrun none (210, 58, [v0, v1, v2, v3, v4, .int x], st, w) = zrun none (210, 60, [v0, v1, v2, v3, v4, .int x], (.int x :: st), w) := (zE_ (i := .iload 5) (by decide +kernel) _ _ _).trans rfl
theorem e210_60 (ls : List Value) (j : Int32) (a : Nat) (st : List Value) (w : zH) : zrun none (210, 60, ls, (.int j :: .ref a :: st), w) = zoi (zai w a 100 j) (fun x => zrun none (210, 61, ls, (.int x :: st), w)) := (zE_ (i := .iaload) (by decide +kernel) _ _ _).trans zq_iald
theorem e210_61 (v0 v1 v3 v4 v5 : Value) (x : Int32) (st : List Value) (w : zH) : zrun none (210, 61, [v0, v1, .int x, v3, v4, v5], st, w) = zrun none (210, 62, [v0, v1, .int x, v3, v4, v5], (.int x :: st), w) := (zE_ (i := .iload_n 2) (by decide +kernel) _ _ _).trans rfl
theorem e210_62 (ls : List Value) (a b : Int32) (st : List Value) (w : zH) : zrun none (210, 62, ls, (.int b :: .int a :: st), w) = if b < a then zrun none (210, 102, ls, st, w) else zrun none (210, 65, ls, st, w) := (zE_ (i := .if_icmp .gt 40) (by decide +kernel) _ _ _).trans (zq_ic_gt rfl rfl)
theorem e210_65 (v1 v2 v3 v4 v5 : Value) (x : Nat) (st : List Value) (w : zH) : zrun none (210, 65, [.ref x, v1, v2, v3, v4, v5], st, w) = zrun none (210, 66, [.ref x, v1, v2, v3, v4, v5], (.ref x :: st), w) := (zE_ (i := .aload_n 0) (by decide +kernel) _ _ _).trans rfl
theorem e210_66 (v0 v1 v2 v3 v4 : Value) (x : Int32) (st : List Value) (w : zH) : zrun none (210, 66, [v0, v1, v2, v3, v4, .int x], st, w) = zrun none (210, 68, [v0, v1, v2, v3, v4, .int x], (.int x :: st), w) := (zE_ (i := .iload 5) (by decide +kernel) _ _ _).trans rfl
theorem e210_68 (v0 v2 v3 v4 v5 : Value) (x : Int32) (st : List Value) (w : zH) : zrun none (210, 68, [v0, .int x, v2, v3, v4, v5], st, w) = zrun none (210, 69, [v0, .int x, v2, v3, v4, v5], (.int x :: st), w) := (zE_ (i := .iload_n 1) (by decide +kernel) _ _ _).trans rfl
theorem e210_69 (ls : List Value) (a : Nat) (x0 : Int32) (x1 : Int32) (st : List Value) (w : zH) (hr : zcat st ≤ 8) : zrun none (210, 69, ls, (.int x1 :: .int x0 :: .ref a :: st), w) = zgd (zis w a 12) (zcl (zrun none (206, 0, [.ref a, .int x0, .int x1, zJ, zJ], [], w)) (fun r => zrun none (210, 72, ls, r.1.toList ++ st, r.2))) := by
  refine (zE_ (i := .invokevirtual 206) (by decide +kernel) _ _ _).trans ?_
  show zres (zinv none 206 210 69 ls (.int x1 :: .int x0 :: .ref a :: st) w) = _
  unfold zinv
  show zres (if zrc none 206 w (.ref a) = true then zcall 206 [.ref a, .int x0, .int x1] st 210 69 ls w else none) = _
  by_cases hc : zis w a 12
  · rw [if_pos (zrc_is hc (by decide +kernel)), zgd_pos hc]
    exact zq_call hr (Nat.le_of_ble_eq_true rfl) rfl rfl
  · rw [zgd_neg hc, if_neg (fun q => hc (zrc_of q (by decide +kernel)))]
    rfl
theorem e210_72 (v1 v2 v3 v4 v5 : Value) (x : Nat) (st : List Value) (w : zH) : zrun none (210, 72, [.ref x, v1, v2, v3, v4, v5], st, w) = zrun none (210, 73, [.ref x, v1, v2, v3, v4, v5], (.ref x :: st), w) := (zE_ (i := .aload_n 0) (by decide +kernel) _ _ _).trans rfl
theorem e210_73 (v0 v1 v2 v4 v5 : Value) (x : Int32) (st : List Value) (w : zH) : zrun none (210, 73, [v0, v1, v2, .int x, v4, v5], st, w) = zrun none (210, 74, [v0, v1, v2, .int x, v4, v5], (.int x :: st), w) := (zE_ (i := .iload_n 3) (by decide +kernel) _ _ _).trans rfl
theorem e210_74 (v0 v2 v3 v4 v5 : Value) (x : Int32) (st : List Value) (w : zH) : zrun none (210, 74, [v0, .int x, v2, v3, v4, v5], st, w) = zrun none (210, 75, [v0, .int x, v2, v3, v4, v5], (.int x :: st), w) := (zE_ (i := .iload_n 1) (by decide +kernel) _ _ _).trans rfl
theorem e210_75 (ls : List Value) (a : Nat) (x0 : Int32) (x1 : Int32) (st : List Value) (w : zH) (hr : zcat st ≤ 8) : zrun none (210, 75, ls, (.int x1 :: .int x0 :: .ref a :: st), w) = zgd (zis w a 12) (zcl (zrun none (206, 0, [.ref a, .int x0, .int x1, zJ, zJ], [], w)) (fun r => zrun none (210, 78, ls, r.1.toList ++ st, r.2))) := by
  refine (zE_ (i := .invokevirtual 206) (by decide +kernel) _ _ _).trans ?_
  show zres (zinv none 206 210 75 ls (.int x1 :: .int x0 :: .ref a :: st) w) = _
  unfold zinv
  show zres (if zrc none 206 w (.ref a) = true then zcall 206 [.ref a, .int x0, .int x1] st 210 75 ls w else none) = _
  by_cases hc : zis w a 12
  · rw [if_pos (zrc_is hc (by decide +kernel)), zgd_pos hc]
    exact zq_call hr (Nat.le_of_ble_eq_true rfl) rfl rfl
  · rw [zgd_neg hc, if_neg (fun q => hc (zrc_of q (by decide +kernel)))]
    rfl
theorem e210_78 (ls : List Value) (a b : Int32) (st : List Value) (w : zH) : zrun none (210, 78, ls, (.int b :: .int a :: st), w) = if a = b then zrun none (210, 81, ls, st, w) else zrun none (210, 102, ls, st, w) := (zE_ (i := .if_icmp .ne 24) (by decide +kernel) _ _ _).trans (zq_ic_ne rfl rfl)
theorem e210_81 (v0 v1 v2 v3 v5 : Value) (x : Int32) (st : List Value) (w : zH) : zrun none (210, 81, [v0, v1, v2, v3, .int x, v5], st, w) = zrun none (210, 83, [v0, v1, v2, v3, .int x, v5], (.int x :: st), w) := (zE_ (i := .iload 4) (by decide +kernel) _ _ _).trans rfl
theorem e210_83 (v1 v2 v3 v4 v5 : Value) (x : Nat) (st : List Value) (w : zH) : zrun none (210, 83, [.ref x, v1, v2, v3, v4, v5], st, w) = zrun none (210, 84, [.ref x, v1, v2, v3, v4, v5], (.ref x :: st), w) := (zE_ (i := .aload_n 0) (by decide +kernel) _ _ _).trans rfl
theorem e210_84 (ls : List Value) (a : Nat) (st : List Value) (w : zH) : zrun none (210, 84, ls, (.ref a :: st), w) = zo (zf w a 1246) (fun x => zrun none (210, 87, ls, (x :: st), w)) := (zE_ (i := .getfield 1246) (by decide +kernel) _ _ _).trans zq_getf
theorem e210_87 (v0 v1 v2 v3 v4 : Value) (x : Int32) (st : List Value) (w : zH) : zrun none (210, 87, [v0, v1, v2, v3, v4, .int x], st, w) = zrun none (210, 89, [v0, v1, v2, v3, v4, .int x], (.int x :: st), w) := (zE_ (i := .iload 5) (by decide +kernel) _ _ _).trans rfl
theorem e210_89 (ls : List Value) (j : Int32) (a : Nat) (st : List Value) (w : zH) : zrun none (210, 89, ls, (.int j :: .ref a :: st), w) = zoi (zai w a 100 j) (fun x => zrun none (210, 90, ls, (.int x :: st), w)) := (zE_ (i := .iaload) (by decide +kernel) _ _ _).trans zq_iald
theorem e210_90 (ls st : List Value) (w : zH) : zrun none (210, 90, ls, st, w) = zrun none (210, 91, ls, (.int 1 :: st), w) := (zE_ (i := .iconst 1) (by decide +kernel) _ _ _).trans rfl
theorem e210_91 (ls : List Value) (a b : Int32) (st : List Value) (w : zH) : zrun none (210, 91, ls, (.int b :: .int a :: st), w) = if a = b then zrun none (210, 94, ls, st, w) else zrun none (210, 98, ls, st, w) := (zE_ (i := .if_icmp .ne 7) (by decide +kernel) _ _ _).trans (zq_ic_ne rfl rfl)
theorem e210_94 (ls st : List Value) (w : zH) : zrun none (210, 94, ls, st, w) = zrun none (210, 95, ls, (.int 1 :: st), w) := (zE_ (i := .iconst 1) (by decide +kernel) _ _ _).trans rfl
theorem e210_95 (ls st : List Value) (w : zH) : zrun none (210, 95, ls, st, w) = zrun none (210, 99, ls, st, w) := (zE_ (i := .goto 4) (by decide +kernel) _ _ _).trans rfl
theorem e210_98 (ls st : List Value) (w : zH) : zrun none (210, 98, ls, st, w) = zrun none (210, 99, ls, (.int (-1) :: st), w) := (zE_ (i := .iconst (-1)) (by decide +kernel) _ _ _).trans rfl
theorem e210_99 (ls : List Value) (a b : Int32) (st : List Value) (w : zH) : zrun none (210, 99, ls, (.int b :: .int a :: st), w) = zrun none (210, 100, ls, (.int (a + b) :: st), w) := (zE_ (i := .iadd) (by decide +kernel) _ _ _).trans rfl
theorem e210_100 (v0 v1 v2 v3 v4 v5 : Value) (x : Int32) (st : List Value) (w : zH) (h : v3.category = 1) : zrun none (210, 100, [v0, v1, v2, v3, v4, v5], (.int x :: st), w) = zrun none (210, 102, [v0, v1, v2, v3, .int x, v5], st, w) := by
  refine (zE_ (i := .istore 4) (by decide +kernel) _ _ _).trans ?_
  have hz : zfree [v0, v1, v2, v3, v4, v5] 4 = true := by show decide (v3.category = 1) = true; exact decide_eq_true h
  show zres (zst zint 4 2 210 100 [v0, v1, v2, v3, v4, v5] (.int x :: st) w) = _
  unfold zst
  dsimp only
  rw [if_pos ⟨rfl, Nat.le_of_ble_eq_true rfl, hz⟩]
  rfl
theorem e210_102 (v0 v1 v2 v3 v4 : Value) (x : Int32) (st : List Value) (w : zH) : zrun none (210, 102, [v0, v1, v2, v3, v4, .int x], st, w) = zrun none (210, 105, [v0, v1, v2, v3, v4, .int (x + 1)], st, w) := (zE_ (i := .iinc 5 1) (by decide +kernel) _ _ _).trans rfl
theorem e210_105 (ls st : List Value) (w : zH) : zrun none (210, 105, ls, st, w) = zrun none (210, 45, ls, st, w) := (zE_ (i := .goto (-60)) (by decide +kernel) _ _ _).trans rfl
theorem e210_108 (v0 v1 v2 v3 v5 : Value) (x : Int32) (st : List Value) (w : zH) : zrun none (210, 108, [v0, v1, v2, v3, .int x, v5], st, w) = zrun none (210, 110, [v0, v1, v2, v3, .int x, v5], (.int x :: st), w) := (zE_ (i := .iload 4) (by decide +kernel) _ _ _).trans rfl
theorem e210_110 (ls : List Value) (a : Int32) (st : List Value) (w : zH) : zrun none (210, 110, ls, (.int a :: st), w) = if a ≤ 0 then zrun none (210, 117, ls, st, w) else zrun none (210, 113, ls, st, w) := (zE_ (i := .ifCond .le 7) (by decide +kernel) _ _ _).trans (zq_if_le rfl rfl)
theorem e210_113 (ls st : List Value) (w : zH) : zrun none (210, 113, ls, st, w) = zrun none (210, 114, ls, (.int 1 :: st), w) := (zE_ (i := .iconst 1) (by decide +kernel) _ _ _).trans rfl
theorem e210_114 (ls st : List Value) (w : zH) : zrun none (210, 114, ls, st, w) = zrun none (210, 132, ls, st, w) := (zE_ (i := .goto 18) (by decide +kernel) _ _ _).trans rfl
theorem e210_117 (v0 v1 v2 v3 v5 : Value) (x : Int32) (st : List Value) (w : zH) : zrun none (210, 117, [v0, v1, v2, v3, .int x, v5], st, w) = zrun none (210, 119, [v0, v1, v2, v3, .int x, v5], (.int x :: st), w) := (zE_ (i := .iload 4) (by decide +kernel) _ _ _).trans rfl
theorem e210_119 (ls : List Value) (a : Int32) (st : List Value) (w : zH) : zrun none (210, 119, ls, (.int a :: st), w) = if 0 ≤ a then zrun none (210, 126, ls, st, w) else zrun none (210, 122, ls, st, w) := (zE_ (i := .ifCond .ge 7) (by decide +kernel) _ _ _).trans (zq_if_ge rfl rfl)
theorem e210_122 (ls st : List Value) (w : zH) : zrun none (210, 122, ls, st, w) = zrun none (210, 123, ls, (.int 0 :: st), w) := (zE_ (i := .iconst 0) (by decide +kernel) _ _ _).trans rfl
theorem e210_123 (ls st : List Value) (w : zH) : zrun none (210, 123, ls, st, w) = zrun none (210, 132, ls, st, w) := (zE_ (i := .goto 9) (by decide +kernel) _ _ _).trans rfl
theorem e210_126 (v1 v2 v3 v4 v5 : Value) (x : Nat) (st : List Value) (w : zH) : zrun none (210, 126, [.ref x, v1, v2, v3, v4, v5], st, w) = zrun none (210, 127, [.ref x, v1, v2, v3, v4, v5], (.ref x :: st), w) := (zE_ (i := .aload_n 0) (by decide +kernel) _ _ _).trans rfl
theorem e210_127 (ls : List Value) (a : Nat) (st : List Value) (w : zH) : zrun none (210, 127, ls, (.ref a :: st), w) = zo (zf w a 1246) (fun x => zrun none (210, 130, ls, (x :: st), w)) := (zE_ (i := .getfield 1246) (by decide +kernel) _ _ _).trans zq_getf
theorem e210_130 (v0 v1 v2 v4 v5 : Value) (x : Int32) (st : List Value) (w : zH) : zrun none (210, 130, [v0, v1, v2, .int x, v4, v5], st, w) = zrun none (210, 131, [v0, v1, v2, .int x, v4, v5], (.int x :: st), w) := (zE_ (i := .iload_n 3) (by decide +kernel) _ _ _).trans rfl
theorem e210_131 (ls : List Value) (j : Int32) (a : Nat) (st : List Value) (w : zH) : zrun none (210, 131, ls, (.int j :: .ref a :: st), w) = zoi (zai w a 100 j) (fun x => zrun none (210, 132, ls, (.int x :: st), w)) := (zE_ (i := .iaload) (by decide +kernel) _ _ _).trans zq_iald
theorem e210_132 (ls : List Value) (x : Int32) (w : zH) : zrun none (210, 132, ls, [.int x], w) = some (some (.int x), w) := by
  refine (zE_ (i := .ireturn) (by decide +kernel) _ _ _).trans ?_
  show zres (if narrow .int (.int x) = .int x then _ else none) = _
  rw [if_pos (show narrow .int (.int x) = .int x from rfl)]
  rfl
theorem e211_0 (v1 : Value) (x : Int32) (st : List Value) (w : zH) : zrun none (211, 0, [.int x, v1], st, w) = zrun none (211, 1, [.int x, v1], (.int x :: st), w) := (zE_ (i := .iload_n 0) (by decide +kernel) _ _ _).trans rfl
theorem e211_1 (ls : List Value) (a : Int32) (st : List Value) (w : zH) : zrun none (211, 1, ls, (.int a :: st), w) = if a < 0 then zrun none (211, 10, ls, st, w) else zrun none (211, 4, ls, st, w) := (zE_ (i := .ifCond .lt 9) (by decide +kernel) _ _ _).trans (zq_if_lt rfl rfl)
theorem e211_4 (v1 : Value) (x : Int32) (st : List Value) (w : zH) : zrun none (211, 4, [.int x, v1], st, w) = zrun none (211, 5, [.int x, v1], (.int x :: st), w) := (zE_ (i := .iload_n 0) (by decide +kernel) _ _ _).trans rfl
theorem e211_5 (v0 : Value) (x : Int32) (st : List Value) (w : zH) : zrun none (211, 5, [v0, .int x], st, w) = zrun none (211, 6, [v0, .int x], (.int x :: st), w) := (zE_ (i := .iload_n 1) (by decide +kernel) _ _ _).trans rfl
theorem e211_6 (ls : List Value) (a b : Int32) (st : List Value) (w : zH) (h : ¬ b = 0) : zrun none (211, 6, ls, (.int b :: .int a :: st), w) = zrun none (211, 7, ls, (.int (a / b) :: st), w) := by
  refine (zE_ (i := .idiv) (by decide +kernel) _ _ _).trans ?_
  simp only [zI, if_neg h]
  rfl
theorem e211_7 (ls st : List Value) (w : zH) : zrun none (211, 7, ls, st, w) = zrun none (211, 18, ls, st, w) := (zE_ (i := .goto 11) (by decide +kernel) _ _ _).trans rfl
theorem e211_10 (v0 : Value) (x : Int32) (st : List Value) (w : zH) : zrun none (211, 10, [v0, .int x], st, w) = zrun none (211, 11, [v0, .int x], (.int x :: st), w) := (zE_ (i := .iload_n 1) (by decide +kernel) _ _ _).trans rfl
theorem e211_11 (ls st : List Value) (w : zH) : zrun none (211, 11, ls, st, w) = zrun none (211, 12, ls, (.int 1 :: st), w) := (zE_ (i := .iconst 1) (by decide +kernel) _ _ _).trans rfl
theorem e211_12 (ls : List Value) (a b : Int32) (st : List Value) (w : zH) : zrun none (211, 12, ls, (.int b :: .int a :: st), w) = zrun none (211, 13, ls, (.int (a - b) :: st), w) := (zE_ (i := .isub) (by decide +kernel) _ _ _).trans rfl
theorem e211_13 (v1 : Value) (x : Int32) (st : List Value) (w : zH) : zrun none (211, 13, [.int x, v1], st, w) = zrun none (211, 14, [.int x, v1], (.int x :: st), w) := (zE_ (i := .iload_n 0) (by decide +kernel) _ _ _).trans rfl
theorem e211_14 (ls : List Value) (a b : Int32) (st : List Value) (w : zH) : zrun none (211, 14, ls, (.int b :: .int a :: st), w) = zrun none (211, 15, ls, (.int (a - b) :: st), w) := (zE_ (i := .isub) (by decide +kernel) _ _ _).trans rfl
theorem e211_15 (v0 : Value) (x : Int32) (st : List Value) (w : zH) : zrun none (211, 15, [v0, .int x], st, w) = zrun none (211, 16, [v0, .int x], (.int x :: st), w) := (zE_ (i := .iload_n 1) (by decide +kernel) _ _ _).trans rfl
theorem e211_16 (ls : List Value) (a b : Int32) (st : List Value) (w : zH) (h : ¬ b = 0) : zrun none (211, 16, ls, (.int b :: .int a :: st), w) = zrun none (211, 17, ls, (.int (a / b) :: st), w) := by
  refine (zE_ (i := .idiv) (by decide +kernel) _ _ _).trans ?_
  simp only [zI, if_neg h]
  rfl
theorem e211_17 (ls : List Value) (a : Int32) (st : List Value) (w : zH) : zrun none (211, 17, ls, (.int a :: st), w) = zrun none (211, 18, ls, (.int (-a) :: st), w) := (zE_ (i := .ineg) (by decide +kernel) _ _ _).trans rfl
theorem e211_18 (ls : List Value) (x : Int32) (w : zH) : zrun none (211, 18, ls, [.int x], w) = some (some (.int x), w) := by
  refine (zE_ (i := .ireturn) (by decide +kernel) _ _ _).trans ?_
  show zres (if narrow .int (.int x) = .int x then _ else none) = _
  rw [if_pos (show narrow .int (.int x) = .int x from rfl)]
  rfl
theorem e212_0 (x : Int32) (st : List Value) (w : zH) : zrun none (212, 0, [.int x], st, w) = zrun none (212, 1, [.int x], (.int x :: st), w) := (zE_ (i := .iload_n 0) (by decide +kernel) _ _ _).trans rfl
theorem e212_1 (ls : List Value) (a : Int32) (st : List Value) (w : zH) : zrun none (212, 1, ls, (.int a :: st), w) = if 0 ≤ a then zrun none (212, 9, ls, st, w) else zrun none (212, 4, ls, st, w) := (zE_ (i := .ifCond .ge 8) (by decide +kernel) _ _ _).trans (zq_if_ge rfl rfl)
theorem e212_4 (x : Int32) (st : List Value) (w : zH) : zrun none (212, 4, [.int x], st, w) = zrun none (212, 5, [.int x], (.int x :: st), w) := (zE_ (i := .iload_n 0) (by decide +kernel) _ _ _).trans rfl
theorem e212_5 (ls : List Value) (a : Int32) (st : List Value) (w : zH) : zrun none (212, 5, ls, (.int a :: st), w) = zrun none (212, 6, ls, (.int (-a) :: st), w) := (zE_ (i := .ineg) (by decide +kernel) _ _ _).trans rfl
theorem e212_6 (ls st : List Value) (w : zH) : zrun none (212, 6, ls, st, w) = zrun none (212, 10, ls, st, w) := (zE_ (i := .goto 4) (by decide +kernel) _ _ _).trans rfl
theorem e212_9 (x : Int32) (st : List Value) (w : zH) : zrun none (212, 9, [.int x], st, w) = zrun none (212, 10, [.int x], (.int x :: st), w) := (zE_ (i := .iload_n 0) (by decide +kernel) _ _ _).trans rfl
theorem e212_10 (ls : List Value) (x : Int32) (w : zH) : zrun none (212, 10, ls, [.int x], w) = some (some (.int x), w) := by
  refine (zE_ (i := .ireturn) (by decide +kernel) _ _ _).trans ?_
  show zres (if narrow .int (.int x) = .int x then _ else none) = _
  rw [if_pos (show narrow .int (.int x) = .int x from rfl)]
  rfl
theorem e213_0 (v1 v2 v3 v4 v5 v6 v7 v8 v9 v10 v11 v12 v13 v14 : Value) (x : Nat) (st : List Value) (w : zH) : zrun none (213, 0, [.ref x, v1, v2, v3, v4, v5, v6, v7, v8, v9, v10, v11, v12, v13, v14], st, w) = zrun none (213, 1, [.ref x, v1, v2, v3, v4, v5, v6, v7, v8, v9, v10, v11, v12, v13, v14], (.ref x :: st), w) := (zE_ (i := .aload_n 0) (by decide +kernel) _ _ _).trans rfl
theorem e213_1 (ls st : List Value) (w : zH) : zrun none (213, 1, ls, st, w) = zrun none (213, 2, ls, (.int 0 :: st), w) := (zE_ (i := .iconst 0) (by decide +kernel) _ _ _).trans rfl
theorem e213_2 (ls : List Value) (x : Int32) (a : Nat) (st : List Value) (w : zH) : zrun none (213, 2, ls, (.int x :: .ref a :: st), w) = zgd (a < zX ∧ (zf w a 1200).isSome = true) (zrun none (213, 5, ls, st, zpf w a 1200 (.int x))) := by
  refine (zE_ (i := .putfield 1200) (by decide +kernel) _ _ _).trans ?_
  by_cases hg : a < zX ∧ (zf w a 1200).isSome = true
  · rw [zgd_pos hg]
    obtain ⟨ha, h⟩ := hg
    exact zq_putf ha h rfl rfl
  · rw [zgd_neg hg]
    exact zq_putf_no (fun h1 h2 h3 => hg ⟨h1, h2⟩)
theorem e213_5 (v0 v2 v3 v4 v5 v6 v7 v8 v9 v10 v11 v12 v13 v14 : Value) (x : Int32) (st : List Value) (w : zH) : zrun none (213, 5, [v0, .int x, v2, v3, v4, v5, v6, v7, v8, v9, v10, v11, v12, v13, v14], st, w) = zrun none (213, 6, [v0, .int x, v2, v3, v4, v5, v6, v7, v8, v9, v10, v11, v12, v13, v14], (.int x :: st), w) := (zE_ (i := .iload_n 1) (by decide +kernel) _ _ _).trans rfl
theorem e213_6 (ls : List Value) (x0 : Int32) (st : List Value) (w : zH) (hr : zcat st ≤ 8) : zrun none (213, 6, ls, (.int x0 :: st), w) = zcl (zrun none (149, 0, [.int x0], [], w)) (fun r => zrun none (213, 9, ls, r.1.toList ++ st, r.2)) := by
  refine (zE_ (i := .invokestatic 149) (by decide +kernel) _ _ _).trans ?_
  show zres (if (99 : Nat) = 99 ∧ 1 ≤ ((.int x0 :: st) : List Value).length then zcall 149 [.int x0] st 213 6 ls w else none) = _
  rw [if_pos ⟨rfl, by simp⟩]
  exact zq_call hr (Nat.le_of_ble_eq_true rfl) rfl rfl
theorem e213_9 (ls : List Value) (a : Int32) (st : List Value) (w : zH) : zrun none (213, 9, ls, (.int a :: st), w) = if a = 0 then zrun none (213, 74, ls, st, w) else zrun none (213, 12, ls, st, w) := (zE_ (i := .ifCond .eq 65) (by decide +kernel) _ _ _).trans (zq_if_eq rfl rfl)
theorem e213_12 (v0 v1 v3 v4 v5 v6 v7 v8 v9 v10 v11 v12 v13 v14 : Value) (x : Int32) (st : List Value) (w : zH) : zrun none (213, 12, [v0, v1, .int x, v3, v4, v5, v6, v7, v8, v9, v10, v11, v12, v13, v14], st, w) = zrun none (213, 13, [v0, v1, .int x, v3, v4, v5, v6, v7, v8, v9, v10, v11, v12, v13, v14], (.int x :: st), w) := (zE_ (i := .iload_n 2) (by decide +kernel) _ _ _).trans rfl
theorem e213_13 (ls : List Value) (a : Int32) (st : List Value) (w : zH) : zrun none (213, 13, ls, (.int a :: st), w) = zrun none (213, 14, ls, (.long a.toInt64 :: st), w) := (zE_ (i := .i2l) (by decide +kernel) _ _ _).trans rfl
theorem e213_14 (ls st : List Value) (w : zH) : zrun none (213, 14, ls, st, w) = zrun none (213, 15, ls, (.long 0 :: st), w) := (zE_ (i := .lconst 0) (by decide +kernel) _ _ _).trans rfl
theorem e213_15 (ls st : List Value) (w : zH) : zrun none (213, 15, ls, st, w) = zrun none (213, 18, ls, (.long 9 :: st), w) := (zE_ (i := .ldc2_w 9) (by decide +kernel) _ _ _).trans rfl
theorem e213_18 (ls : List Value) (x0 : Int64) (x1 : Int64) (x2 : Int64) (st : List Value) (w : zH) (hr : zcat st ≤ 8) : zrun none (213, 18, ls, (.long x2 :: .long x1 :: .long x0 :: st), w) = zcl (zrun none (146, 0, [.long x0, zJ, .long x1, zJ, .long x2, zJ], [], w)) (fun r => zrun none (213, 21, ls, r.1.toList ++ st, r.2)) := by
  refine (zE_ (i := .invokestatic 146) (by decide +kernel) _ _ _).trans ?_
  show zres (if (99 : Nat) = 99 ∧ 3 ≤ ((.long x2 :: .long x1 :: .long x0 :: st) : List Value).length then zcall 146 [.long x0, .long x1, .long x2] st 213 18 ls w else none) = _
  rw [if_pos ⟨rfl, by simp⟩]
  exact zq_call hr (Nat.le_of_ble_eq_true rfl) rfl rfl
theorem e213_21 (ls : List Value) (a : Int32) (st : List Value) (w : zH) : zrun none (213, 21, ls, (.int a :: st), w) = if a = 0 then zrun none (213, 74, ls, st, w) else zrun none (213, 24, ls, st, w) := (zE_ (i := .ifCond .eq 53) (by decide +kernel) _ _ _).trans (zq_if_eq rfl rfl)
theorem e213_24 (v0 v1 v2 v4 v5 v6 v7 v8 v9 v10 v11 v12 v13 v14 : Value) (x : Int32) (st : List Value) (w : zH) : zrun none (213, 24, [v0, v1, v2, .int x, v4, v5, v6, v7, v8, v9, v10, v11, v12, v13, v14], st, w) = zrun none (213, 25, [v0, v1, v2, .int x, v4, v5, v6, v7, v8, v9, v10, v11, v12, v13, v14], (.int x :: st), w) := (zE_ (i := .iload_n 3) (by decide +kernel) _ _ _).trans rfl
theorem e213_25 (ls : List Value) (a : Int32) (st : List Value) (w : zH) : zrun none (213, 25, ls, (.int a :: st), w) = zrun none (213, 26, ls, (.long a.toInt64 :: st), w) := (zE_ (i := .i2l) (by decide +kernel) _ _ _).trans rfl
theorem e213_26 (ls st : List Value) (w : zH) : zrun none (213, 26, ls, st, w) = zrun none (213, 27, ls, (.long 0 :: st), w) := (zE_ (i := .lconst 0) (by decide +kernel) _ _ _).trans rfl
theorem e213_27 (ls st : List Value) (w : zH) : zrun none (213, 27, ls, st, w) = zrun none (213, 30, ls, (.long 9 :: st), w) := (zE_ (i := .ldc2_w 9) (by decide +kernel) _ _ _).trans rfl
theorem e213_30 (ls : List Value) (x0 : Int64) (x1 : Int64) (x2 : Int64) (st : List Value) (w : zH) (hr : zcat st ≤ 8) : zrun none (213, 30, ls, (.long x2 :: .long x1 :: .long x0 :: st), w) = zcl (zrun none (146, 0, [.long x0, zJ, .long x1, zJ, .long x2, zJ], [], w)) (fun r => zrun none (213, 33, ls, r.1.toList ++ st, r.2)) := by
  refine (zE_ (i := .invokestatic 146) (by decide +kernel) _ _ _).trans ?_
  show zres (if (99 : Nat) = 99 ∧ 3 ≤ ((.long x2 :: .long x1 :: .long x0 :: st) : List Value).length then zcall 146 [.long x0, .long x1, .long x2] st 213 30 ls w else none) = _
  rw [if_pos ⟨rfl, by simp⟩]
  exact zq_call hr (Nat.le_of_ble_eq_true rfl) rfl rfl
theorem e213_33 (ls : List Value) (a : Int32) (st : List Value) (w : zH) : zrun none (213, 33, ls, (.int a :: st), w) = if a = 0 then zrun none (213, 74, ls, st, w) else zrun none (213, 36, ls, st, w) := (zE_ (i := .ifCond .eq 41) (by decide +kernel) _ _ _).trans (zq_if_eq rfl rfl)
theorem e213_36 (v0 v1 v2 v3 v5 v6 v7 v8 v9 v10 v11 v12 v13 v14 : Value) (x : Int32) (st : List Value) (w : zH) : zrun none (213, 36, [v0, v1, v2, v3, .int x, v5, v6, v7, v8, v9, v10, v11, v12, v13, v14], st, w) = zrun none (213, 38, [v0, v1, v2, v3, .int x, v5, v6, v7, v8, v9, v10, v11, v12, v13, v14], (.int x :: st), w) := (zE_ (i := .iload 4) (by decide +kernel) _ _ _).trans rfl
theorem e213_38 (ls : List Value) (a : Int32) (st : List Value) (w : zH) : zrun none (213, 38, ls, (.int a :: st), w) = zrun none (213, 39, ls, (.long a.toInt64 :: st), w) := (zE_ (i := .i2l) (by decide +kernel) _ _ _).trans rfl
theorem e213_39 (ls st : List Value) (w : zH) : zrun none (213, 39, ls, st, w) = zrun none (213, 40, ls, (.long 0 :: st), w) := (zE_ (i := .lconst 0) (by decide +kernel) _ _ _).trans rfl
theorem e213_40 (ls st : List Value) (w : zH) : zrun none (213, 40, ls, st, w) = zrun none (213, 43, ls, (.long 9 :: st), w) := (zE_ (i := .ldc2_w 9) (by decide +kernel) _ _ _).trans rfl
theorem e213_43 (ls : List Value) (x0 : Int64) (x1 : Int64) (x2 : Int64) (st : List Value) (w : zH) (hr : zcat st ≤ 8) : zrun none (213, 43, ls, (.long x2 :: .long x1 :: .long x0 :: st), w) = zcl (zrun none (146, 0, [.long x0, zJ, .long x1, zJ, .long x2, zJ], [], w)) (fun r => zrun none (213, 46, ls, r.1.toList ++ st, r.2)) := by
  refine (zE_ (i := .invokestatic 146) (by decide +kernel) _ _ _).trans ?_
  show zres (if (99 : Nat) = 99 ∧ 3 ≤ ((.long x2 :: .long x1 :: .long x0 :: st) : List Value).length then zcall 146 [.long x0, .long x1, .long x2] st 213 43 ls w else none) = _
  rw [if_pos ⟨rfl, by simp⟩]
  exact zq_call hr (Nat.le_of_ble_eq_true rfl) rfl rfl
theorem e213_46 (ls : List Value) (a : Int32) (st : List Value) (w : zH) : zrun none (213, 46, ls, (.int a :: st), w) = if a = 0 then zrun none (213, 74, ls, st, w) else zrun none (213, 49, ls, st, w) := (zE_ (i := .ifCond .eq 28) (by decide +kernel) _ _ _).trans (zq_if_eq rfl rfl)
theorem e213_49 (v0 v1 v2 v3 v4 v6 v7 v8 v9 v10 v11 v12 v13 v14 : Value) (x : Int32) (st : List Value) (w : zH) : zrun none (213, 49, [v0, v1, v2, v3, v4, .int x, v6, v7, v8, v9, v10, v11, v12, v13, v14], st, w) = zrun none (213, 51, [v0, v1, v2, v3, v4, .int x, v6, v7, v8, v9, v10, v11, v12, v13, v14], (.int x :: st), w) := (zE_ (i := .iload 5) (by decide +kernel) _ _ _).trans rfl
theorem e213_51 (ls : List Value) (a : Int32) (st : List Value) (w : zH) : zrun none (213, 51, ls, (.int a :: st), w) = zrun none (213, 52, ls, (.long a.toInt64 :: st), w) := (zE_ (i := .i2l) (by decide +kernel) _ _ _).trans rfl
theorem e213_52 (ls st : List Value) (w : zH) : zrun none (213, 52, ls, st, w) = zrun none (213, 53, ls, (.long 0 :: st), w) := (zE_ (i := .lconst 0) (by decide +kernel) _ _ _).trans rfl
theorem e213_53 (ls st : List Value) (w : zH) : zrun none (213, 53, ls, st, w) = zrun none (213, 56, ls, (.long 9 :: st), w) := (zE_ (i := .ldc2_w 9) (by decide +kernel) _ _ _).trans rfl
theorem e213_56 (ls : List Value) (x0 : Int64) (x1 : Int64) (x2 : Int64) (st : List Value) (w : zH) (hr : zcat st ≤ 8) : zrun none (213, 56, ls, (.long x2 :: .long x1 :: .long x0 :: st), w) = zcl (zrun none (146, 0, [.long x0, zJ, .long x1, zJ, .long x2, zJ], [], w)) (fun r => zrun none (213, 59, ls, r.1.toList ++ st, r.2)) := by
  refine (zE_ (i := .invokestatic 146) (by decide +kernel) _ _ _).trans ?_
  show zres (if (99 : Nat) = 99 ∧ 3 ≤ ((.long x2 :: .long x1 :: .long x0 :: st) : List Value).length then zcall 146 [.long x0, .long x1, .long x2] st 213 56 ls w else none) = _
  rw [if_pos ⟨rfl, by simp⟩]
  exact zq_call hr (Nat.le_of_ble_eq_true rfl) rfl rfl
theorem e213_59 (ls : List Value) (a : Int32) (st : List Value) (w : zH) : zrun none (213, 59, ls, (.int a :: st), w) = if a = 0 then zrun none (213, 74, ls, st, w) else zrun none (213, 62, ls, st, w) := (zE_ (i := .ifCond .eq 15) (by decide +kernel) _ _ _).trans (zq_if_eq rfl rfl)
theorem e213_62 (v0 v1 v3 v4 v5 v6 v7 v8 v9 v10 v11 v12 v13 v14 : Value) (x : Int32) (st : List Value) (w : zH) : zrun none (213, 62, [v0, v1, .int x, v3, v4, v5, v6, v7, v8, v9, v10, v11, v12, v13, v14], st, w) = zrun none (213, 63, [v0, v1, .int x, v3, v4, v5, v6, v7, v8, v9, v10, v11, v12, v13, v14], (.int x :: st), w) := (zE_ (i := .iload_n 2) (by decide +kernel) _ _ _).trans rfl
theorem e213_63 (v0 v1 v2 v3 v5 v6 v7 v8 v9 v10 v11 v12 v13 v14 : Value) (x : Int32) (st : List Value) (w : zH) : zrun none (213, 63, [v0, v1, v2, v3, .int x, v5, v6, v7, v8, v9, v10, v11, v12, v13, v14], st, w) = zrun none (213, 65, [v0, v1, v2, v3, .int x, v5, v6, v7, v8, v9, v10, v11, v12, v13, v14], (.int x :: st), w) := (zE_ (i := .iload 4) (by decide +kernel) _ _ _).trans rfl
theorem e213_65 (ls : List Value) (a b : Int32) (st : List Value) (w : zH) : zrun none (213, 65, ls, (.int b :: .int a :: st), w) = if a = b then zrun none (213, 68, ls, st, w) else zrun none (213, 77, ls, st, w) := (zE_ (i := .if_icmp .ne 12) (by decide +kernel) _ _ _).trans (zq_ic_ne rfl rfl)
theorem e213_68 (v0 v1 v2 v4 v5 v6 v7 v8 v9 v10 v11 v12 v13 v14 : Value) (x : Int32) (st : List Value) (w : zH) : zrun none (213, 68, [v0, v1, v2, .int x, v4, v5, v6, v7, v8, v9, v10, v11, v12, v13, v14], st, w) = zrun none (213, 69, [v0, v1, v2, .int x, v4, v5, v6, v7, v8, v9, v10, v11, v12, v13, v14], (.int x :: st), w) := (zE_ (i := .iload_n 3) (by decide +kernel) _ _ _).trans rfl
theorem e213_69 (v0 v1 v2 v3 v4 v6 v7 v8 v9 v10 v11 v12 v13 v14 : Value) (x : Int32) (st : List Value) (w : zH) : zrun none (213, 69, [v0, v1, v2, v3, v4, .int x, v6, v7, v8, v9, v10, v11, v12, v13, v14], st, w) = zrun none (213, 71, [v0, v1, v2, v3, v4, .int x, v6, v7, v8, v9, v10, v11, v12, v13, v14], (.int x :: st), w) := (zE_ (i := .iload 5) (by decide +kernel) _ _ _).trans rfl
theorem e213_71 (ls : List Value) (a b : Int32) (st : List Value) (w : zH) : zrun none (213, 71, ls, (.int b :: .int a :: st), w) = if a = b then zrun none (213, 74, ls, st, w) else zrun none (213, 77, ls, st, w) := (zE_ (i := .if_icmp .ne 6) (by decide +kernel) _ _ _).trans (zq_ic_ne rfl rfl)
theorem e213_74 (ls st : List Value) (w : zH) : zrun none (213, 74, ls, st, w) = zrun none (213, 76, ls, (.int (-1000001) :: st), w) := (zE_ (i := .bipush (-1000001)) (by decide +kernel) _ _ _).trans rfl
theorem e213_76 (ls : List Value) (x : Int32) (w : zH) : zrun none (213, 76, ls, [.int x], w) = some (some (.int x), w) := by
  refine (zE_ (i := .ireturn) (by decide +kernel) _ _ _).trans ?_
  show zres (if narrow .int (.int x) = .int x then _ else none) = _
  rw [if_pos (show narrow .int (.int x) = .int x from rfl)]
  rfl
theorem e213_77 (v1 v2 v3 v4 v5 v6 v7 v8 v9 v10 v11 v12 v13 v14 : Value) (x : Nat) (st : List Value) (w : zH) : zrun none (213, 77, [.ref x, v1, v2, v3, v4, v5, v6, v7, v8, v9, v10, v11, v12, v13, v14], st, w) = zrun none (213, 78, [.ref x, v1, v2, v3, v4, v5, v6, v7, v8, v9, v10, v11, v12, v13, v14], (.ref x :: st), w) := (zE_ (i := .aload_n 0) (by decide +kernel) _ _ _).trans rfl
theorem e213_78 (ls : List Value) (a : Nat) (st : List Value) (w : zH) : zrun none (213, 78, ls, (.ref a :: st), w) = zo (zf w a 1202) (fun x => zrun none (213, 81, ls, (x :: st), w)) := (zE_ (i := .getfield 1202) (by decide +kernel) _ _ _).trans zq_getf
theorem e213_81 (v0 v2 v3 v4 v5 v6 v7 v8 v9 v10 v11 v12 v13 v14 : Value) (x : Int32) (st : List Value) (w : zH) : zrun none (213, 81, [v0, .int x, v2, v3, v4, v5, v6, v7, v8, v9, v10, v11, v12, v13, v14], st, w) = zrun none (213, 82, [v0, .int x, v2, v3, v4, v5, v6, v7, v8, v9, v10, v11, v12, v13, v14], (.int x :: st), w) := (zE_ (i := .iload_n 1) (by decide +kernel) _ _ _).trans rfl
theorem e213_82 (ls : List Value) (j : Int32) (a : Nat) (st : List Value) (w : zH) : zrun none (213, 82, ls, (.int j :: .ref a :: st), w) = zoi (zai w a 100 j) (fun x => zrun none (213, 83, ls, (.int x :: st), w)) := (zE_ (i := .iaload) (by decide +kernel) _ _ _).trans zq_iald
theorem e213_83 (ls : List Value) (a : Int32) (st : List Value) (w : zH) : zrun none (213, 83, ls, (.int a :: st), w) = if 0 ≤ a then zrun none (213, 92, ls, st, w) else zrun none (213, 86, ls, st, w) := (zE_ (i := .ifCond .ge 9) (by decide +kernel) _ _ _).trans (zq_if_ge rfl rfl)
theorem e213_86 (v1 v2 v3 v4 v5 v6 v7 v8 v9 v10 v11 v12 v13 v14 : Value) (x : Nat) (st : List Value) (w : zH) : zrun none (213, 86, [.ref x, v1, v2, v3, v4, v5, v6, v7, v8, v9, v10, v11, v12, v13, v14], st, w) = zrun none (213, 87, [.ref x, v1, v2, v3, v4, v5, v6, v7, v8, v9, v10, v11, v12, v13, v14], (.ref x :: st), w) := (zE_ (i := .aload_n 0) (by decide +kernel) _ _ _).trans rfl
theorem e213_87 (ls st : List Value) (w : zH) : zrun none (213, 87, ls, st, w) = zrun none (213, 88, ls, (.int 1 :: st), w) := (zE_ (i := .iconst 1) (by decide +kernel) _ _ _).trans rfl
theorem e213_88 (ls : List Value) (a : Nat) (x0 : Int32) (st : List Value) (w : zH) (hr : zcat st ≤ 8) : zrun none (213, 88, ls, (.int x0 :: .ref a :: st), w) = zgd (zis w a 12) (zcl (zrun none (147, 0, [.ref a, .int x0], [], w)) (fun r => zrun none (213, 91, ls, r.1.toList ++ st, r.2))) := by
  refine (zE_ (i := .invokevirtual 147) (by decide +kernel) _ _ _).trans ?_
  show zres (zinv none 147 213 88 ls (.int x0 :: .ref a :: st) w) = _
  unfold zinv
  show zres (if zrc none 147 w (.ref a) = true then zcall 147 [.ref a, .int x0] st 213 88 ls w else none) = _
  by_cases hc : zis w a 12
  · rw [if_pos (zrc_is hc (by decide +kernel)), zgd_pos hc]
    exact zq_call hr (Nat.le_of_ble_eq_true rfl) rfl rfl
  · rw [zgd_neg hc, if_neg (fun q => hc (zrc_of q (by decide +kernel)))]
    rfl
theorem e213_91 (ls : List Value) (x : Int32) (w : zH) : zrun none (213, 91, ls, [.int x], w) = some (some (.int x), w) := by
  refine (zE_ (i := .ireturn) (by decide +kernel) _ _ _).trans ?_
  show zres (if narrow .int (.int x) = .int x then _ else none) = _
  rw [if_pos (show narrow .int (.int x) = .int x from rfl)]
  rfl
theorem e213_92 (v1 v2 v3 v4 v5 v6 v7 v8 v9 v10 v11 v12 v13 v14 : Value) (x : Nat) (st : List Value) (w : zH) : zrun none (213, 92, [.ref x, v1, v2, v3, v4, v5, v6, v7, v8, v9, v10, v11, v12, v13, v14], st, w) = zrun none (213, 93, [.ref x, v1, v2, v3, v4, v5, v6, v7, v8, v9, v10, v11, v12, v13, v14], (.ref x :: st), w) := (zE_ (i := .aload_n 0) (by decide +kernel) _ _ _).trans rfl
theorem e213_93 (ls : List Value) (a : Nat) (st : List Value) (w : zH) : zrun none (213, 93, ls, (.ref a :: st), w) = zo (zf w a 1203) (fun x => zrun none (213, 96, ls, (x :: st), w)) := (zE_ (i := .getfield 1203) (by decide +kernel) _ _ _).trans zq_getf
theorem e213_96 (v0 v2 v3 v4 v5 v6 v7 v8 v9 v10 v11 v12 v13 v14 : Value) (x : Int32) (st : List Value) (w : zH) : zrun none (213, 96, [v0, .int x, v2, v3, v4, v5, v6, v7, v8, v9, v10, v11, v12, v13, v14], st, w) = zrun none (213, 97, [v0, .int x, v2, v3, v4, v5, v6, v7, v8, v9, v10, v11, v12, v13, v14], (.int x :: st), w) := (zE_ (i := .iload_n 1) (by decide +kernel) _ _ _).trans rfl
theorem e213_97 (ls : List Value) (j : Int32) (a : Nat) (st : List Value) (w : zH) : zrun none (213, 97, ls, (.int j :: .ref a :: st), w) = zoi (zai w a 100 j) (fun x => zrun none (213, 98, ls, (.int x :: st), w)) := (zE_ (i := .iaload) (by decide +kernel) _ _ _).trans zq_iald
theorem e213_98 (ls st : List Value) (w : zH) : zrun none (213, 98, ls, st, w) = zrun none (213, 100, ls, (.int 100 :: st), w) := (zE_ (i := .bipush 100) (by decide +kernel) _ _ _).trans rfl
theorem e213_100 (ls : List Value) (a b : Int32) (st : List Value) (w : zH) : zrun none (213, 100, ls, (.int b :: .int a :: st), w) = if b ≤ a then zrun none (213, 109, ls, st, w) else zrun none (213, 103, ls, st, w) := (zE_ (i := .if_icmp .ge 9) (by decide +kernel) _ _ _).trans (zq_ic_ge rfl rfl)
theorem e213_103 (v1 v2 v3 v4 v5 v6 v7 v8 v9 v10 v11 v12 v13 v14 : Value) (x : Nat) (st : List Value) (w : zH) : zrun none (213, 103, [.ref x, v1, v2, v3, v4, v5, v6, v7, v8, v9, v10, v11, v12, v13, v14], st, w) = zrun none (213, 104, [.ref x, v1, v2, v3, v4, v5, v6, v7, v8, v9, v10, v11, v12, v13, v14], (.ref x :: st), w) := (zE_ (i := .aload_n 0) (by decide +kernel) _ _ _).trans rfl
theorem e213_104 (ls st : List Value) (w : zH) : zrun none (213, 104, ls, st, w) = zrun none (213, 105, ls, (.int 2 :: st), w) := (zE_ (i := .iconst 2) (by decide +kernel) _ _ _).trans rfl
theorem e213_105 (ls : List Value) (a : Nat) (x0 : Int32) (st : List Value) (w : zH) (hr : zcat st ≤ 8) : zrun none (213, 105, ls, (.int x0 :: .ref a :: st), w) = zgd (zis w a 12) (zcl (zrun none (147, 0, [.ref a, .int x0], [], w)) (fun r => zrun none (213, 108, ls, r.1.toList ++ st, r.2))) := by
  refine (zE_ (i := .invokevirtual 147) (by decide +kernel) _ _ _).trans ?_
  show zres (zinv none 147 213 105 ls (.int x0 :: .ref a :: st) w) = _
  unfold zinv
  show zres (if zrc none 147 w (.ref a) = true then zcall 147 [.ref a, .int x0] st 213 105 ls w else none) = _
  by_cases hc : zis w a 12
  · rw [if_pos (zrc_is hc (by decide +kernel)), zgd_pos hc]
    exact zq_call hr (Nat.le_of_ble_eq_true rfl) rfl rfl
  · rw [zgd_neg hc, if_neg (fun q => hc (zrc_of q (by decide +kernel)))]
    rfl
theorem e213_108 (ls : List Value) (x : Int32) (w : zH) : zrun none (213, 108, ls, [.int x], w) = some (some (.int x), w) := by
  refine (zE_ (i := .ireturn) (by decide +kernel) _ _ _).trans ?_
  show zres (if narrow .int (.int x) = .int x then _ else none) = _
  rw [if_pos (show narrow .int (.int x) = .int x from rfl)]
  rfl
theorem e213_109 (ls st : List Value) (w : zH) : zrun none (213, 109, ls, st, w) = zrun none (213, 110, ls, (.int 0 :: st), w) := (zE_ (i := .iconst 0) (by decide +kernel) _ _ _).trans rfl
theorem e213_110 (v0 v1 v2 v3 v4 v5 v6 v7 v8 v9 v10 v11 v12 v13 v14 : Value) (x : Int32) (st : List Value) (w : zH) (h : v5.category = 1) : zrun none (213, 110, [v0, v1, v2, v3, v4, v5, v6, v7, v8, v9, v10, v11, v12, v13, v14], (.int x :: st), w) = zrun none (213, 112, [v0, v1, v2, v3, v4, v5, .int x, v7, v8, v9, v10, v11, v12, v13, v14], st, w) := by
  refine (zE_ (i := .istore 6) (by decide +kernel) _ _ _).trans ?_
  have hz : zfree [v0, v1, v2, v3, v4, v5, v6, v7, v8, v9, v10, v11, v12, v13, v14] 6 = true := by show decide (v5.category = 1) = true; exact decide_eq_true h
  show zres (zst zint 6 2 213 110 [v0, v1, v2, v3, v4, v5, v6, v7, v8, v9, v10, v11, v12, v13, v14] (.int x :: st) w) = _
  unfold zst
  dsimp only
  rw [if_pos ⟨rfl, Nat.le_of_ble_eq_true rfl, hz⟩]
  rfl
theorem e213_112 (v0 v1 v2 v3 v4 v5 v7 v8 v9 v10 v11 v12 v13 v14 : Value) (x : Int32) (st : List Value) (w : zH) : zrun none (213, 112, [v0, v1, v2, v3, v4, v5, .int x, v7, v8, v9, v10, v11, v12, v13, v14], st, w) = zrun none (213, 114, [v0, v1, v2, v3, v4, v5, .int x, v7, v8, v9, v10, v11, v12, v13, v14], (.int x :: st), w) := (zE_ (i := .iload 6) (by decide +kernel) _ _ _).trans rfl
theorem e213_114 (ls st : List Value) (w : zH) : zrun none (213, 114, ls, st, w) = zrun none (213, 116, ls, (.int 100 :: st), w) := (zE_ (i := .bipush 100) (by decide +kernel) _ _ _).trans rfl
theorem e213_116 (ls : List Value) (a b : Int32) (st : List Value) (w : zH) : zrun none (213, 116, ls, (.int b :: .int a :: st), w) = if b ≤ a then zrun none (213, 151, ls, st, w) else zrun none (213, 119, ls, st, w) := (zE_ (i := .if_icmp .ge 35) (by decide +kernel) _ _ _).trans (zq_ic_ge rfl rfl)
theorem e213_119 (v1 v2 v3 v4 v5 v6 v7 v8 v9 v10 v11 v12 v13 v14 : Value) (x : Nat) (st : List Value) (w : zH) : zrun none (213, 119, [.ref x, v1, v2, v3, v4, v5, v6, v7, v8, v9, v10, v11, v12, v13, v14], st, w) = zrun none (213, 120, [.ref x, v1, v2, v3, v4, v5, v6, v7, v8, v9, v10, v11, v12, v13, v14], (.ref x :: st), w) := (zE_ (i := .aload_n 0) (by decide +kernel) _ _ _).trans rfl
theorem e213_120 (ls : List Value) (a : Nat) (st : List Value) (w : zH) : zrun none (213, 120, ls, (.ref a :: st), w) = zo (zf w a 1204) (fun x => zrun none (213, 123, ls, (x :: st), w)) := (zE_ (i := .getfield 1204) (by decide +kernel) _ _ _).trans zq_getf
theorem e213_123 (ls st : List Value) (w : zH) : zrun none (213, 123, ls, st, w) = zrun none (213, 125, ls, (.int 100 :: st), w) := (zE_ (i := .bipush 100) (by decide +kernel) _ _ _).trans rfl
theorem e213_125 (v0 v2 v3 v4 v5 v6 v7 v8 v9 v10 v11 v12 v13 v14 : Value) (x : Int32) (st : List Value) (w : zH) : zrun none (213, 125, [v0, .int x, v2, v3, v4, v5, v6, v7, v8, v9, v10, v11, v12, v13, v14], st, w) = zrun none (213, 126, [v0, .int x, v2, v3, v4, v5, v6, v7, v8, v9, v10, v11, v12, v13, v14], (.int x :: st), w) := (zE_ (i := .iload_n 1) (by decide +kernel) _ _ _).trans rfl
theorem e213_126 (ls : List Value) (a b : Int32) (st : List Value) (w : zH) : zrun none (213, 126, ls, (.int b :: .int a :: st), w) = zrun none (213, 127, ls, (.int (a * b) :: st), w) := (zE_ (i := .imul) (by decide +kernel) _ _ _).trans rfl
theorem e213_127 (v0 v1 v2 v3 v4 v5 v7 v8 v9 v10 v11 v12 v13 v14 : Value) (x : Int32) (st : List Value) (w : zH) : zrun none (213, 127, [v0, v1, v2, v3, v4, v5, .int x, v7, v8, v9, v10, v11, v12, v13, v14], st, w) = zrun none (213, 129, [v0, v1, v2, v3, v4, v5, .int x, v7, v8, v9, v10, v11, v12, v13, v14], (.int x :: st), w) := (zE_ (i := .iload 6) (by decide +kernel) _ _ _).trans rfl
theorem e213_129 (ls : List Value) (a b : Int32) (st : List Value) (w : zH) : zrun none (213, 129, ls, (.int b :: .int a :: st), w) = zrun none (213, 130, ls, (.int (a + b) :: st), w) := (zE_ (i := .iadd) (by decide +kernel) _ _ _).trans rfl
theorem e213_130 (ls : List Value) (j : Int32) (a : Nat) (st : List Value) (w : zH) : zrun none (213, 130, ls, (.int j :: .ref a :: st), w) = zoi (zai w a 100 j) (fun x => zrun none (213, 131, ls, (.int x :: st), w)) := (zE_ (i := .iaload) (by decide +kernel) _ _ _).trans zq_iald
theorem e213_131 (ls : List Value) (a : Int32) (st : List Value) (w : zH) : zrun none (213, 131, ls, (.int a :: st), w) = zrun none (213, 132, ls, (.long a.toInt64 :: st), w) := (zE_ (i := .i2l) (by decide +kernel) _ _ _).trans rfl
theorem e213_132 (ls st : List Value) (w : zH) : zrun none (213, 132, ls, st, w) = zrun none (213, 133, ls, (.long 0 :: st), w) := (zE_ (i := .lconst 0) (by decide +kernel) _ _ _).trans rfl
theorem e213_133 (ls st : List Value) (w : zH) : zrun none (213, 133, ls, st, w) = zrun none (213, 136, ls, (.long 100 :: st), w) := (zE_ (i := .ldc2_w 100) (by decide +kernel) _ _ _).trans rfl
theorem e213_136 (ls : List Value) (x0 : Int64) (x1 : Int64) (x2 : Int64) (st : List Value) (w : zH) (hr : zcat st ≤ 8) : zrun none (213, 136, ls, (.long x2 :: .long x1 :: .long x0 :: st), w) = zcl (zrun none (146, 0, [.long x0, zJ, .long x1, zJ, .long x2, zJ], [], w)) (fun r => zrun none (213, 139, ls, r.1.toList ++ st, r.2)) := by
  refine (zE_ (i := .invokestatic 146) (by decide +kernel) _ _ _).trans ?_
  show zres (if (99 : Nat) = 99 ∧ 3 ≤ ((.long x2 :: .long x1 :: .long x0 :: st) : List Value).length then zcall 146 [.long x0, .long x1, .long x2] st 213 136 ls w else none) = _
  rw [if_pos ⟨rfl, by simp⟩]
  exact zq_call hr (Nat.le_of_ble_eq_true rfl) rfl rfl
theorem e213_139 (ls : List Value) (a : Int32) (st : List Value) (w : zH) : zrun none (213, 139, ls, (.int a :: st), w) = if a = 0 then zrun none (213, 142, ls, st, w) else zrun none (213, 145, ls, st, w) := (zE_ (i := .ifCond .ne 6) (by decide +kernel) _ _ _).trans (zq_if_ne rfl rfl)
theorem e213_142 (ls st : List Value) (w : zH) : zrun none (213, 142, ls, st, w) = zrun none (213, 144, ls, (.int (-1000001) :: st), w) := (zE_ (i := .bipush (-1000001)) (by decide +kernel) _ _ _).trans rfl
theorem e213_144 (ls : List Value) (x : Int32) (w : zH) : zrun none (213, 144, ls, [.int x], w) = some (some (.int x), w) := by
  refine (zE_ (i := .ireturn) (by decide +kernel) _ _ _).trans ?_
  show zres (if narrow .int (.int x) = .int x then _ else none) = _
  rw [if_pos (show narrow .int (.int x) = .int x from rfl)]
  rfl
theorem e213_145 (v0 v1 v2 v3 v4 v5 v7 v8 v9 v10 v11 v12 v13 v14 : Value) (x : Int32) (st : List Value) (w : zH) : zrun none (213, 145, [v0, v1, v2, v3, v4, v5, .int x, v7, v8, v9, v10, v11, v12, v13, v14], st, w) = zrun none (213, 148, [v0, v1, v2, v3, v4, v5, .int (x + 1), v7, v8, v9, v10, v11, v12, v13, v14], st, w) := (zE_ (i := .iinc 6 1) (by decide +kernel) _ _ _).trans rfl
theorem e213_148 (ls st : List Value) (w : zH) : zrun none (213, 148, ls, st, w) = zrun none (213, 112, ls, st, w) := (zE_ (i := .goto (-36)) (by decide +kernel) _ _ _).trans rfl
theorem e213_151 (v1 v2 v3 v4 v5 v6 v7 v8 v9 v10 v11 v12 v13 v14 : Value) (x : Nat) (st : List Value) (w : zH) : zrun none (213, 151, [.ref x, v1, v2, v3, v4, v5, v6, v7, v8, v9, v10, v11, v12, v13, v14], st, w) = zrun none (213, 152, [.ref x, v1, v2, v3, v4, v5, v6, v7, v8, v9, v10, v11, v12, v13, v14], (.ref x :: st), w) := (zE_ (i := .aload_n 0) (by decide +kernel) _ _ _).trans rfl
theorem e213_152 (ls st : List Value) (w : zH) : zrun none (213, 152, ls, st, w) = zrun none (213, 153, ls, (.int 0 :: st), w) := (zE_ (i := .iconst 0) (by decide +kernel) _ _ _).trans rfl
theorem e213_153 (ls : List Value) (x : Int32) (a : Nat) (st : List Value) (w : zH) : zrun none (213, 153, ls, (.int x :: .ref a :: st), w) = zgd (a < zX ∧ (zf w a 1201).isSome = true) (zrun none (213, 156, ls, st, zpf w a 1201 (.int x))) := by
  refine (zE_ (i := .putfield 1201) (by decide +kernel) _ _ _).trans ?_
  by_cases hg : a < zX ∧ (zf w a 1201).isSome = true
  · rw [zgd_pos hg]
    obtain ⟨ha, h⟩ := hg
    exact zq_putf ha h rfl rfl
  · rw [zgd_neg hg]
    exact zq_putf_no (fun h1 h2 h3 => hg ⟨h1, h2⟩)
theorem e213_156 (v0 v1 v2 v3 v5 v6 v7 v8 v9 v10 v11 v12 v13 v14 : Value) (x : Int32) (st : List Value) (w : zH) : zrun none (213, 156, [v0, v1, v2, v3, .int x, v5, v6, v7, v8, v9, v10, v11, v12, v13, v14], st, w) = zrun none (213, 158, [v0, v1, v2, v3, .int x, v5, v6, v7, v8, v9, v10, v11, v12, v13, v14], (.int x :: st), w) := (zE_ (i := .iload 4) (by decide +kernel) _ _ _).trans rfl
theorem e213_158 (v0 v1 v3 v4 v5 v6 v7 v8 v9 v10 v11 v12 v13 v14 : Value) (x : Int32) (st : List Value) (w : zH) : zrun none (213, 158, [v0, v1, .int x, v3, v4, v5, v6, v7, v8, v9, v10, v11, v12, v13, v14], st, w) = zrun none (213, 159, [v0, v1, .int x, v3, v4, v5, v6, v7, v8, v9, v10, v11, v12, v13, v14], (.int x :: st), w) := (zE_ (i := .iload_n 2) (by decide +kernel) _ _ _).trans rfl
theorem e213_159 (ls : List Value) (a b : Int32) (st : List Value) (w : zH) : zrun none (213, 159, ls, (.int b :: .int a :: st), w) = zrun none (213, 160, ls, (.int (a - b) :: st), w) := (zE_ (i := .isub) (by decide +kernel) _ _ _).trans rfl
theorem e213_160 (v0 v1 v2 v3 v4 v5 v6 v7 v8 v9 v10 v11 v12 v13 v14 : Value) (x : Int32) (st : List Value) (w : zH) (h : v5.category = 1) : zrun none (213, 160, [v0, v1, v2, v3, v4, v5, v6, v7, v8, v9, v10, v11, v12, v13, v14], (.int x :: st), w) = zrun none (213, 162, [v0, v1, v2, v3, v4, v5, .int x, v7, v8, v9, v10, v11, v12, v13, v14], st, w) := by
  refine (zE_ (i := .istore 6) (by decide +kernel) _ _ _).trans ?_
  have hz : zfree [v0, v1, v2, v3, v4, v5, v6, v7, v8, v9, v10, v11, v12, v13, v14] 6 = true := by show decide (v5.category = 1) = true; exact decide_eq_true h
  show zres (zst zint 6 2 213 160 [v0, v1, v2, v3, v4, v5, v6, v7, v8, v9, v10, v11, v12, v13, v14] (.int x :: st) w) = _
  unfold zst
  dsimp only
  rw [if_pos ⟨rfl, Nat.le_of_ble_eq_true rfl, hz⟩]
  rfl
theorem e213_162 (v0 v1 v2 v3 v4 v6 v7 v8 v9 v10 v11 v12 v13 v14 : Value) (x : Int32) (st : List Value) (w : zH) : zrun none (213, 162, [v0, v1, v2, v3, v4, .int x, v6, v7, v8, v9, v10, v11, v12, v13, v14], st, w) = zrun none (213, 164, [v0, v1, v2, v3, v4, .int x, v6, v7, v8, v9, v10, v11, v12, v13, v14], (.int x :: st), w) := (zE_ (i := .iload 5) (by decide +kernel) _ _ _).trans rfl
theorem e213_164 (v0 v1 v2 v4 v5 v6 v7 v8 v9 v10 v11 v12 v13 v14 : Value) (x : Int32) (st : List Value) (w : zH) : zrun none (213, 164, [v0, v1, v2, .int x, v4, v5, v6, v7, v8, v9, v10, v11, v12, v13, v14], st, w) = zrun none (213, 165, [v0, v1, v2, .int x, v4, v5, v6, v7, v8, v9, v10, v11, v12, v13, v14], (.int x :: st), w) := (zE_ (i := .iload_n 3) (by decide +kernel) _ _ _).trans rfl
theorem e213_165 (ls : List Value) (a b : Int32) (st : List Value) (w : zH) : zrun none (213, 165, ls, (.int b :: .int a :: st), w) = zrun none (213, 166, ls, (.int (a - b) :: st), w) := (zE_ (i := .isub) (by decide +kernel) _ _ _).trans rfl
theorem e213_166 (v0 v1 v2 v3 v4 v5 v6 v7 v8 v9 v10 v11 v12 v13 v14 : Value) (x : Int32) (st : List Value) (w : zH) (h : v6.category = 1) : zrun none (213, 166, [v0, v1, v2, v3, v4, v5, v6, v7, v8, v9, v10, v11, v12, v13, v14], (.int x :: st), w) = zrun none (213, 168, [v0, v1, v2, v3, v4, v5, v6, .int x, v8, v9, v10, v11, v12, v13, v14], st, w) := by
  refine (zE_ (i := .istore 7) (by decide +kernel) _ _ _).trans ?_
  have hz : zfree [v0, v1, v2, v3, v4, v5, v6, v7, v8, v9, v10, v11, v12, v13, v14] 7 = true := by show decide (v6.category = 1) = true; exact decide_eq_true h
  show zres (zst zint 7 2 213 166 [v0, v1, v2, v3, v4, v5, v6, v7, v8, v9, v10, v11, v12, v13, v14] (.int x :: st) w) = _
  unfold zst
  dsimp only
  rw [if_pos ⟨rfl, Nat.le_of_ble_eq_true rfl, hz⟩]
  rfl
theorem e213_168 (v0 v1 v2 v3 v4 v5 v7 v8 v9 v10 v11 v12 v13 v14 : Value) (x : Int32) (st : List Value) (w : zH) : zrun none (213, 168, [v0, v1, v2, v3, v4, v5, .int x, v7, v8, v9, v10, v11, v12, v13, v14], st, w) = zrun none (213, 170, [v0, v1, v2, v3, v4, v5, .int x, v7, v8, v9, v10, v11, v12, v13, v14], (.int x :: st), w) := (zE_ (i := .iload 6) (by decide +kernel) _ _ _).trans rfl
theorem e213_170 (ls : List Value) (x0 : Int32) (st : List Value) (w : zH) (hr : zcat st ≤ 8) : zrun none (213, 170, ls, (.int x0 :: st), w) = zcl (zrun none (212, 0, [.int x0], [], w)) (fun r => zrun none (213, 173, ls, r.1.toList ++ st, r.2)) := by
  refine (zE_ (i := .invokestatic 212) (by decide +kernel) _ _ _).trans ?_
  show zres (if (99 : Nat) = 99 ∧ 1 ≤ ((.int x0 :: st) : List Value).length then zcall 212 [.int x0] st 213 170 ls w else none) = _
  rw [if_pos ⟨rfl, by simp⟩]
  exact zq_call hr (Nat.le_of_ble_eq_true rfl) rfl rfl
theorem e213_173 (v0 v1 v2 v3 v4 v5 v6 v8 v9 v10 v11 v12 v13 v14 : Value) (x : Int32) (st : List Value) (w : zH) : zrun none (213, 173, [v0, v1, v2, v3, v4, v5, v6, .int x, v8, v9, v10, v11, v12, v13, v14], st, w) = zrun none (213, 175, [v0, v1, v2, v3, v4, v5, v6, .int x, v8, v9, v10, v11, v12, v13, v14], (.int x :: st), w) := (zE_ (i := .iload 7) (by decide +kernel) _ _ _).trans rfl
theorem e213_175 (ls : List Value) (x0 : Int32) (st : List Value) (w : zH) (hr : zcat st ≤ 8) : zrun none (213, 175, ls, (.int x0 :: st), w) = zcl (zrun none (212, 0, [.int x0], [], w)) (fun r => zrun none (213, 178, ls, r.1.toList ++ st, r.2)) := by
  refine (zE_ (i := .invokestatic 212) (by decide +kernel) _ _ _).trans ?_
  show zres (if (99 : Nat) = 99 ∧ 1 ≤ ((.int x0 :: st) : List Value).length then zcall 212 [.int x0] st 213 175 ls w else none) = _
  rw [if_pos ⟨rfl, by simp⟩]
  exact zq_call hr (Nat.le_of_ble_eq_true rfl) rfl rfl
theorem e213_178 (ls : List Value) (a b : Int32) (st : List Value) (w : zH) : zrun none (213, 178, ls, (.int b :: .int a :: st), w) = if a ≤ b then zrun none (213, 189, ls, st, w) else zrun none (213, 181, ls, st, w) := (zE_ (i := .if_icmp .le 11) (by decide +kernel) _ _ _).trans (zq_ic_le rfl rfl)
theorem e213_181 (v0 v1 v2 v3 v4 v5 v7 v8 v9 v10 v11 v12 v13 v14 : Value) (x : Int32) (st : List Value) (w : zH) : zrun none (213, 181, [v0, v1, v2, v3, v4, v5, .int x, v7, v8, v9, v10, v11, v12, v13, v14], st, w) = zrun none (213, 183, [v0, v1, v2, v3, v4, v5, .int x, v7, v8, v9, v10, v11, v12, v13, v14], (.int x :: st), w) := (zE_ (i := .iload 6) (by decide +kernel) _ _ _).trans rfl
theorem e213_183 (ls : List Value) (x0 : Int32) (st : List Value) (w : zH) (hr : zcat st ≤ 8) : zrun none (213, 183, ls, (.int x0 :: st), w) = zcl (zrun none (212, 0, [.int x0], [], w)) (fun r => zrun none (213, 186, ls, r.1.toList ++ st, r.2)) := by
  refine (zE_ (i := .invokestatic 212) (by decide +kernel) _ _ _).trans ?_
  show zres (if (99 : Nat) = 99 ∧ 1 ≤ ((.int x0 :: st) : List Value).length then zcall 212 [.int x0] st 213 183 ls w else none) = _
  rw [if_pos ⟨rfl, by simp⟩]
  exact zq_call hr (Nat.le_of_ble_eq_true rfl) rfl rfl
theorem e213_186 (ls st : List Value) (w : zH) : zrun none (213, 186, ls, st, w) = zrun none (213, 194, ls, st, w) := (zE_ (i := .goto 8) (by decide +kernel) _ _ _).trans rfl
theorem e213_189 (v0 v1 v2 v3 v4 v5 v6 v8 v9 v10 v11 v12 v13 v14 : Value) (x : Int32) (st : List Value) (w : zH) : zrun none (213, 189, [v0, v1, v2, v3, v4, v5, v6, .int x, v8, v9, v10, v11, v12, v13, v14], st, w) = zrun none (213, 191, [v0, v1, v2, v3, v4, v5, v6, .int x, v8, v9, v10, v11, v12, v13, v14], (.int x :: st), w) := (zE_ (i := .iload 7) (by decide +kernel) _ _ _).trans rfl
theorem e213_191 (ls : List Value) (x0 : Int32) (st : List Value) (w : zH) (hr : zcat st ≤ 8) : zrun none (213, 191, ls, (.int x0 :: st), w) = zcl (zrun none (212, 0, [.int x0], [], w)) (fun r => zrun none (213, 194, ls, r.1.toList ++ st, r.2)) := by
  refine (zE_ (i := .invokestatic 212) (by decide +kernel) _ _ _).trans ?_
  show zres (if (99 : Nat) = 99 ∧ 1 ≤ ((.int x0 :: st) : List Value).length then zcall 212 [.int x0] st 213 191 ls w else none) = _
  rw [if_pos ⟨rfl, by simp⟩]
  exact zq_call hr (Nat.le_of_ble_eq_true rfl) rfl rfl
theorem e213_194 (v0 v1 v2 v3 v4 v5 v6 v7 v8 v9 v10 v11 v12 v13 v14 : Value) (x : Int32) (st : List Value) (w : zH) (h : v7.category = 1) : zrun none (213, 194, [v0, v1, v2, v3, v4, v5, v6, v7, v8, v9, v10, v11, v12, v13, v14], (.int x :: st), w) = zrun none (213, 196, [v0, v1, v2, v3, v4, v5, v6, v7, .int x, v9, v10, v11, v12, v13, v14], st, w) := by
  refine (zE_ (i := .istore 8) (by decide +kernel) _ _ _).trans ?_
  have hz : zfree [v0, v1, v2, v3, v4, v5, v6, v7, v8, v9, v10, v11, v12, v13, v14] 8 = true := by show decide (v7.category = 1) = true; exact decide_eq_true h
  show zres (zst zint 8 2 213 194 [v0, v1, v2, v3, v4, v5, v6, v7, v8, v9, v10, v11, v12, v13, v14] (.int x :: st) w) = _
  unfold zst
  dsimp only
  rw [if_pos ⟨rfl, Nat.le_of_ble_eq_true rfl, hz⟩]
  rfl
theorem e213_196 (v1 v2 v3 v4 v5 v6 v7 v8 v9 v10 v11 v12 v13 v14 : Value) (x : Nat) (st : List Value) (w : zH) : zrun none (213, 196, [.ref x, v1, v2, v3, v4, v5, v6, v7, v8, v9, v10, v11, v12, v13, v14], st, w) = zrun none (213, 197, [.ref x, v1, v2, v3, v4, v5, v6, v7, v8, v9, v10, v11, v12, v13, v14], (.ref x :: st), w) := (zE_ (i := .aload_n 0) (by decide +kernel) _ _ _).trans rfl
theorem e213_197 (ls : List Value) (a : Nat) (st : List Value) (w : zH) : zrun none (213, 197, ls, (.ref a :: st), w) = zo (zf w a 1204) (fun x => zrun none (213, 200, ls, (x :: st), w)) := (zE_ (i := .getfield 1204) (by decide +kernel) _ _ _).trans zq_getf
theorem e213_200 (ls st : List Value) (w : zH) : zrun none (213, 200, ls, st, w) = zrun none (213, 202, ls, (.int 100 :: st), w) := (zE_ (i := .bipush 100) (by decide +kernel) _ _ _).trans rfl
theorem e213_202 (v0 v2 v3 v4 v5 v6 v7 v8 v9 v10 v11 v12 v13 v14 : Value) (x : Int32) (st : List Value) (w : zH) : zrun none (213, 202, [v0, .int x, v2, v3, v4, v5, v6, v7, v8, v9, v10, v11, v12, v13, v14], st, w) = zrun none (213, 203, [v0, .int x, v2, v3, v4, v5, v6, v7, v8, v9, v10, v11, v12, v13, v14], (.int x :: st), w) := (zE_ (i := .iload_n 1) (by decide +kernel) _ _ _).trans rfl
theorem e213_203 (ls : List Value) (a b : Int32) (st : List Value) (w : zH) : zrun none (213, 203, ls, (.int b :: .int a :: st), w) = zrun none (213, 204, ls, (.int (a * b) :: st), w) := (zE_ (i := .imul) (by decide +kernel) _ _ _).trans rfl
theorem e213_204 (v0 v1 v3 v4 v5 v6 v7 v8 v9 v10 v11 v12 v13 v14 : Value) (x : Int32) (st : List Value) (w : zH) : zrun none (213, 204, [v0, v1, .int x, v3, v4, v5, v6, v7, v8, v9, v10, v11, v12, v13, v14], st, w) = zrun none (213, 205, [v0, v1, .int x, v3, v4, v5, v6, v7, v8, v9, v10, v11, v12, v13, v14], (.int x :: st), w) := (zE_ (i := .iload_n 2) (by decide +kernel) _ _ _).trans rfl
theorem e213_205 (ls : List Value) (a b : Int32) (st : List Value) (w : zH) : zrun none (213, 205, ls, (.int b :: .int a :: st), w) = zrun none (213, 206, ls, (.int (a + b) :: st), w) := (zE_ (i := .iadd) (by decide +kernel) _ _ _).trans rfl
theorem e213_206 (ls st : List Value) (w : zH) : zrun none (213, 206, ls, st, w) = zrun none (213, 208, ls, (.int 10 :: st), w) := (zE_ (i := .bipush 10) (by decide +kernel) _ _ _).trans rfl
theorem e213_208 (v0 v1 v2 v4 v5 v6 v7 v8 v9 v10 v11 v12 v13 v14 : Value) (x : Int32) (st : List Value) (w : zH) : zrun none (213, 208, [v0, v1, v2, .int x, v4, v5, v6, v7, v8, v9, v10, v11, v12, v13, v14], st, w) = zrun none (213, 209, [v0, v1, v2, .int x, v4, v5, v6, v7, v8, v9, v10, v11, v12, v13, v14], (.int x :: st), w) := (zE_ (i := .iload_n 3) (by decide +kernel) _ _ _).trans rfl
theorem e213_209 (ls : List Value) (a b : Int32) (st : List Value) (w : zH) : zrun none (213, 209, ls, (.int b :: .int a :: st), w) = zrun none (213, 210, ls, (.int (a * b) :: st), w) := (zE_ (i := .imul) (by decide +kernel) _ _ _).trans rfl
theorem e213_210 (ls : List Value) (a b : Int32) (st : List Value) (w : zH) : zrun none (213, 210, ls, (.int b :: .int a :: st), w) = zrun none (213, 211, ls, (.int (a + b) :: st), w) := (zE_ (i := .iadd) (by decide +kernel) _ _ _).trans rfl
theorem e213_211 (ls : List Value) (j : Int32) (a : Nat) (st : List Value) (w : zH) : zrun none (213, 211, ls, (.int j :: .ref a :: st), w) = zoi (zai w a 100 j) (fun x => zrun none (213, 212, ls, (.int x :: st), w)) := (zE_ (i := .iaload) (by decide +kernel) _ _ _).trans zq_iald
theorem e213_212 (ls st : List Value) (w : zH) : zrun none (213, 212, ls, st, w) = zrun none (213, 213, ls, (.int 2 :: st), w) := (zE_ (i := .iconst 2) (by decide +kernel) _ _ _).trans rfl
theorem e213_213 (ls : List Value) (a b : Int32) (st : List Value) (w : zH) : zrun none (213, 213, ls, (.int b :: .int a :: st), w) = zrun none (213, 214, ls, (.int (a + b) :: st), w) := (zE_ (i := .iadd) (by decide +kernel) _ _ _).trans rfl
theorem e213_214 (v0 v1 v2 v3 v4 v5 v6 v7 v8 v9 v10 v11 v12 v13 v14 : Value) (x : Int32) (st : List Value) (w : zH) (h : v8.category = 1) : zrun none (213, 214, [v0, v1, v2, v3, v4, v5, v6, v7, v8, v9, v10, v11, v12, v13, v14], (.int x :: st), w) = zrun none (213, 216, [v0, v1, v2, v3, v4, v5, v6, v7, v8, .int x, v10, v11, v12, v13, v14], st, w) := by
  refine (zE_ (i := .istore 9) (by decide +kernel) _ _ _).trans ?_
  have hz : zfree [v0, v1, v2, v3, v4, v5, v6, v7, v8, v9, v10, v11, v12, v13, v14] 9 = true := by show decide (v8.category = 1) = true; exact decide_eq_true h
  show zres (zst zint 9 2 213 214 [v0, v1, v2, v3, v4, v5, v6, v7, v8, v9, v10, v11, v12, v13, v14] (.int x :: st) w) = _
  unfold zst
  dsimp only
  rw [if_pos ⟨rfl, Nat.le_of_ble_eq_true rfl, hz⟩]
  rfl
theorem e213_216 (v1 v2 v3 v4 v5 v6 v7 v8 v9 v10 v11 v12 v13 v14 : Value) (x : Nat) (st : List Value) (w : zH) : zrun none (213, 216, [.ref x, v1, v2, v3, v4, v5, v6, v7, v8, v9, v10, v11, v12, v13, v14], st, w) = zrun none (213, 217, [.ref x, v1, v2, v3, v4, v5, v6, v7, v8, v9, v10, v11, v12, v13, v14], (.ref x :: st), w) := (zE_ (i := .aload_n 0) (by decide +kernel) _ _ _).trans rfl
theorem e213_217 (ls : List Value) (a : Nat) (st : List Value) (w : zH) : zrun none (213, 217, ls, (.ref a :: st), w) = zo (zf w a 1204) (fun x => zrun none (213, 220, ls, (x :: st), w)) := (zE_ (i := .getfield 1204) (by decide +kernel) _ _ _).trans zq_getf
theorem e213_220 (ls st : List Value) (w : zH) : zrun none (213, 220, ls, st, w) = zrun none (213, 222, ls, (.int 100 :: st), w) := (zE_ (i := .bipush 100) (by decide +kernel) _ _ _).trans rfl
theorem e213_222 (v0 v2 v3 v4 v5 v6 v7 v8 v9 v10 v11 v12 v13 v14 : Value) (x : Int32) (st : List Value) (w : zH) : zrun none (213, 222, [v0, .int x, v2, v3, v4, v5, v6, v7, v8, v9, v10, v11, v12, v13, v14], st, w) = zrun none (213, 223, [v0, .int x, v2, v3, v4, v5, v6, v7, v8, v9, v10, v11, v12, v13, v14], (.int x :: st), w) := (zE_ (i := .iload_n 1) (by decide +kernel) _ _ _).trans rfl
theorem e213_223 (ls : List Value) (a b : Int32) (st : List Value) (w : zH) : zrun none (213, 223, ls, (.int b :: .int a :: st), w) = zrun none (213, 224, ls, (.int (a * b) :: st), w) := (zE_ (i := .imul) (by decide +kernel) _ _ _).trans rfl
theorem e213_224 (v0 v1 v2 v3 v5 v6 v7 v8 v9 v10 v11 v12 v13 v14 : Value) (x : Int32) (st : List Value) (w : zH) : zrun none (213, 224, [v0, v1, v2, v3, .int x, v5, v6, v7, v8, v9, v10, v11, v12, v13, v14], st, w) = zrun none (213, 226, [v0, v1, v2, v3, .int x, v5, v6, v7, v8, v9, v10, v11, v12, v13, v14], (.int x :: st), w) := (zE_ (i := .iload 4) (by decide +kernel) _ _ _).trans rfl
theorem e213_226 (ls : List Value) (a b : Int32) (st : List Value) (w : zH) : zrun none (213, 226, ls, (.int b :: .int a :: st), w) = zrun none (213, 227, ls, (.int (a + b) :: st), w) := (zE_ (i := .iadd) (by decide +kernel) _ _ _).trans rfl
theorem e213_227 (ls st : List Value) (w : zH) : zrun none (213, 227, ls, st, w) = zrun none (213, 229, ls, (.int 10 :: st), w) := (zE_ (i := .bipush 10) (by decide +kernel) _ _ _).trans rfl
theorem e213_229 (v0 v1 v2 v3 v4 v6 v7 v8 v9 v10 v11 v12 v13 v14 : Value) (x : Int32) (st : List Value) (w : zH) : zrun none (213, 229, [v0, v1, v2, v3, v4, .int x, v6, v7, v8, v9, v10, v11, v12, v13, v14], st, w) = zrun none (213, 231, [v0, v1, v2, v3, v4, .int x, v6, v7, v8, v9, v10, v11, v12, v13, v14], (.int x :: st), w) := (zE_ (i := .iload 5) (by decide +kernel) _ _ _).trans rfl
theorem e213_231 (ls : List Value) (a b : Int32) (st : List Value) (w : zH) : zrun none (213, 231, ls, (.int b :: .int a :: st), w) = zrun none (213, 232, ls, (.int (a * b) :: st), w) := (zE_ (i := .imul) (by decide +kernel) _ _ _).trans rfl
theorem e213_232 (ls : List Value) (a b : Int32) (st : List Value) (w : zH) : zrun none (213, 232, ls, (.int b :: .int a :: st), w) = zrun none (213, 233, ls, (.int (a + b) :: st), w) := (zE_ (i := .iadd) (by decide +kernel) _ _ _).trans rfl
theorem e213_233 (ls : List Value) (j : Int32) (a : Nat) (st : List Value) (w : zH) : zrun none (213, 233, ls, (.int j :: .ref a :: st), w) = zoi (zai w a 100 j) (fun x => zrun none (213, 234, ls, (.int x :: st), w)) := (zE_ (i := .iaload) (by decide +kernel) _ _ _).trans zq_iald
theorem e213_234 (v0 v1 v2 v3 v4 v5 v6 v7 v8 v9 v10 v11 v12 v13 v14 : Value) (x : Int32) (st : List Value) (w : zH) (h : v9.category = 1) : zrun none (213, 234, [v0, v1, v2, v3, v4, v5, v6, v7, v8, v9, v10, v11, v12, v13, v14], (.int x :: st), w) = zrun none (213, 236, [v0, v1, v2, v3, v4, v5, v6, v7, v8, v9, .int x, v11, v12, v13, v14], st, w) := by
  refine (zE_ (i := .istore 10) (by decide +kernel) _ _ _).trans ?_
  have hz : zfree [v0, v1, v2, v3, v4, v5, v6, v7, v8, v9, v10, v11, v12, v13, v14] 10 = true := by show decide (v9.category = 1) = true; exact decide_eq_true h
  show zres (zst zint 10 2 213 234 [v0, v1, v2, v3, v4, v5, v6, v7, v8, v9, v10, v11, v12, v13, v14] (.int x :: st) w) = _
  unfold zst
  dsimp only
  rw [if_pos ⟨rfl, Nat.le_of_ble_eq_true rfl, hz⟩]
  rfl
theorem e213_236 (ls st : List Value) (w : zH) : zrun none (213, 236, ls, st, w) = zrun none (213, 237, ls, (.int 1 :: st), w) := (zE_ (i := .iconst 1) (by decide +kernel) _ _ _).trans rfl
theorem e213_237 (v0 v1 v2 v3 v4 v5 v6 v7 v8 v9 v10 v11 v12 v13 v14 : Value) (x : Int32) (st : List Value) (w : zH) (h : v10.category = 1) : zrun none (213, 237, [v0, v1, v2, v3, v4, v5, v6, v7, v8, v9, v10, v11, v12, v13, v14], (.int x :: st), w) = zrun none (213, 239, [v0, v1, v2, v3, v4, v5, v6, v7, v8, v9, v10, .int x, v12, v13, v14], st, w) := by
  refine (zE_ (i := .istore 11) (by decide +kernel) _ _ _).trans ?_
  have hz : zfree [v0, v1, v2, v3, v4, v5, v6, v7, v8, v9, v10, v11, v12, v13, v14] 11 = true := by show decide (v10.category = 1) = true; exact decide_eq_true h
  show zres (zst zint 11 2 213 237 [v0, v1, v2, v3, v4, v5, v6, v7, v8, v9, v10, v11, v12, v13, v14] (.int x :: st) w) = _
  unfold zst
  dsimp only
  rw [if_pos ⟨rfl, Nat.le_of_ble_eq_true rfl, hz⟩]
  rfl
theorem e213_239 (ls st : List Value) (w : zH) : zrun none (213, 239, ls, st, w) = zrun none (213, 240, ls, (.int 1 :: st), w) := (zE_ (i := .iconst 1) (by decide +kernel) _ _ _).trans rfl
theorem e213_240 (v0 v1 v2 v3 v4 v5 v6 v7 v8 v9 v10 v11 v12 v13 v14 : Value) (x : Int32) (st : List Value) (w : zH) (h : v11.category = 1) : zrun none (213, 240, [v0, v1, v2, v3, v4, v5, v6, v7, v8, v9, v10, v11, v12, v13, v14], (.int x :: st), w) = zrun none (213, 242, [v0, v1, v2, v3, v4, v5, v6, v7, v8, v9, v10, v11, .int x, v13, v14], st, w) := by
  refine (zE_ (i := .istore 12) (by decide +kernel) _ _ _).trans ?_
  have hz : zfree [v0, v1, v2, v3, v4, v5, v6, v7, v8, v9, v10, v11, v12, v13, v14] 12 = true := by show decide (v11.category = 1) = true; exact decide_eq_true h
  show zres (zst zint 12 2 213 240 [v0, v1, v2, v3, v4, v5, v6, v7, v8, v9, v10, v11, v12, v13, v14] (.int x :: st) w) = _
  unfold zst
  dsimp only
  rw [if_pos ⟨rfl, Nat.le_of_ble_eq_true rfl, hz⟩]
  rfl
theorem e213_242 (v0 v1 v2 v3 v4 v5 v6 v7 v8 v9 v10 v11 v13 v14 : Value) (x : Int32) (st : List Value) (w : zH) : zrun none (213, 242, [v0, v1, v2, v3, v4, v5, v6, v7, v8, v9, v10, v11, .int x, v13, v14], st, w) = zrun none (213, 244, [v0, v1, v2, v3, v4, v5, v6, v7, v8, v9, v10, v11, .int x, v13, v14], (.int x :: st), w) := (zE_ (i := .iload 12) (by decide +kernel) _ _ _).trans rfl
theorem e213_244 (v0 v1 v2 v3 v4 v5 v6 v7 v9 v10 v11 v12 v13 v14 : Value) (x : Int32) (st : List Value) (w : zH) : zrun none (213, 244, [v0, v1, v2, v3, v4, v5, v6, v7, .int x, v9, v10, v11, v12, v13, v14], st, w) = zrun none (213, 246, [v0, v1, v2, v3, v4, v5, v6, v7, .int x, v9, v10, v11, v12, v13, v14], (.int x :: st), w) := (zE_ (i := .iload 8) (by decide +kernel) _ _ _).trans rfl
theorem e213_246 (ls : List Value) (a b : Int32) (st : List Value) (w : zH) : zrun none (213, 246, ls, (.int b :: .int a :: st), w) = if b ≤ a then zrun none (213, 347, ls, st, w) else zrun none (213, 249, ls, st, w) := (zE_ (i := .if_icmp .ge 101) (by decide +kernel) _ _ _).trans (zq_ic_ge rfl rfl)
theorem e213_249 (v0 v1 v3 v4 v5 v6 v7 v8 v9 v10 v11 v12 v13 v14 : Value) (x : Int32) (st : List Value) (w : zH) : zrun none (213, 249, [v0, v1, .int x, v3, v4, v5, v6, v7, v8, v9, v10, v11, v12, v13, v14], st, w) = zrun none (213, 250, [v0, v1, .int x, v3, v4, v5, v6, v7, v8, v9, v10, v11, v12, v13, v14], (.int x :: st), w) := (zE_ (i := .iload_n 2) (by decide +kernel) _ _ _).trans rfl
theorem e213_250 (ls st : List Value) (w : zH) : zrun none (213, 250, ls, st, w) = zrun none (213, 251, ls, (.int 2 :: st), w) := (zE_ (i := .iconst 2) (by decide +kernel) _ _ _).trans rfl
theorem e213_251 (v0 v1 v2 v3 v4 v5 v7 v8 v9 v10 v11 v12 v13 v14 : Value) (x : Int32) (st : List Value) (w : zH) : zrun none (213, 251, [v0, v1, v2, v3, v4, v5, .int x, v7, v8, v9, v10, v11, v12, v13, v14], st, w) = zrun none (213, 253, [v0, v1, v2, v3, v4, v5, .int x, v7, v8, v9, v10, v11, v12, v13, v14], (.int x :: st), w) := (zE_ (i := .iload 6) (by decide +kernel) _ _ _).trans rfl
theorem e213_253 (ls : List Value) (a b : Int32) (st : List Value) (w : zH) : zrun none (213, 253, ls, (.int b :: .int a :: st), w) = zrun none (213, 254, ls, (.int (a * b) :: st), w) := (zE_ (i := .imul) (by decide +kernel) _ _ _).trans rfl
theorem e213_254 (v0 v1 v2 v3 v4 v5 v6 v7 v8 v9 v10 v11 v13 v14 : Value) (x : Int32) (st : List Value) (w : zH) : zrun none (213, 254, [v0, v1, v2, v3, v4, v5, v6, v7, v8, v9, v10, v11, .int x, v13, v14], st, w) = zrun none (213, 256, [v0, v1, v2, v3, v4, v5, v6, v7, v8, v9, v10, v11, .int x, v13, v14], (.int x :: st), w) := (zE_ (i := .iload 12) (by decide +kernel) _ _ _).trans rfl
theorem e213_256 (ls : List Value) (a b : Int32) (st : List Value) (w : zH) : zrun none (213, 256, ls, (.int b :: .int a :: st), w) = zrun none (213, 257, ls, (.int (a * b) :: st), w) := (zE_ (i := .imul) (by decide +kernel) _ _ _).trans rfl
theorem e213_257 (v0 v1 v2 v3 v4 v5 v6 v7 v9 v10 v11 v12 v13 v14 : Value) (x : Int32) (st : List Value) (w : zH) : zrun none (213, 257, [v0, v1, v2, v3, v4, v5, v6, v7, .int x, v9, v10, v11, v12, v13, v14], st, w) = zrun none (213, 259, [v0, v1, v2, v3, v4, v5, v6, v7, .int x, v9, v10, v11, v12, v13, v14], (.int x :: st), w) := (zE_ (i := .iload 8) (by decide +kernel) _ _ _).trans rfl
theorem e213_259 (ls : List Value) (a b : Int32) (st : List Value) (w : zH) : zrun none (213, 259, ls, (.int b :: .int a :: st), w) = zrun none (213, 260, ls, (.int (a + b) :: st), w) := (zE_ (i := .iadd) (by decide +kernel) _ _ _).trans rfl
theorem e213_260 (ls st : List Value) (w : zH) : zrun none (213, 260, ls, st, w) = zrun none (213, 261, ls, (.int 2 :: st), w) := (zE_ (i := .iconst 2) (by decide +kernel) _ _ _).trans rfl
theorem e213_261 (v0 v1 v2 v3 v4 v5 v6 v7 v9 v10 v11 v12 v13 v14 : Value) (x : Int32) (st : List Value) (w : zH) : zrun none (213, 261, [v0, v1, v2, v3, v4, v5, v6, v7, .int x, v9, v10, v11, v12, v13, v14], st, w) = zrun none (213, 263, [v0, v1, v2, v3, v4, v5, v6, v7, .int x, v9, v10, v11, v12, v13, v14], (.int x :: st), w) := (zE_ (i := .iload 8) (by decide +kernel) _ _ _).trans rfl
theorem e213_263 (ls : List Value) (a b : Int32) (st : List Value) (w : zH) : zrun none (213, 263, ls, (.int b :: .int a :: st), w) = zrun none (213, 264, ls, (.int (a * b) :: st), w) := (zE_ (i := .imul) (by decide +kernel) _ _ _).trans rfl
theorem e213_264 (ls : List Value) (x0 : Int32) (x1 : Int32) (st : List Value) (w : zH) (hr : zcat st ≤ 8) : zrun none (213, 264, ls, (.int x1 :: .int x0 :: st), w) = zcl (zrun none (211, 0, [.int x0, .int x1], [], w)) (fun r => zrun none (213, 267, ls, r.1.toList ++ st, r.2)) := by
  refine (zE_ (i := .invokestatic 211) (by decide +kernel) _ _ _).trans ?_
  show zres (if (99 : Nat) = 99 ∧ 2 ≤ ((.int x1 :: .int x0 :: st) : List Value).length then zcall 211 [.int x0, .int x1] st 213 264 ls w else none) = _
  rw [if_pos ⟨rfl, by simp⟩]
  exact zq_call hr (Nat.le_of_ble_eq_true rfl) rfl rfl
theorem e213_267 (ls : List Value) (a b : Int32) (st : List Value) (w : zH) : zrun none (213, 267, ls, (.int b :: .int a :: st), w) = zrun none (213, 268, ls, (.int (a + b) :: st), w) := (zE_ (i := .iadd) (by decide +kernel) _ _ _).trans rfl
theorem e213_268 (v0 v1 v2 v3 v4 v5 v6 v7 v8 v9 v10 v11 v12 v13 v14 : Value) (x : Int32) (st : List Value) (w : zH) (h : v12.category = 1) : zrun none (213, 268, [v0, v1, v2, v3, v4, v5, v6, v7, v8, v9, v10, v11, v12, v13, v14], (.int x :: st), w) = zrun none (213, 270, [v0, v1, v2, v3, v4, v5, v6, v7, v8, v9, v10, v11, v12, .int x, v14], st, w) := by
  refine (zE_ (i := .istore 13) (by decide +kernel) _ _ _).trans ?_
  have hz : zfree [v0, v1, v2, v3, v4, v5, v6, v7, v8, v9, v10, v11, v12, v13, v14] 13 = true := by show decide (v12.category = 1) = true; exact decide_eq_true h
  show zres (zst zint 13 2 213 268 [v0, v1, v2, v3, v4, v5, v6, v7, v8, v9, v10, v11, v12, v13, v14] (.int x :: st) w) = _
  unfold zst
  dsimp only
  rw [if_pos ⟨rfl, Nat.le_of_ble_eq_true rfl, hz⟩]
  rfl
theorem e213_270 (v0 v1 v2 v4 v5 v6 v7 v8 v9 v10 v11 v12 v13 v14 : Value) (x : Int32) (st : List Value) (w : zH) : zrun none (213, 270, [v0, v1, v2, .int x, v4, v5, v6, v7, v8, v9, v10, v11, v12, v13, v14], st, w) = zrun none (213, 271, [v0, v1, v2, .int x, v4, v5, v6, v7, v8, v9, v10, v11, v12, v13, v14], (.int x :: st), w) := (zE_ (i := .iload_n 3) (by decide +kernel) _ _ _).trans rfl
theorem e213_271 (ls st : List Value) (w : zH) : zrun none (213, 271, ls, st, w) = zrun none (213, 272, ls, (.int 2 :: st), w) := (zE_ (i := .iconst 2) (by decide +kernel) _ _ _).trans rfl
theorem e213_272 (v0 v1 v2 v3 v4 v5 v6 v8 v9 v10 v11 v12 v13 v14 : Value) (x : Int32) (st : List Value) (w : zH) : zrun none (213, 272, [v0, v1, v2, v3, v4, v5, v6, .int x, v8, v9, v10, v11, v12, v13, v14], st, w) = zrun none (213, 274, [v0, v1, v2, v3, v4, v5, v6, .int x, v8, v9, v10, v11, v12, v13, v14], (.int x :: st), w) := (zE_ (i := .iload 7) (by decide +kernel) _ _ _).trans rfl
theorem e213_274 (ls : List Value) (a b : Int32) (st : List Value) (w : zH) : zrun none (213, 274, ls, (.int b :: .int a :: st), w) = zrun none (213, 275, ls, (.int (a * b) :: st), w) := (zE_ (i := .imul) (by decide +kernel) _ _ _).trans rfl
theorem e213_275 (v0 v1 v2 v3 v4 v5 v6 v7 v8 v9 v10 v11 v13 v14 : Value) (x : Int32) (st : List Value) (w : zH) : zrun none (213, 275, [v0, v1, v2, v3, v4, v5, v6, v7, v8, v9, v10, v11, .int x, v13, v14], st, w) = zrun none (213, 277, [v0, v1, v2, v3, v4, v5, v6, v7, v8, v9, v10, v11, .int x, v13, v14], (.int x :: st), w) := (zE_ (i := .iload 12) (by decide +kernel) _ _ _).trans rfl
theorem e213_277 (ls : List Value) (a b : Int32) (st : List Value) (w : zH) : zrun none (213, 277, ls, (.int b :: .int a :: st), w) = zrun none (213, 278, ls, (.int (a * b) :: st), w) := (zE_ (i := .imul) (by decide +kernel) _ _ _).trans rfl
theorem e213_278 (v0 v1 v2 v3 v4 v5 v6 v7 v9 v10 v11 v12 v13 v14 : Value) (x : Int32) (st : List Value) (w : zH) : zrun none (213, 278, [v0, v1, v2, v3, v4, v5, v6, v7, .int x, v9, v10, v11, v12, v13, v14], st, w) = zrun none (213, 280, [v0, v1, v2, v3, v4, v5, v6, v7, .int x, v9, v10, v11, v12, v13, v14], (.int x :: st), w) := (zE_ (i := .iload 8) (by decide +kernel) _ _ _).trans rfl
theorem e213_280 (ls : List Value) (a b : Int32) (st : List Value) (w : zH) : zrun none (213, 280, ls, (.int b :: .int a :: st), w) = zrun none (213, 281, ls, (.int (a + b) :: st), w) := (zE_ (i := .iadd) (by decide +kernel) _ _ _).trans rfl
theorem e213_281 (ls st : List Value) (w : zH) : zrun none (213, 281, ls, st, w) = zrun none (213, 282, ls, (.int 2 :: st), w) := (zE_ (i := .iconst 2) (by decide +kernel) _ _ _).trans rfl
theorem e213_282 (v0 v1 v2 v3 v4 v5 v6 v7 v9 v10 v11 v12 v13 v14 : Value) (x : Int32) (st : List Value) (w : zH) : zrun none (213, 282, [v0, v1, v2, v3, v4, v5, v6, v7, .int x, v9, v10, v11, v12, v13, v14], st, w) = zrun none (213, 284, [v0, v1, v2, v3, v4, v5, v6, v7, .int x, v9, v10, v11, v12, v13, v14], (.int x :: st), w) := (zE_ (i := .iload 8) (by decide +kernel) _ _ _).trans rfl
theorem e213_284 (ls : List Value) (a b : Int32) (st : List Value) (w : zH) : zrun none (213, 284, ls, (.int b :: .int a :: st), w) = zrun none (213, 285, ls, (.int (a * b) :: st), w) := (zE_ (i := .imul) (by decide +kernel) _ _ _).trans rfl
theorem e213_285 (ls : List Value) (x0 : Int32) (x1 : Int32) (st : List Value) (w : zH) (hr : zcat st ≤ 8) : zrun none (213, 285, ls, (.int x1 :: .int x0 :: st), w) = zcl (zrun none (211, 0, [.int x0, .int x1], [], w)) (fun r => zrun none (213, 288, ls, r.1.toList ++ st, r.2)) := by
  refine (zE_ (i := .invokestatic 211) (by decide +kernel) _ _ _).trans ?_
  show zres (if (99 : Nat) = 99 ∧ 2 ≤ ((.int x1 :: .int x0 :: st) : List Value).length then zcall 211 [.int x0, .int x1] st 213 285 ls w else none) = _
  rw [if_pos ⟨rfl, by simp⟩]
  exact zq_call hr (Nat.le_of_ble_eq_true rfl) rfl rfl
theorem e213_288 (ls : List Value) (a b : Int32) (st : List Value) (w : zH) : zrun none (213, 288, ls, (.int b :: .int a :: st), w) = zrun none (213, 289, ls, (.int (a + b) :: st), w) := (zE_ (i := .iadd) (by decide +kernel) _ _ _).trans rfl
theorem e213_289 (v0 v1 v2 v3 v4 v5 v6 v7 v8 v9 v10 v11 v12 v13 v14 : Value) (x : Int32) (st : List Value) (w : zH) (h : v13.category = 1) : zrun none (213, 289, [v0, v1, v2, v3, v4, v5, v6, v7, v8, v9, v10, v11, v12, v13, v14], (.int x :: st), w) = zrun none (213, 291, [v0, v1, v2, v3, v4, v5, v6, v7, v8, v9, v10, v11, v12, v13, .int x], st, w) := by
  refine (zE_ (i := .istore 14) (by decide +kernel) _ _ _).trans ?_
  have hz : zfree [v0, v1, v2, v3, v4, v5, v6, v7, v8, v9, v10, v11, v12, v13, v14] 14 = true := by show decide (v13.category = 1) = true; exact decide_eq_true h
  show zres (zst zint 14 2 213 289 [v0, v1, v2, v3, v4, v5, v6, v7, v8, v9, v10, v11, v12, v13, v14] (.int x :: st) w) = _
  unfold zst
  dsimp only
  rw [if_pos ⟨rfl, Nat.le_of_ble_eq_true rfl, hz⟩]
  rfl
theorem e213_291 (v0 v1 v2 v3 v4 v5 v6 v7 v8 v9 v10 v12 v13 v14 : Value) (x : Int32) (st : List Value) (w : zH) : zrun none (213, 291, [v0, v1, v2, v3, v4, v5, v6, v7, v8, v9, v10, .int x, v12, v13, v14], st, w) = zrun none (213, 293, [v0, v1, v2, v3, v4, v5, v6, v7, v8, v9, v10, .int x, v12, v13, v14], (.int x :: st), w) := (zE_ (i := .iload 11) (by decide +kernel) _ _ _).trans rfl
theorem e213_293 (ls : List Value) (a : Int32) (st : List Value) (w : zH) : zrun none (213, 293, ls, (.int a :: st), w) = if a = 0 then zrun none (213, 338, ls, st, w) else zrun none (213, 296, ls, st, w) := (zE_ (i := .ifCond .eq 45) (by decide +kernel) _ _ _).trans (zq_if_eq rfl rfl)
theorem e213_296 (v1 v2 v3 v4 v5 v6 v7 v8 v9 v10 v11 v12 v13 v14 : Value) (x : Nat) (st : List Value) (w : zH) : zrun none (213, 296, [.ref x, v1, v2, v3, v4, v5, v6, v7, v8, v9, v10, v11, v12, v13, v14], st, w) = zrun none (213, 297, [.ref x, v1, v2, v3, v4, v5, v6, v7, v8, v9, v10, v11, v12, v13, v14], (.ref x :: st), w) := (zE_ (i := .aload_n 0) (by decide +kernel) _ _ _).trans rfl
theorem e213_297 (ls : List Value) (a : Nat) (st : List Value) (w : zH) : zrun none (213, 297, ls, (.ref a :: st), w) = zo (zf w a 1204) (fun x => zrun none (213, 300, ls, (x :: st), w)) := (zE_ (i := .getfield 1204) (by decide +kernel) _ _ _).trans zq_getf
theorem e213_300 (ls st : List Value) (w : zH) : zrun none (213, 300, ls, st, w) = zrun none (213, 302, ls, (.int 100 :: st), w) := (zE_ (i := .bipush 100) (by decide +kernel) _ _ _).trans rfl
theorem e213_302 (v0 v2 v3 v4 v5 v6 v7 v8 v9 v10 v11 v12 v13 v14 : Value) (x : Int32) (st : List Value) (w : zH) : zrun none (213, 302, [v0, .int x, v2, v3, v4, v5, v6, v7, v8, v9, v10, v11, v12, v13, v14], st, w) = zrun none (213, 303, [v0, .int x, v2, v3, v4, v5, v6, v7, v8, v9, v10, v11, v12, v13, v14], (.int x :: st), w) := (zE_ (i := .iload_n 1) (by decide +kernel) _ _ _).trans rfl
theorem e213_303 (ls : List Value) (a b : Int32) (st : List Value) (w : zH) : zrun none (213, 303, ls, (.int b :: .int a :: st), w) = zrun none (213, 304, ls, (.int (a * b) :: st), w) := (zE_ (i := .imul) (by decide +kernel) _ _ _).trans rfl
theorem e213_304 (v0 v1 v2 v3 v4 v5 v6 v7 v8 v9 v10 v11 v12 v14 : Value) (x : Int32) (st : List Value) (w : zH) : zrun none (213, 304, [v0, v1, v2, v3, v4, v5, v6, v7, v8, v9, v10, v11, v12, .int x, v14], st, w) = zrun none (213, 306, [v0, v1, v2, v3, v4, v5, v6, v7, v8, v9, v10, v11, v12, .int x, v14], (.int x :: st), w) := (zE_ (i := .iload 13) (by decide +kernel) _ _ _).trans rfl
theorem e213_306 (ls : List Value) (a b : Int32) (st : List Value) (w : zH) : zrun none (213, 306, ls, (.int b :: .int a :: st), w) = zrun none (213, 307, ls, (.int (a + b) :: st), w) := (zE_ (i := .iadd) (by decide +kernel) _ _ _).trans rfl
theorem e213_307 (ls st : List Value) (w : zH) : zrun none (213, 307, ls, st, w) = zrun none (213, 309, ls, (.int 10 :: st), w) := (zE_ (i := .bipush 10) (by decide +kernel) _ _ _).trans rfl
theorem e213_309 (v0 v1 v2 v3 v4 v5 v6 v7 v8 v9 v10 v11 v12 v13 : Value) (x : Int32) (st : List Value) (w : zH) : zrun none (213, 309, [v0, v1, v2, v3, v4, v5, v6, v7, v8, v9, v10, v11, v12, v13, .int x], st, w) = zrun none (213, 311, [v0, v1, v2, v3, v4, v5, v6, v7, v8, v9, v10, v11, v12, v13, .int x], (.int x :: st), w) := (zE_ (i := .iload 14) (by decide +kernel) _ _ _).trans rfl
theorem e213_311 (ls : List Value) (a b : Int32) (st : List Value) (w : zH) : zrun none (213, 311, ls, (.int b :: .int a :: st), w) = zrun none (213, 312, ls, (.int (a * b) :: st), w) := (zE_ (i := .imul) (by decide +kernel) _ _ _).trans rfl
theorem e213_312 (ls : List Value) (a b : Int32) (st : List Value) (w : zH) : zrun none (213, 312, ls, (.int b :: .int a :: st), w) = zrun none (213, 313, ls, (.int (a + b) :: st), w) := (zE_ (i := .iadd) (by decide +kernel) _ _ _).trans rfl
theorem e213_313 (ls : List Value) (j : Int32) (a : Nat) (st : List Value) (w : zH) : zrun none (213, 313, ls, (.int j :: .ref a :: st), w) = zoi (zai w a 100 j) (fun x => zrun none (213, 314, ls, (.int x :: st), w)) := (zE_ (i := .iaload) (by decide +kernel) _ _ _).trans zq_iald
theorem e213_314 (v0 v1 v2 v3 v4 v5 v6 v7 v8 v10 v11 v12 v13 v14 : Value) (x : Int32) (st : List Value) (w : zH) : zrun none (213, 314, [v0, v1, v2, v3, v4, v5, v6, v7, v8, .int x, v10, v11, v12, v13, v14], st, w) = zrun none (213, 316, [v0, v1, v2, v3, v4, v5, v6, v7, v8, .int x, v10, v11, v12, v13, v14], (.int x :: st), w) := (zE_ (i := .iload 9) (by decide +kernel) _ _ _).trans rfl
theorem e213_316 (v0 v1 v2 v3 v4 v5 v6 v7 v9 v10 v11 v12 v13 v14 : Value) (x : Int32) (st : List Value) (w : zH) : zrun none (213, 316, [v0, v1, v2, v3, v4, v5, v6, v7, .int x, v9, v10, v11, v12, v13, v14], st, w) = zrun none (213, 318, [v0, v1, v2, v3, v4, v5, v6, v7, .int x, v9, v10, v11, v12, v13, v14], (.int x :: st), w) := (zE_ (i := .iload 8) (by decide +kernel) _ _ _).trans rfl
theorem e213_318 (v0 v1 v2 v3 v4 v5 v6 v7 v8 v9 v10 v11 v13 v14 : Value) (x : Int32) (st : List Value) (w : zH) : zrun none (213, 318, [v0, v1, v2, v3, v4, v5, v6, v7, v8, v9, v10, v11, .int x, v13, v14], st, w) = zrun none (213, 320, [v0, v1, v2, v3, v4, v5, v6, v7, v8, v9, v10, v11, .int x, v13, v14], (.int x :: st), w) := (zE_ (i := .iload 12) (by decide +kernel) _ _ _).trans rfl
theorem e213_320 (ls : List Value) (a b : Int32) (st : List Value) (w : zH) : zrun none (213, 320, ls, (.int b :: .int a :: st), w) = zrun none (213, 321, ls, (.int (a - b) :: st), w) := (zE_ (i := .isub) (by decide +kernel) _ _ _).trans rfl
theorem e213_321 (ls : List Value) (a b : Int32) (st : List Value) (w : zH) : zrun none (213, 321, ls, (.int b :: .int a :: st), w) = zrun none (213, 322, ls, (.int (a * b) :: st), w) := (zE_ (i := .imul) (by decide +kernel) _ _ _).trans rfl
theorem e213_322 (v0 v1 v2 v3 v4 v5 v6 v7 v8 v9 v11 v12 v13 v14 : Value) (x : Int32) (st : List Value) (w : zH) : zrun none (213, 322, [v0, v1, v2, v3, v4, v5, v6, v7, v8, v9, .int x, v11, v12, v13, v14], st, w) = zrun none (213, 324, [v0, v1, v2, v3, v4, v5, v6, v7, v8, v9, .int x, v11, v12, v13, v14], (.int x :: st), w) := (zE_ (i := .iload 10) (by decide +kernel) _ _ _).trans rfl
theorem e213_324 (v0 v1 v2 v3 v4 v5 v6 v7 v8 v9 v10 v11 v13 v14 : Value) (x : Int32) (st : List Value) (w : zH) : zrun none (213, 324, [v0, v1, v2, v3, v4, v5, v6, v7, v8, v9, v10, v11, .int x, v13, v14], st, w) = zrun none (213, 326, [v0, v1, v2, v3, v4, v5, v6, v7, v8, v9, v10, v11, .int x, v13, v14], (.int x :: st), w) := (zE_ (i := .iload 12) (by decide +kernel) _ _ _).trans rfl
theorem e213_326 (ls : List Value) (a b : Int32) (st : List Value) (w : zH) : zrun none (213, 326, ls, (.int b :: .int a :: st), w) = zrun none (213, 327, ls, (.int (a * b) :: st), w) := (zE_ (i := .imul) (by decide +kernel) _ _ _).trans rfl
theorem e213_327 (ls : List Value) (a b : Int32) (st : List Value) (w : zH) : zrun none (213, 327, ls, (.int b :: .int a :: st), w) = zrun none (213, 328, ls, (.int (a + b) :: st), w) := (zE_ (i := .iadd) (by decide +kernel) _ _ _).trans rfl
theorem e213_328 (v0 v1 v2 v3 v4 v5 v6 v7 v9 v10 v11 v12 v13 v14 : Value) (x : Int32) (st : List Value) (w : zH) : zrun none (213, 328, [v0, v1, v2, v3, v4, v5, v6, v7, .int x, v9, v10, v11, v12, v13, v14], st, w) = zrun none (213, 330, [v0, v1, v2, v3, v4, v5, v6, v7, .int x, v9, v10, v11, v12, v13, v14], (.int x :: st), w) := (zE_ (i := .iload 8) (by decide +kernel) _ _ _).trans rfl
theorem e213_330 (ls : List Value) (a b : Int32) (st : List Value) (w : zH) (h : ¬ b = 0) : zrun none (213, 330, ls, (.int b :: .int a :: st), w) = zrun none (213, 331, ls, (.int (a / b) :: st), w) := by
  refine (zE_ (i := .idiv) (by decide +kernel) _ _ _).trans ?_
  simp only [zI, if_neg h]
  rfl
theorem e213_331 (ls : List Value) (a b : Int32) (st : List Value) (w : zH) : zrun none (213, 331, ls, (.int b :: .int a :: st), w) = if b < a then zrun none (213, 338, ls, st, w) else zrun none (213, 334, ls, st, w) := (zE_ (i := .if_icmp .gt 7) (by decide +kernel) _ _ _).trans (zq_ic_gt rfl rfl)
theorem e213_334 (ls st : List Value) (w : zH) : zrun none (213, 334, ls, st, w) = zrun none (213, 335, ls, (.int 1 :: st), w) := (zE_ (i := .iconst 1) (by decide +kernel) _ _ _).trans rfl
theorem e213_335 (ls st : List Value) (w : zH) : zrun none (213, 335, ls, st, w) = zrun none (213, 339, ls, st, w) := (zE_ (i := .goto 4) (by decide +kernel) _ _ _).trans rfl
theorem e213_338 (ls st : List Value) (w : zH) : zrun none (213, 338, ls, st, w) = zrun none (213, 339, ls, (.int 0 :: st), w) := (zE_ (i := .iconst 0) (by decide +kernel) _ _ _).trans rfl
theorem e213_339 (v0 v1 v2 v3 v4 v5 v6 v7 v8 v9 v10 v11 v12 v13 v14 : Value) (x : Int32) (st : List Value) (w : zH) (h : v10.category = 1) : zrun none (213, 339, [v0, v1, v2, v3, v4, v5, v6, v7, v8, v9, v10, v11, v12, v13, v14], (.int x :: st), w) = zrun none (213, 341, [v0, v1, v2, v3, v4, v5, v6, v7, v8, v9, v10, .int x, v12, v13, v14], st, w) := by
  refine (zE_ (i := .istore 11) (by decide +kernel) _ _ _).trans ?_
  have hz : zfree [v0, v1, v2, v3, v4, v5, v6, v7, v8, v9, v10, v11, v12, v13, v14] 11 = true := by show decide (v10.category = 1) = true; exact decide_eq_true h
  show zres (zst zint 11 2 213 339 [v0, v1, v2, v3, v4, v5, v6, v7, v8, v9, v10, v11, v12, v13, v14] (.int x :: st) w) = _
  unfold zst
  dsimp only
  rw [if_pos ⟨rfl, Nat.le_of_ble_eq_true rfl, hz⟩]
  rfl
theorem e213_341 (v0 v1 v2 v3 v4 v5 v6 v7 v8 v9 v10 v11 v13 v14 : Value) (x : Int32) (st : List Value) (w : zH) : zrun none (213, 341, [v0, v1, v2, v3, v4, v5, v6, v7, v8, v9, v10, v11, .int x, v13, v14], st, w) = zrun none (213, 344, [v0, v1, v2, v3, v4, v5, v6, v7, v8, v9, v10, v11, .int (x + 1), v13, v14], st, w) := (zE_ (i := .iinc 12 1) (by decide +kernel) _ _ _).trans rfl
theorem e213_344 (ls st : List Value) (w : zH) : zrun none (213, 344, ls, st, w) = zrun none (213, 242, ls, st, w) := (zE_ (i := .goto (-102)) (by decide +kernel) _ _ _).trans rfl
theorem e213_347 (v0 v1 v2 v3 v4 v5 v6 v7 v8 v9 v10 v12 v13 v14 : Value) (x : Int32) (st : List Value) (w : zH) : zrun none (213, 347, [v0, v1, v2, v3, v4, v5, v6, v7, v8, v9, v10, .int x, v12, v13, v14], st, w) = zrun none (213, 349, [v0, v1, v2, v3, v4, v5, v6, v7, v8, v9, v10, .int x, v12, v13, v14], (.int x :: st), w) := (zE_ (i := .iload 11) (by decide +kernel) _ _ _).trans rfl
theorem e213_349 (ls : List Value) (a : Int32) (st : List Value) (w : zH) : zrun none (213, 349, ls, (.int a :: st), w) = if a = 0 then zrun none (213, 356, ls, st, w) else zrun none (213, 352, ls, st, w) := (zE_ (i := .ifCond .eq 7) (by decide +kernel) _ _ _).trans (zq_if_eq rfl rfl)
theorem e213_352 (ls st : List Value) (w : zH) : zrun none (213, 352, ls, st, w) = zrun none (213, 353, ls, (.int 1 :: st), w) := (zE_ (i := .iconst 1) (by decide +kernel) _ _ _).trans rfl
theorem e213_353 (ls st : List Value) (w : zH) : zrun none (213, 353, ls, st, w) = zrun none (213, 357, ls, st, w) := (zE_ (i := .goto 4) (by decide +kernel) _ _ _).trans rfl
theorem e213_356 (ls st : List Value) (w : zH) : zrun none (213, 356, ls, st, w) = zrun none (213, 357, ls, (.int 0 :: st), w) := (zE_ (i := .iconst 0) (by decide +kernel) _ _ _).trans rfl
theorem e213_357 (ls : List Value) (x : Int32) (w : zH) : zrun none (213, 357, ls, [.int x], w) = some (some (.int x), w) := by
  refine (zE_ (i := .ireturn) (by decide +kernel) _ _ _).trans ?_
  show zres (if narrow .int (.int x) = .int x then _ else none) = _
  rw [if_pos (show narrow .int (.int x) = .int x from rfl)]
  rfl
theorem e214_0 (v1 v2 : Value) (x : Nat) (st : List Value) (w : zH) : zrun none (214, 0, [.ref x, v1, v2], st, w) = zrun none (214, 1, [.ref x, v1, v2], (.ref x :: st), w) := (zE_ (i := .aload_n 0) (by decide +kernel) _ _ _).trans rfl
theorem e214_1 (ls st : List Value) (w : zH) : zrun none (214, 1, ls, st, w) = zrun none (214, 2, ls, (.int 0 :: st), w) := (zE_ (i := .iconst 0) (by decide +kernel) _ _ _).trans rfl
theorem e214_2 (ls : List Value) (x : Int32) (a : Nat) (st : List Value) (w : zH) : zrun none (214, 2, ls, (.int x :: .ref a :: st), w) = zgd (a < zX ∧ (zf w a 1200).isSome = true) (zrun none (214, 5, ls, st, zpf w a 1200 (.int x))) := by
  refine (zE_ (i := .putfield 1200) (by decide +kernel) _ _ _).trans ?_
  by_cases hg : a < zX ∧ (zf w a 1200).isSome = true
  · rw [zgd_pos hg]
    obtain ⟨ha, h⟩ := hg
    exact zq_putf ha h rfl rfl
  · rw [zgd_neg hg]
    exact zq_putf_no (fun h1 h2 h3 => hg ⟨h1, h2⟩)
theorem e214_5 (v0 v2 : Value) (x : Int32) (st : List Value) (w : zH) : zrun none (214, 5, [v0, .int x, v2], st, w) = zrun none (214, 6, [v0, .int x, v2], (.int x :: st), w) := (zE_ (i := .iload_n 1) (by decide +kernel) _ _ _).trans rfl
theorem e214_6 (ls : List Value) (x0 : Int32) (st : List Value) (w : zH) (hr : zcat st ≤ 8) : zrun none (214, 6, ls, (.int x0 :: st), w) = zcl (zrun none (155, 0, [.int x0], [], w)) (fun r => zrun none (214, 9, ls, r.1.toList ++ st, r.2)) := by
  refine (zE_ (i := .invokestatic 155) (by decide +kernel) _ _ _).trans ?_
  show zres (if (99 : Nat) = 99 ∧ 1 ≤ ((.int x0 :: st) : List Value).length then zcall 155 [.int x0] st 214 6 ls w else none) = _
  rw [if_pos ⟨rfl, by simp⟩]
  exact zq_call hr (Nat.le_of_ble_eq_true rfl) rfl rfl
theorem e214_9 (ls : List Value) (a : Int32) (st : List Value) (w : zH) : zrun none (214, 9, ls, (.int a :: st), w) = if a = 0 then zrun none (214, 12, ls, st, w) else zrun none (214, 15, ls, st, w) := (zE_ (i := .ifCond .ne 6) (by decide +kernel) _ _ _).trans (zq_if_ne rfl rfl)
theorem e214_12 (ls st : List Value) (w : zH) : zrun none (214, 12, ls, st, w) = zrun none (214, 14, ls, (.int (-1000001) :: st), w) := (zE_ (i := .bipush (-1000001)) (by decide +kernel) _ _ _).trans rfl
theorem e214_14 (ls : List Value) (x : Int32) (w : zH) : zrun none (214, 14, ls, [.int x], w) = some (some (.int x), w) := by
  refine (zE_ (i := .ireturn) (by decide +kernel) _ _ _).trans ?_
  show zres (if narrow .int (.int x) = .int x then _ else none) = _
  rw [if_pos (show narrow .int (.int x) = .int x from rfl)]
  rfl
theorem e214_15 (v1 v2 : Value) (x : Nat) (st : List Value) (w : zH) : zrun none (214, 15, [.ref x, v1, v2], st, w) = zrun none (214, 16, [.ref x, v1, v2], (.ref x :: st), w) := (zE_ (i := .aload_n 0) (by decide +kernel) _ _ _).trans rfl
theorem e214_16 (ls : List Value) (a : Nat) (st : List Value) (w : zH) : zrun none (214, 16, ls, (.ref a :: st), w) = zo (zf w a 1216) (fun x => zrun none (214, 19, ls, (x :: st), w)) := (zE_ (i := .getfield 1216) (by decide +kernel) _ _ _).trans zq_getf
theorem e214_19 (v0 v1 v2 : Value) (x : Int32) (st : List Value) (w : zH) (h : v1.category = 1) : zrun none (214, 19, [v0, v1, v2], (.int x :: st), w) = zrun none (214, 20, [v0, v1, .int x], st, w) := by
  refine (zE_ (i := .istore_n 2) (by decide +kernel) _ _ _).trans ?_
  have hz : zfree [v0, v1, v2] 2 = true := by show decide (v1.category = 1) = true; exact decide_eq_true h
  show zres (zst zint 2 1 214 19 [v0, v1, v2] (.int x :: st) w) = _
  unfold zst
  dsimp only
  rw [if_pos ⟨rfl, Nat.le_of_ble_eq_true rfl, hz⟩]
  rfl
theorem e214_20 (v1 v2 : Value) (x : Nat) (st : List Value) (w : zH) : zrun none (214, 20, [.ref x, v1, v2], st, w) = zrun none (214, 21, [.ref x, v1, v2], (.ref x :: st), w) := (zE_ (i := .aload_n 0) (by decide +kernel) _ _ _).trans rfl
theorem e214_21 (v0 v2 : Value) (x : Int32) (st : List Value) (w : zH) : zrun none (214, 21, [v0, .int x, v2], st, w) = zrun none (214, 22, [v0, .int x, v2], (.int x :: st), w) := (zE_ (i := .iload_n 1) (by decide +kernel) _ _ _).trans rfl
theorem e214_22 (ls : List Value) (x : Int32) (a : Nat) (st : List Value) (w : zH) : zrun none (214, 22, ls, (.int x :: .ref a :: st), w) = zgd (a < zX ∧ (zf w a 1216).isSome = true) (zrun none (214, 25, ls, st, zpf w a 1216 (.int x))) := by
  refine (zE_ (i := .putfield 1216) (by decide +kernel) _ _ _).trans ?_
  by_cases hg : a < zX ∧ (zf w a 1216).isSome = true
  · rw [zgd_pos hg]
    obtain ⟨ha, h⟩ := hg
    exact zq_putf ha h rfl rfl
  · rw [zgd_neg hg]
    exact zq_putf_no (fun h1 h2 h3 => hg ⟨h1, h2⟩)
theorem e214_25 (v0 v1 : Value) (x : Int32) (st : List Value) (w : zH) : zrun none (214, 25, [v0, v1, .int x], st, w) = zrun none (214, 26, [v0, v1, .int x], (.int x :: st), w) := (zE_ (i := .iload_n 2) (by decide +kernel) _ _ _).trans rfl
theorem e214_26 (ls : List Value) (x : Int32) (w : zH) : zrun none (214, 26, ls, [.int x], w) = some (some (.int x), w) := by
  refine (zE_ (i := .ireturn) (by decide +kernel) _ _ _).trans ?_
  show zres (if narrow .int (.int x) = .int x then _ else none) = _
  rw [if_pos (show narrow .int (.int x) = .int x from rfl)]
  rfl
theorem e215_0 (v0 : Value) (x : Int32) (st : List Value) (w : zH) : zrun none (215, 0, [v0, .int x], st, w) = zrun none (215, 1, [v0, .int x], (.int x :: st), w) := (zE_ (i := .iload_n 1) (by decide +kernel) _ _ _).trans rfl
theorem e215_1 (ls : List Value) (a : Int32) (st : List Value) (w : zH) : zrun none (215, 1, ls, (.int a :: st), w) = if a = 0 then zrun none (215, 19, ls, st, w) else zrun none (215, 4, ls, st, w) := (zE_ (i := .ifCond .eq 18) (by decide +kernel) _ _ _).trans (zq_if_eq rfl rfl)
theorem e215_4 (v1 : Value) (x : Int32) (st : List Value) (w : zH) : zrun none (215, 4, [.int x, v1], st, w) = zrun none (215, 5, [.int x, v1], (.int x :: st), w) := (zE_ (i := .iload_n 0) (by decide +kernel) _ _ _).trans rfl
theorem e215_5 (v0 : Value) (x : Int32) (st : List Value) (w : zH) : zrun none (215, 5, [v0, .int x], st, w) = zrun none (215, 6, [v0, .int x], (.int x :: st), w) := (zE_ (i := .iload_n 1) (by decide +kernel) _ _ _).trans rfl
theorem e215_6 (ls : List Value) (a b : Int32) (st : List Value) (w : zH) : zrun none (215, 6, ls, (.int b :: .int a :: st), w) = if a = b then zrun none (215, 19, ls, st, w) else zrun none (215, 9, ls, st, w) := (zE_ (i := .if_icmp .eq 13) (by decide +kernel) _ _ _).trans (zq_ic_eq rfl rfl)
theorem e215_9 (v0 : Value) (x : Int32) (st : List Value) (w : zH) : zrun none (215, 9, [v0, .int x], st, w) = zrun none (215, 10, [v0, .int x], (.int x :: st), w) := (zE_ (i := .iload_n 1) (by decide +kernel) _ _ _).trans rfl
theorem e215_10 (ls st : List Value) (w : zH) : zrun none (215, 10, ls, st, w) = zrun none (215, 11, ls, (.int 1 :: st), w) := (zE_ (i := .iconst 1) (by decide +kernel) _ _ _).trans rfl
theorem e215_11 (ls : List Value) (a b : Int32) (st : List Value) (w : zH) : zrun none (215, 11, ls, (.int b :: .int a :: st), w) = if a = b then zrun none (215, 14, ls, st, w) else zrun none (215, 23, ls, st, w) := (zE_ (i := .if_icmp .ne 12) (by decide +kernel) _ _ _).trans (zq_ic_ne rfl rfl)
theorem e215_14 (v1 : Value) (x : Int32) (st : List Value) (w : zH) : zrun none (215, 14, [.int x, v1], st, w) = zrun none (215, 15, [.int x, v1], (.int x :: st), w) := (zE_ (i := .iload_n 0) (by decide +kernel) _ _ _).trans rfl
theorem e215_15 (ls st : List Value) (w : zH) : zrun none (215, 15, ls, st, w) = zrun none (215, 16, ls, (.int 2 :: st), w) := (zE_ (i := .iconst 2) (by decide +kernel) _ _ _).trans rfl
theorem e215_16 (ls : List Value) (a b : Int32) (st : List Value) (w : zH) : zrun none (215, 16, ls, (.int b :: .int a :: st), w) = if a = b then zrun none (215, 19, ls, st, w) else zrun none (215, 23, ls, st, w) := (zE_ (i := .if_icmp .ne 7) (by decide +kernel) _ _ _).trans (zq_ic_ne rfl rfl)
theorem e215_19 (ls st : List Value) (w : zH) : zrun none (215, 19, ls, st, w) = zrun none (215, 20, ls, (.int 1 :: st), w) := (zE_ (i := .iconst 1) (by decide +kernel) _ _ _).trans rfl
theorem e215_20 (ls st : List Value) (w : zH) : zrun none (215, 20, ls, st, w) = zrun none (215, 24, ls, st, w) := (zE_ (i := .goto 4) (by decide +kernel) _ _ _).trans rfl
theorem e215_23 (ls st : List Value) (w : zH) : zrun none (215, 23, ls, st, w) = zrun none (215, 24, ls, (.int 0 :: st), w) := (zE_ (i := .iconst 0) (by decide +kernel) _ _ _).trans rfl
theorem e215_24 (ls : List Value) (x : Int32) (w : zH) (h : narrow .boolean (.int x) = .int x) : zrun none (215, 24, ls, [.int x], w) = some (some (.int x), w) := by
  refine (zE_ (i := .ireturn) (by decide +kernel) _ _ _).trans ?_
  show zres (if narrow .boolean (.int x) = .int x then _ else none) = _
  rw [if_pos h]
  rfl
theorem e216_0 (v1 : Value) (x : Nat) (st : List Value) (w : zH) : zrun none (216, 0, [.ref x, v1], st, w) = zrun none (216, 1, [.ref x, v1], (.ref x :: st), w) := (zE_ (i := .aload_n 0) (by decide +kernel) _ _ _).trans rfl
theorem e216_1 (ls st : List Value) (w : zH) : zrun none (216, 1, ls, st, w) = zrun none (216, 2, ls, (.int 0 :: st), w) := (zE_ (i := .iconst 0) (by decide +kernel) _ _ _).trans rfl
theorem e216_2 (ls : List Value) (x : Int32) (a : Nat) (st : List Value) (w : zH) : zrun none (216, 2, ls, (.int x :: .ref a :: st), w) = zgd (a < zX ∧ (zf w a 1200).isSome = true) (zrun none (216, 5, ls, st, zpf w a 1200 (.int x))) := by
  refine (zE_ (i := .putfield 1200) (by decide +kernel) _ _ _).trans ?_
  by_cases hg : a < zX ∧ (zf w a 1200).isSome = true
  · rw [zgd_pos hg]
    obtain ⟨ha, h⟩ := hg
    exact zq_putf ha h rfl rfl
  · rw [zgd_neg hg]
    exact zq_putf_no (fun h1 h2 h3 => hg ⟨h1, h2⟩)
theorem e216_5 (v1 : Value) (x : Nat) (st : List Value) (w : zH) : zrun none (216, 5, [.ref x, v1], st, w) = zrun none (216, 6, [.ref x, v1], (.ref x :: st), w) := (zE_ (i := .aload_n 0) (by decide +kernel) _ _ _).trans rfl
theorem e216_6 (v0 : Value) (x : Int32) (st : List Value) (w : zH) : zrun none (216, 6, [v0, .int x], st, w) = zrun none (216, 7, [v0, .int x], (.int x :: st), w) := (zE_ (i := .iload_n 1) (by decide +kernel) _ _ _).trans rfl
theorem e216_7 (ls : List Value) (a : Nat) (x0 : Int32) (st : List Value) (w : zH) (hr : zcat st ≤ 8) : zrun none (216, 7, ls, (.int x0 :: .ref a :: st), w) = zgd (zis w a 12) (zcl (zrun none (162, 0, [.ref a, .int x0], [], w)) (fun r => zrun none (216, 10, ls, r.1.toList ++ st, r.2))) := by
  refine (zE_ (i := .invokevirtual 162) (by decide +kernel) _ _ _).trans ?_
  show zres (zinv none 162 216 7 ls (.int x0 :: .ref a :: st) w) = _
  unfold zinv
  show zres (if zrc none 162 w (.ref a) = true then zcall 162 [.ref a, .int x0] st 216 7 ls w else none) = _
  by_cases hc : zis w a 12
  · rw [if_pos (zrc_is hc (by decide +kernel)), zgd_pos hc]
    exact zq_call hr (Nat.le_of_ble_eq_true rfl) rfl rfl
  · rw [zgd_neg hc, if_neg (fun q => hc (zrc_of q (by decide +kernel)))]
    rfl
theorem e216_10 (ls : List Value) (a : Int32) (st : List Value) (w : zH) : zrun none (216, 10, ls, (.int a :: st), w) = if a = 0 then zrun none (216, 25, ls, st, w) else zrun none (216, 13, ls, st, w) := (zE_ (i := .ifCond .eq 15) (by decide +kernel) _ _ _).trans (zq_if_eq rfl rfl)
theorem e216_13 (v1 : Value) (x : Nat) (st : List Value) (w : zH) : zrun none (216, 13, [.ref x, v1], st, w) = zrun none (216, 14, [.ref x, v1], (.ref x :: st), w) := (zE_ (i := .aload_n 0) (by decide +kernel) _ _ _).trans rfl
theorem e216_14 (v0 : Value) (x : Int32) (st : List Value) (w : zH) : zrun none (216, 14, [v0, .int x], st, w) = zrun none (216, 15, [v0, .int x], (.int x :: st), w) := (zE_ (i := .iload_n 1) (by decide +kernel) _ _ _).trans rfl
theorem e216_15 (v1 : Value) (x : Nat) (st : List Value) (w : zH) : zrun none (216, 15, [.ref x, v1], st, w) = zrun none (216, 16, [.ref x, v1], (.ref x :: st), w) := (zE_ (i := .aload_n 0) (by decide +kernel) _ _ _).trans rfl
theorem e216_16 (ls : List Value) (a : Nat) (st : List Value) (w : zH) : zrun none (216, 16, ls, (.ref a :: st), w) = zo (zf w a 1216) (fun x => zrun none (216, 19, ls, (x :: st), w)) := (zE_ (i := .getfield 1216) (by decide +kernel) _ _ _).trans zq_getf
theorem e216_19 (ls : List Value) (a : Nat) (x0 : Int32) (x1 : Int32) (st : List Value) (w : zH) (hr : zcat st ≤ 8) : zrun none (216, 19, ls, (.int x1 :: .int x0 :: .ref a :: st), w) = zgd (zis w a 12) (zcl (zrun none (166, 0, [.ref a, .int x0, .int x1, zJ, zJ], [], w)) (fun r => zrun none (216, 22, ls, r.1.toList ++ st, r.2))) := by
  refine (zE_ (i := .invokevirtual 166) (by decide +kernel) _ _ _).trans ?_
  show zres (zinv none 166 216 19 ls (.int x1 :: .int x0 :: .ref a :: st) w) = _
  unfold zinv
  show zres (if zrc none 166 w (.ref a) = true then zcall 166 [.ref a, .int x0, .int x1] st 216 19 ls w else none) = _
  by_cases hc : zis w a 12
  · rw [if_pos (zrc_is hc (by decide +kernel)), zgd_pos hc]
    exact zq_call hr (Nat.le_of_ble_eq_true rfl) rfl rfl
  · rw [zgd_neg hc, if_neg (fun q => hc (zrc_of q (by decide +kernel)))]
    rfl
theorem e216_22 (ls st : List Value) (w : zH) : zrun none (216, 22, ls, st, w) = zrun none (216, 27, ls, st, w) := (zE_ (i := .goto 5) (by decide +kernel) _ _ _).trans rfl
theorem e216_25 (ls st : List Value) (w : zH) : zrun none (216, 25, ls, st, w) = zrun none (216, 27, ls, (.int (-1000001) :: st), w) := (zE_ (i := .bipush (-1000001)) (by decide +kernel) _ _ _).trans rfl
theorem e216_27 (ls : List Value) (x : Int32) (w : zH) : zrun none (216, 27, ls, [.int x], w) = some (some (.int x), w) := by
  refine (zE_ (i := .ireturn) (by decide +kernel) _ _ _).trans ?_
  show zres (if narrow .int (.int x) = .int x then _ else none) = _
  rw [if_pos (show narrow .int (.int x) = .int x from rfl)]
  rfl
theorem e217_0 (v1 v2 : Value) (x : Nat) (st : List Value) (w : zH) : zrun none (217, 0, [.ref x, v1, v2], st, w) = zrun none (217, 1, [.ref x, v1, v2], (.ref x :: st), w) := (zE_ (i := .aload_n 0) (by decide +kernel) _ _ _).trans rfl
theorem e217_1 (ls st : List Value) (w : zH) : zrun none (217, 1, ls, st, w) = zrun none (217, 2, ls, (.int 0 :: st), w) := (zE_ (i := .iconst 0) (by decide +kernel) _ _ _).trans rfl
theorem e217_2 (ls : List Value) (x : Int32) (a : Nat) (st : List Value) (w : zH) : zrun none (217, 2, ls, (.int x :: .ref a :: st), w) = zgd (a < zX ∧ (zf w a 1200).isSome = true) (zrun none (217, 5, ls, st, zpf w a 1200 (.int x))) := by
  refine (zE_ (i := .putfield 1200) (by decide +kernel) _ _ _).trans ?_
  by_cases hg : a < zX ∧ (zf w a 1200).isSome = true
  · rw [zgd_pos hg]
    obtain ⟨ha, h⟩ := hg
    exact zq_putf ha h rfl rfl
  · rw [zgd_neg hg]
    exact zq_putf_no (fun h1 h2 h3 => hg ⟨h1, h2⟩)
theorem e217_5 (v1 v2 : Value) (x : Nat) (st : List Value) (w : zH) : zrun none (217, 5, [.ref x, v1, v2], st, w) = zrun none (217, 6, [.ref x, v1, v2], (.ref x :: st), w) := (zE_ (i := .aload_n 0) (by decide +kernel) _ _ _).trans rfl
theorem e217_6 (v0 v2 : Value) (x : Int32) (st : List Value) (w : zH) : zrun none (217, 6, [v0, .int x, v2], st, w) = zrun none (217, 7, [v0, .int x, v2], (.int x :: st), w) := (zE_ (i := .iload_n 1) (by decide +kernel) _ _ _).trans rfl
theorem e217_7 (ls : List Value) (a : Nat) (x0 : Int32) (st : List Value) (w : zH) (hr : zcat st ≤ 8) : zrun none (217, 7, ls, (.int x0 :: .ref a :: st), w) = zgd (zis w a 12) (zcl (zrun none (162, 0, [.ref a, .int x0], [], w)) (fun r => zrun none (217, 10, ls, r.1.toList ++ st, r.2))) := by
  refine (zE_ (i := .invokevirtual 162) (by decide +kernel) _ _ _).trans ?_
  show zres (zinv none 162 217 7 ls (.int x0 :: .ref a :: st) w) = _
  unfold zinv
  show zres (if zrc none 162 w (.ref a) = true then zcall 162 [.ref a, .int x0] st 217 7 ls w else none) = _
  by_cases hc : zis w a 12
  · rw [if_pos (zrc_is hc (by decide +kernel)), zgd_pos hc]
    exact zq_call hr (Nat.le_of_ble_eq_true rfl) rfl rfl
  · rw [zgd_neg hc, if_neg (fun q => hc (zrc_of q (by decide +kernel)))]
    rfl
theorem e217_10 (ls : List Value) (a : Int32) (st : List Value) (w : zH) : zrun none (217, 10, ls, (.int a :: st), w) = if a = 0 then zrun none (217, 25, ls, st, w) else zrun none (217, 13, ls, st, w) := (zE_ (i := .ifCond .eq 15) (by decide +kernel) _ _ _).trans (zq_if_eq rfl rfl)
theorem e217_13 (v0 v1 : Value) (x : Int32) (st : List Value) (w : zH) : zrun none (217, 13, [v0, v1, .int x], st, w) = zrun none (217, 14, [v0, v1, .int x], (.int x :: st), w) := (zE_ (i := .iload_n 2) (by decide +kernel) _ _ _).trans rfl
theorem e217_14 (ls : List Value) (a : Int32) (st : List Value) (w : zH) : zrun none (217, 14, ls, (.int a :: st), w) = zrun none (217, 15, ls, (.long a.toInt64 :: st), w) := (zE_ (i := .i2l) (by decide +kernel) _ _ _).trans rfl
theorem e217_15 (ls st : List Value) (w : zH) : zrun none (217, 15, ls, st, w) = zrun none (217, 16, ls, (.long 0 :: st), w) := (zE_ (i := .lconst 0) (by decide +kernel) _ _ _).trans rfl
theorem e217_16 (ls st : List Value) (w : zH) : zrun none (217, 16, ls, st, w) = zrun none (217, 19, ls, (.long 3 :: st), w) := (zE_ (i := .ldc2_w 3) (by decide +kernel) _ _ _).trans rfl
theorem e217_19 (ls : List Value) (x0 : Int64) (x1 : Int64) (x2 : Int64) (st : List Value) (w : zH) (hr : zcat st ≤ 8) : zrun none (217, 19, ls, (.long x2 :: .long x1 :: .long x0 :: st), w) = zcl (zrun none (146, 0, [.long x0, zJ, .long x1, zJ, .long x2, zJ], [], w)) (fun r => zrun none (217, 22, ls, r.1.toList ++ st, r.2)) := by
  refine (zE_ (i := .invokestatic 146) (by decide +kernel) _ _ _).trans ?_
  show zres (if (99 : Nat) = 99 ∧ 3 ≤ ((.long x2 :: .long x1 :: .long x0 :: st) : List Value).length then zcall 146 [.long x0, .long x1, .long x2] st 217 19 ls w else none) = _
  rw [if_pos ⟨rfl, by simp⟩]
  exact zq_call hr (Nat.le_of_ble_eq_true rfl) rfl rfl
theorem e217_22 (ls : List Value) (a : Int32) (st : List Value) (w : zH) : zrun none (217, 22, ls, (.int a :: st), w) = if a = 0 then zrun none (217, 25, ls, st, w) else zrun none (217, 28, ls, st, w) := (zE_ (i := .ifCond .ne 6) (by decide +kernel) _ _ _).trans (zq_if_ne rfl rfl)
theorem e217_25 (ls st : List Value) (w : zH) : zrun none (217, 25, ls, st, w) = zrun none (217, 27, ls, (.int (-1000001) :: st), w) := (zE_ (i := .bipush (-1000001)) (by decide +kernel) _ _ _).trans rfl
theorem e217_27 (ls : List Value) (x : Int32) (w : zH) : zrun none (217, 27, ls, [.int x], w) = some (some (.int x), w) := by
  refine (zE_ (i := .ireturn) (by decide +kernel) _ _ _).trans ?_
  show zres (if narrow .int (.int x) = .int x then _ else none) = _
  rw [if_pos (show narrow .int (.int x) = .int x from rfl)]
  rfl
theorem e217_28 (v1 v2 : Value) (x : Nat) (st : List Value) (w : zH) : zrun none (217, 28, [.ref x, v1, v2], st, w) = zrun none (217, 29, [.ref x, v1, v2], (.ref x :: st), w) := (zE_ (i := .aload_n 0) (by decide +kernel) _ _ _).trans rfl
theorem e217_29 (ls st : List Value) (w : zH) : zrun none (217, 29, ls, st, w) = zrun none (217, 30, ls, (.int 0 :: st), w) := (zE_ (i := .iconst 0) (by decide +kernel) _ _ _).trans rfl
theorem e217_30 (ls : List Value) (x : Int32) (a : Nat) (st : List Value) (w : zH) : zrun none (217, 30, ls, (.int x :: .ref a :: st), w) = zgd (a < zX ∧ (zf w a 1201).isSome = true) (zrun none (217, 33, ls, st, zpf w a 1201 (.int x))) := by
  refine (zE_ (i := .putfield 1201) (by decide +kernel) _ _ _).trans ?_
  by_cases hg : a < zX ∧ (zf w a 1201).isSome = true
  · rw [zgd_pos hg]
    obtain ⟨ha, h⟩ := hg
    exact zq_putf ha h rfl rfl
  · rw [zgd_neg hg]
    exact zq_putf_no (fun h1 h2 h3 => hg ⟨h1, h2⟩)
theorem e217_33 (v1 v2 : Value) (x : Nat) (st : List Value) (w : zH) : zrun none (217, 33, [.ref x, v1, v2], st, w) = zrun none (217, 34, [.ref x, v1, v2], (.ref x :: st), w) := (zE_ (i := .aload_n 0) (by decide +kernel) _ _ _).trans rfl
theorem e217_34 (v0 v2 : Value) (x : Int32) (st : List Value) (w : zH) : zrun none (217, 34, [v0, .int x, v2], st, w) = zrun none (217, 35, [v0, .int x, v2], (.int x :: st), w) := (zE_ (i := .iload_n 1) (by decide +kernel) _ _ _).trans rfl
theorem e217_35 (v1 v2 : Value) (x : Nat) (st : List Value) (w : zH) : zrun none (217, 35, [.ref x, v1, v2], st, w) = zrun none (217, 36, [.ref x, v1, v2], (.ref x :: st), w) := (zE_ (i := .aload_n 0) (by decide +kernel) _ _ _).trans rfl
theorem e217_36 (ls : List Value) (a : Nat) (st : List Value) (w : zH) : zrun none (217, 36, ls, (.ref a :: st), w) = zo (zf w a 1216) (fun x => zrun none (217, 39, ls, (x :: st), w)) := (zE_ (i := .getfield 1216) (by decide +kernel) _ _ _).trans zq_getf
theorem e217_39 (ls : List Value) (a : Nat) (x0 : Int32) (x1 : Int32) (st : List Value) (w : zH) (hr : zcat st ≤ 8) : zrun none (217, 39, ls, (.int x1 :: .int x0 :: .ref a :: st), w) = zgd (zis w a 12) (zcl (zrun none (166, 0, [.ref a, .int x0, .int x1, zJ, zJ], [], w)) (fun r => zrun none (217, 42, ls, r.1.toList ++ st, r.2))) := by
  refine (zE_ (i := .invokevirtual 166) (by decide +kernel) _ _ _).trans ?_
  show zres (zinv none 166 217 39 ls (.int x1 :: .int x0 :: .ref a :: st) w) = _
  unfold zinv
  show zres (if zrc none 166 w (.ref a) = true then zcall 166 [.ref a, .int x0, .int x1] st 217 39 ls w else none) = _
  by_cases hc : zis w a 12
  · rw [if_pos (zrc_is hc (by decide +kernel)), zgd_pos hc]
    exact zq_call hr (Nat.le_of_ble_eq_true rfl) rfl rfl
  · rw [zgd_neg hc, if_neg (fun q => hc (zrc_of q (by decide +kernel)))]
    rfl
theorem e217_42 (v0 v1 : Value) (x : Int32) (st : List Value) (w : zH) : zrun none (217, 42, [v0, v1, .int x], st, w) = zrun none (217, 43, [v0, v1, .int x], (.int x :: st), w) := (zE_ (i := .iload_n 2) (by decide +kernel) _ _ _).trans rfl
theorem e217_43 (ls : List Value) (x0 : Int32) (x1 : Int32) (st : List Value) (w : zH) (hr : zcat st ≤ 8) : zrun none (217, 43, ls, (.int x1 :: .int x0 :: st), w) = zcl (zrun none (215, 0, [.int x0, .int x1], [], w)) (fun r => zrun none (217, 46, ls, r.1.toList ++ st, r.2)) := by
  refine (zE_ (i := .invokestatic 215) (by decide +kernel) _ _ _).trans ?_
  show zres (if (99 : Nat) = 99 ∧ 2 ≤ ((.int x1 :: .int x0 :: st) : List Value).length then zcall 215 [.int x0, .int x1] st 217 43 ls w else none) = _
  rw [if_pos ⟨rfl, by simp⟩]
  exact zq_call hr (Nat.le_of_ble_eq_true rfl) rfl rfl
theorem e217_46 (ls : List Value) (a : Int32) (st : List Value) (w : zH) : zrun none (217, 46, ls, (.int a :: st), w) = if a = 0 then zrun none (217, 58, ls, st, w) else zrun none (217, 49, ls, st, w) := (zE_ (i := .ifCond .eq 12) (by decide +kernel) _ _ _).trans (zq_if_eq rfl rfl)
theorem e217_49 (v1 v2 : Value) (x : Nat) (st : List Value) (w : zH) : zrun none (217, 49, [.ref x, v1, v2], st, w) = zrun none (217, 50, [.ref x, v1, v2], (.ref x :: st), w) := (zE_ (i := .aload_n 0) (by decide +kernel) _ _ _).trans rfl
theorem e217_50 (ls : List Value) (a : Nat) (st : List Value) (w : zH) : zrun none (217, 50, ls, (.ref a :: st), w) = zo (zf w a 1214) (fun x => zrun none (217, 53, ls, (x :: st), w)) := (zE_ (i := .getfield 1214) (by decide +kernel) _ _ _).trans zq_getf
theorem e217_53 (v0 v2 : Value) (x : Int32) (st : List Value) (w : zH) : zrun none (217, 53, [v0, .int x, v2], st, w) = zrun none (217, 54, [v0, .int x, v2], (.int x :: st), w) := (zE_ (i := .iload_n 1) (by decide +kernel) _ _ _).trans rfl
theorem e217_54 (ls : List Value) (j : Int32) (a : Nat) (st : List Value) (w : zH) : zrun none (217, 54, ls, (.int j :: .ref a :: st), w) = zoi (zai w a 100 j) (fun x => zrun none (217, 55, ls, (.int x :: st), w)) := (zE_ (i := .iaload) (by decide +kernel) _ _ _).trans zq_iald
theorem e217_55 (ls st : List Value) (w : zH) : zrun none (217, 55, ls, st, w) = zrun none (217, 63, ls, st, w) := (zE_ (i := .goto 8) (by decide +kernel) _ _ _).trans rfl
theorem e217_58 (v1 v2 : Value) (x : Nat) (st : List Value) (w : zH) : zrun none (217, 58, [.ref x, v1, v2], st, w) = zrun none (217, 59, [.ref x, v1, v2], (.ref x :: st), w) := (zE_ (i := .aload_n 0) (by decide +kernel) _ _ _).trans rfl
theorem e217_59 (ls st : List Value) (w : zH) : zrun none (217, 59, ls, st, w) = zrun none (217, 60, ls, (.int 3 :: st), w) := (zE_ (i := .iconst 3) (by decide +kernel) _ _ _).trans rfl
theorem e217_60 (ls : List Value) (a : Nat) (x0 : Int32) (st : List Value) (w : zH) (hr : zcat st ≤ 8) : zrun none (217, 60, ls, (.int x0 :: .ref a :: st), w) = zgd (zis w a 12) (zcl (zrun none (147, 0, [.ref a, .int x0], [], w)) (fun r => zrun none (217, 63, ls, r.1.toList ++ st, r.2))) := by
  refine (zE_ (i := .invokevirtual 147) (by decide +kernel) _ _ _).trans ?_
  show zres (zinv none 147 217 60 ls (.int x0 :: .ref a :: st) w) = _
  unfold zinv
  show zres (if zrc none 147 w (.ref a) = true then zcall 147 [.ref a, .int x0] st 217 60 ls w else none) = _
  by_cases hc : zis w a 12
  · rw [if_pos (zrc_is hc (by decide +kernel)), zgd_pos hc]
    exact zq_call hr (Nat.le_of_ble_eq_true rfl) rfl rfl
  · rw [zgd_neg hc, if_neg (fun q => hc (zrc_of q (by decide +kernel)))]
    rfl
theorem e217_63 (ls : List Value) (x : Int32) (w : zH) : zrun none (217, 63, ls, [.int x], w) = some (some (.int x), w) := by
  refine (zE_ (i := .ireturn) (by decide +kernel) _ _ _).trans ?_
  show zres (if narrow .int (.int x) = .int x then _ else none) = _
  rw [if_pos (show narrow .int (.int x) = .int x from rfl)]
  rfl
theorem e218_0 (v1 : Value) (x : Nat) (st : List Value) (w : zH) : zrun none (218, 0, [.ref x, v1], st, w) = zrun none (218, 1, [.ref x, v1], (.ref x :: st), w) := (zE_ (i := .aload_n 0) (by decide +kernel) _ _ _).trans rfl
theorem e218_1 (ls : List Value) (a : Nat) (st : List Value) (w : zH) : zrun none (218, 1, ls, (.ref a :: st), w) = zo (zf w a 1250) (fun x => zrun none (218, 4, ls, (x :: st), w)) := (zE_ (i := .getfield 1250) (by decide +kernel) _ _ _).trans zq_getf
theorem e218_4 (ls st : List Value) (w : zH) : zrun none (218, 4, ls, st, w) = zrun none (218, 6, ls, (.int 16 :: st), w) := (zE_ (i := .bipush 16) (by decide +kernel) _ _ _).trans rfl
theorem e218_6 (ls : List Value) (a b : Int32) (st : List Value) (w : zH) : zrun none (218, 6, ls, (.int b :: .int a :: st), w) = if b ≤ a then zrun none (218, 29, ls, st, w) else zrun none (218, 9, ls, st, w) := (zE_ (i := .if_icmp .ge 23) (by decide +kernel) _ _ _).trans (zq_ic_ge rfl rfl)
theorem e218_9 (v1 : Value) (x : Nat) (st : List Value) (w : zH) : zrun none (218, 9, [.ref x, v1], st, w) = zrun none (218, 10, [.ref x, v1], (.ref x :: st), w) := (zE_ (i := .aload_n 0) (by decide +kernel) _ _ _).trans rfl
theorem e218_10 (ls : List Value) (a : Nat) (st : List Value) (w : zH) : zrun none (218, 10, ls, (.ref a :: st), w) = zo (zf w a 1249) (fun x => zrun none (218, 13, ls, (x :: st), w)) := (zE_ (i := .getfield 1249) (by decide +kernel) _ _ _).trans zq_getf
theorem e218_13 (v1 : Value) (x : Nat) (st : List Value) (w : zH) : zrun none (218, 13, [.ref x, v1], st, w) = zrun none (218, 14, [.ref x, v1], (.ref x :: st), w) := (zE_ (i := .aload_n 0) (by decide +kernel) _ _ _).trans rfl
theorem e218_14 (ls : List Value) (a : Nat) (st : List Value) (w : zH) : zrun none (218, 14, ls, (.ref a :: st), w) = zo (zf w a 1250) (fun x => zrun none (218, 17, ls, (x :: st), w)) := (zE_ (i := .getfield 1250) (by decide +kernel) _ _ _).trans zq_getf
theorem e218_17 (v0 : Value) (x : Int32) (st : List Value) (w : zH) : zrun none (218, 17, [v0, .int x], st, w) = zrun none (218, 18, [v0, .int x], (.int x :: st), w) := (zE_ (i := .iload_n 1) (by decide +kernel) _ _ _).trans rfl
theorem e218_18 (ls : List Value) (x j : Int32) (a : Nat) (st : List Value) (w : zH) : zrun none (218, 18, ls, (.int x :: .int j :: .ref a :: st), w) = zgd (zin? w a 100 j) (zrun none (218, 19, ls, st, zas w a j (.int x))) := by
  refine (zE_ (i := .iastore) (by decide +kernel) _ _ _).trans ?_
  by_cases hg : zin? w a 100 j
  · rw [zgd_pos hg]
    exact zq_iast hg
  · rw [zgd_neg hg]
    exact zq_iast_no hg
theorem e218_19 (v1 : Value) (x : Nat) (st : List Value) (w : zH) : zrun none (218, 19, [.ref x, v1], st, w) = zrun none (218, 20, [.ref x, v1], (.ref x :: st), w) := (zE_ (i := .aload_n 0) (by decide +kernel) _ _ _).trans rfl
theorem e218_20 (ls : List Value) (x : Int32) (st : List Value) (w : zH) : zrun none (218, 20, ls, (.int x :: st), w) = zrun none (218, 21, ls, (.int x :: .int x :: st), w) := (zE_ (i := .dup) (by decide +kernel) _ _ _).trans rfl
theorem e218_20r (ls : List Value) (x : Nat) (st : List Value) (w : zH) : zrun none (218, 20, ls, (.ref x :: st), w) = zrun none (218, 21, ls, (.ref x :: .ref x :: st), w) := (zE_ (i := .dup) (by decide +kernel) _ _ _).trans rfl
theorem e218_21 (ls : List Value) (a : Nat) (st : List Value) (w : zH) : zrun none (218, 21, ls, (.ref a :: st), w) = zo (zf w a 1250) (fun x => zrun none (218, 24, ls, (x :: st), w)) := (zE_ (i := .getfield 1250) (by decide +kernel) _ _ _).trans zq_getf
theorem e218_24 (ls st : List Value) (w : zH) : zrun none (218, 24, ls, st, w) = zrun none (218, 25, ls, (.int 1 :: st), w) := (zE_ (i := .iconst 1) (by decide +kernel) _ _ _).trans rfl
theorem e218_25 (ls : List Value) (a b : Int32) (st : List Value) (w : zH) : zrun none (218, 25, ls, (.int b :: .int a :: st), w) = zrun none (218, 26, ls, (.int (a + b) :: st), w) := (zE_ (i := .iadd) (by decide +kernel) _ _ _).trans rfl
theorem e218_26 (ls : List Value) (x : Int32) (a : Nat) (st : List Value) (w : zH) : zrun none (218, 26, ls, (.int x :: .ref a :: st), w) = zgd (a < zX ∧ (zf w a 1250).isSome = true) (zrun none (218, 29, ls, st, zpf w a 1250 (.int x))) := by
  refine (zE_ (i := .putfield 1250) (by decide +kernel) _ _ _).trans ?_
  by_cases hg : a < zX ∧ (zf w a 1250).isSome = true
  · rw [zgd_pos hg]
    obtain ⟨ha, h⟩ := hg
    exact zq_putf ha h rfl rfl
  · rw [zgd_neg hg]
    exact zq_putf_no (fun h1 h2 h3 => hg ⟨h1, h2⟩)
theorem e218_29 (ls : List Value) (w : zH) : zrun none (218, 29, ls, [], w) = some (none, w) := (zE_ (i := .return_) (by decide +kernel) _ _ _).trans rfl
theorem e219_0 (v0 v1 v3 : Value) (x : Int32) (st : List Value) (w : zH) : zrun none (219, 0, [v0, v1, .int x, v3], st, w) = zrun none (219, 1, [v0, v1, .int x, v3], (.int x :: st), w) := (zE_ (i := .iload_n 2) (by decide +kernel) _ _ _).trans rfl
theorem e219_1 (ls st : List Value) (w : zH) : zrun none (219, 1, ls, st, w) = zrun none (219, 2, ls, (.int 2 :: st), w) := (zE_ (i := .iconst 2) (by decide +kernel) _ _ _).trans rfl
theorem e219_2 (ls : List Value) (a b : Int32) (st : List Value) (w : zH) : zrun none (219, 2, ls, (.int b :: .int a :: st), w) = if a = b then zrun none (219, 5, ls, st, w) else zrun none (219, 11, ls, st, w) := (zE_ (i := .if_icmp .ne 9) (by decide +kernel) _ _ _).trans (zq_ic_ne rfl rfl)
theorem e219_5 (v1 v2 v3 : Value) (x : Nat) (st : List Value) (w : zH) : zrun none (219, 5, [.ref x, v1, v2, v3], st, w) = zrun none (219, 6, [.ref x, v1, v2, v3], (.ref x :: st), w) := (zE_ (i := .aload_n 0) (by decide +kernel) _ _ _).trans rfl
theorem e219_6 (ls st : List Value) (w : zH) : zrun none (219, 6, ls, st, w) = zrun none (219, 8, ls, (.int 12 :: st), w) := (zE_ (i := .bipush 12) (by decide +kernel) _ _ _).trans rfl
theorem e219_8 (ls : List Value) (a : Nat) (x0 : Int32) (st : List Value) (w : zH) (hr : zcat st ≤ 8) : zrun none (219, 8, ls, (.int x0 :: .ref a :: st), w) = zgd (zis w a 12) (zcl (zrun none (218, 0, [.ref a, .int x0], [], w)) (fun r => zrun none (219, 11, ls, r.1.toList ++ st, r.2))) := by
  refine (zE_ (i := .invokevirtual 218) (by decide +kernel) _ _ _).trans ?_
  show zres (zinv none 218 219 8 ls (.int x0 :: .ref a :: st) w) = _
  unfold zinv
  show zres (if zrc none 218 w (.ref a) = true then zcall 218 [.ref a, .int x0] st 219 8 ls w else none) = _
  by_cases hc : zis w a 12
  · rw [if_pos (zrc_is hc (by decide +kernel)), zgd_pos hc]
    exact zq_call hr (Nat.le_of_ble_eq_true rfl) rfl rfl
  · rw [zgd_neg hc, if_neg (fun q => hc (zrc_of q (by decide +kernel)))]
    rfl
theorem e219_11 (v0 v1 v3 : Value) (x : Int32) (st : List Value) (w : zH) : zrun none (219, 11, [v0, v1, .int x, v3], st, w) = zrun none (219, 12, [v0, v1, .int x, v3], (.int x :: st), w) := (zE_ (i := .iload_n 2) (by decide +kernel) _ _ _).trans rfl
theorem e219_12 (ls st : List Value) (w : zH) : zrun none (219, 12, ls, st, w) = zrun none (219, 13, ls, (.int 1 :: st), w) := (zE_ (i := .iconst 1) (by decide +kernel) _ _ _).trans rfl
theorem e219_13 (ls : List Value) (x0 : Int32) (x1 : Int32) (st : List Value) (w : zH) (hr : zcat st ≤ 8) : zrun none (219, 13, ls, (.int x1 :: .int x0 :: st), w) = zcl (zrun none (215, 0, [.int x0, .int x1], [], w)) (fun r => zrun none (219, 16, ls, r.1.toList ++ st, r.2)) := by
  refine (zE_ (i := .invokestatic 215) (by decide +kernel) _ _ _).trans ?_
  show zres (if (99 : Nat) = 99 ∧ 2 ≤ ((.int x1 :: .int x0 :: st) : List Value).length then zcall 215 [.int x0, .int x1] st 219 13 ls w else none) = _
  rw [if_pos ⟨rfl, by simp⟩]
  exact zq_call hr (Nat.le_of_ble_eq_true rfl) rfl rfl
theorem e219_16 (ls : List Value) (a : Int32) (st : List Value) (w : zH) : zrun none (219, 16, ls, (.int a :: st), w) = if a = 0 then zrun none (219, 25, ls, st, w) else zrun none (219, 19, ls, st, w) := (zE_ (i := .ifCond .eq 9) (by decide +kernel) _ _ _).trans (zq_if_eq rfl rfl)
theorem e219_19 (v1 v2 v3 : Value) (x : Nat) (st : List Value) (w : zH) : zrun none (219, 19, [.ref x, v1, v2, v3], st, w) = zrun none (219, 20, [.ref x, v1, v2, v3], (.ref x :: st), w) := (zE_ (i := .aload_n 0) (by decide +kernel) _ _ _).trans rfl
theorem e219_20 (ls st : List Value) (w : zH) : zrun none (219, 20, ls, st, w) = zrun none (219, 22, ls, (.int 11 :: st), w) := (zE_ (i := .bipush 11) (by decide +kernel) _ _ _).trans rfl
theorem e219_22 (ls : List Value) (a : Nat) (x0 : Int32) (st : List Value) (w : zH) (hr : zcat st ≤ 8) : zrun none (219, 22, ls, (.int x0 :: .ref a :: st), w) = zgd (zis w a 12) (zcl (zrun none (218, 0, [.ref a, .int x0], [], w)) (fun r => zrun none (219, 25, ls, r.1.toList ++ st, r.2))) := by
  refine (zE_ (i := .invokevirtual 218) (by decide +kernel) _ _ _).trans ?_
  show zres (zinv none 218 219 22 ls (.int x0 :: .ref a :: st) w) = _
  unfold zinv
  show zres (if zrc none 218 w (.ref a) = true then zcall 218 [.ref a, .int x0] st 219 22 ls w else none) = _
  by_cases hc : zis w a 12
  · rw [if_pos (zrc_is hc (by decide +kernel)), zgd_pos hc]
    exact zq_call hr (Nat.le_of_ble_eq_true rfl) rfl rfl
  · rw [zgd_neg hc, if_neg (fun q => hc (zrc_of q (by decide +kernel)))]
    rfl
theorem e219_25 (v0 v1 v3 : Value) (x : Int32) (st : List Value) (w : zH) : zrun none (219, 25, [v0, v1, .int x, v3], st, w) = zrun none (219, 26, [v0, v1, .int x, v3], (.int x :: st), w) := (zE_ (i := .iload_n 2) (by decide +kernel) _ _ _).trans rfl
theorem e219_26 (ls st : List Value) (w : zH) : zrun none (219, 26, ls, st, w) = zrun none (219, 27, ls, (.int 3 :: st), w) := (zE_ (i := .iconst 3) (by decide +kernel) _ _ _).trans rfl
theorem e219_27 (ls : List Value) (a b : Int32) (st : List Value) (w : zH) : zrun none (219, 27, ls, (.int b :: .int a :: st), w) = if a = b then zrun none (219, 30, ls, st, w) else zrun none (219, 36, ls, st, w) := (zE_ (i := .if_icmp .ne 9) (by decide +kernel) _ _ _).trans (zq_ic_ne rfl rfl)
theorem e219_30 (v1 v2 v3 : Value) (x : Nat) (st : List Value) (w : zH) : zrun none (219, 30, [.ref x, v1, v2, v3], st, w) = zrun none (219, 31, [.ref x, v1, v2, v3], (.ref x :: st), w) := (zE_ (i := .aload_n 0) (by decide +kernel) _ _ _).trans rfl
theorem e219_31 (ls st : List Value) (w : zH) : zrun none (219, 31, ls, st, w) = zrun none (219, 33, ls, (.int 13 :: st), w) := (zE_ (i := .bipush 13) (by decide +kernel) _ _ _).trans rfl
theorem e219_33 (ls : List Value) (a : Nat) (x0 : Int32) (st : List Value) (w : zH) (hr : zcat st ≤ 8) : zrun none (219, 33, ls, (.int x0 :: .ref a :: st), w) = zgd (zis w a 12) (zcl (zrun none (218, 0, [.ref a, .int x0], [], w)) (fun r => zrun none (219, 36, ls, r.1.toList ++ st, r.2))) := by
  refine (zE_ (i := .invokevirtual 218) (by decide +kernel) _ _ _).trans ?_
  show zres (zinv none 218 219 33 ls (.int x0 :: .ref a :: st) w) = _
  unfold zinv
  show zres (if zrc none 218 w (.ref a) = true then zcall 218 [.ref a, .int x0] st 219 33 ls w else none) = _
  by_cases hc : zis w a 12
  · rw [if_pos (zrc_is hc (by decide +kernel)), zgd_pos hc]
    exact zq_call hr (Nat.le_of_ble_eq_true rfl) rfl rfl
  · rw [zgd_neg hc, if_neg (fun q => hc (zrc_of q (by decide +kernel)))]
    rfl
theorem e219_36 (v1 v2 v3 : Value) (x : Nat) (st : List Value) (w : zH) : zrun none (219, 36, [.ref x, v1, v2, v3], st, w) = zrun none (219, 37, [.ref x, v1, v2, v3], (.ref x :: st), w) := (zE_ (i := .aload_n 0) (by decide +kernel) _ _ _).trans rfl
theorem e219_37 (ls st : List Value) (w : zH) : zrun none (219, 37, ls, st, w) = zrun none (219, 39, ls, (.int 10 :: st), w) := (zE_ (i := .bipush 10) (by decide +kernel) _ _ _).trans rfl
theorem e219_39 (ls : List Value) (a : Nat) (x0 : Int32) (st : List Value) (w : zH) (hr : zcat st ≤ 8) : zrun none (219, 39, ls, (.int x0 :: .ref a :: st), w) = zgd (zis w a 12) (zcl (zrun none (218, 0, [.ref a, .int x0], [], w)) (fun r => zrun none (219, 42, ls, r.1.toList ++ st, r.2))) := by
  refine (zE_ (i := .invokevirtual 218) (by decide +kernel) _ _ _).trans ?_
  show zres (zinv none 218 219 39 ls (.int x0 :: .ref a :: st) w) = _
  unfold zinv
  show zres (if zrc none 218 w (.ref a) = true then zcall 218 [.ref a, .int x0] st 219 39 ls w else none) = _
  by_cases hc : zis w a 12
  · rw [if_pos (zrc_is hc (by decide +kernel)), zgd_pos hc]
    exact zq_call hr (Nat.le_of_ble_eq_true rfl) rfl rfl
  · rw [zgd_neg hc, if_neg (fun q => hc (zrc_of q (by decide +kernel)))]
    rfl
theorem e219_42 (v1 v2 v3 : Value) (x : Nat) (st : List Value) (w : zH) : zrun none (219, 42, [.ref x, v1, v2, v3], st, w) = zrun none (219, 43, [.ref x, v1, v2, v3], (.ref x :: st), w) := (zE_ (i := .aload_n 0) (by decide +kernel) _ _ _).trans rfl
theorem e219_43 (ls : List Value) (a : Nat) (st : List Value) (w : zH) : zrun none (219, 43, ls, (.ref a :: st), w) = zo (zf w a 1215) (fun x => zrun none (219, 46, ls, (x :: st), w)) := (zE_ (i := .getfield 1215) (by decide +kernel) _ _ _).trans zq_getf
theorem e219_46 (v0 v2 v3 : Value) (x : Int32) (st : List Value) (w : zH) : zrun none (219, 46, [v0, .int x, v2, v3], st, w) = zrun none (219, 47, [v0, .int x, v2, v3], (.int x :: st), w) := (zE_ (i := .iload_n 1) (by decide +kernel) _ _ _).trans rfl
theorem e219_47 (ls : List Value) (j : Int32) (a : Nat) (st : List Value) (w : zH) : zrun none (219, 47, ls, (.int j :: .ref a :: st), w) = zoi (zai w a 100 j) (fun x => zrun none (219, 48, ls, (.int x :: st), w)) := (zE_ (i := .iaload) (by decide +kernel) _ _ _).trans zq_iald
theorem e219_48 (v0 v1 v3 : Value) (x : Int32) (st : List Value) (w : zH) : zrun none (219, 48, [v0, v1, .int x, v3], st, w) = zrun none (219, 49, [v0, v1, .int x, v3], (.int x :: st), w) := (zE_ (i := .iload_n 2) (by decide +kernel) _ _ _).trans rfl
theorem e219_49 (ls st : List Value) (w : zH) : zrun none (219, 49, ls, st, w) = zrun none (219, 50, ls, (.int 1 :: st), w) := (zE_ (i := .iconst 1) (by decide +kernel) _ _ _).trans rfl
theorem e219_50 (ls : List Value) (x0 : Int32) (x1 : Int32) (st : List Value) (w : zH) (hr : zcat st ≤ 8) : zrun none (219, 50, ls, (.int x1 :: .int x0 :: st), w) = zcl (zrun none (215, 0, [.int x0, .int x1], [], w)) (fun r => zrun none (219, 53, ls, r.1.toList ++ st, r.2)) := by
  refine (zE_ (i := .invokestatic 215) (by decide +kernel) _ _ _).trans ?_
  show zres (if (99 : Nat) = 99 ∧ 2 ≤ ((.int x1 :: .int x0 :: st) : List Value).length then zcall 215 [.int x0, .int x1] st 219 50 ls w else none) = _
  rw [if_pos ⟨rfl, by simp⟩]
  exact zq_call hr (Nat.le_of_ble_eq_true rfl) rfl rfl
theorem e219_53 (ls : List Value) (a : Int32) (st : List Value) (w : zH) : zrun none (219, 53, ls, (.int a :: st), w) = if a = 0 then zrun none (219, 68, ls, st, w) else zrun none (219, 56, ls, st, w) := (zE_ (i := .ifCond .eq 15) (by decide +kernel) _ _ _).trans (zq_if_eq rfl rfl)
theorem e219_56 (v1 v2 v3 : Value) (x : Nat) (st : List Value) (w : zH) : zrun none (219, 56, [.ref x, v1, v2, v3], st, w) = zrun none (219, 57, [.ref x, v1, v2, v3], (.ref x :: st), w) := (zE_ (i := .aload_n 0) (by decide +kernel) _ _ _).trans rfl
theorem e219_57 (v0 v2 v3 : Value) (x : Int32) (st : List Value) (w : zH) : zrun none (219, 57, [v0, .int x, v2, v3], st, w) = zrun none (219, 58, [v0, .int x, v2, v3], (.int x :: st), w) := (zE_ (i := .iload_n 1) (by decide +kernel) _ _ _).trans rfl
theorem e219_58 (v1 v2 v3 : Value) (x : Nat) (st : List Value) (w : zH) : zrun none (219, 58, [.ref x, v1, v2, v3], st, w) = zrun none (219, 59, [.ref x, v1, v2, v3], (.ref x :: st), w) := (zE_ (i := .aload_n 0) (by decide +kernel) _ _ _).trans rfl
theorem e219_59 (ls : List Value) (a : Nat) (st : List Value) (w : zH) : zrun none (219, 59, ls, (.ref a :: st), w) = zo (zf w a 1216) (fun x => zrun none (219, 62, ls, (x :: st), w)) := (zE_ (i := .getfield 1216) (by decide +kernel) _ _ _).trans zq_getf
theorem e219_62 (ls : List Value) (a : Nat) (x0 : Int32) (x1 : Int32) (st : List Value) (w : zH) (hr : zcat st ≤ 8) : zrun none (219, 62, ls, (.int x1 :: .int x0 :: .ref a :: st), w) = zgd (zis w a 12) (zcl (zrun none (163, 0, [.ref a, .int x0, .int x1], [], w)) (fun r => zrun none (219, 65, ls, r.1.toList ++ st, r.2))) := by
  refine (zE_ (i := .invokevirtual 163) (by decide +kernel) _ _ _).trans ?_
  show zres (zinv none 163 219 62 ls (.int x1 :: .int x0 :: .ref a :: st) w) = _
  unfold zinv
  show zres (if zrc none 163 w (.ref a) = true then zcall 163 [.ref a, .int x0, .int x1] st 219 62 ls w else none) = _
  by_cases hc : zis w a 12
  · rw [if_pos (zrc_is hc (by decide +kernel)), zgd_pos hc]
    exact zq_call hr (Nat.le_of_ble_eq_true rfl) rfl rfl
  · rw [zgd_neg hc, if_neg (fun q => hc (zrc_of q (by decide +kernel)))]
    rfl
theorem e219_65 (ls st : List Value) (w : zH) : zrun none (219, 65, ls, st, w) = zrun none (219, 69, ls, st, w) := (zE_ (i := .goto 4) (by decide +kernel) _ _ _).trans rfl
theorem e219_68 (ls st : List Value) (w : zH) : zrun none (219, 68, ls, st, w) = zrun none (219, 69, ls, (.int 0 :: st), w) := (zE_ (i := .iconst 0) (by decide +kernel) _ _ _).trans rfl
theorem e219_69 (ls : List Value) (a b : Int32) (st : List Value) (w : zH) : zrun none (219, 69, ls, (.int b :: .int a :: st), w) = zrun none (219, 70, ls, (.int (a + b) :: st), w) := (zE_ (i := .iadd) (by decide +kernel) _ _ _).trans rfl
theorem e219_70 (v0 v1 v2 v3 : Value) (x : Int32) (st : List Value) (w : zH) (h : v2.category = 1) : zrun none (219, 70, [v0, v1, v2, v3], (.int x :: st), w) = zrun none (219, 71, [v0, v1, v2, .int x], st, w) := by
  refine (zE_ (i := .istore_n 3) (by decide +kernel) _ _ _).trans ?_
  have hz : zfree [v0, v1, v2, v3] 3 = true := by show decide (v2.category = 1) = true; exact decide_eq_true h
  show zres (zst zint 3 1 219 70 [v0, v1, v2, v3] (.int x :: st) w) = _
  unfold zst
  dsimp only
  rw [if_pos ⟨rfl, Nat.le_of_ble_eq_true rfl, hz⟩]
  rfl
theorem e219_71 (v0 v1 v3 : Value) (x : Int32) (st : List Value) (w : zH) : zrun none (219, 71, [v0, v1, .int x, v3], st, w) = zrun none (219, 72, [v0, v1, .int x, v3], (.int x :: st), w) := (zE_ (i := .iload_n 2) (by decide +kernel) _ _ _).trans rfl
theorem e219_72 (ls st : List Value) (w : zH) : zrun none (219, 72, ls, st, w) = zrun none (219, 73, ls, (.int 2 :: st), w) := (zE_ (i := .iconst 2) (by decide +kernel) _ _ _).trans rfl
theorem e219_73 (ls : List Value) (a b : Int32) (st : List Value) (w : zH) : zrun none (219, 73, ls, (.int b :: .int a :: st), w) = if a = b then zrun none (219, 76, ls, st, w) else zrun none (219, 82, ls, st, w) := (zE_ (i := .if_icmp .ne 9) (by decide +kernel) _ _ _).trans (zq_ic_ne rfl rfl)
theorem e219_76 (ls st : List Value) (w : zH) : zrun none (219, 76, ls, st, w) = zrun none (219, 77, ls, (.int 2 :: st), w) := (zE_ (i := .iconst 2) (by decide +kernel) _ _ _).trans rfl
theorem e219_77 (v0 v1 v2 : Value) (x : Int32) (st : List Value) (w : zH) : zrun none (219, 77, [v0, v1, v2, .int x], st, w) = zrun none (219, 78, [v0, v1, v2, .int x], (.int x :: st), w) := (zE_ (i := .iload_n 3) (by decide +kernel) _ _ _).trans rfl
theorem e219_78 (ls : List Value) (a b : Int32) (st : List Value) (w : zH) : zrun none (219, 78, ls, (.int b :: .int a :: st), w) = zrun none (219, 79, ls, (.int (a * b) :: st), w) := (zE_ (i := .imul) (by decide +kernel) _ _ _).trans rfl
theorem e219_79 (ls st : List Value) (w : zH) : zrun none (219, 79, ls, st, w) = zrun none (219, 94, ls, st, w) := (zE_ (i := .goto 15) (by decide +kernel) _ _ _).trans rfl
theorem e219_82 (v0 v1 v3 : Value) (x : Int32) (st : List Value) (w : zH) : zrun none (219, 82, [v0, v1, .int x, v3], st, w) = zrun none (219, 83, [v0, v1, .int x, v3], (.int x :: st), w) := (zE_ (i := .iload_n 2) (by decide +kernel) _ _ _).trans rfl
theorem e219_83 (ls st : List Value) (w : zH) : zrun none (219, 83, ls, st, w) = zrun none (219, 84, ls, (.int 3 :: st), w) := (zE_ (i := .iconst 3) (by decide +kernel) _ _ _).trans rfl
theorem e219_84 (ls : List Value) (a b : Int32) (st : List Value) (w : zH) : zrun none (219, 84, ls, (.int b :: .int a :: st), w) = if a = b then zrun none (219, 87, ls, st, w) else zrun none (219, 93, ls, st, w) := (zE_ (i := .if_icmp .ne 9) (by decide +kernel) _ _ _).trans (zq_ic_ne rfl rfl)
theorem e219_87 (v0 v1 v2 : Value) (x : Int32) (st : List Value) (w : zH) : zrun none (219, 87, [v0, v1, v2, .int x], st, w) = zrun none (219, 88, [v0, v1, v2, .int x], (.int x :: st), w) := (zE_ (i := .iload_n 3) (by decide +kernel) _ _ _).trans rfl
theorem e219_88 (ls st : List Value) (w : zH) : zrun none (219, 88, ls, st, w) = zrun none (219, 89, ls, (.int 2 :: st), w) := (zE_ (i := .iconst 2) (by decide +kernel) _ _ _).trans rfl
theorem e219_89 (ls : List Value) (a b : Int32) (st : List Value) (w : zH) (h : ¬ b = 0) : zrun none (219, 89, ls, (.int b :: .int a :: st), w) = zrun none (219, 90, ls, (.int (a / b) :: st), w) := by
  refine (zE_ (i := .idiv) (by decide +kernel) _ _ _).trans ?_
  simp only [zI, if_neg h]
  rfl
theorem e219_90 (ls st : List Value) (w : zH) : zrun none (219, 90, ls, st, w) = zrun none (219, 94, ls, st, w) := (zE_ (i := .goto 4) (by decide +kernel) _ _ _).trans rfl
theorem e219_93 (v0 v1 v2 : Value) (x : Int32) (st : List Value) (w : zH) : zrun none (219, 93, [v0, v1, v2, .int x], st, w) = zrun none (219, 94, [v0, v1, v2, .int x], (.int x :: st), w) := (zE_ (i := .iload_n 3) (by decide +kernel) _ _ _).trans rfl
theorem e219_94 (ls : List Value) (x : Int32) (w : zH) : zrun none (219, 94, ls, [.int x], w) = some (some (.int x), w) := by
  refine (zE_ (i := .ireturn) (by decide +kernel) _ _ _).trans ?_
  show zres (if narrow .int (.int x) = .int x then _ else none) = _
  rw [if_pos (show narrow .int (.int x) = .int x from rfl)]
  rfl
theorem e220_0 (v0 v1 v3 : Value) (x : Int32) (st : List Value) (w : zH) : zrun none (220, 0, [v0, v1, .int x, v3], st, w) = zrun none (220, 1, [v0, v1, .int x, v3], (.int x :: st), w) := (zE_ (i := .iload_n 2) (by decide +kernel) _ _ _).trans rfl
theorem e220_1 (ls st : List Value) (w : zH) : zrun none (220, 1, ls, st, w) = zrun none (220, 2, ls, (.int 2 :: st), w) := (zE_ (i := .iconst 2) (by decide +kernel) _ _ _).trans rfl
theorem e220_2 (ls : List Value) (a b : Int32) (st : List Value) (w : zH) : zrun none (220, 2, ls, (.int b :: .int a :: st), w) = if a = b then zrun none (220, 5, ls, st, w) else zrun none (220, 11, ls, st, w) := (zE_ (i := .if_icmp .ne 9) (by decide +kernel) _ _ _).trans (zq_ic_ne rfl rfl)
theorem e220_5 (v1 v2 v3 : Value) (x : Nat) (st : List Value) (w : zH) : zrun none (220, 5, [.ref x, v1, v2, v3], st, w) = zrun none (220, 6, [.ref x, v1, v2, v3], (.ref x :: st), w) := (zE_ (i := .aload_n 0) (by decide +kernel) _ _ _).trans rfl
theorem e220_6 (ls st : List Value) (w : zH) : zrun none (220, 6, ls, st, w) = zrun none (220, 8, ls, (.int 22 :: st), w) := (zE_ (i := .bipush 22) (by decide +kernel) _ _ _).trans rfl
theorem e220_8 (ls : List Value) (a : Nat) (x0 : Int32) (st : List Value) (w : zH) (hr : zcat st ≤ 8) : zrun none (220, 8, ls, (.int x0 :: .ref a :: st), w) = zgd (zis w a 12) (zcl (zrun none (218, 0, [.ref a, .int x0], [], w)) (fun r => zrun none (220, 11, ls, r.1.toList ++ st, r.2))) := by
  refine (zE_ (i := .invokevirtual 218) (by decide +kernel) _ _ _).trans ?_
  show zres (zinv none 218 220 8 ls (.int x0 :: .ref a :: st) w) = _
  unfold zinv
  show zres (if zrc none 218 w (.ref a) = true then zcall 218 [.ref a, .int x0] st 220 8 ls w else none) = _
  by_cases hc : zis w a 12
  · rw [if_pos (zrc_is hc (by decide +kernel)), zgd_pos hc]
    exact zq_call hr (Nat.le_of_ble_eq_true rfl) rfl rfl
  · rw [zgd_neg hc, if_neg (fun q => hc (zrc_of q (by decide +kernel)))]
    rfl
theorem e220_11 (v0 v1 v3 : Value) (x : Int32) (st : List Value) (w : zH) : zrun none (220, 11, [v0, v1, .int x, v3], st, w) = zrun none (220, 12, [v0, v1, .int x, v3], (.int x :: st), w) := (zE_ (i := .iload_n 2) (by decide +kernel) _ _ _).trans rfl
theorem e220_12 (ls st : List Value) (w : zH) : zrun none (220, 12, ls, st, w) = zrun none (220, 13, ls, (.int 1 :: st), w) := (zE_ (i := .iconst 1) (by decide +kernel) _ _ _).trans rfl
theorem e220_13 (ls : List Value) (x0 : Int32) (x1 : Int32) (st : List Value) (w : zH) (hr : zcat st ≤ 8) : zrun none (220, 13, ls, (.int x1 :: .int x0 :: st), w) = zcl (zrun none (215, 0, [.int x0, .int x1], [], w)) (fun r => zrun none (220, 16, ls, r.1.toList ++ st, r.2)) := by
  refine (zE_ (i := .invokestatic 215) (by decide +kernel) _ _ _).trans ?_
  show zres (if (99 : Nat) = 99 ∧ 2 ≤ ((.int x1 :: .int x0 :: st) : List Value).length then zcall 215 [.int x0, .int x1] st 220 13 ls w else none) = _
  rw [if_pos ⟨rfl, by simp⟩]
  exact zq_call hr (Nat.le_of_ble_eq_true rfl) rfl rfl
theorem e220_16 (ls : List Value) (a : Int32) (st : List Value) (w : zH) : zrun none (220, 16, ls, (.int a :: st), w) = if a = 0 then zrun none (220, 25, ls, st, w) else zrun none (220, 19, ls, st, w) := (zE_ (i := .ifCond .eq 9) (by decide +kernel) _ _ _).trans (zq_if_eq rfl rfl)
theorem e220_19 (v1 v2 v3 : Value) (x : Nat) (st : List Value) (w : zH) : zrun none (220, 19, [.ref x, v1, v2, v3], st, w) = zrun none (220, 20, [.ref x, v1, v2, v3], (.ref x :: st), w) := (zE_ (i := .aload_n 0) (by decide +kernel) _ _ _).trans rfl
theorem e220_20 (ls st : List Value) (w : zH) : zrun none (220, 20, ls, st, w) = zrun none (220, 22, ls, (.int 21 :: st), w) := (zE_ (i := .bipush 21) (by decide +kernel) _ _ _).trans rfl
theorem e220_22 (ls : List Value) (a : Nat) (x0 : Int32) (st : List Value) (w : zH) (hr : zcat st ≤ 8) : zrun none (220, 22, ls, (.int x0 :: .ref a :: st), w) = zgd (zis w a 12) (zcl (zrun none (218, 0, [.ref a, .int x0], [], w)) (fun r => zrun none (220, 25, ls, r.1.toList ++ st, r.2))) := by
  refine (zE_ (i := .invokevirtual 218) (by decide +kernel) _ _ _).trans ?_
  show zres (zinv none 218 220 22 ls (.int x0 :: .ref a :: st) w) = _
  unfold zinv
  show zres (if zrc none 218 w (.ref a) = true then zcall 218 [.ref a, .int x0] st 220 22 ls w else none) = _
  by_cases hc : zis w a 12
  · rw [if_pos (zrc_is hc (by decide +kernel)), zgd_pos hc]
    exact zq_call hr (Nat.le_of_ble_eq_true rfl) rfl rfl
  · rw [zgd_neg hc, if_neg (fun q => hc (zrc_of q (by decide +kernel)))]
    rfl
theorem e220_25 (v0 v1 v3 : Value) (x : Int32) (st : List Value) (w : zH) : zrun none (220, 25, [v0, v1, .int x, v3], st, w) = zrun none (220, 26, [v0, v1, .int x, v3], (.int x :: st), w) := (zE_ (i := .iload_n 2) (by decide +kernel) _ _ _).trans rfl
theorem e220_26 (ls st : List Value) (w : zH) : zrun none (220, 26, ls, st, w) = zrun none (220, 27, ls, (.int 3 :: st), w) := (zE_ (i := .iconst 3) (by decide +kernel) _ _ _).trans rfl
theorem e220_27 (ls : List Value) (a b : Int32) (st : List Value) (w : zH) : zrun none (220, 27, ls, (.int b :: .int a :: st), w) = if a = b then zrun none (220, 30, ls, st, w) else zrun none (220, 36, ls, st, w) := (zE_ (i := .if_icmp .ne 9) (by decide +kernel) _ _ _).trans (zq_ic_ne rfl rfl)
theorem e220_30 (v1 v2 v3 : Value) (x : Nat) (st : List Value) (w : zH) : zrun none (220, 30, [.ref x, v1, v2, v3], st, w) = zrun none (220, 31, [.ref x, v1, v2, v3], (.ref x :: st), w) := (zE_ (i := .aload_n 0) (by decide +kernel) _ _ _).trans rfl
theorem e220_31 (ls st : List Value) (w : zH) : zrun none (220, 31, ls, st, w) = zrun none (220, 33, ls, (.int 23 :: st), w) := (zE_ (i := .bipush 23) (by decide +kernel) _ _ _).trans rfl
theorem e220_33 (ls : List Value) (a : Nat) (x0 : Int32) (st : List Value) (w : zH) (hr : zcat st ≤ 8) : zrun none (220, 33, ls, (.int x0 :: .ref a :: st), w) = zgd (zis w a 12) (zcl (zrun none (218, 0, [.ref a, .int x0], [], w)) (fun r => zrun none (220, 36, ls, r.1.toList ++ st, r.2))) := by
  refine (zE_ (i := .invokevirtual 218) (by decide +kernel) _ _ _).trans ?_
  show zres (zinv none 218 220 33 ls (.int x0 :: .ref a :: st) w) = _
  unfold zinv
  show zres (if zrc none 218 w (.ref a) = true then zcall 218 [.ref a, .int x0] st 220 33 ls w else none) = _
  by_cases hc : zis w a 12
  · rw [if_pos (zrc_is hc (by decide +kernel)), zgd_pos hc]
    exact zq_call hr (Nat.le_of_ble_eq_true rfl) rfl rfl
  · rw [zgd_neg hc, if_neg (fun q => hc (zrc_of q (by decide +kernel)))]
    rfl
theorem e220_36 (v1 v2 v3 : Value) (x : Nat) (st : List Value) (w : zH) : zrun none (220, 36, [.ref x, v1, v2, v3], st, w) = zrun none (220, 37, [.ref x, v1, v2, v3], (.ref x :: st), w) := (zE_ (i := .aload_n 0) (by decide +kernel) _ _ _).trans rfl
theorem e220_37 (ls st : List Value) (w : zH) : zrun none (220, 37, ls, st, w) = zrun none (220, 39, ls, (.int 20 :: st), w) := (zE_ (i := .bipush 20) (by decide +kernel) _ _ _).trans rfl
theorem e220_39 (ls : List Value) (a : Nat) (x0 : Int32) (st : List Value) (w : zH) (hr : zcat st ≤ 8) : zrun none (220, 39, ls, (.int x0 :: .ref a :: st), w) = zgd (zis w a 12) (zcl (zrun none (218, 0, [.ref a, .int x0], [], w)) (fun r => zrun none (220, 42, ls, r.1.toList ++ st, r.2))) := by
  refine (zE_ (i := .invokevirtual 218) (by decide +kernel) _ _ _).trans ?_
  show zres (zinv none 218 220 39 ls (.int x0 :: .ref a :: st) w) = _
  unfold zinv
  show zres (if zrc none 218 w (.ref a) = true then zcall 218 [.ref a, .int x0] st 220 39 ls w else none) = _
  by_cases hc : zis w a 12
  · rw [if_pos (zrc_is hc (by decide +kernel)), zgd_pos hc]
    exact zq_call hr (Nat.le_of_ble_eq_true rfl) rfl rfl
  · rw [zgd_neg hc, if_neg (fun q => hc (zrc_of q (by decide +kernel)))]
    rfl
theorem e220_42 (v1 v2 v3 : Value) (x : Nat) (st : List Value) (w : zH) : zrun none (220, 42, [.ref x, v1, v2, v3], st, w) = zrun none (220, 43, [.ref x, v1, v2, v3], (.ref x :: st), w) := (zE_ (i := .aload_n 0) (by decide +kernel) _ _ _).trans rfl
theorem e220_43 (ls : List Value) (a : Nat) (st : List Value) (w : zH) : zrun none (220, 43, ls, (.ref a :: st), w) = zo (zf w a 1213) (fun x => zrun none (220, 46, ls, (x :: st), w)) := (zE_ (i := .getfield 1213) (by decide +kernel) _ _ _).trans zq_getf
theorem e220_46 (v0 v2 v3 : Value) (x : Int32) (st : List Value) (w : zH) : zrun none (220, 46, [v0, .int x, v2, v3], st, w) = zrun none (220, 47, [v0, .int x, v2, v3], (.int x :: st), w) := (zE_ (i := .iload_n 1) (by decide +kernel) _ _ _).trans rfl
theorem e220_47 (ls : List Value) (j : Int32) (a : Nat) (st : List Value) (w : zH) : zrun none (220, 47, ls, (.int j :: .ref a :: st), w) = zoi (zai w a 100 j) (fun x => zrun none (220, 48, ls, (.int x :: st), w)) := (zE_ (i := .iaload) (by decide +kernel) _ _ _).trans zq_iald
theorem e220_48 (v0 v1 v3 : Value) (x : Int32) (st : List Value) (w : zH) : zrun none (220, 48, [v0, v1, .int x, v3], st, w) = zrun none (220, 49, [v0, v1, .int x, v3], (.int x :: st), w) := (zE_ (i := .iload_n 2) (by decide +kernel) _ _ _).trans rfl
theorem e220_49 (ls st : List Value) (w : zH) : zrun none (220, 49, ls, st, w) = zrun none (220, 50, ls, (.int 1 :: st), w) := (zE_ (i := .iconst 1) (by decide +kernel) _ _ _).trans rfl
theorem e220_50 (ls : List Value) (x0 : Int32) (x1 : Int32) (st : List Value) (w : zH) (hr : zcat st ≤ 8) : zrun none (220, 50, ls, (.int x1 :: .int x0 :: st), w) = zcl (zrun none (215, 0, [.int x0, .int x1], [], w)) (fun r => zrun none (220, 53, ls, r.1.toList ++ st, r.2)) := by
  refine (zE_ (i := .invokestatic 215) (by decide +kernel) _ _ _).trans ?_
  show zres (if (99 : Nat) = 99 ∧ 2 ≤ ((.int x1 :: .int x0 :: st) : List Value).length then zcall 215 [.int x0, .int x1] st 220 50 ls w else none) = _
  rw [if_pos ⟨rfl, by simp⟩]
  exact zq_call hr (Nat.le_of_ble_eq_true rfl) rfl rfl
theorem e220_53 (ls : List Value) (a : Int32) (st : List Value) (w : zH) : zrun none (220, 53, ls, (.int a :: st), w) = if a = 0 then zrun none (220, 71, ls, st, w) else zrun none (220, 56, ls, st, w) := (zE_ (i := .ifCond .eq 18) (by decide +kernel) _ _ _).trans (zq_if_eq rfl rfl)
theorem e220_56 (ls st : List Value) (w : zH) : zrun none (220, 56, ls, st, w) = zrun none (220, 58, ls, (.int 10 :: st), w) := (zE_ (i := .bipush 10) (by decide +kernel) _ _ _).trans rfl
theorem e220_58 (v1 v2 v3 : Value) (x : Nat) (st : List Value) (w : zH) : zrun none (220, 58, [.ref x, v1, v2, v3], st, w) = zrun none (220, 59, [.ref x, v1, v2, v3], (.ref x :: st), w) := (zE_ (i := .aload_n 0) (by decide +kernel) _ _ _).trans rfl
theorem e220_59 (v0 v2 v3 : Value) (x : Int32) (st : List Value) (w : zH) : zrun none (220, 59, [v0, .int x, v2, v3], st, w) = zrun none (220, 60, [v0, .int x, v2, v3], (.int x :: st), w) := (zE_ (i := .iload_n 1) (by decide +kernel) _ _ _).trans rfl
theorem e220_60 (v1 v2 v3 : Value) (x : Nat) (st : List Value) (w : zH) : zrun none (220, 60, [.ref x, v1, v2, v3], st, w) = zrun none (220, 61, [.ref x, v1, v2, v3], (.ref x :: st), w) := (zE_ (i := .aload_n 0) (by decide +kernel) _ _ _).trans rfl
theorem e220_61 (ls : List Value) (a : Nat) (st : List Value) (w : zH) : zrun none (220, 61, ls, (.ref a :: st), w) = zo (zf w a 1216) (fun x => zrun none (220, 64, ls, (x :: st), w)) := (zE_ (i := .getfield 1216) (by decide +kernel) _ _ _).trans zq_getf
theorem e220_64 (ls : List Value) (a : Nat) (x0 : Int32) (x1 : Int32) (st : List Value) (w : zH) (hr : zcat st ≤ 8) : zrun none (220, 64, ls, (.int x1 :: .int x0 :: .ref a :: st), w) = zgd (zis w a 12) (zcl (zrun none (164, 0, [.ref a, .int x0, .int x1], [], w)) (fun r => zrun none (220, 67, ls, r.1.toList ++ st, r.2))) := by
  refine (zE_ (i := .invokevirtual 164) (by decide +kernel) _ _ _).trans ?_
  show zres (zinv none 164 220 64 ls (.int x1 :: .int x0 :: .ref a :: st) w) = _
  unfold zinv
  show zres (if zrc none 164 w (.ref a) = true then zcall 164 [.ref a, .int x0, .int x1] st 220 64 ls w else none) = _
  by_cases hc : zis w a 12
  · rw [if_pos (zrc_is hc (by decide +kernel)), zgd_pos hc]
    exact zq_call hr (Nat.le_of_ble_eq_true rfl) rfl rfl
  · rw [zgd_neg hc, if_neg (fun q => hc (zrc_of q (by decide +kernel)))]
    rfl
theorem e220_67 (ls : List Value) (a b : Int32) (st : List Value) (w : zH) : zrun none (220, 67, ls, (.int b :: .int a :: st), w) = zrun none (220, 68, ls, (.int (a * b) :: st), w) := (zE_ (i := .imul) (by decide +kernel) _ _ _).trans rfl
theorem e220_68 (ls st : List Value) (w : zH) : zrun none (220, 68, ls, st, w) = zrun none (220, 72, ls, st, w) := (zE_ (i := .goto 4) (by decide +kernel) _ _ _).trans rfl
theorem e220_71 (ls st : List Value) (w : zH) : zrun none (220, 71, ls, st, w) = zrun none (220, 72, ls, (.int 0 :: st), w) := (zE_ (i := .iconst 0) (by decide +kernel) _ _ _).trans rfl
theorem e220_72 (ls : List Value) (a b : Int32) (st : List Value) (w : zH) : zrun none (220, 72, ls, (.int b :: .int a :: st), w) = zrun none (220, 73, ls, (.int (a + b) :: st), w) := (zE_ (i := .iadd) (by decide +kernel) _ _ _).trans rfl
theorem e220_73 (v0 v1 v2 v3 : Value) (x : Int32) (st : List Value) (w : zH) (h : v2.category = 1) : zrun none (220, 73, [v0, v1, v2, v3], (.int x :: st), w) = zrun none (220, 74, [v0, v1, v2, .int x], st, w) := by
  refine (zE_ (i := .istore_n 3) (by decide +kernel) _ _ _).trans ?_
  have hz : zfree [v0, v1, v2, v3] 3 = true := by show decide (v2.category = 1) = true; exact decide_eq_true h
  show zres (zst zint 3 1 220 73 [v0, v1, v2, v3] (.int x :: st) w) = _
  unfold zst
  dsimp only
  rw [if_pos ⟨rfl, Nat.le_of_ble_eq_true rfl, hz⟩]
  rfl
theorem e220_74 (v0 v1 v3 : Value) (x : Int32) (st : List Value) (w : zH) : zrun none (220, 74, [v0, v1, .int x, v3], st, w) = zrun none (220, 75, [v0, v1, .int x, v3], (.int x :: st), w) := (zE_ (i := .iload_n 2) (by decide +kernel) _ _ _).trans rfl
theorem e220_75 (ls st : List Value) (w : zH) : zrun none (220, 75, ls, st, w) = zrun none (220, 76, ls, (.int 2 :: st), w) := (zE_ (i := .iconst 2) (by decide +kernel) _ _ _).trans rfl
theorem e220_76 (ls : List Value) (a b : Int32) (st : List Value) (w : zH) : zrun none (220, 76, ls, (.int b :: .int a :: st), w) = if a = b then zrun none (220, 84, ls, st, w) else zrun none (220, 79, ls, st, w) := (zE_ (i := .if_icmp .eq 8) (by decide +kernel) _ _ _).trans (zq_ic_eq rfl rfl)
theorem e220_79 (v0 v1 v3 : Value) (x : Int32) (st : List Value) (w : zH) : zrun none (220, 79, [v0, v1, .int x, v3], st, w) = zrun none (220, 80, [v0, v1, .int x, v3], (.int x :: st), w) := (zE_ (i := .iload_n 2) (by decide +kernel) _ _ _).trans rfl
theorem e220_80 (ls st : List Value) (w : zH) : zrun none (220, 80, ls, st, w) = zrun none (220, 81, ls, (.int 3 :: st), w) := (zE_ (i := .iconst 3) (by decide +kernel) _ _ _).trans rfl
theorem e220_81 (ls : List Value) (a b : Int32) (st : List Value) (w : zH) : zrun none (220, 81, ls, (.int b :: .int a :: st), w) = if a = b then zrun none (220, 84, ls, st, w) else zrun none (220, 95, ls, st, w) := (zE_ (i := .if_icmp .ne 14) (by decide +kernel) _ _ _).trans (zq_ic_ne rfl rfl)
theorem e220_84 (v0 v1 v2 : Value) (x : Int32) (st : List Value) (w : zH) : zrun none (220, 84, [v0, v1, v2, .int x], st, w) = zrun none (220, 85, [v0, v1, v2, .int x], (.int x :: st), w) := (zE_ (i := .iload_n 3) (by decide +kernel) _ _ _).trans rfl
theorem e220_85 (v1 v2 v3 : Value) (x : Nat) (st : List Value) (w : zH) : zrun none (220, 85, [.ref x, v1, v2, v3], st, w) = zrun none (220, 86, [.ref x, v1, v2, v3], (.ref x :: st), w) := (zE_ (i := .aload_n 0) (by decide +kernel) _ _ _).trans rfl
theorem e220_86 (v0 v2 v3 : Value) (x : Int32) (st : List Value) (w : zH) : zrun none (220, 86, [v0, .int x, v2, v3], st, w) = zrun none (220, 87, [v0, .int x, v2, v3], (.int x :: st), w) := (zE_ (i := .iload_n 1) (by decide +kernel) _ _ _).trans rfl
theorem e220_87 (v0 v1 v3 : Value) (x : Int32) (st : List Value) (w : zH) : zrun none (220, 87, [v0, v1, .int x, v3], st, w) = zrun none (220, 88, [v0, v1, .int x, v3], (.int x :: st), w) := (zE_ (i := .iload_n 2) (by decide +kernel) _ _ _).trans rfl
theorem e220_88 (ls : List Value) (a : Nat) (x0 : Int32) (x1 : Int32) (st : List Value) (w : zH) (hr : zcat st ≤ 8) : zrun none (220, 88, ls, (.int x1 :: .int x0 :: .ref a :: st), w) = zgd (zis w a 12) (zcl (zrun none (219, 0, [.ref a, .int x0, .int x1, zJ], [], w)) (fun r => zrun none (220, 91, ls, r.1.toList ++ st, r.2))) := by
  refine (zE_ (i := .invokevirtual 219) (by decide +kernel) _ _ _).trans ?_
  show zres (zinv none 219 220 88 ls (.int x1 :: .int x0 :: .ref a :: st) w) = _
  unfold zinv
  show zres (if zrc none 219 w (.ref a) = true then zcall 219 [.ref a, .int x0, .int x1] st 220 88 ls w else none) = _
  by_cases hc : zis w a 12
  · rw [if_pos (zrc_is hc (by decide +kernel)), zgd_pos hc]
    exact zq_call hr (Nat.le_of_ble_eq_true rfl) rfl rfl
  · rw [zgd_neg hc, if_neg (fun q => hc (zrc_of q (by decide +kernel)))]
    rfl
theorem e220_91 (ls : List Value) (a b : Int32) (st : List Value) (w : zH) : zrun none (220, 91, ls, (.int b :: .int a :: st), w) = zrun none (220, 92, ls, (.int (a + b) :: st), w) := (zE_ (i := .iadd) (by decide +kernel) _ _ _).trans rfl
theorem e220_92 (ls st : List Value) (w : zH) : zrun none (220, 92, ls, st, w) = zrun none (220, 96, ls, st, w) := (zE_ (i := .goto 4) (by decide +kernel) _ _ _).trans rfl
theorem e220_95 (v0 v1 v2 : Value) (x : Int32) (st : List Value) (w : zH) : zrun none (220, 95, [v0, v1, v2, .int x], st, w) = zrun none (220, 96, [v0, v1, v2, .int x], (.int x :: st), w) := (zE_ (i := .iload_n 3) (by decide +kernel) _ _ _).trans rfl
theorem e220_96 (ls : List Value) (x : Int32) (w : zH) : zrun none (220, 96, ls, [.int x], w) = some (some (.int x), w) := by
  refine (zE_ (i := .ireturn) (by decide +kernel) _ _ _).trans ?_
  show zres (if narrow .int (.int x) = .int x then _ else none) = _
  rw [if_pos (show narrow .int (.int x) = .int x from rfl)]
  rfl
theorem e221_0 (v1 v2 v3 : Value) (x : Nat) (st : List Value) (w : zH) : zrun none (221, 0, [.ref x, v1, v2, v3], st, w) = zrun none (221, 1, [.ref x, v1, v2, v3], (.ref x :: st), w) := (zE_ (i := .aload_n 0) (by decide +kernel) _ _ _).trans rfl
theorem e221_1 (ls st : List Value) (w : zH) : zrun none (221, 1, ls, st, w) = zrun none (221, 2, ls, (.int 0 :: st), w) := (zE_ (i := .iconst 0) (by decide +kernel) _ _ _).trans rfl
theorem e221_2 (ls : List Value) (x : Int32) (a : Nat) (st : List Value) (w : zH) : zrun none (221, 2, ls, (.int x :: .ref a :: st), w) = zgd (a < zX ∧ (zf w a 1200).isSome = true) (zrun none (221, 5, ls, st, zpf w a 1200 (.int x))) := by
  refine (zE_ (i := .putfield 1200) (by decide +kernel) _ _ _).trans ?_
  by_cases hg : a < zX ∧ (zf w a 1200).isSome = true
  · rw [zgd_pos hg]
    obtain ⟨ha, h⟩ := hg
    exact zq_putf ha h rfl rfl
  · rw [zgd_neg hg]
    exact zq_putf_no (fun h1 h2 h3 => hg ⟨h1, h2⟩)
theorem e221_5 (v1 v2 v3 : Value) (x : Nat) (st : List Value) (w : zH) : zrun none (221, 5, [.ref x, v1, v2, v3], st, w) = zrun none (221, 6, [.ref x, v1, v2, v3], (.ref x :: st), w) := (zE_ (i := .aload_n 0) (by decide +kernel) _ _ _).trans rfl
theorem e221_6 (v0 v2 v3 : Value) (x : Int32) (st : List Value) (w : zH) : zrun none (221, 6, [v0, .int x, v2, v3], st, w) = zrun none (221, 7, [v0, .int x, v2, v3], (.int x :: st), w) := (zE_ (i := .iload_n 1) (by decide +kernel) _ _ _).trans rfl
theorem e221_7 (ls : List Value) (a : Nat) (x0 : Int32) (st : List Value) (w : zH) (hr : zcat st ≤ 8) : zrun none (221, 7, ls, (.int x0 :: .ref a :: st), w) = zgd (zis w a 12) (zcl (zrun none (162, 0, [.ref a, .int x0], [], w)) (fun r => zrun none (221, 10, ls, r.1.toList ++ st, r.2))) := by
  refine (zE_ (i := .invokevirtual 162) (by decide +kernel) _ _ _).trans ?_
  show zres (zinv none 162 221 7 ls (.int x0 :: .ref a :: st) w) = _
  unfold zinv
  show zres (if zrc none 162 w (.ref a) = true then zcall 162 [.ref a, .int x0] st 221 7 ls w else none) = _
  by_cases hc : zis w a 12
  · rw [if_pos (zrc_is hc (by decide +kernel)), zgd_pos hc]
    exact zq_call hr (Nat.le_of_ble_eq_true rfl) rfl rfl
  · rw [zgd_neg hc, if_neg (fun q => hc (zrc_of q (by decide +kernel)))]
    rfl
theorem e221_10 (ls : List Value) (a : Int32) (st : List Value) (w : zH) : zrun none (221, 10, ls, (.int a :: st), w) = if a = 0 then zrun none (221, 23, ls, st, w) else zrun none (221, 13, ls, st, w) := (zE_ (i := .ifCond .eq 13) (by decide +kernel) _ _ _).trans (zq_if_eq rfl rfl)
theorem e221_13 (v0 v1 v3 : Value) (x : Int32) (st : List Value) (w : zH) : zrun none (221, 13, [v0, v1, .int x, v3], st, w) = zrun none (221, 14, [v0, v1, .int x, v3], (.int x :: st), w) := (zE_ (i := .iload_n 2) (by decide +kernel) _ _ _).trans rfl
theorem e221_14 (ls : List Value) (a : Int32) (st : List Value) (w : zH) : zrun none (221, 14, ls, (.int a :: st), w) = zrun none (221, 15, ls, (.long a.toInt64 :: st), w) := (zE_ (i := .i2l) (by decide +kernel) _ _ _).trans rfl
theorem e221_15 (ls st : List Value) (w : zH) : zrun none (221, 15, ls, st, w) = zrun none (221, 16, ls, (.long 0 :: st), w) := (zE_ (i := .lconst 0) (by decide +kernel) _ _ _).trans rfl
theorem e221_16 (ls st : List Value) (w : zH) : zrun none (221, 16, ls, st, w) = zrun none (221, 17, ls, (.long 1 :: st), w) := (zE_ (i := .lconst 1) (by decide +kernel) _ _ _).trans rfl
theorem e221_17 (ls : List Value) (x0 : Int64) (x1 : Int64) (x2 : Int64) (st : List Value) (w : zH) (hr : zcat st ≤ 8) : zrun none (221, 17, ls, (.long x2 :: .long x1 :: .long x0 :: st), w) = zcl (zrun none (146, 0, [.long x0, zJ, .long x1, zJ, .long x2, zJ], [], w)) (fun r => zrun none (221, 20, ls, r.1.toList ++ st, r.2)) := by
  refine (zE_ (i := .invokestatic 146) (by decide +kernel) _ _ _).trans ?_
  show zres (if (99 : Nat) = 99 ∧ 3 ≤ ((.long x2 :: .long x1 :: .long x0 :: st) : List Value).length then zcall 146 [.long x0, .long x1, .long x2] st 221 17 ls w else none) = _
  rw [if_pos ⟨rfl, by simp⟩]
  exact zq_call hr (Nat.le_of_ble_eq_true rfl) rfl rfl
theorem e221_20 (ls : List Value) (a : Int32) (st : List Value) (w : zH) : zrun none (221, 20, ls, (.int a :: st), w) = if a = 0 then zrun none (221, 23, ls, st, w) else zrun none (221, 26, ls, st, w) := (zE_ (i := .ifCond .ne 6) (by decide +kernel) _ _ _).trans (zq_if_ne rfl rfl)
theorem e221_23 (ls st : List Value) (w : zH) : zrun none (221, 23, ls, st, w) = zrun none (221, 25, ls, (.int (-1000001) :: st), w) := (zE_ (i := .bipush (-1000001)) (by decide +kernel) _ _ _).trans rfl
theorem e221_25 (ls : List Value) (x : Int32) (w : zH) : zrun none (221, 25, ls, [.int x], w) = some (some (.int x), w) := by
  refine (zE_ (i := .ireturn) (by decide +kernel) _ _ _).trans ?_
  show zres (if narrow .int (.int x) = .int x then _ else none) = _
  rw [if_pos (show narrow .int (.int x) = .int x from rfl)]
  rfl
theorem e221_26 (v1 v2 v3 : Value) (x : Nat) (st : List Value) (w : zH) : zrun none (221, 26, [.ref x, v1, v2, v3], st, w) = zrun none (221, 27, [.ref x, v1, v2, v3], (.ref x :: st), w) := (zE_ (i := .aload_n 0) (by decide +kernel) _ _ _).trans rfl
theorem e221_27 (ls st : List Value) (w : zH) : zrun none (221, 27, ls, st, w) = zrun none (221, 28, ls, (.int 0 :: st), w) := (zE_ (i := .iconst 0) (by decide +kernel) _ _ _).trans rfl
theorem e221_28 (ls : List Value) (x : Int32) (a : Nat) (st : List Value) (w : zH) : zrun none (221, 28, ls, (.int x :: .ref a :: st), w) = zgd (a < zX ∧ (zf w a 1250).isSome = true) (zrun none (221, 31, ls, st, zpf w a 1250 (.int x))) := by
  refine (zE_ (i := .putfield 1250) (by decide +kernel) _ _ _).trans ?_
  by_cases hg : a < zX ∧ (zf w a 1250).isSome = true
  · rw [zgd_pos hg]
    obtain ⟨ha, h⟩ := hg
    exact zq_putf ha h rfl rfl
  · rw [zgd_neg hg]
    exact zq_putf_no (fun h1 h2 h3 => hg ⟨h1, h2⟩)
theorem e221_31 (v1 v2 v3 : Value) (x : Nat) (st : List Value) (w : zH) : zrun none (221, 31, [.ref x, v1, v2, v3], st, w) = zrun none (221, 32, [.ref x, v1, v2, v3], (.ref x :: st), w) := (zE_ (i := .aload_n 0) (by decide +kernel) _ _ _).trans rfl
theorem e221_32 (v0 v2 v3 : Value) (x : Int32) (st : List Value) (w : zH) : zrun none (221, 32, [v0, .int x, v2, v3], st, w) = zrun none (221, 33, [v0, .int x, v2, v3], (.int x :: st), w) := (zE_ (i := .iload_n 1) (by decide +kernel) _ _ _).trans rfl
theorem e221_33 (v1 v2 v3 : Value) (x : Nat) (st : List Value) (w : zH) : zrun none (221, 33, [.ref x, v1, v2, v3], st, w) = zrun none (221, 34, [.ref x, v1, v2, v3], (.ref x :: st), w) := (zE_ (i := .aload_n 0) (by decide +kernel) _ _ _).trans rfl
theorem e221_34 (ls : List Value) (a : Nat) (st : List Value) (w : zH) : zrun none (221, 34, ls, (.ref a :: st), w) = zo (zf w a 1216) (fun x => zrun none (221, 37, ls, (x :: st), w)) := (zE_ (i := .getfield 1216) (by decide +kernel) _ _ _).trans zq_getf
theorem e221_37 (ls : List Value) (a : Nat) (x0 : Int32) (x1 : Int32) (st : List Value) (w : zH) (hr : zcat st ≤ 8) : zrun none (221, 37, ls, (.int x1 :: .int x0 :: .ref a :: st), w) = zgd (zis w a 12) (zcl (zrun none (166, 0, [.ref a, .int x0, .int x1, zJ, zJ], [], w)) (fun r => zrun none (221, 40, ls, r.1.toList ++ st, r.2))) := by
  refine (zE_ (i := .invokevirtual 166) (by decide +kernel) _ _ _).trans ?_
  show zres (zinv none 166 221 37 ls (.int x1 :: .int x0 :: .ref a :: st) w) = _
  unfold zinv
  show zres (if zrc none 166 w (.ref a) = true then zcall 166 [.ref a, .int x0, .int x1] st 221 37 ls w else none) = _
  by_cases hc : zis w a 12
  · rw [if_pos (zrc_is hc (by decide +kernel)), zgd_pos hc]
    exact zq_call hr (Nat.le_of_ble_eq_true rfl) rfl rfl
  · rw [zgd_neg hc, if_neg (fun q => hc (zrc_of q (by decide +kernel)))]
    rfl
theorem e221_40 (v0 v1 v2 v3 : Value) (x : Int32) (st : List Value) (w : zH) (h : v2.category = 1) : zrun none (221, 40, [v0, v1, v2, v3], (.int x :: st), w) = zrun none (221, 41, [v0, v1, v2, .int x], st, w) := by
  refine (zE_ (i := .istore_n 3) (by decide +kernel) _ _ _).trans ?_
  have hz : zfree [v0, v1, v2, v3] 3 = true := by show decide (v2.category = 1) = true; exact decide_eq_true h
  show zres (zst zint 3 1 221 40 [v0, v1, v2, v3] (.int x :: st) w) = _
  unfold zst
  dsimp only
  rw [if_pos ⟨rfl, Nat.le_of_ble_eq_true rfl, hz⟩]
  rfl
theorem e221_41 (v0 v1 v3 : Value) (x : Int32) (st : List Value) (w : zH) : zrun none (221, 41, [v0, v1, .int x, v3], st, w) = zrun none (221, 42, [v0, v1, .int x, v3], (.int x :: st), w) := (zE_ (i := .iload_n 2) (by decide +kernel) _ _ _).trans rfl
theorem e221_42 (ls : List Value) (a : Int32) (st : List Value) (w : zH) : zrun none (221, 42, ls, (.int a :: st), w) = if a = 0 then zrun none (221, 45, ls, st, w) else zrun none (221, 54, ls, st, w) := (zE_ (i := .ifCond .ne 12) (by decide +kernel) _ _ _).trans (zq_if_ne rfl rfl)
theorem e221_45 (v1 v2 v3 : Value) (x : Nat) (st : List Value) (w : zH) : zrun none (221, 45, [.ref x, v1, v2, v3], st, w) = zrun none (221, 46, [.ref x, v1, v2, v3], (.ref x :: st), w) := (zE_ (i := .aload_n 0) (by decide +kernel) _ _ _).trans rfl
theorem e221_46 (v0 v2 v3 : Value) (x : Int32) (st : List Value) (w : zH) : zrun none (221, 46, [v0, .int x, v2, v3], st, w) = zrun none (221, 47, [v0, .int x, v2, v3], (.int x :: st), w) := (zE_ (i := .iload_n 1) (by decide +kernel) _ _ _).trans rfl
theorem e221_47 (v0 v1 v2 : Value) (x : Int32) (st : List Value) (w : zH) : zrun none (221, 47, [v0, v1, v2, .int x], st, w) = zrun none (221, 48, [v0, v1, v2, .int x], (.int x :: st), w) := (zE_ (i := .iload_n 3) (by decide +kernel) _ _ _).trans rfl
theorem e221_48 (ls : List Value) (a : Nat) (x0 : Int32) (x1 : Int32) (st : List Value) (w : zH) (hr : zcat st ≤ 8) : zrun none (221, 48, ls, (.int x1 :: .int x0 :: .ref a :: st), w) = zgd (zis w a 12) (zcl (zrun none (219, 0, [.ref a, .int x0, .int x1, zJ], [], w)) (fun r => zrun none (221, 51, ls, r.1.toList ++ st, r.2))) := by
  refine (zE_ (i := .invokevirtual 219) (by decide +kernel) _ _ _).trans ?_
  show zres (zinv none 219 221 48 ls (.int x1 :: .int x0 :: .ref a :: st) w) = _
  unfold zinv
  show zres (if zrc none 219 w (.ref a) = true then zcall 219 [.ref a, .int x0, .int x1] st 221 48 ls w else none) = _
  by_cases hc : zis w a 12
  · rw [if_pos (zrc_is hc (by decide +kernel)), zgd_pos hc]
    exact zq_call hr (Nat.le_of_ble_eq_true rfl) rfl rfl
  · rw [zgd_neg hc, if_neg (fun q => hc (zrc_of q (by decide +kernel)))]
    rfl
theorem e221_51 (ls st : List Value) (w : zH) : zrun none (221, 51, ls, st, w) = zrun none (221, 60, ls, st, w) := (zE_ (i := .goto 9) (by decide +kernel) _ _ _).trans rfl
theorem e221_54 (v1 v2 v3 : Value) (x : Nat) (st : List Value) (w : zH) : zrun none (221, 54, [.ref x, v1, v2, v3], st, w) = zrun none (221, 55, [.ref x, v1, v2, v3], (.ref x :: st), w) := (zE_ (i := .aload_n 0) (by decide +kernel) _ _ _).trans rfl
theorem e221_55 (v0 v2 v3 : Value) (x : Int32) (st : List Value) (w : zH) : zrun none (221, 55, [v0, .int x, v2, v3], st, w) = zrun none (221, 56, [v0, .int x, v2, v3], (.int x :: st), w) := (zE_ (i := .iload_n 1) (by decide +kernel) _ _ _).trans rfl
theorem e221_56 (v0 v1 v2 : Value) (x : Int32) (st : List Value) (w : zH) : zrun none (221, 56, [v0, v1, v2, .int x], st, w) = zrun none (221, 57, [v0, v1, v2, .int x], (.int x :: st), w) := (zE_ (i := .iload_n 3) (by decide +kernel) _ _ _).trans rfl
theorem e221_57 (ls : List Value) (a : Nat) (x0 : Int32) (x1 : Int32) (st : List Value) (w : zH) (hr : zcat st ≤ 8) : zrun none (221, 57, ls, (.int x1 :: .int x0 :: .ref a :: st), w) = zgd (zis w a 12) (zcl (zrun none (220, 0, [.ref a, .int x0, .int x1, zJ], [], w)) (fun r => zrun none (221, 60, ls, r.1.toList ++ st, r.2))) := by
  refine (zE_ (i := .invokevirtual 220) (by decide +kernel) _ _ _).trans ?_
  show zres (zinv none 220 221 57 ls (.int x1 :: .int x0 :: .ref a :: st) w) = _
  unfold zinv
  show zres (if zrc none 220 w (.ref a) = true then zcall 220 [.ref a, .int x0, .int x1] st 221 57 ls w else none) = _
  by_cases hc : zis w a 12
  · rw [if_pos (zrc_is hc (by decide +kernel)), zgd_pos hc]
    exact zq_call hr (Nat.le_of_ble_eq_true rfl) rfl rfl
  · rw [zgd_neg hc, if_neg (fun q => hc (zrc_of q (by decide +kernel)))]
    rfl
theorem e221_60 (ls : List Value) (x : Int32) (w : zH) : zrun none (221, 60, ls, [.int x], w) = some (some (.int x), w) := by
  refine (zE_ (i := .ireturn) (by decide +kernel) _ _ _).trans ?_
  show zres (if narrow .int (.int x) = .int x then _ else none) = _
  rw [if_pos (show narrow .int (.int x) = .int x from rfl)]
  rfl
theorem e222_0 (v1 : Value) (x : Nat) (st : List Value) (w : zH) : zrun none (222, 0, [.ref x, v1], st, w) = zrun none (222, 1, [.ref x, v1], (.ref x :: st), w) := (zE_ (i := .aload_n 0) (by decide +kernel) _ _ _).trans rfl
theorem e222_1 (ls st : List Value) (w : zH) : zrun none (222, 1, ls, st, w) = zrun none (222, 2, ls, (.int 0 :: st), w) := (zE_ (i := .iconst 0) (by decide +kernel) _ _ _).trans rfl
theorem e222_2 (ls : List Value) (x : Int32) (a : Nat) (st : List Value) (w : zH) : zrun none (222, 2, ls, (.int x :: .ref a :: st), w) = zgd (a < zX ∧ (zf w a 1200).isSome = true) (zrun none (222, 5, ls, st, zpf w a 1200 (.int x))) := by
  refine (zE_ (i := .putfield 1200) (by decide +kernel) _ _ _).trans ?_
  by_cases hg : a < zX ∧ (zf w a 1200).isSome = true
  · rw [zgd_pos hg]
    obtain ⟨ha, h⟩ := hg
    exact zq_putf ha h rfl rfl
  · rw [zgd_neg hg]
    exact zq_putf_no (fun h1 h2 h3 => hg ⟨h1, h2⟩)
theorem e222_5 (v0 : Value) (x : Int32) (st : List Value) (w : zH) : zrun none (222, 5, [v0, .int x], st, w) = zrun none (222, 6, [v0, .int x], (.int x :: st), w) := (zE_ (i := .iload_n 1) (by decide +kernel) _ _ _).trans rfl
theorem e222_6 (ls : List Value) (a : Int32) (st : List Value) (w : zH) : zrun none (222, 6, ls, (.int a :: st), w) = zrun none (222, 7, ls, (.long a.toInt64 :: st), w) := (zE_ (i := .i2l) (by decide +kernel) _ _ _).trans rfl
theorem e222_7 (ls st : List Value) (w : zH) : zrun none (222, 7, ls, st, w) = zrun none (222, 8, ls, (.long 0 :: st), w) := (zE_ (i := .lconst 0) (by decide +kernel) _ _ _).trans rfl
theorem e222_8 (v1 : Value) (x : Nat) (st : List Value) (w : zH) : zrun none (222, 8, [.ref x, v1], st, w) = zrun none (222, 9, [.ref x, v1], (.ref x :: st), w) := (zE_ (i := .aload_n 0) (by decide +kernel) _ _ _).trans rfl
theorem e222_9 (ls : List Value) (a : Nat) (st : List Value) (w : zH) : zrun none (222, 9, ls, (.ref a :: st), w) = zo (zf w a 1250) (fun x => zrun none (222, 12, ls, (x :: st), w)) := (zE_ (i := .getfield 1250) (by decide +kernel) _ _ _).trans zq_getf
theorem e222_12 (ls st : List Value) (w : zH) : zrun none (222, 12, ls, st, w) = zrun none (222, 13, ls, (.int 1 :: st), w) := (zE_ (i := .iconst 1) (by decide +kernel) _ _ _).trans rfl
theorem e222_13 (ls : List Value) (a b : Int32) (st : List Value) (w : zH) : zrun none (222, 13, ls, (.int b :: .int a :: st), w) = zrun none (222, 14, ls, (.int (a - b) :: st), w) := (zE_ (i := .isub) (by decide +kernel) _ _ _).trans rfl
theorem e222_14 (ls : List Value) (a : Int32) (st : List Value) (w : zH) : zrun none (222, 14, ls, (.int a :: st), w) = zrun none (222, 15, ls, (.long a.toInt64 :: st), w) := (zE_ (i := .i2l) (by decide +kernel) _ _ _).trans rfl
theorem e222_15 (ls : List Value) (x0 : Int64) (x1 : Int64) (x2 : Int64) (st : List Value) (w : zH) (hr : zcat st ≤ 8) : zrun none (222, 15, ls, (.long x2 :: .long x1 :: .long x0 :: st), w) = zcl (zrun none (146, 0, [.long x0, zJ, .long x1, zJ, .long x2, zJ], [], w)) (fun r => zrun none (222, 18, ls, r.1.toList ++ st, r.2)) := by
  refine (zE_ (i := .invokestatic 146) (by decide +kernel) _ _ _).trans ?_
  show zres (if (99 : Nat) = 99 ∧ 3 ≤ ((.long x2 :: .long x1 :: .long x0 :: st) : List Value).length then zcall 146 [.long x0, .long x1, .long x2] st 222 15 ls w else none) = _
  rw [if_pos ⟨rfl, by simp⟩]
  exact zq_call hr (Nat.le_of_ble_eq_true rfl) rfl rfl
theorem e222_18 (ls : List Value) (a : Int32) (st : List Value) (w : zH) : zrun none (222, 18, ls, (.int a :: st), w) = if a = 0 then zrun none (222, 30, ls, st, w) else zrun none (222, 21, ls, st, w) := (zE_ (i := .ifCond .eq 12) (by decide +kernel) _ _ _).trans (zq_if_eq rfl rfl)
theorem e222_21 (v1 : Value) (x : Nat) (st : List Value) (w : zH) : zrun none (222, 21, [.ref x, v1], st, w) = zrun none (222, 22, [.ref x, v1], (.ref x :: st), w) := (zE_ (i := .aload_n 0) (by decide +kernel) _ _ _).trans rfl
theorem e222_22 (ls : List Value) (a : Nat) (st : List Value) (w : zH) : zrun none (222, 22, ls, (.ref a :: st), w) = zo (zf w a 1249) (fun x => zrun none (222, 25, ls, (x :: st), w)) := (zE_ (i := .getfield 1249) (by decide +kernel) _ _ _).trans zq_getf
theorem e222_25 (v0 : Value) (x : Int32) (st : List Value) (w : zH) : zrun none (222, 25, [v0, .int x], st, w) = zrun none (222, 26, [v0, .int x], (.int x :: st), w) := (zE_ (i := .iload_n 1) (by decide +kernel) _ _ _).trans rfl
theorem e222_26 (ls : List Value) (j : Int32) (a : Nat) (st : List Value) (w : zH) : zrun none (222, 26, ls, (.int j :: .ref a :: st), w) = zoi (zai w a 100 j) (fun x => zrun none (222, 27, ls, (.int x :: st), w)) := (zE_ (i := .iaload) (by decide +kernel) _ _ _).trans zq_iald
theorem e222_27 (ls st : List Value) (w : zH) : zrun none (222, 27, ls, st, w) = zrun none (222, 32, ls, st, w) := (zE_ (i := .goto 5) (by decide +kernel) _ _ _).trans rfl
theorem e222_30 (ls st : List Value) (w : zH) : zrun none (222, 30, ls, st, w) = zrun none (222, 32, ls, (.int (-1000000) :: st), w) := (zE_ (i := .bipush (-1000000)) (by decide +kernel) _ _ _).trans rfl
theorem e222_32 (ls : List Value) (x : Int32) (w : zH) : zrun none (222, 32, ls, [.int x], w) = some (some (.int x), w) := by
  refine (zE_ (i := .ireturn) (by decide +kernel) _ _ _).trans ?_
  show zres (if narrow .int (.int x) = .int x then _ else none) = _
  rw [if_pos (show narrow .int (.int x) = .int x from rfl)]
  rfl
theorem e223_0 (v1 v2 v3 : Value) (x : Nat) (st : List Value) (w : zH) : zrun none (223, 0, [.ref x, v1, v2, v3], st, w) = zrun none (223, 1, [.ref x, v1, v2, v3], (.ref x :: st), w) := (zE_ (i := .aload_n 0) (by decide +kernel) _ _ _).trans rfl
theorem e223_1 (ls st : List Value) (w : zH) : zrun none (223, 1, ls, st, w) = zrun none (223, 2, ls, (.int 0 :: st), w) := (zE_ (i := .iconst 0) (by decide +kernel) _ _ _).trans rfl
theorem e223_2 (ls : List Value) (x : Int32) (a : Nat) (st : List Value) (w : zH) : zrun none (223, 2, ls, (.int x :: .ref a :: st), w) = zgd (a < zX ∧ (zf w a 1200).isSome = true) (zrun none (223, 5, ls, st, zpf w a 1200 (.int x))) := by
  refine (zE_ (i := .putfield 1200) (by decide +kernel) _ _ _).trans ?_
  by_cases hg : a < zX ∧ (zf w a 1200).isSome = true
  · rw [zgd_pos hg]
    obtain ⟨ha, h⟩ := hg
    exact zq_putf ha h rfl rfl
  · rw [zgd_neg hg]
    exact zq_putf_no (fun h1 h2 h3 => hg ⟨h1, h2⟩)
theorem e223_5 (ls st : List Value) (w : zH) : zrun none (223, 5, ls, st, w) = zrun none (223, 6, ls, (.int 0 :: st), w) := (zE_ (i := .iconst 0) (by decide +kernel) _ _ _).trans rfl
theorem e223_6 (v0 v1 v2 v3 : Value) (x : Int32) (st : List Value) (w : zH) (h : v1.category = 1) : zrun none (223, 6, [v0, v1, v2, v3], (.int x :: st), w) = zrun none (223, 7, [v0, v1, .int x, v3], st, w) := by
  refine (zE_ (i := .istore_n 2) (by decide +kernel) _ _ _).trans ?_
  have hz : zfree [v0, v1, v2, v3] 2 = true := by show decide (v1.category = 1) = true; exact decide_eq_true h
  show zres (zst zint 2 1 223 6 [v0, v1, v2, v3] (.int x :: st) w) = _
  unfold zst
  dsimp only
  rw [if_pos ⟨rfl, Nat.le_of_ble_eq_true rfl, hz⟩]
  rfl
theorem e223_7 (v0 v2 v3 : Value) (x : Int32) (st : List Value) (w : zH) : zrun none (223, 7, [v0, .int x, v2, v3], st, w) = zrun none (223, 8, [v0, .int x, v2, v3], (.int x :: st), w) := (zE_ (i := .iload_n 1) (by decide +kernel) _ _ _).trans rfl
theorem e223_8 (ls : List Value) (a : Int32) (st : List Value) (w : zH) : zrun none (223, 8, ls, (.int a :: st), w) = if a = 0 then zrun none (223, 64, ls, st, w) else if a = 1 then zrun none (223, 97, ls, st, w) else if a = 2 then zrun none (223, 102, ls, st, w) else if a = 3 then zrun none (223, 107, ls, st, w) else if a = 4 then zrun none (223, 107, ls, st, w) else if a = 5 then zrun none (223, 151, ls, st, w) else if a = 6 then zrun none (223, 156, ls, st, w) else if a = 7 then zrun none (223, 161, ls, st, w) else if a = 8 then zrun none (223, 166, ls, st, w) else if a = 9 then zrun none (223, 171, ls, st, w) else zrun none (223, 176, ls, st, w) := by
  refine (zE_ (i := .tableswitch 168 0 9 #[56, 89, 94, 99, 99, 143, 148, 153, 158, 163]) (by decide +kernel) _ _ _).trans ?_
  by_cases h1000 : a = 0
  · subst h1000
    rfl
  rw [if_neg h1000]
  by_cases h1001 : a = 1
  · subst h1001
    rfl
  rw [if_neg h1001]
  by_cases h1002 : a = 2
  · subst h1002
    rfl
  rw [if_neg h1002]
  by_cases h1003 : a = 3
  · subst h1003
    rfl
  rw [if_neg h1003]
  by_cases h1004 : a = 4
  · subst h1004
    rfl
  rw [if_neg h1004]
  by_cases h1005 : a = 5
  · subst h1005
    rfl
  rw [if_neg h1005]
  by_cases h1006 : a = 6
  · subst h1006
    rfl
  rw [if_neg h1006]
  by_cases h1007 : a = 7
  · subst h1007
    rfl
  rw [if_neg h1007]
  by_cases h1008 : a = 8
  · subst h1008
    rfl
  rw [if_neg h1008]
  by_cases h1009 : a = 9
  · subst h1009
    rfl
  rw [if_neg h1009]
  have hr : a.toInt < 0 ∨ 9 < a.toInt := by
    by_cases q1 : a.toInt < 0
    · exact Or.inl q1
    by_cases q2 : 9 < a.toInt
    · exact Or.inr q2
    exfalso
    have k1000 := zne32 h1000
    have k1001 := zne32 h1001
    have k1002 := zne32 h1002
    have k1003 := zne32 h1003
    have k1004 := zne32 h1004
    have k1005 := zne32 h1005
    have k1006 := zne32 h1006
    have k1007 := zne32 h1007
    have k1008 := zne32 h1008
    have k1009 := zne32 h1009
    have j1000 : ((0 : Int32)).toInt = 0 := by decide
    rw [j1000] at k1000
    have j1001 : ((1 : Int32)).toInt = 1 := by decide
    rw [j1001] at k1001
    have j1002 : ((2 : Int32)).toInt = 2 := by decide
    rw [j1002] at k1002
    have j1003 : ((3 : Int32)).toInt = 3 := by decide
    rw [j1003] at k1003
    have j1004 : ((4 : Int32)).toInt = 4 := by decide
    rw [j1004] at k1004
    have j1005 : ((5 : Int32)).toInt = 5 := by decide
    rw [j1005] at k1005
    have j1006 : ((6 : Int32)).toInt = 6 := by decide
    rw [j1006] at k1006
    have j1007 : ((7 : Int32)).toInt = 7 := by decide
    rw [j1007] at k1007
    have j1008 : ((8 : Int32)).toInt = 8 := by decide
    rw [j1008] at k1008
    have j1009 : ((9 : Int32)).toInt = 9 := by decide
    rw [j1009] at k1009
    omega
  simp only [zI, if_pos hr]
  rfl
theorem e223_64 (ls st : List Value) (w : zH) : zrun none (223, 64, ls, st, w) = zrun none (223, 65, ls, (.int 0 :: st), w) := (zE_ (i := .iconst 0) (by decide +kernel) _ _ _).trans rfl
theorem e223_65 (v0 v1 v2 v3 : Value) (x : Int32) (st : List Value) (w : zH) (h : v2.category = 1) : zrun none (223, 65, [v0, v1, v2, v3], (.int x :: st), w) = zrun none (223, 66, [v0, v1, v2, .int x], st, w) := by
  refine (zE_ (i := .istore_n 3) (by decide +kernel) _ _ _).trans ?_
  have hz : zfree [v0, v1, v2, v3] 3 = true := by show decide (v2.category = 1) = true; exact decide_eq_true h
  show zres (zst zint 3 1 223 65 [v0, v1, v2, v3] (.int x :: st) w) = _
  unfold zst
  dsimp only
  rw [if_pos ⟨rfl, Nat.le_of_ble_eq_true rfl, hz⟩]
  rfl
theorem e223_66 (v0 v1 v2 : Value) (x : Int32) (st : List Value) (w : zH) : zrun none (223, 66, [v0, v1, v2, .int x], st, w) = zrun none (223, 67, [v0, v1, v2, .int x], (.int x :: st), w) := (zE_ (i := .iload_n 3) (by decide +kernel) _ _ _).trans rfl
theorem e223_67 (ls st : List Value) (w : zH) : zrun none (223, 67, ls, st, w) = zrun none (223, 69, ls, (.int 8 :: st), w) := (zE_ (i := .bipush 8) (by decide +kernel) _ _ _).trans rfl
theorem e223_69 (ls : List Value) (a b : Int32) (st : List Value) (w : zH) : zrun none (223, 69, ls, (.int b :: .int a :: st), w) = if b ≤ a then zrun none (223, 95, ls, st, w) else zrun none (223, 72, ls, st, w) := (zE_ (i := .if_icmp .ge 26) (by decide +kernel) _ _ _).trans (zq_ic_ge rfl rfl)
theorem e223_72 (v0 v1 v3 : Value) (x : Int32) (st : List Value) (w : zH) : zrun none (223, 72, [v0, v1, .int x, v3], st, w) = zrun none (223, 73, [v0, v1, .int x, v3], (.int x :: st), w) := (zE_ (i := .iload_n 2) (by decide +kernel) _ _ _).trans rfl
theorem e223_73 (v1 v2 v3 : Value) (x : Nat) (st : List Value) (w : zH) : zrun none (223, 73, [.ref x, v1, v2, v3], st, w) = zrun none (223, 74, [.ref x, v1, v2, v3], (.ref x :: st), w) := (zE_ (i := .aload_n 0) (by decide +kernel) _ _ _).trans rfl
theorem e223_74 (ls : List Value) (a : Nat) (st : List Value) (w : zH) : zrun none (223, 74, ls, (.ref a :: st), w) = zo (zf w a 1202) (fun x => zrun none (223, 77, ls, (x :: st), w)) := (zE_ (i := .getfield 1202) (by decide +kernel) _ _ _).trans zq_getf
theorem e223_77 (v0 v1 v2 : Value) (x : Int32) (st : List Value) (w : zH) : zrun none (223, 77, [v0, v1, v2, .int x], st, w) = zrun none (223, 78, [v0, v1, v2, .int x], (.int x :: st), w) := (zE_ (i := .iload_n 3) (by decide +kernel) _ _ _).trans rfl
theorem e223_78 (ls : List Value) (j : Int32) (a : Nat) (st : List Value) (w : zH) : zrun none (223, 78, ls, (.int j :: .ref a :: st), w) = zoi (zai w a 100 j) (fun x => zrun none (223, 79, ls, (.int x :: st), w)) := (zE_ (i := .iaload) (by decide +kernel) _ _ _).trans zq_iald
theorem e223_79 (ls : List Value) (a : Int32) (st : List Value) (w : zH) : zrun none (223, 79, ls, (.int a :: st), w) = if a < 0 then zrun none (223, 86, ls, st, w) else zrun none (223, 82, ls, st, w) := (zE_ (i := .ifCond .lt 7) (by decide +kernel) _ _ _).trans (zq_if_lt rfl rfl)
theorem e223_82 (ls st : List Value) (w : zH) : zrun none (223, 82, ls, st, w) = zrun none (223, 83, ls, (.int 1 :: st), w) := (zE_ (i := .iconst 1) (by decide +kernel) _ _ _).trans rfl
theorem e223_83 (ls st : List Value) (w : zH) : zrun none (223, 83, ls, st, w) = zrun none (223, 87, ls, st, w) := (zE_ (i := .goto 4) (by decide +kernel) _ _ _).trans rfl
theorem e223_86 (ls st : List Value) (w : zH) : zrun none (223, 86, ls, st, w) = zrun none (223, 87, ls, (.int 0 :: st), w) := (zE_ (i := .iconst 0) (by decide +kernel) _ _ _).trans rfl
theorem e223_87 (ls : List Value) (a b : Int32) (st : List Value) (w : zH) : zrun none (223, 87, ls, (.int b :: .int a :: st), w) = zrun none (223, 88, ls, (.int (a + b) :: st), w) := (zE_ (i := .iadd) (by decide +kernel) _ _ _).trans rfl
theorem e223_88 (v0 v1 v2 v3 : Value) (x : Int32) (st : List Value) (w : zH) (h : v1.category = 1) : zrun none (223, 88, [v0, v1, v2, v3], (.int x :: st), w) = zrun none (223, 89, [v0, v1, .int x, v3], st, w) := by
  refine (zE_ (i := .istore_n 2) (by decide +kernel) _ _ _).trans ?_
  have hz : zfree [v0, v1, v2, v3] 2 = true := by show decide (v1.category = 1) = true; exact decide_eq_true h
  show zres (zst zint 2 1 223 88 [v0, v1, v2, v3] (.int x :: st) w) = _
  unfold zst
  dsimp only
  rw [if_pos ⟨rfl, Nat.le_of_ble_eq_true rfl, hz⟩]
  rfl
theorem e223_89 (v0 v1 v2 : Value) (x : Int32) (st : List Value) (w : zH) : zrun none (223, 89, [v0, v1, v2, .int x], st, w) = zrun none (223, 92, [v0, v1, v2, .int (x + 1)], st, w) := (zE_ (i := .iinc 3 1) (by decide +kernel) _ _ _).trans rfl
theorem e223_92 (ls st : List Value) (w : zH) : zrun none (223, 92, ls, st, w) = zrun none (223, 66, ls, st, w) := (zE_ (i := .goto (-26)) (by decide +kernel) _ _ _).trans rfl
theorem e223_95 (v0 v1 v3 : Value) (x : Int32) (st : List Value) (w : zH) : zrun none (223, 95, [v0, v1, .int x, v3], st, w) = zrun none (223, 96, [v0, v1, .int x, v3], (.int x :: st), w) := (zE_ (i := .iload_n 2) (by decide +kernel) _ _ _).trans rfl
theorem e223_96 (ls : List Value) (x : Int32) (w : zH) : zrun none (223, 96, ls, [.int x], w) = some (some (.int x), w) := by
  refine (zE_ (i := .ireturn) (by decide +kernel) _ _ _).trans ?_
  show zres (if narrow .int (.int x) = .int x then _ else none) = _
  rw [if_pos (show narrow .int (.int x) = .int x from rfl)]
  rfl
theorem e223_97 (v1 v2 v3 : Value) (x : Nat) (st : List Value) (w : zH) : zrun none (223, 97, [.ref x, v1, v2, v3], st, w) = zrun none (223, 98, [.ref x, v1, v2, v3], (.ref x :: st), w) := (zE_ (i := .aload_n 0) (by decide +kernel) _ _ _).trans rfl
theorem e223_98 (ls : List Value) (a : Nat) (st : List Value) (w : zH) : zrun none (223, 98, ls, (.ref a :: st), w) = zo (zf w a 1205) (fun x => zrun none (223, 101, ls, (x :: st), w)) := (zE_ (i := .getfield 1205) (by decide +kernel) _ _ _).trans zq_getf
theorem e223_101 (ls : List Value) (x : Int32) (w : zH) : zrun none (223, 101, ls, [.int x], w) = some (some (.int x), w) := by
  refine (zE_ (i := .ireturn) (by decide +kernel) _ _ _).trans ?_
  show zres (if narrow .int (.int x) = .int x then _ else none) = _
  rw [if_pos (show narrow .int (.int x) = .int x from rfl)]
  rfl
theorem e223_102 (v1 v2 v3 : Value) (x : Nat) (st : List Value) (w : zH) : zrun none (223, 102, [.ref x, v1, v2, v3], st, w) = zrun none (223, 103, [.ref x, v1, v2, v3], (.ref x :: st), w) := (zE_ (i := .aload_n 0) (by decide +kernel) _ _ _).trans rfl
theorem e223_103 (ls : List Value) (a : Nat) (st : List Value) (w : zH) : zrun none (223, 103, ls, (.ref a :: st), w) = zo (zf w a 1211) (fun x => zrun none (223, 106, ls, (x :: st), w)) := (zE_ (i := .getfield 1211) (by decide +kernel) _ _ _).trans zq_getf
theorem e223_106 (ls : List Value) (x : Int32) (w : zH) : zrun none (223, 106, ls, [.int x], w) = some (some (.int x), w) := by
  refine (zE_ (i := .ireturn) (by decide +kernel) _ _ _).trans ?_
  show zres (if narrow .int (.int x) = .int x then _ else none) = _
  rw [if_pos (show narrow .int (.int x) = .int x from rfl)]
  rfl
theorem e223_107 (ls st : List Value) (w : zH) : zrun none (223, 107, ls, st, w) = zrun none (223, 108, ls, (.int 0 :: st), w) := (zE_ (i := .iconst 0) (by decide +kernel) _ _ _).trans rfl
theorem e223_108 (v0 v1 v2 v3 : Value) (x : Int32) (st : List Value) (w : zH) (h : v2.category = 1) : zrun none (223, 108, [v0, v1, v2, v3], (.int x :: st), w) = zrun none (223, 109, [v0, v1, v2, .int x], st, w) := by
  refine (zE_ (i := .istore_n 3) (by decide +kernel) _ _ _).trans ?_
  have hz : zfree [v0, v1, v2, v3] 3 = true := by show decide (v2.category = 1) = true; exact decide_eq_true h
  show zres (zst zint 3 1 223 108 [v0, v1, v2, v3] (.int x :: st) w) = _
  unfold zst
  dsimp only
  rw [if_pos ⟨rfl, Nat.le_of_ble_eq_true rfl, hz⟩]
  rfl
theorem e223_109 (v0 v1 v2 : Value) (x : Int32) (st : List Value) (w : zH) : zrun none (223, 109, [v0, v1, v2, .int x], st, w) = zrun none (223, 110, [v0, v1, v2, .int x], (.int x :: st), w) := (zE_ (i := .iload_n 3) (by decide +kernel) _ _ _).trans rfl
theorem e223_110 (v1 v2 v3 : Value) (x : Nat) (st : List Value) (w : zH) : zrun none (223, 110, [.ref x, v1, v2, v3], st, w) = zrun none (223, 111, [.ref x, v1, v2, v3], (.ref x :: st), w) := (zE_ (i := .aload_n 0) (by decide +kernel) _ _ _).trans rfl
theorem e223_111 (ls : List Value) (a : Nat) (st : List Value) (w : zH) : zrun none (223, 111, ls, (.ref a :: st), w) = zo (zf w a 1211) (fun x => zrun none (223, 114, ls, (x :: st), w)) := (zE_ (i := .getfield 1211) (by decide +kernel) _ _ _).trans zq_getf
theorem e223_114 (ls : List Value) (a b : Int32) (st : List Value) (w : zH) : zrun none (223, 114, ls, (.int b :: .int a :: st), w) = if b ≤ a then zrun none (223, 149, ls, st, w) else zrun none (223, 117, ls, st, w) := (zE_ (i := .if_icmp .ge 35) (by decide +kernel) _ _ _).trans (zq_ic_ge rfl rfl)
theorem e223_117 (v0 v1 v3 : Value) (x : Int32) (st : List Value) (w : zH) : zrun none (223, 117, [v0, v1, .int x, v3], st, w) = zrun none (223, 118, [v0, v1, .int x, v3], (.int x :: st), w) := (zE_ (i := .iload_n 2) (by decide +kernel) _ _ _).trans rfl
theorem e223_118 (v1 v2 v3 : Value) (x : Nat) (st : List Value) (w : zH) : zrun none (223, 118, [.ref x, v1, v2, v3], st, w) = zrun none (223, 119, [.ref x, v1, v2, v3], (.ref x :: st), w) := (zE_ (i := .aload_n 0) (by decide +kernel) _ _ _).trans rfl
theorem e223_119 (v0 v1 v2 : Value) (x : Int32) (st : List Value) (w : zH) : zrun none (223, 119, [v0, v1, v2, .int x], st, w) = zrun none (223, 120, [v0, v1, v2, .int x], (.int x :: st), w) := (zE_ (i := .iload_n 3) (by decide +kernel) _ _ _).trans rfl
theorem e223_120 (v1 v2 v3 : Value) (x : Nat) (st : List Value) (w : zH) : zrun none (223, 120, [.ref x, v1, v2, v3], st, w) = zrun none (223, 121, [.ref x, v1, v2, v3], (.ref x :: st), w) := (zE_ (i := .aload_n 0) (by decide +kernel) _ _ _).trans rfl
theorem e223_121 (ls : List Value) (a : Nat) (st : List Value) (w : zH) : zrun none (223, 121, ls, (.ref a :: st), w) = zo (zf w a 1216) (fun x => zrun none (223, 124, ls, (x :: st), w)) := (zE_ (i := .getfield 1216) (by decide +kernel) _ _ _).trans zq_getf
theorem e223_124 (ls : List Value) (a : Nat) (x0 : Int32) (x1 : Int32) (st : List Value) (w : zH) (hr : zcat st ≤ 8) : zrun none (223, 124, ls, (.int x1 :: .int x0 :: .ref a :: st), w) = zgd (zis w a 12) (zcl (zrun none (166, 0, [.ref a, .int x0, .int x1, zJ, zJ], [], w)) (fun r => zrun none (223, 127, ls, r.1.toList ++ st, r.2))) := by
  refine (zE_ (i := .invokevirtual 166) (by decide +kernel) _ _ _).trans ?_
  show zres (zinv none 166 223 124 ls (.int x1 :: .int x0 :: .ref a :: st) w) = _
  unfold zinv
  show zres (if zrc none 166 w (.ref a) = true then zcall 166 [.ref a, .int x0, .int x1] st 223 124 ls w else none) = _
  by_cases hc : zis w a 12
  · rw [if_pos (zrc_is hc (by decide +kernel)), zgd_pos hc]
    exact zq_call hr (Nat.le_of_ble_eq_true rfl) rfl rfl
  · rw [zgd_neg hc, if_neg (fun q => hc (zrc_of q (by decide +kernel)))]
    rfl
theorem e223_127 (v0 v2 v3 : Value) (x : Int32) (st : List Value) (w : zH) : zrun none (223, 127, [v0, .int x, v2, v3], st, w) = zrun none (223, 128, [v0, .int x, v2, v3], (.int x :: st), w) := (zE_ (i := .iload_n 1) (by decide +kernel) _ _ _).trans rfl
theorem e223_128 (ls st : List Value) (w : zH) : zrun none (223, 128, ls, st, w) = zrun none (223, 129, ls, (.int 2 :: st), w) := (zE_ (i := .iconst 2) (by decide +kernel) _ _ _).trans rfl
theorem e223_129 (ls : List Value) (a b : Int32) (st : List Value) (w : zH) : zrun none (223, 129, ls, (.int b :: .int a :: st), w) = zrun none (223, 130, ls, (.int (a - b) :: st), w) := (zE_ (i := .isub) (by decide +kernel) _ _ _).trans rfl
theorem e223_130 (ls : List Value) (x0 : Int32) (x1 : Int32) (st : List Value) (w : zH) (hr : zcat st ≤ 8) : zrun none (223, 130, ls, (.int x1 :: .int x0 :: st), w) = zcl (zrun none (215, 0, [.int x0, .int x1], [], w)) (fun r => zrun none (223, 133, ls, r.1.toList ++ st, r.2)) := by
  refine (zE_ (i := .invokestatic 215) (by decide +kernel) _ _ _).trans ?_
  show zres (if (99 : Nat) = 99 ∧ 2 ≤ ((.int x1 :: .int x0 :: st) : List Value).length then zcall 215 [.int x0, .int x1] st 223 130 ls w else none) = _
  rw [if_pos ⟨rfl, by simp⟩]
  exact zq_call hr (Nat.le_of_ble_eq_true rfl) rfl rfl
theorem e223_133 (ls : List Value) (a : Int32) (st : List Value) (w : zH) : zrun none (223, 133, ls, (.int a :: st), w) = if a = 0 then zrun none (223, 140, ls, st, w) else zrun none (223, 136, ls, st, w) := (zE_ (i := .ifCond .eq 7) (by decide +kernel) _ _ _).trans (zq_if_eq rfl rfl)
theorem e223_136 (ls st : List Value) (w : zH) : zrun none (223, 136, ls, st, w) = zrun none (223, 137, ls, (.int 1 :: st), w) := (zE_ (i := .iconst 1) (by decide +kernel) _ _ _).trans rfl
theorem e223_137 (ls st : List Value) (w : zH) : zrun none (223, 137, ls, st, w) = zrun none (223, 141, ls, st, w) := (zE_ (i := .goto 4) (by decide +kernel) _ _ _).trans rfl
theorem e223_140 (ls st : List Value) (w : zH) : zrun none (223, 140, ls, st, w) = zrun none (223, 141, ls, (.int 0 :: st), w) := (zE_ (i := .iconst 0) (by decide +kernel) _ _ _).trans rfl
theorem e223_141 (ls : List Value) (a b : Int32) (st : List Value) (w : zH) : zrun none (223, 141, ls, (.int b :: .int a :: st), w) = zrun none (223, 142, ls, (.int (a + b) :: st), w) := (zE_ (i := .iadd) (by decide +kernel) _ _ _).trans rfl
theorem e223_142 (v0 v1 v2 v3 : Value) (x : Int32) (st : List Value) (w : zH) (h : v1.category = 1) : zrun none (223, 142, [v0, v1, v2, v3], (.int x :: st), w) = zrun none (223, 143, [v0, v1, .int x, v3], st, w) := by
  refine (zE_ (i := .istore_n 2) (by decide +kernel) _ _ _).trans ?_
  have hz : zfree [v0, v1, v2, v3] 2 = true := by show decide (v1.category = 1) = true; exact decide_eq_true h
  show zres (zst zint 2 1 223 142 [v0, v1, v2, v3] (.int x :: st) w) = _
  unfold zst
  dsimp only
  rw [if_pos ⟨rfl, Nat.le_of_ble_eq_true rfl, hz⟩]
  rfl
theorem e223_143 (v0 v1 v2 : Value) (x : Int32) (st : List Value) (w : zH) : zrun none (223, 143, [v0, v1, v2, .int x], st, w) = zrun none (223, 146, [v0, v1, v2, .int (x + 1)], st, w) := (zE_ (i := .iinc 3 1) (by decide +kernel) _ _ _).trans rfl
theorem e223_146 (ls st : List Value) (w : zH) : zrun none (223, 146, ls, st, w) = zrun none (223, 109, ls, st, w) := (zE_ (i := .goto (-37)) (by decide +kernel) _ _ _).trans rfl
theorem e223_149 (v0 v1 v3 : Value) (x : Int32) (st : List Value) (w : zH) : zrun none (223, 149, [v0, v1, .int x, v3], st, w) = zrun none (223, 150, [v0, v1, .int x, v3], (.int x :: st), w) := (zE_ (i := .iload_n 2) (by decide +kernel) _ _ _).trans rfl
theorem e223_150 (ls : List Value) (x : Int32) (w : zH) : zrun none (223, 150, ls, [.int x], w) = some (some (.int x), w) := by
  refine (zE_ (i := .ireturn) (by decide +kernel) _ _ _).trans ?_
  show zres (if narrow .int (.int x) = .int x then _ else none) = _
  rw [if_pos (show narrow .int (.int x) = .int x from rfl)]
  rfl
theorem e223_151 (v1 v2 v3 : Value) (x : Nat) (st : List Value) (w : zH) : zrun none (223, 151, [.ref x, v1, v2, v3], st, w) = zrun none (223, 152, [.ref x, v1, v2, v3], (.ref x :: st), w) := (zE_ (i := .aload_n 0) (by decide +kernel) _ _ _).trans rfl
theorem e223_152 (ls : List Value) (a : Nat) (st : List Value) (w : zH) : zrun none (223, 152, ls, (.ref a :: st), w) = zo (zf w a 1217) (fun x => zrun none (223, 155, ls, (x :: st), w)) := (zE_ (i := .getfield 1217) (by decide +kernel) _ _ _).trans zq_getf
theorem e223_155 (ls : List Value) (x : Int32) (w : zH) : zrun none (223, 155, ls, [.int x], w) = some (some (.int x), w) := by
  refine (zE_ (i := .ireturn) (by decide +kernel) _ _ _).trans ?_
  show zres (if narrow .int (.int x) = .int x then _ else none) = _
  rw [if_pos (show narrow .int (.int x) = .int x from rfl)]
  rfl
theorem e223_156 (v1 v2 v3 : Value) (x : Nat) (st : List Value) (w : zH) : zrun none (223, 156, [.ref x, v1, v2, v3], st, w) = zrun none (223, 157, [.ref x, v1, v2, v3], (.ref x :: st), w) := (zE_ (i := .aload_n 0) (by decide +kernel) _ _ _).trans rfl
theorem e223_157 (ls : List Value) (a : Nat) (st : List Value) (w : zH) : zrun none (223, 157, ls, (.ref a :: st), w) = zo (zf w a 1230) (fun x => zrun none (223, 160, ls, (x :: st), w)) := (zE_ (i := .getfield 1230) (by decide +kernel) _ _ _).trans zq_getf
theorem e223_160 (ls : List Value) (x : Int32) (w : zH) : zrun none (223, 160, ls, [.int x], w) = some (some (.int x), w) := by
  refine (zE_ (i := .ireturn) (by decide +kernel) _ _ _).trans ?_
  show zres (if narrow .int (.int x) = .int x then _ else none) = _
  rw [if_pos (show narrow .int (.int x) = .int x from rfl)]
  rfl
theorem e223_161 (v1 v2 v3 : Value) (x : Nat) (st : List Value) (w : zH) : zrun none (223, 161, [.ref x, v1, v2, v3], st, w) = zrun none (223, 162, [.ref x, v1, v2, v3], (.ref x :: st), w) := (zE_ (i := .aload_n 0) (by decide +kernel) _ _ _).trans rfl
theorem e223_162 (ls : List Value) (a : Nat) (st : List Value) (w : zH) : zrun none (223, 162, ls, (.ref a :: st), w) = zo (zf w a 1240) (fun x => zrun none (223, 165, ls, (x :: st), w)) := (zE_ (i := .getfield 1240) (by decide +kernel) _ _ _).trans zq_getf
theorem e223_165 (ls : List Value) (x : Int32) (w : zH) : zrun none (223, 165, ls, [.int x], w) = some (some (.int x), w) := by
  refine (zE_ (i := .ireturn) (by decide +kernel) _ _ _).trans ?_
  show zres (if narrow .int (.int x) = .int x then _ else none) = _
  rw [if_pos (show narrow .int (.int x) = .int x from rfl)]
  rfl
theorem e223_166 (v1 v2 v3 : Value) (x : Nat) (st : List Value) (w : zH) : zrun none (223, 166, [.ref x, v1, v2, v3], st, w) = zrun none (223, 167, [.ref x, v1, v2, v3], (.ref x :: st), w) := (zE_ (i := .aload_n 0) (by decide +kernel) _ _ _).trans rfl
theorem e223_167 (ls : List Value) (a : Nat) (st : List Value) (w : zH) : zrun none (223, 167, ls, (.ref a :: st), w) = zo (zf w a 1244) (fun x => zrun none (223, 170, ls, (x :: st), w)) := (zE_ (i := .getfield 1244) (by decide +kernel) _ _ _).trans zq_getf
theorem e223_170 (ls : List Value) (x : Int32) (w : zH) : zrun none (223, 170, ls, [.int x], w) = some (some (.int x), w) := by
  refine (zE_ (i := .ireturn) (by decide +kernel) _ _ _).trans ?_
  show zres (if narrow .int (.int x) = .int x then _ else none) = _
  rw [if_pos (show narrow .int (.int x) = .int x from rfl)]
  rfl
theorem e223_171 (v1 v2 v3 : Value) (x : Nat) (st : List Value) (w : zH) : zrun none (223, 171, [.ref x, v1, v2, v3], st, w) = zrun none (223, 172, [.ref x, v1, v2, v3], (.ref x :: st), w) := (zE_ (i := .aload_n 0) (by decide +kernel) _ _ _).trans rfl
theorem e223_172 (ls : List Value) (a : Nat) (st : List Value) (w : zH) : zrun none (223, 172, ls, (.ref a :: st), w) = zo (zf w a 1221) (fun x => zrun none (223, 175, ls, (x :: st), w)) := (zE_ (i := .getfield 1221) (by decide +kernel) _ _ _).trans zq_getf
theorem e223_175 (ls : List Value) (x : Int32) (w : zH) : zrun none (223, 175, ls, [.int x], w) = some (some (.int x), w) := by
  refine (zE_ (i := .ireturn) (by decide +kernel) _ _ _).trans ?_
  show zres (if narrow .int (.int x) = .int x then _ else none) = _
  rw [if_pos (show narrow .int (.int x) = .int x from rfl)]
  rfl
theorem e223_176 (ls st : List Value) (w : zH) : zrun none (223, 176, ls, st, w) = zrun none (223, 178, ls, (.int (-1000001) :: st), w) := (zE_ (i := .bipush (-1000001)) (by decide +kernel) _ _ _).trans rfl
theorem e223_178 (ls : List Value) (x : Int32) (w : zH) : zrun none (223, 178, ls, [.int x], w) = some (some (.int x), w) := by
  refine (zE_ (i := .ireturn) (by decide +kernel) _ _ _).trans ?_
  show zres (if narrow .int (.int x) = .int x then _ else none) = _
  rw [if_pos (show narrow .int (.int x) = .int x from rfl)]
  rfl
theorem e224_0 (x : Nat) (st : List Value) (w : zH) : zrun none (224, 0, [.ref x], st, w) = zrun none (224, 1, [.ref x], (.ref x :: st), w) := (zE_ (i := .aload_n 0) (by decide +kernel) _ _ _).trans rfl
theorem e224_1 (ls st : List Value) (w : zH) : zrun none (224, 1, ls, st, w) = zrun none (224, 2, ls, (.int 0 :: st), w) := (zE_ (i := .iconst 0) (by decide +kernel) _ _ _).trans rfl
theorem e224_2 (ls : List Value) (x : Int32) (a : Nat) (st : List Value) (w : zH) : zrun none (224, 2, ls, (.int x :: .ref a :: st), w) = zgd (a < zX ∧ (zf w a 1200).isSome = true) (zrun none (224, 5, ls, st, zpf w a 1200 (.int x))) := by
  refine (zE_ (i := .putfield 1200) (by decide +kernel) _ _ _).trans ?_
  by_cases hg : a < zX ∧ (zf w a 1200).isSome = true
  · rw [zgd_pos hg]
    obtain ⟨ha, h⟩ := hg
    exact zq_putf ha h rfl rfl
  · rw [zgd_neg hg]
    exact zq_putf_no (fun h1 h2 h3 => hg ⟨h1, h2⟩)
theorem e224_5 (x : Nat) (st : List Value) (w : zH) : zrun none (224, 5, [.ref x], st, w) = zrun none (224, 6, [.ref x], (.ref x :: st), w) := (zE_ (i := .aload_n 0) (by decide +kernel) _ _ _).trans rfl
theorem e224_6 (ls : List Value) (a : Nat) (st : List Value) (w : zH) : zrun none (224, 6, ls, (.ref a :: st), w) = zo (zf w a 1201) (fun x => zrun none (224, 9, ls, (x :: st), w)) := (zE_ (i := .getfield 1201) (by decide +kernel) _ _ _).trans zq_getf
theorem e224_9 (ls : List Value) (x : Int32) (w : zH) : zrun none (224, 9, ls, [.int x], w) = some (some (.int x), w) := by
  refine (zE_ (i := .ireturn) (by decide +kernel) _ _ _).trans ?_
  show zres (if narrow .int (.int x) = .int x then _ else none) = _
  rw [if_pos (show narrow .int (.int x) = .int x from rfl)]
  rfl
